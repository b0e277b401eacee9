section
-- ===== PART A: goes FIRST, ahead of the names: the tables' words, and 'selects' of the private methods out of them =====
/-- a private method of a class that the tables say can be made, by its rows of tables_1 -/
def lw_okq (q : MethodName × Nat) : Prop := (q.1.cls ≠ "java/lang/invoke/MethodHandle" ∧ q.1.cls ≠ "java/lang/invoke/VarHandle") ∧ Cond.instantiable q.1.cls q.2 ∈ tables_1 ∧ Cond.privateMethod q.1 ∈ tables_1 ∧ Cond.instanceMethod q.1 ∈ tables_1
theorem lw_p0 : lw_okq (⟨"ChainVersions", "clientOf", "(I)LChainVersions$Client;"⟩, 6) := ⟨⟨by decide +kernel, by decide +kernel⟩, List.mem_of_getElem? (i := 18) (by decide +kernel), List.mem_of_getElem? (i := 176) (by decide +kernel), List.mem_of_getElem? (i := 177) (by decide +kernel)⟩
theorem lw_p1 : lw_okq (⟨"ChainVersions", "sendWrite", "(ILChainVersions$Client;)I"⟩, 6) := ⟨⟨by decide +kernel, by decide +kernel⟩, List.mem_of_getElem? (i := 18) (by decide +kernel), List.mem_of_getElem? (i := 191) (by decide +kernel), List.mem_of_getElem? (i := 192) (by decide +kernel)⟩
theorem lw_p2 : lw_okq (⟨"ChainVersions", "livingNode", "(I)LChainVersions$Node;"⟩, 6) := ⟨⟨by decide +kernel, by decide +kernel⟩, List.mem_of_getElem? (i := 18) (by decide +kernel), List.mem_of_getElem? (i := 203) (by decide +kernel), List.mem_of_getElem? (i := 204) (by decide +kernel)⟩
theorem lw_p3 : lw_okq (⟨"ChainVersions", "take", "(LChainVersions$Node;LChainVersions$Update;)V"⟩, 6) := ⟨⟨by decide +kernel, by decide +kernel⟩, List.mem_of_getElem? (i := 18) (by decide +kernel), List.mem_of_getElem? (i := 250) (by decide +kernel), List.mem_of_getElem? (i := 251) (by decide +kernel)⟩
theorem lw_p4 : lw_okq (⟨"ChainVersions", "settleAll", "(LChainVersions$Node;)V"⟩, 6) := ⟨⟨by decide +kernel, by decide +kernel⟩, List.mem_of_getElem? (i := 18) (by decide +kernel), List.mem_of_getElem? (i := 266) (by decide +kernel), List.mem_of_getElem? (i := 267) (by decide +kernel)⟩
theorem lw_p5 : lw_okq (⟨"ChainVersions", "finishWrite", "(LChainVersions$Update;I)V"⟩, 6) := ⟨⟨by decide +kernel, by decide +kernel⟩, List.mem_of_getElem? (i := 18) (by decide +kernel), List.mem_of_getElem? (i := 271) (by decide +kernel), List.mem_of_getElem? (i := 272) (by decide +kernel)⟩
theorem lw_p6 : lw_okq (⟨"ChainVersions", "sendAck", "(LChainVersions$Node;)V"⟩, 6) := ⟨⟨by decide +kernel, by decide +kernel⟩, List.mem_of_getElem? (i := 18) (by decide +kernel), List.mem_of_getElem? (i := 279) (by decide +kernel), List.mem_of_getElem? (i := 280) (by decide +kernel)⟩
theorem lw_p7 : lw_okq (⟨"ChainVersions", "send", "(LChainVersions$Message;)V"⟩, 6) := ⟨⟨by decide +kernel, by decide +kernel⟩, List.mem_of_getElem? (i := 18) (by decide +kernel), List.mem_of_getElem? (i := 329) (by decide +kernel), List.mem_of_getElem? (i := 330) (by decide +kernel)⟩
theorem lw_p8 : lw_okq (⟨"java/util/ArrayList", "add", "(Ljava/lang/Object;[Ljava/lang/Object;I)V"⟩, 3) := ⟨⟨by decide +kernel, by decide +kernel⟩, List.mem_of_getElem? (i := 30) (by decide +kernel), List.mem_of_getElem? (i := 337) (by decide +kernel), List.mem_of_getElem? (i := 338) (by decide +kernel)⟩
theorem lw_p9 : lw_okq (⟨"java/util/ArrayList", "grow", "()[Ljava/lang/Object;"⟩, 3) := ⟨⟨by decide +kernel, by decide +kernel⟩, List.mem_of_getElem? (i := 30) (by decide +kernel), List.mem_of_getElem? (i := 341) (by decide +kernel), List.mem_of_getElem? (i := 342) (by decide +kernel)⟩
theorem lw_p10 : lw_okq (⟨"java/util/ArrayList", "grow", "(I)[Ljava/lang/Object;"⟩, 3) := ⟨⟨by decide +kernel, by decide +kernel⟩, List.mem_of_getElem? (i := 30) (by decide +kernel), List.mem_of_getElem? (i := 345) (by decide +kernel), List.mem_of_getElem? (i := 346) (by decide +kernel)⟩
theorem lw_p11 : lw_okq (⟨"ChainVersions", "readyNode", "(I)LChainVersions$Node;"⟩, 6) := ⟨⟨by decide +kernel, by decide +kernel⟩, List.mem_of_getElem? (i := 18) (by decide +kernel), List.mem_of_getElem? (i := 395) (by decide +kernel), List.mem_of_getElem? (i := 396) (by decide +kernel)⟩
theorem lw_p12 : lw_okq (⟨"ChainVersions", "serve", "(ILChainVersions$Client;LChainVersions$Node;)I"⟩, 6) := ⟨⟨by decide +kernel, by decide +kernel⟩, List.mem_of_getElem? (i := 18) (by decide +kernel), List.mem_of_getElem? (i := 403) (by decide +kernel), List.mem_of_getElem? (i := 404) (by decide +kernel)⟩
theorem lw_p13 : lw_okq (⟨"ChainVersions", "firstOnLink", "(II)I"⟩, 6) := ⟨⟨by decide +kernel, by decide +kernel⟩, List.mem_of_getElem? (i := 18) (by decide +kernel), List.mem_of_getElem? (i := 451) (by decide +kernel), List.mem_of_getElem? (i := 452) (by decide +kernel)⟩
theorem lw_p14 : lw_okq (⟨"java/util/ArrayList", "fastRemove", "([Ljava/lang/Object;I)V"⟩, 3) := ⟨⟨by decide +kernel, by decide +kernel⟩, List.mem_of_getElem? (i := 30) (by decide +kernel), List.mem_of_getElem? (i := 481) (by decide +kernel), List.mem_of_getElem? (i := 482) (by decide +kernel)⟩
theorem lw_p15 : lw_okq (⟨"ChainVersions", "receive", "(LChainVersions$Node;LChainVersions$Message;)V"⟩, 6) := ⟨⟨by decide +kernel, by decide +kernel⟩, List.mem_of_getElem? (i := 18) (by decide +kernel), List.mem_of_getElem? (i := 486) (by decide +kernel), List.mem_of_getElem? (i := 487) (by decide +kernel)⟩
def lw_privs_1 : List (MethodName × Nat) := [(⟨"ChainVersions", "clientOf", "(I)LChainVersions$Client;"⟩, 6), (⟨"ChainVersions", "sendWrite", "(ILChainVersions$Client;)I"⟩, 6), (⟨"ChainVersions", "livingNode", "(I)LChainVersions$Node;"⟩, 6), (⟨"ChainVersions", "take", "(LChainVersions$Node;LChainVersions$Update;)V"⟩, 6), (⟨"ChainVersions", "settleAll", "(LChainVersions$Node;)V"⟩, 6), (⟨"ChainVersions", "finishWrite", "(LChainVersions$Update;I)V"⟩, 6), (⟨"ChainVersions", "sendAck", "(LChainVersions$Node;)V"⟩, 6), (⟨"ChainVersions", "send", "(LChainVersions$Message;)V"⟩, 6), (⟨"java/util/ArrayList", "add", "(Ljava/lang/Object;[Ljava/lang/Object;I)V"⟩, 3), (⟨"java/util/ArrayList", "grow", "()[Ljava/lang/Object;"⟩, 3), (⟨"java/util/ArrayList", "grow", "(I)[Ljava/lang/Object;"⟩, 3), (⟨"ChainVersions", "readyNode", "(I)LChainVersions$Node;"⟩, 6), (⟨"ChainVersions", "serve", "(ILChainVersions$Client;LChainVersions$Node;)I"⟩, 6), (⟨"ChainVersions", "firstOnLink", "(II)I"⟩, 6), (⟨"java/util/ArrayList", "fastRemove", "([Ljava/lang/Object;I)V"⟩, 3), (⟨"ChainVersions", "receive", "(LChainVersions$Node;LChainVersions$Message;)V"⟩, 6)]
theorem lw_r1 : ∀ q ∈ lw_privs_1, lw_okq q := List.forall_mem_cons.mpr ⟨lw_p0, List.forall_mem_cons.mpr ⟨lw_p1, List.forall_mem_cons.mpr ⟨lw_p2, List.forall_mem_cons.mpr ⟨lw_p3, List.forall_mem_cons.mpr ⟨lw_p4, List.forall_mem_cons.mpr ⟨lw_p5, List.forall_mem_cons.mpr ⟨lw_p6, List.forall_mem_cons.mpr ⟨lw_p7, List.forall_mem_cons.mpr ⟨lw_p8, List.forall_mem_cons.mpr ⟨lw_p9, List.forall_mem_cons.mpr ⟨lw_p10, List.forall_mem_cons.mpr ⟨lw_p11, List.forall_mem_cons.mpr ⟨lw_p12, List.forall_mem_cons.mpr ⟨lw_p13, List.forall_mem_cons.mpr ⟨lw_p14, List.forall_mem_cons.mpr ⟨lw_p15, fun _ h => absurd h List.not_mem_nil⟩⟩⟩⟩⟩⟩⟩⟩⟩⟩⟩⟩⟩⟩⟩⟩
theorem lw_p16 : lw_okq (⟨"ChainVersions", "settleUpTo", "(LChainVersions$Node;I)V"⟩, 6) := ⟨⟨by decide +kernel, by decide +kernel⟩, List.mem_of_getElem? (i := 18) (by decide +kernel), List.mem_of_getElem? (i := 490) (by decide +kernel), List.mem_of_getElem? (i := 491) (by decide +kernel)⟩
theorem lw_p17 : lw_okq (⟨"ChainVersions", "answer", "(LChainVersions$Node;LChainVersions$Message;)V"⟩, 6) := ⟨⟨by decide +kernel, by decide +kernel⟩, List.mem_of_getElem? (i := 18) (by decide +kernel), List.mem_of_getElem? (i := 494) (by decide +kernel), List.mem_of_getElem? (i := 495) (by decide +kernel)⟩
theorem lw_p18 : lw_okq (⟨"ChainVersions", "useAnswer", "(LChainVersions$Node;LChainVersions$Message;)V"⟩, 6) := ⟨⟨by decide +kernel, by decide +kernel⟩, List.mem_of_getElem? (i := 18) (by decide +kernel), List.mem_of_getElem? (i := 498) (by decide +kernel), List.mem_of_getElem? (i := 499) (by decide +kernel)⟩
theorem lw_p19 : lw_okq (⟨"ChainVersions", "receiveCopy", "(LChainVersions$Node;LChainVersions$Message;)V"⟩, 6) := ⟨⟨by decide +kernel, by decide +kernel⟩, List.mem_of_getElem? (i := 18) (by decide +kernel), List.mem_of_getElem? (i := 511) (by decide +kernel), List.mem_of_getElem? (i := 512) (by decide +kernel)⟩
theorem lw_p20 : lw_okq (⟨"ChainVersions", "madeNode", "(I)LChainVersions$Node;"⟩, 6) := ⟨⟨by decide +kernel, by decide +kernel⟩, List.mem_of_getElem? (i := 18) (by decide +kernel), List.mem_of_getElem? (i := 515) (by decide +kernel), List.mem_of_getElem? (i := 516) (by decide +kernel)⟩
theorem lw_p21 : lw_okq (⟨"ChainVersions", "tellNeighbours", "(LChainVersions$Node;)V"⟩, 6) := ⟨⟨by decide +kernel, by decide +kernel⟩, List.mem_of_getElem? (i := 18) (by decide +kernel), List.mem_of_getElem? (i := 519) (by decide +kernel), List.mem_of_getElem? (i := 520) (by decide +kernel)⟩
theorem lw_p22 : lw_okq (⟨"ChainVersions", "sendCopy", "(LChainVersions$Node;)V"⟩, 6) := ⟨⟨by decide +kernel, by decide +kernel⟩, List.mem_of_getElem? (i := 18) (by decide +kernel), List.mem_of_getElem? (i := 523) (by decide +kernel), List.mem_of_getElem? (i := 524) (by decide +kernel)⟩
theorem lw_p23 : lw_okq (⟨"ChainVersions", "hasOtherReadyNode", "(I)Z"⟩, 6) := ⟨⟨by decide +kernel, by decide +kernel⟩, List.mem_of_getElem? (i := 18) (by decide +kernel), List.mem_of_getElem? (i := 535) (by decide +kernel), List.mem_of_getElem? (i := 536) (by decide +kernel)⟩
theorem lw_p24 : lw_okq (⟨"ChainVersions", "loseMessagesTo", "(II)V"⟩, 6) := ⟨⟨by decide +kernel, by decide +kernel⟩, List.mem_of_getElem? (i := 18) (by decide +kernel), List.mem_of_getElem? (i := 540) (by decide +kernel), List.mem_of_getElem? (i := 541) (by decide +kernel)⟩
theorem lw_p25 : lw_okq (⟨"ChainVersions", "isLongSilent", "(I)Z"⟩, 6) := ⟨⟨by decide +kernel, by decide +kernel⟩, List.mem_of_getElem? (i := 18) (by decide +kernel), List.mem_of_getElem? (i := 559) (by decide +kernel), List.mem_of_getElem? (i := 560) (by decide +kernel)⟩
theorem lw_p26 : lw_okq (⟨"ChainVersions", "withoutSilent", "(I)LChainVersions$Configuration;"⟩, 6) := ⟨⟨by decide +kernel, by decide +kernel⟩, List.mem_of_getElem? (i := 18) (by decide +kernel), List.mem_of_getElem? (i := 563) (by decide +kernel), List.mem_of_getElem? (i := 564) (by decide +kernel)⟩
theorem lw_p27 : lw_okq (⟨"ChainVersions", "serveWaitingReads", "(LChainVersions$Node;)V"⟩, 6) := ⟨⟨by decide +kernel, by decide +kernel⟩, List.mem_of_getElem? (i := 18) (by decide +kernel), List.mem_of_getElem? (i := 571) (by decide +kernel), List.mem_of_getElem? (i := 572) (by decide +kernel)⟩
theorem lw_p28 : lw_okq (⟨"ChainVersionsModel", "sendWrite", "(I)I"⟩, 27) := ⟨⟨by decide +kernel, by decide +kernel⟩, List.mem_of_getElem? (i := 607) (by decide +kernel), List.mem_of_getElem? (i := 703) (by decide +kernel), List.mem_of_getElem? (i := 704) (by decide +kernel)⟩
theorem lw_p29 : lw_okq (⟨"ChainVersionsModel", "isIn", "(II)Z"⟩, 27) := ⟨⟨by decide +kernel, by decide +kernel⟩, List.mem_of_getElem? (i := 607) (by decide +kernel), List.mem_of_getElem? (i := 707) (by decide +kernel), List.mem_of_getElem? (i := 708) (by decide +kernel)⟩
theorem lw_p30 : lw_okq (⟨"ChainVersionsModel", "predecessor", "(I)I"⟩, 27) := ⟨⟨by decide +kernel, by decide +kernel⟩, List.mem_of_getElem? (i := 607) (by decide +kernel), List.mem_of_getElem? (i := 711) (by decide +kernel), List.mem_of_getElem? (i := 712) (by decide +kernel)⟩
theorem lw_p31 : lw_okq (⟨"ChainVersionsModel", "take", "(IIIII)V"⟩, 27) := ⟨⟨by decide +kernel, by decide +kernel⟩, List.mem_of_getElem? (i := 607) (by decide +kernel), List.mem_of_getElem? (i := 715) (by decide +kernel), List.mem_of_getElem? (i := 716) (by decide +kernel)⟩
def lw_privs_2 : List (MethodName × Nat) := [(⟨"ChainVersions", "settleUpTo", "(LChainVersions$Node;I)V"⟩, 6), (⟨"ChainVersions", "answer", "(LChainVersions$Node;LChainVersions$Message;)V"⟩, 6), (⟨"ChainVersions", "useAnswer", "(LChainVersions$Node;LChainVersions$Message;)V"⟩, 6), (⟨"ChainVersions", "receiveCopy", "(LChainVersions$Node;LChainVersions$Message;)V"⟩, 6), (⟨"ChainVersions", "madeNode", "(I)LChainVersions$Node;"⟩, 6), (⟨"ChainVersions", "tellNeighbours", "(LChainVersions$Node;)V"⟩, 6), (⟨"ChainVersions", "sendCopy", "(LChainVersions$Node;)V"⟩, 6), (⟨"ChainVersions", "hasOtherReadyNode", "(I)Z"⟩, 6), (⟨"ChainVersions", "loseMessagesTo", "(II)V"⟩, 6), (⟨"ChainVersions", "isLongSilent", "(I)Z"⟩, 6), (⟨"ChainVersions", "withoutSilent", "(I)LChainVersions$Configuration;"⟩, 6), (⟨"ChainVersions", "serveWaitingReads", "(LChainVersions$Node;)V"⟩, 6), (⟨"ChainVersionsModel", "sendWrite", "(I)I"⟩, 27), (⟨"ChainVersionsModel", "isIn", "(II)Z"⟩, 27), (⟨"ChainVersionsModel", "predecessor", "(I)I"⟩, 27), (⟨"ChainVersionsModel", "take", "(IIIII)V"⟩, 27)]
theorem lw_r2 : ∀ q ∈ lw_privs_2, lw_okq q := List.forall_mem_cons.mpr ⟨lw_p16, List.forall_mem_cons.mpr ⟨lw_p17, List.forall_mem_cons.mpr ⟨lw_p18, List.forall_mem_cons.mpr ⟨lw_p19, List.forall_mem_cons.mpr ⟨lw_p20, List.forall_mem_cons.mpr ⟨lw_p21, List.forall_mem_cons.mpr ⟨lw_p22, List.forall_mem_cons.mpr ⟨lw_p23, List.forall_mem_cons.mpr ⟨lw_p24, List.forall_mem_cons.mpr ⟨lw_p25, List.forall_mem_cons.mpr ⟨lw_p26, List.forall_mem_cons.mpr ⟨lw_p27, List.forall_mem_cons.mpr ⟨lw_p28, List.forall_mem_cons.mpr ⟨lw_p29, List.forall_mem_cons.mpr ⟨lw_p30, List.forall_mem_cons.mpr ⟨lw_p31, fun _ h => absurd h List.not_mem_nil⟩⟩⟩⟩⟩⟩⟩⟩⟩⟩⟩⟩⟩⟩⟩⟩
theorem lw_p32 : lw_okq (⟨"ChainVersionsModel", "successor", "(I)I"⟩, 27) := ⟨⟨by decide +kernel, by decide +kernel⟩, List.mem_of_getElem? (i := 607) (by decide +kernel), List.mem_of_getElem? (i := 719) (by decide +kernel), List.mem_of_getElem? (i := 720) (by decide +kernel)⟩
theorem lw_p33 : lw_okq (⟨"ChainVersionsModel", "settleAll", "(I)V"⟩, 27) := ⟨⟨by decide +kernel, by decide +kernel⟩, List.mem_of_getElem? (i := 607) (by decide +kernel), List.mem_of_getElem? (i := 723) (by decide +kernel), List.mem_of_getElem? (i := 724) (by decide +kernel)⟩
theorem lw_p34 : lw_okq (⟨"ChainVersionsModel", "send", "(IIIII)V"⟩, 27) := ⟨⟨by decide +kernel, by decide +kernel⟩, List.mem_of_getElem? (i := 607) (by decide +kernel), List.mem_of_getElem? (i := 727) (by decide +kernel), List.mem_of_getElem? (i := 728) (by decide +kernel)⟩
theorem lw_p35 : lw_okq (⟨"ChainVersionsModel", "serves", "(I)Z"⟩, 27) := ⟨⟨by decide +kernel, by decide +kernel⟩, List.mem_of_getElem? (i := 607) (by decide +kernel), List.mem_of_getElem? (i := 735) (by decide +kernel), List.mem_of_getElem? (i := 736) (by decide +kernel)⟩
theorem lw_p36 : lw_okq (⟨"ChainVersionsModel", "serve", "(II)I"⟩, 27) := ⟨⟨by decide +kernel, by decide +kernel⟩, List.mem_of_getElem? (i := 607) (by decide +kernel), List.mem_of_getElem? (i := 739) (by decide +kernel), List.mem_of_getElem? (i := 740) (by decide +kernel)⟩
theorem lw_p37 : lw_okq (⟨"ChainVersionsModel", "isClean", "(II)Z"⟩, 27) := ⟨⟨by decide +kernel, by decide +kernel⟩, List.mem_of_getElem? (i := 607) (by decide +kernel), List.mem_of_getElem? (i := 743) (by decide +kernel), List.mem_of_getElem? (i := 744) (by decide +kernel)⟩
theorem lw_p38 : lw_okq (⟨"ChainVersionsModel", "cleanNumber", "(II)I"⟩, 27) := ⟨⟨by decide +kernel, by decide +kernel⟩, List.mem_of_getElem? (i := 607) (by decide +kernel), List.mem_of_getElem? (i := 747) (by decide +kernel), List.mem_of_getElem? (i := 748) (by decide +kernel)⟩
theorem lw_p39 : lw_okq (⟨"ChainVersionsModel", "done", "(III)V"⟩, 27) := ⟨⟨by decide +kernel, by decide +kernel⟩, List.mem_of_getElem? (i := 607) (by decide +kernel), List.mem_of_getElem? (i := 751) (by decide +kernel), List.mem_of_getElem? (i := 752) (by decide +kernel)⟩
theorem lw_p40 : lw_okq (⟨"ChainVersionsModel", "valueAt", "(II)I"⟩, 27) := ⟨⟨by decide +kernel, by decide +kernel⟩, List.mem_of_getElem? (i := 607) (by decide +kernel), List.mem_of_getElem? (i := 755) (by decide +kernel), List.mem_of_getElem? (i := 756) (by decide +kernel)⟩
theorem lw_p41 : lw_okq (⟨"ChainVersionsModel", "tailOf", "(I)I"⟩, 27) := ⟨⟨by decide +kernel, by decide +kernel⟩, List.mem_of_getElem? (i := 607) (by decide +kernel), List.mem_of_getElem? (i := 759) (by decide +kernel), List.mem_of_getElem? (i := 760) (by decide +kernel)⟩
theorem lw_p42 : lw_okq (⟨"ChainVersionsModel", "isDone", "(I)Z"⟩, 27) := ⟨⟨by decide +kernel, by decide +kernel⟩, List.mem_of_getElem? (i := 607) (by decide +kernel), List.mem_of_getElem? (i := 775) (by decide +kernel), List.mem_of_getElem? (i := 776) (by decide +kernel)⟩
theorem lw_p43 : lw_okq (⟨"ChainVersionsModel", "first", "(II)I"⟩, 27) := ⟨⟨by decide +kernel, by decide +kernel⟩, List.mem_of_getElem? (i := 607) (by decide +kernel), List.mem_of_getElem? (i := 787) (by decide +kernel), List.mem_of_getElem? (i := 788) (by decide +kernel)⟩
theorem lw_p44 : lw_okq (⟨"ChainVersionsModel", "strike", "(I)V"⟩, 27) := ⟨⟨by decide +kernel, by decide +kernel⟩, List.mem_of_getElem? (i := 607) (by decide +kernel), List.mem_of_getElem? (i := 791) (by decide +kernel), List.mem_of_getElem? (i := 792) (by decide +kernel)⟩
theorem lw_p45 : lw_okq (⟨"ChainVersionsModel", "act", "(IIIII)V"⟩, 27) := ⟨⟨by decide +kernel, by decide +kernel⟩, List.mem_of_getElem? (i := 607) (by decide +kernel), List.mem_of_getElem? (i := 795) (by decide +kernel), List.mem_of_getElem? (i := 796) (by decide +kernel)⟩
theorem lw_p46 : lw_okq (⟨"ChainVersionsModel", "takeFrom", "(III)V"⟩, 27) := ⟨⟨by decide +kernel, by decide +kernel⟩, List.mem_of_getElem? (i := 607) (by decide +kernel), List.mem_of_getElem? (i := 799) (by decide +kernel), List.mem_of_getElem? (i := 800) (by decide +kernel)⟩
theorem lw_p47 : lw_okq (⟨"ChainVersionsModel", "answer", "(III)V"⟩, 27) := ⟨⟨by decide +kernel, by decide +kernel⟩, List.mem_of_getElem? (i := 607) (by decide +kernel), List.mem_of_getElem? (i := 803) (by decide +kernel), List.mem_of_getElem? (i := 804) (by decide +kernel)⟩
def lw_privs_3 : List (MethodName × Nat) := [(⟨"ChainVersionsModel", "successor", "(I)I"⟩, 27), (⟨"ChainVersionsModel", "settleAll", "(I)V"⟩, 27), (⟨"ChainVersionsModel", "send", "(IIIII)V"⟩, 27), (⟨"ChainVersionsModel", "serves", "(I)Z"⟩, 27), (⟨"ChainVersionsModel", "serve", "(II)I"⟩, 27), (⟨"ChainVersionsModel", "isClean", "(II)Z"⟩, 27), (⟨"ChainVersionsModel", "cleanNumber", "(II)I"⟩, 27), (⟨"ChainVersionsModel", "done", "(III)V"⟩, 27), (⟨"ChainVersionsModel", "valueAt", "(II)I"⟩, 27), (⟨"ChainVersionsModel", "tailOf", "(I)I"⟩, 27), (⟨"ChainVersionsModel", "isDone", "(I)Z"⟩, 27), (⟨"ChainVersionsModel", "first", "(II)I"⟩, 27), (⟨"ChainVersionsModel", "strike", "(I)V"⟩, 27), (⟨"ChainVersionsModel", "act", "(IIIII)V"⟩, 27), (⟨"ChainVersionsModel", "takeFrom", "(III)V"⟩, 27), (⟨"ChainVersionsModel", "answer", "(III)V"⟩, 27)]
theorem lw_r3 : ∀ q ∈ lw_privs_3, lw_okq q := List.forall_mem_cons.mpr ⟨lw_p32, List.forall_mem_cons.mpr ⟨lw_p33, List.forall_mem_cons.mpr ⟨lw_p34, List.forall_mem_cons.mpr ⟨lw_p35, List.forall_mem_cons.mpr ⟨lw_p36, List.forall_mem_cons.mpr ⟨lw_p37, List.forall_mem_cons.mpr ⟨lw_p38, List.forall_mem_cons.mpr ⟨lw_p39, List.forall_mem_cons.mpr ⟨lw_p40, List.forall_mem_cons.mpr ⟨lw_p41, List.forall_mem_cons.mpr ⟨lw_p42, List.forall_mem_cons.mpr ⟨lw_p43, List.forall_mem_cons.mpr ⟨lw_p44, List.forall_mem_cons.mpr ⟨lw_p45, List.forall_mem_cons.mpr ⟨lw_p46, List.forall_mem_cons.mpr ⟨lw_p47, fun _ h => absurd h List.not_mem_nil⟩⟩⟩⟩⟩⟩⟩⟩⟩⟩⟩⟩⟩⟩⟩⟩
theorem lw_p48 : lw_okq (⟨"ChainVersionsModel", "arrive", "(IIII)V"⟩, 27) := ⟨⟨by decide +kernel, by decide +kernel⟩, List.mem_of_getElem? (i := 607) (by decide +kernel), List.mem_of_getElem? (i := 807) (by decide +kernel), List.mem_of_getElem? (i := 808) (by decide +kernel)⟩
theorem lw_p49 : lw_okq (⟨"ChainVersionsModel", "lose", "(II)V"⟩, 27) := ⟨⟨by decide +kernel, by decide +kernel⟩, List.mem_of_getElem? (i := 607) (by decide +kernel), List.mem_of_getElem? (i := 819) (by decide +kernel), List.mem_of_getElem? (i := 820) (by decide +kernel)⟩
def lw_privs_4 : List (MethodName × Nat) := [(⟨"ChainVersionsModel", "arrive", "(IIII)V"⟩, 27), (⟨"ChainVersionsModel", "lose", "(II)V"⟩, 27)]
theorem lw_r4 : ∀ q ∈ lw_privs_4, lw_okq q := List.forall_mem_cons.mpr ⟨lw_p48, List.forall_mem_cons.mpr ⟨lw_p49, fun _ h => absurd h List.not_mem_nil⟩⟩
def lw_privs : List (MethodName × Nat) := lw_privs_1 ++ (lw_privs_2 ++ (lw_privs_3 ++ (lw_privs_4)))
def lw_tbl : List Cond := k2_sels lw_privs ++ tables_1
theorem lw_privs_ok : ∀ q ∈ lw_privs, lw_okq q := by
  show ∀ q ∈ lw_privs_1 ++ (lw_privs_2 ++ (lw_privs_3 ++ (lw_privs_4))), lw_okq q
  exact List.forall_mem_append.mpr ⟨lw_r1, List.forall_mem_append.mpr ⟨lw_r2, List.forall_mem_append.mpr ⟨lw_r3, lw_r4⟩⟩⟩
end
section
/-! stores: what each cell of a world holds, by kind of cell, number of field, address; worlds as stores -/
def up2 {α : Type} (f : Nat → Nat → α) (j i : Nat) (v : α) : Nat → Nat → α := fun j' i' => if j' = j ∧ i' = i then v else f j' i'
def up3 {α : Type} (f : Nat → Nat → Nat → α) (k j i : Nat) (v : α) : Nat → Nat → Nat → α := fun k' j' i' => if k' = k ∧ j' = j ∧ i' = i then v else f k' j' i'
abbrev Sto : Type := (Nat → Nat) × (Nat → Nat → Int32) × (Nat → Nat → Option Nat) × (Nat → Nat → Nat → Int32) × (Nat → Nat → Nat → Option Nat) × (Nat → Nat)
def sK (S : Sto) : Nat → Nat := S.1
def sI (S : Sto) : Nat → Nat → Int32 := S.2.1
def sP (S : Sto) : Nat → Nat → Option Nat := S.2.2.1
def sE (S : Sto) : Nat → Nat → Nat → Int32 := S.2.2.2.1
def sQ (S : Sto) : Nat → Nat → Nat → Option Nat := S.2.2.2.2.1
def sZ (S : Sto) : Nat → Nat := S.2.2.2.2.2
def setI (S : Sto) (f a : Nat) (v : Int32) : Sto := (sK S, up2 (sI S) f a v, sP S, sE S, sQ S, sZ S)
def setP (S : Sto) (f a : Nat) (v : Option Nat) : Sto := (sK S, sI S, up2 (sP S) f a v, sE S, sQ S, sZ S)
def setE (S : Sto) (k a i : Nat) (v : Int32) : Sto := (sK S, sI S, sP S, up3 (sE S) k a i v, sQ S, sZ S)
def setQ (S : Sto) (k a i : Nat) (v : Option Nat) : Sto := (sK S, sI S, sP S, sE S, up3 (sQ S) k a i v, sZ S)
def newO (S : Sto) (q kd : Nat) : Sto := (va_up (sK S) q kd, fun f a => if a = q ∧ f / 32 = kd then 0 else sI S f a, fun f a => if a = q ∧ f / 32 = kd then none else sP S f a, sE S, sQ S, sZ S)
def newA (S : Sto) (q kd n : Nat) : Sto := (va_up (sK S) q kd, sI S, sP S, fun k a i => if k = kd ∧ a = q then 0 else sE S k a i, fun k a i => if k = kd ∧ a = q then none else sQ S k a i, va_up (sZ S) q n)
/-- kinds: 1 ArrayList, 2 Client, 3 Configuration, 4 Node, 5 Update, 6 ChainVersions, 7 Message, 8 ChainVersionsModel; arrays: 9 int, 10 boolean, 11 Node, 12 Client, 13 Update, 14 Object -/
def nf : Nat → Nat
  | 1 => 3
  | 2 => 7
  | 3 => 2
  | 4 => 8
  | 5 => 4
  | 6 => 6
  | 7 => 9
  | 8 => 27
  | _ => 0
def rfk (f : Nat) : Bool := f == 33 || f == 97 || f == 129 || f == 130 || (192 ≤ f && f < 196) || f == 228 || (256 < f && f < 283 && !(f == 264) && !(f == 276))
def fv (S : Sto) (a f : Nat) : Value := if rfk f = true then va_rf (sP S f a) else .int (sI S f a)
def fl (S : Sto) (kd a : Nat) : List Value := (List.range (nf kd)).map (fun k => fv S a (32 * kd + k))
def cel (Y : Nat → ClassId) (S : Sto) (a : Nat) : Option va_E :=
  if sK S a = 0 then none else if sK S a ≤ 8 then some (.inr (sK S a - 1, fl S (sK S a) a))
  else if sK S a ≤ 10 then some (.inl (Y (sK S a - 9), sZ S a, .inl (sE S (sK S a) a)))
  else some (.inl (Y (sK S a - 9), sZ S a, .inr (.inr (.inr (.inr (sQ S (sK S a) a))))))
theorem cel_o {Y : Nat → ClassId} {S : Sto} {a kd : Nat} (h : sK S a = kd) (h0 : 0 < kd) (h8 : kd ≤ 8) : cel Y S a = some (.inr (kd - 1, fl S kd a)) := by
  unfold cel; rw [h, if_neg (by omega), if_pos h8]
theorem cel_i {Y : Nat → ClassId} {S : Sto} {a kd : Nat} (h : sK S a = kd) (h0 : 8 < kd) (h8 : kd ≤ 10) : cel Y S a = some (.inl (Y (kd - 9), sZ S a, .inl (sE S kd a))) := by
  unfold cel; rw [h, if_neg (by omega), if_neg (by omega), if_pos h8]
theorem cel_q {Y : Nat → ClassId} {S : Sto} {a kd : Nat} (h : sK S a = kd) (h0 : 10 < kd) : cel Y S a = some (.inl (Y (kd - 9), sZ S a, .inr (.inr (.inr (.inr (sQ S kd a)))))) := by
  unfold cel; rw [h, if_neg (by omega), if_neg (by omega), if_neg (by omega)]
theorem cel_n {Y : Nat → ClassId} {S : Sto} {a : Nat} (h : cel Y S a = none) : sK S a = 0 := by
  unfold cel at h
  by_cases h0 : sK S a = 0
  · exact h0
  · rw [if_neg h0] at h
    split at h
    · cases h
    · split at h <;> cases h
-- class tables
def T_AL : u_T := fun k => match k with
  | 0 => ("java/util/AbstractList", "modCount", "I", false)
  | 1 => ("java/util/ArrayList", "elementData", "[Ljava/lang/Object;", false)
  | _ => ("java/util/ArrayList", "size", "I", false)
def T_Cl : u_T := fun k => match k with
  | 0 => ("ChainVersions$Client", "state", "I", false)
  | 1 => ("ChainVersions$Client", "writes", "I", false)
  | 2 => ("ChainVersions$Client", "key", "I", false)
  | 3 => ("ChainVersions$Client", "written", "I", false)
  | 4 => ("ChainVersions$Client", "waitsAt", "I", false)
  | 5 => ("ChainVersions$Client", "doneNumber", "I", false)
  | _ => ("ChainVersions$Client", "doneValue", "I", false)
def T_Cf : u_T := fun k => match k with
  | 0 => ("ChainVersions$Configuration", "epoch", "I", true)
  | _ => ("ChainVersions$Configuration", "members", "[I", true)
def T_Nd : u_T := fun k => match k with
  | 0 => ("ChainVersions$Node", "number", "I", true)
  | 1 => ("ChainVersions$Node", "log", "[LChainVersions$Update;", true)
  | 2 => ("ChainVersions$Node", "view", "LChainVersions$Configuration;", false)
  | 3 => ("ChainVersions$Node", "living", "Z", false)
  | 4 => ("ChainVersions$Node", "ready", "Z", false)
  | 5 => ("ChainVersions$Node", "stoppedAt", "I", false)
  | 6 => ("ChainVersions$Node", "length", "I", false)
  | _ => ("ChainVersions$Node", "settled", "I", false)
def T_Up : u_T := fun k => match k with
  | 0 => ("ChainVersions$Update", "key", "I", true)
  | 1 => ("ChainVersions$Update", "value", "I", true)
  | 2 => ("ChainVersions$Update", "client", "I", true)
  | _ => ("ChainVersions$Update", "request", "I", true)
def T_X : u_T := fun k => match k with
  | 0 => ("ChainVersions", "nodes", "[LChainVersions$Node;", true)
  | 1 => ("ChainVersions", "clients", "[LChainVersions$Client;", true)
  | 2 => ("ChainVersions", "underWay", "Ljava/util/ArrayList;", true)
  | 3 => ("ChainVersions", "newest", "LChainVersions$Configuration;", false)
  | 4 => ("ChainVersions", "nodeCount", "I", false)
  | _ => ("ChainVersions", "clock", "I", false)
def T_Mg : u_T := fun k => match k with
  | 0 => ("ChainVersions$Message", "kind", "I", true)
  | 1 => ("ChainVersions$Message", "from", "I", true)
  | 2 => ("ChainVersions$Message", "to", "I", true)
  | 3 => ("ChainVersions$Message", "epoch", "I", true)
  | 4 => ("ChainVersions$Message", "update", "LChainVersions$Update;", false)
  | 5 => ("ChainVersions$Message", "number", "I", false)
  | 6 => ("ChainVersions$Message", "settled", "I", false)
  | 7 => ("ChainVersions$Message", "key", "I", false)
  | _ => ("ChainVersions$Message", "client", "I", false)
def T_M : u_T := fun k => match k with
  | 0 => ("ChainVersionsModel", "made", "I", false)
  | 1 => ("ChainVersionsModel", "living", "[Z", true)
  | 2 => ("ChainVersionsModel", "ready", "[Z", true)
  | 3 => ("ChainVersionsModel", "view", "[I", true)
  | 4 => ("ChainVersionsModel", "length", "[I", true)
  | 5 => ("ChainVersionsModel", "settled", "[I", true)
  | 6 => ("ChainVersionsModel", "silent", "[I", true)
  | 7 => ("ChainVersionsModel", "members", "[I", true)
  | 8 => ("ChainVersionsModel", "newest", "I", false)
  | 9 => ("ChainVersionsModel", "keys", "[I", true)
  | 10 => ("ChainVersionsModel", "values", "[I", true)
  | 11 => ("ChainVersionsModel", "writers", "[I", true)
  | 12 => ("ChainVersionsModel", "numbers", "[I", true)
  | 13 => ("ChainVersionsModel", "status", "[I", true)
  | 14 => ("ChainVersionsModel", "writes", "[I", true)
  | 15 => ("ChainVersionsModel", "key", "[I", true)
  | 16 => ("ChainVersionsModel", "value", "[I", true)
  | 17 => ("ChainVersionsModel", "at", "[I", true)
  | 18 => ("ChainVersionsModel", "number", "[I", true)
  | 19 => ("ChainVersionsModel", "result", "[I", true)
  | 20 => ("ChainVersionsModel", "count", "I", false)
  | 21 => ("ChainVersionsModel", "from", "[I", true)
  | 22 => ("ChainVersionsModel", "to", "[I", true)
  | 23 => ("ChainVersionsModel", "kind", "[I", true)
  | 24 => ("ChainVersionsModel", "epochs", "[I", true)
  | 25 => ("ChainVersionsModel", "one", "[I", true)
  | _ => ("ChainVersionsModel", "two", "[I", true)
def cnm : Nat → String
  | 1 => "java/util/ArrayList"
  | 2 => "ChainVersions$Client"
  | 3 => "ChainVersions$Configuration"
  | 4 => "ChainVersions$Node"
  | 5 => "ChainVersions$Update"
  | 6 => "ChainVersions"
  | 7 => "ChainVersions$Message"
  | _ => "ChainVersionsModel"
def ctb : Nat → u_T
  | 1 => T_AL
  | 2 => T_Cl
  | 3 => T_Cf
  | 4 => T_Nd
  | 5 => T_Up
  | 6 => T_X
  | 7 => T_Mg
  | _ => T_M
def vCl : List vw_C := [(cnm 1, ctb 1, 3), (cnm 2, ctb 2, 7), (cnm 3, ctb 3, 2), (cnm 4, ctb 4, 8), (cnm 5, ctb 5, 4), (cnm 6, ctb 6, 6), (cnm 7, ctb 7, 9), (cnm 8, ctb 8, 27)]
def aty : Nat → FieldType
  | 9 => .int
  | 10 => .boolean
  | 11 => .object "ChainVersions$Node"
  | 12 => .object "ChainVersions$Client"
  | 13 => .object "ChainVersions$Update"
  | _ => .object "java/lang/Object"
def tYs (Y : Nat → ClassId) : List (ClassId × FieldType) := [(Y 0, .int), (Y 1, .boolean), (Y 2, .object "ChainVersions$Node"), (Y 3, .object "ChainVersions$Client"), (Y 4, .object "ChainVersions$Update"), (Y 5, .object "java/lang/Object")]
theorem vCl_at {kd : Nat} (h0 : 0 < kd) (h8 : kd ≤ 8) : vCl[kd - 1]? = some (cnm kd, ctb kd, nf kd) := by
  have : kd = 1 ∨ kd = 2 ∨ kd = 3 ∨ kd = 4 ∨ kd = 5 ∨ kd = 6 ∨ kd = 7 ∨ kd = 8 := by omega
  rcases this with rfl | rfl | rfl | rfl | rfl | rfl | rfl | rfl <;> rfl
theorem tYs_at (Y : Nat → ClassId) {kd : Nat} (h0 : 9 ≤ kd) (h8 : kd ≤ 14) : (tYs Y)[kd - 9]? = some (Y (kd - 9), aty kd) := by
  have : kd = 9 ∨ kd = 10 ∨ kd = 11 ∨ kd = 12 ∨ kd = 13 ∨ kd = 14 := by omega
  rcases this with rfl | rfl | rfl | rfl | rfl | rfl <;> rfl
/-- the heap holds the store's cells, and they lie in A -/
def Wd (D : va_G) (Y : Nat → ClassId) (A : Nat → Prop) (S : Sto) (H : Heap) : Prop := ∀ (a : Nat) (e : va_E), cel Y S a = some e → va_at D vCl (a, e) H ∧ A a
def wl (Y : Nat → ClassId) (S : Sto) (n : Nat) : va_W := (List.range n).filterMap (fun a => (cel Y S a).map (fun e => (a, e)))
theorem wl_in {Y : Nat → ClassId} {S : Sto} {n : Nat} {q : Nat × va_E} : q ∈ wl Y S n ↔ q.1 < n ∧ cel Y S q.1 = some q.2 := by
  unfold wl
  rw [List.mem_filterMap]
  constructor
  · rintro ⟨a, ha, h⟩
    rw [List.mem_range] at ha
    cases hc : cel Y S a with
    | none => rw [hc] at h; cases h
    | some e => rw [hc] at h; cases h; exact ⟨ha, hc⟩
  · rintro ⟨h1, h2⟩
    exact ⟨q.1, List.mem_range.mpr h1, by rw [h2]; rfl⟩
theorem wl_get {D : va_G} {Y : Nat → ClassId} {A : Nat → Prop} {S : Sto} {H : Heap} (h : Wd D Y A S H) {a : Nat} {e : va_E} (he : cel Y S a = some e) : ∃ q : Nat, (wl Y S H.size)[q]? = some (a, e) :=
  List.getElem?_of_mem (wl_in.mpr ⟨(h a e he).1.lt, he⟩)
theorem wl_P {D : va_G} {Y : Nat → ClassId} {A : Nat → Prop} {S : Sto} {H : Heap} (h : Wd D Y A S H) : va_P D vCl (wl Y S H.size) H := fun _ q hk => (h q.1 q.2 (wl_in.mp (List.mem_of_getElem? hk)).2).1
theorem wl_pw (Y : Nat → ClassId) (S : Sto) (n : Nat) : (wl Y S n).Pairwise (fun x y => x.1 < y.1) := by
  unfold wl
  refine List.Pairwise.filterMap _ ?_ (List.pairwise_lt_range (n := n))
  intro a a' haa b hb b' hb'
  cases hc : cel Y S a with
  | none => rw [hc] at hb; cases hb
  | some e =>
    cases hc' : cel Y S a' with
    | none => rw [hc'] at hb'; cases hb'
    | some e' =>
      rw [hc] at hb; rw [hc'] at hb'
      cases hb; cases hb'
      exact haa
theorem wl_D {D : va_G} {Y : Nat → ClassId} {A : Nat → Prop} {S : Sto} {H : Heap} (h : Wd D Y A S H) : va_D A (wl Y S H.size) := by
  refine ⟨fun i j x y hi hj hxy => ?_, fun k q hk => (h q.1 q.2 (wl_in.mp (List.mem_of_getElem? hk)).2).2⟩
  have hp := List.pairwise_iff_getElem.mp (wl_pw Y S H.size)
  obtain ⟨li, ei⟩ := List.getElem?_eq_some_iff.mp hi
  obtain ⟨lj, ej⟩ := List.getElem?_eq_some_iff.mp hj
  rcases Nat.lt_trichotomy i j with hl | hl | hl
  · have := hp i j li lj hl
    rw [ei, ej] at this
    omega
  · exact hl
  · have := hp j i lj li hl
    rw [ei, ej] at this
    omega
theorem wl_set {D : va_G} {Y : Nat → ClassId} {A : Nat → Prop} {S S' : Sto} {H H' : Heap} (h : Wd D Y A S H) {q a : Nat} {e e' : va_E} (hq : (wl Y S H.size)[q]? = some (a, e))
    (hP : va_P D vCl ((wl Y S H.size).set q (a, e')) H') (ha : cel Y S' a = some e') (ho : ∀ b, b ≠ a → cel Y S' b = cel Y S b) : Wd D Y A S' H' := by
  intro b x hb
  have hl := (List.getElem?_eq_some_iff.mp hq).1
  by_cases hba : b = a
  · subst hba
    rw [ha] at hb
    cases hb
    refine ⟨?_, (h b e (wl_in.mp (List.mem_of_getElem? hq)).2).2⟩
    exact hP q _ (List.getElem?_set_self hl)
  · rw [ho b hba] at hb
    obtain ⟨k, hk⟩ := wl_get h hb
    refine ⟨?_, (h b x hb).2⟩
    have hne : q ≠ k := fun z => by
      subst z
      rw [hq] at hk
      cases hk
      exact hba rfl
    exact hP k _ (by rw [List.getElem?_set_ne hne]; exact hk)
theorem wl_push {D : va_G} {Y : Nat → ClassId} {A : Nat → Prop} {S S' : Sto} {H H' : Heap} (h : Wd D Y A S H) {a : Nat} {e' : va_E}
    (hP : va_P D vCl (wl Y S H.size ++ [(a, e')]) H') (hD : va_D A (wl Y S H.size ++ [(a, e')])) (ha : cel Y S' a = some e') (ho : ∀ b, b ≠ a → cel Y S' b = cel Y S b) : Wd D Y A S' H' ∧ sK S a = 0 := by
  have hlast : (wl Y S H.size ++ [(a, e')])[(wl Y S H.size).length]? = some (a, e') := by simp
  have hno : cel Y S a = none := by
    cases hc : cel Y S a with
    | none => rfl
    | some e =>
      obtain ⟨k, hk⟩ := wl_get h hc
      have hl := (List.getElem?_eq_some_iff.mp hk).1
      have := hD.1 k _ (a, e) _ (by rw [List.getElem?_append_left hl]; exact hk) hlast rfl
      omega
  refine ⟨fun b x hb => ?_, cel_n hno⟩
  by_cases hba : b = a
  · subst hba
    rw [ha] at hb
    cases hb
    exact ⟨hP _ _ hlast, hD.2 _ _ hlast⟩
  · rw [ho b hba] at hb
    obtain ⟨k, hk⟩ := wl_get h hb
    have hl := (List.getElem?_eq_some_iff.mp hk).1
    have hk' : (wl Y S H.size ++ [(a, e')])[k]? = some (b, x) := by rw [List.getElem?_append_left hl]; exact hk
    exact ⟨hP k _ hk', hD.2 k _ hk'⟩
theorem fl_get {S : Sto} {kd a k : Nat} (hk : k < nf kd) : (fl S kd a)[k]? = some (fv S a (32 * kd + k)) := by
  unfold fl
  rw [List.getElem?_map, List.getElem?_range hk]
  rfl
theorem fl_len (S : Sto) (kd a : Nat) : (fl S kd a).length = nf kd := by unfold fl; rw [List.length_map, List.length_range]
theorem nf_le (kd : Nat) : nf kd ≤ 27 := by
  unfold nf
  split <;> omega
theorem fv_I {S : Sto} {a f : Nat} (h : rfk f = false) : fv S a f = .int (sI S f a) := by unfold fv; rw [h]; rfl
theorem fv_P {S : Sto} {a f : Nat} (h : rfk f = true) : fv S a f = va_rf (sP S f a) := by unfold fv; rw [h]; rfl
theorem fl_setI {S : Sto} {kd a k : Nat} {x : Int32} (hk : k < nf kd) (hr : rfk (32 * kd + k) = false) : (fl S kd a).set k (.int x) = fl (setI S (32 * kd + k) a x) kd a := by
  apply List.ext_getElem?
  intro j
  by_cases hj : j < nf kd
  · rw [fl_get hj]
    by_cases hjk : j = k
    · subst hjk
      rw [List.getElem?_set_self (by rw [fl_len]; exact hj), fv_I hr]
      simp [setI, sI, up2]
    · rw [List.getElem?_set_ne (fun z => hjk z.symm), fl_get hj]
      unfold fv
      by_cases h : rfk (32 * kd + j) = true
      · rw [if_pos h, if_pos h]; rfl
      · rw [if_neg h, if_neg h]
        simp [setI, sI, up2, hjk]
  · rw [List.getElem?_eq_none (by rw [List.length_set, fl_len]; omega), List.getElem?_eq_none (by rw [fl_len]; omega)]
theorem fl_setP {S : Sto} {kd a k : Nat} {x : Option Nat} (hk : k < nf kd) (hr : rfk (32 * kd + k) = true) : (fl S kd a).set k (va_rf x) = fl (setP S (32 * kd + k) a x) kd a := by
  apply List.ext_getElem?
  intro j
  by_cases hj : j < nf kd
  · rw [fl_get hj]
    by_cases hjk : j = k
    · subst hjk
      rw [List.getElem?_set_self (by rw [fl_len]; exact hj), fv_P hr]
      simp [setP, sP, up2]
    · rw [List.getElem?_set_ne (fun z => hjk z.symm), fl_get hj]
      unfold fv
      by_cases h : rfk (32 * kd + j) = true
      · rw [if_pos h, if_pos h]
        simp [setP, sP, up2, hjk]
      · rw [if_neg h, if_neg h]; rfl
  · rw [List.getElem?_eq_none (by rw [List.length_set, fl_len]; omega), List.getElem?_eq_none (by rw [fl_len]; omega)]
theorem cel_congr {Y : Nat → ClassId} {S S' : Sto} {b : Nat} (hK : sK S' b = sK S b) (hI : ∀ f, sI S' f b = sI S f b) (hP : ∀ f, sP S' f b = sP S f b) (hE : ∀ k, sE S' k b = sE S k b) (hQ : ∀ k, sQ S' k b = sQ S k b) (hZ : sZ S' b = sZ S b) : cel Y S' b = cel Y S b := by
  have hfl : ∀ kd, fl S' kd b = fl S kd b := fun kd => by
    unfold fl
    refine List.map_congr_left (fun k _ => ?_)
    unfold fv
    rw [hI, hP]
  unfold cel
  rw [hK, hZ, hE, hQ, hfl]
end
section
/-! the judgement WS: the machine at a place of a method, with locals, stack and store; a row an instruction -/
def TB : List Cond := lw_tbl.filter goodWord
theorem tb_in {w : Cond} (h : w ∈ lw_tbl) (g : goodWord w = true) : w ∈ TB := List.mem_filter.mpr ⟨h, g⟩
theorem tb_at {w : Cond} (i : Nat) (h : lw_tbl[i]? = some w) (g : goodWord w = true) : w ∈ TB := tb_in (List.mem_of_getElem? h) g
theorem tb_good {big : List Cond} (hb : ∀ w ∈ TB, w ∈ big) {y : MethodName} {cc : ByteArray} {mL : Nat} {ret : Option FieldType} (hc : Cond.code y cc mL ret ∈ TB) : GoodIn big (Cond.code y cc mL ret :: TB) := by
  intro w hw
  have h : w ∈ TB := by
    rcases List.mem_cons.mp hw with rfl | h
    · exact hc
    · exact h
  exact ⟨hb w h, good_of_word (List.mem_filter.mp h).2⟩
/-- locals: a value at each place, or nothing said -/
def LH (ls : Array Slot) (nL : Nat) (lv : List (Option Value)) : Prop := ls.size = nL ∧ lv_wf ls ∧ ∀ (i : Nat) (v : Value), lv[i]? = some (some v) → v.category = 1 ∧ ls[i]? = some (.val v)
def lvl (lv : List (Option Value)) : List (Nat × Value) := (List.range lv.length).filterMap (fun i => match lv[i]? with
  | some (some v) => some (i, v)
  | _ => none)
theorem lvl_in {lv : List (Option Value)} {q : Nat × Value} : q ∈ lvl lv ↔ lv[q.1]? = some (some q.2) := by
  unfold lvl
  rw [List.mem_filterMap]
  constructor
  · rintro ⟨i, hi, h⟩
    split at h
    · rename_i v hv
      cases h
      exact hv
    · cases h
  · intro h
    refine ⟨q.1, List.mem_range.mpr (List.getElem?_eq_some_iff.mp h).1, ?_⟩
    rw [h]
theorem LH.has {ls : Array Slot} {nL : Nat} {lv : List (Option Value)} (h : LH ls nL lv) : lv_has ls nL (lvl lv) := ⟨h.1, h.2.1, fun q hq => (h.2.2 q.1 q.2 (lvl_in.mp hq)).2⟩
theorem LH.set {ls ls' : Array Slot} {nL i : Nat} {lv : List (Option Value)} {v : Value} (h : LH ls nL lv) (hc : v.category = 1)
    (h' : lv_has ls' nL ((i, v) :: (lvl lv).filter (fun q => !(q.1 == i) && !(q.1 + 1 == i && q.2.category == 2)))) : LH ls' nL (lv.set i (some v)) := by
  refine ⟨h'.1, h'.2.1, fun j w hj => ?_⟩
  by_cases hji : j = i
  · subst hji
    have hl : j < lv.length := by
      have := (List.getElem?_eq_some_iff.mp hj).1
      rwa [List.length_set] at this
    rw [List.getElem?_set_self hl] at hj
    cases hj
    exact ⟨hc, h'.2.2 _ List.mem_cons_self⟩
  · rw [List.getElem?_set_ne (fun z => hji z.symm)] at hj
    have h1 := h.2.2 j w hj
    refine ⟨h1.1, h'.2.2 (j, w) (List.mem_cons_of_mem _ (List.mem_filter.mpr ⟨lvl_in.mpr hj, ?_⟩))⟩
    simp [hji, h1.1]
abbrev Ev : Type := Launch × va_G × (Nat → ClassId) × (Nat → Prop) × Nat
abbrev Fx : Type := Ev × (Program × Env × Room × State × MethodId × Array Value × List Frame) × (Method × Code × (State → Prop)) × Nat
abbrev vL (V : Ev) : Launch := V.1
abbrev vD (V : Ev) : va_G := V.2.1
abbrev vY (V : Ev) : Nat → ClassId := V.2.2.1
abbrev vA (V : Ev) : Nat → Prop := V.2.2.2.1
/-- the address of ArrayList's shared empty array -/
abbrev vZ (V : Ev) : Nat := V.2.2.2.2
abbrev xl (F : Fx) : Launch := vL F.1
abbrev xD (F : Fx) : va_G := vD F.1
abbrev xY (F : Fx) : Nat → ClassId := vY F.1
abbrev xA (F : Fx) : Nat → Prop := vA F.1
abbrev xz (F : Fx) : Nat := vZ F.1
abbrev xp (F : Fx) : Program := F.2.1.1
abbrev xe (F : Fx) : Env := F.2.1.2.1
abbrev xR (F : Fx) : Room := F.2.1.2.2.1
abbrev xs (F : Fx) : State := F.2.1.2.2.2.1
abbrev xm (F : Fx) : MethodId := F.2.1.2.2.2.2.1
abbrev xa (F : Fx) : Array Value := F.2.1.2.2.2.2.2.1
abbrev xb (F : Fx) : List Frame := F.2.1.2.2.2.2.2.2
abbrev xt (F : Fx) : Method := F.2.2.1.1
abbrev xc (F : Fx) : Code := F.2.2.1.2.1
abbrev xQ (F : Fx) : State → Prop := F.2.2.1.2.2
abbrev xn (F : Fx) : Nat := F.2.2.2
def WS (F : Fx) (pc : Nat) (lv : List (Option Value)) (st : List Value) (S : Sto) (cs ss : Nat) : Prop :=
  ∀ (ls : Array Slot) (H : Heap) (locs : List Loc), LH ls (xn F) lv → Wd (xD F) (xY F) (xA F) S H → va_S (xA F) (xs F).heap H locs → W (xp F) (xl F) (xe F) (xR F) (xs F) (xm F) (xa F) (xb F) (xt F) (xc F) H locs cs ss (xQ F) (F0 (xm F) pc ls st)
/-- the static that a new ArrayList holds: an array of no elements, outside A -/
def ZT (z : Nat) (A : Nat → Prop) (U : State) (H : Heap) : Prop := va_Z "java/util/ArrayList" "DEFAULTCAPACITY_EMPTY_ELEMENTDATA" "[Ljava/lang/Object;" (.ref z) A U H ∧ va_T (.object "java/lang/Object") z 0 (fun _ => .null) A U H
/-- words that a warming keeps, but not as words -/
def EX (U : State) : Prop := va_Nw (.castable "ChainVersions$Message" "java/lang/Object") U ∧ (va_AO "ChainVersions$Node" U ∧ va_AO "ChainVersions$Client" U ∧ va_AO "ChainVersions$Update" U ∧ va_AO "java/lang/Object" U) ∧ va_Nw (.methodLinkNest "ChainVersions" 53 ⟨"ChainVersions$Client", "<init>", "()V"⟩ "ChainVersions") U ∧ va_Nw (.declares ⟨"java/lang/Object", "getClass", "()Ljava/lang/Class;"⟩) U
theorem EX.warm {s U : State} (hW : s.WarmedH U.vm) (h : EX s) : EX U := ⟨va_Nw.warmC hW h.1, ⟨h.2.1.1.moved hW.alike, h.2.1.2.1.moved hW.alike, h.2.1.2.2.1.moved hW.alike, h.2.1.2.2.2.moved hW.alike⟩, va_Nw.warmM hW h.2.2.1, va_Nw.warmD hW h.2.2.2⟩
theorem EX.same {s U : State} (hv : s.vm = U.vm) (h : EX s) : EX U := ⟨va_Nw.same rfl hv h.1, ⟨h.2.1.1.moved (hv ▸ Vm.Alike.refl s.vm), h.2.1.2.1.moved (hv ▸ Vm.Alike.refl s.vm), h.2.1.2.2.1.moved (hv ▸ Vm.Alike.refl s.vm), h.2.1.2.2.2.moved (hv ▸ Vm.Alike.refl s.vm)⟩, va_Nw.same rfl hv h.2.2.1, va_Nw.same rfl hv h.2.2.2⟩
def KK (D : va_G) (Y : Nat → ClassId) (A : Nat → Prop) (z : Nat) (U : State) (H : Heap) : Prop := va_K D vCl (tYs Y) U ∧ ZT z A U H ∧ (∀ q, H.size ≤ q → A q) ∧ EX U
/-- what stays the same over a method's walk -/
def Cx (F : Fx) (cc : ByteArray) (own : String) (dF cF sF : Nat) : Prop := (dF ≤ (xR F).frames ∧ 39 * dF ≤ (xR F).locals ∧ (xR F).cells = cF ∧ (xR F).slots = sF) ∧ (xp F).tables.exec = Jvm.exec ∧ (xc F).code = cc ∧ (xc F).maxLocals = xn F ∧ (xs F).vm.findClass own = some (xm F).cls ∧ (∀ w ∈ TB, w.before (xa F) (xs F) = true) ∧ KK (xD F) (xY F) (xA F) (xz F) (xs F) (xs F).heap
section ROWS
variable {F : Fx} {cc : ByteArray} {own : String} {pc pc' tgt : Nat} {lv : List (Option Value)} {st : List Value} {S : Sto} {cs ss : Nat} {dF cF sF : Nat}
theorem Cx.x (C : Cx F cc own dF cF sF) : (xp F).tables.exec = Jvm.exec := C.2.1
theorem Cx.b (C : Cx F cc own dF cF sF) : (xc F).code = cc := C.2.2.1
theorem Cx.ml (C : Cx F cc own dF cF sF) : (xc F).maxLocals = xn F := C.2.2.2.1
theorem Cx.o (C : Cx F cc own dF cF sF) : (xs F).vm.findClass own = some (xm F).cls := C.2.2.2.2.1
theorem Cx.t (C : Cx F cc own dF cF sF) {w : Cond} (h : w ∈ TB) : w.before (xa F) (xs F) = true := C.2.2.2.2.2.1 w h
theorem Cx.k (C : Cx F cc own dF cF sF) : va_K (xD F) vCl (tYs (xY F)) (xs F) := C.2.2.2.2.2.2.1
theorem Cx.z (C : Cx F cc own dF cF sF) : ZT (xz F) (xA F) (xs F) (xs F).heap := C.2.2.2.2.2.2.2.1
theorem Cx.A (C : Cx F cc own dF cF sF) : ∀ q, (xs F).heap.size ≤ q → xA F q := C.2.2.2.2.2.2.2.2.1
theorem Cx.E (C : Cx F cc own dF cF sF) : EX (xs F) := C.2.2.2.2.2.2.2.2.2
def At (cc : ByteArray) (pc : Nat) (i : Instr) (n pc' : Nat) : Prop := decode cc pc = .ok (i, n) ∧ pc + n = pc'
def AtC (cc : ByteArray) (pc : Nat) (i : Int → Instr) (tgt pc' : Nat) : Prop := ∃ off : Int, decode cc pc = .ok (i off, 3) ∧ (pc : Int) + off = (tgt : Int) ∧ pc + 3 = pc'
-- constants
theorem ws_iconst (C : Cx F cc own dF cF sF) {n : Int} (v : Int32) (d : At cc pc (.iconst n) 1 pc') (hv : Int32.ofInt n = v) (k : WS F pc' lv (.int v :: st) S cs ss) : WS F pc lv st S cs ss := by
  obtain ⟨d, rfl⟩ := d
  intro ls H locs hl hw hS
  exact lv_iconst C.x C.b d hv (k ls H locs hl hw hS)
theorem ws_bipush (C : Cx F cc own dF cF sF) {n : Int} (v : Int32) (d : At cc pc (.bipush n) 2 pc') (hv : (Int8.ofInt n).toInt32 = v) (k : WS F pc' lv (.int v :: st) S cs ss) : WS F pc lv st S cs ss := by
  obtain ⟨d, rfl⟩ := d
  intro ls H locs hl hw hS
  exact lv_bipush C.x C.b d hv (k ls H locs hl hw hS)
theorem ws_sipush (C : Cx F cc own dF cF sF) {n : Int} (v : Int32) (d : At cc pc (.sipush n) 3 pc') (hv : (Int16.ofInt n).toInt32 = v) (k : WS F pc' lv (.int v :: st) S cs ss) : WS F pc lv st S cs ss := by
  obtain ⟨d, rfl⟩ := d
  intro ls H locs hl hw hS
  exact lv_sipush C.x C.b d hv (k ls H locs hl hw hS)
theorem ws_null (C : Cx F cc own dF cF sF) (d : At cc pc .aconst_null 1 pc') (k : WS F pc' lv (.null :: st) S cs ss) : WS F pc lv st S cs ss := by
  obtain ⟨d, rfl⟩ := d
  intro ls H locs hl hw hS
  exact lv_null C.x C.b d (k ls H locs hl hw hS)
-- locals
theorem ws_iload_n (C : Cx F cc own dF cF sF) {i : Fin 4} {x : Int32} (d : At cc pc (.iload_n i) 1 pc') (h : lv[(i : Nat)]? = some (some (.int x))) (k : WS F pc' lv (.int x :: st) S cs ss) : WS F pc lv st S cs ss := by
  obtain ⟨d, rfl⟩ := d
  intro ls H locs hl hw hS
  exact lv_iload_n C.x C.b d rfl (hl.2.2 _ _ h).2 (k ls H locs hl hw hS)
theorem ws_iload (C : Cx F cc own dF cF sF) {i : Nat} {x : Int32} (d : At cc pc (.iload i) 2 pc') (h : lv[i]? = some (some (.int x))) (k : WS F pc' lv (.int x :: st) S cs ss) : WS F pc lv st S cs ss := by
  obtain ⟨d, rfl⟩ := d
  intro ls H locs hl hw hS
  exact lv_iload C.x C.b d (hl.2.2 _ _ h).2 (k ls H locs hl hw hS)
theorem ws_aload_n (C : Cx F cc own dF cF sF) {i : Fin 4} {x : Nat} (d : At cc pc (.aload_n i) 1 pc') (h : lv[(i : Nat)]? = some (some (.ref x))) (k : WS F pc' lv (.ref x :: st) S cs ss) : WS F pc lv st S cs ss := by
  obtain ⟨d, rfl⟩ := d
  intro ls H locs hl hw hS
  exact lv_aload_n C.x C.b d rfl (hl.2.2 _ _ h).2 (k ls H locs hl hw hS)
theorem ws_aload (C : Cx F cc own dF cF sF) {i : Nat} {x : Nat} (d : At cc pc (.aload i) 2 pc') (h : lv[i]? = some (some (.ref x))) (k : WS F pc' lv (.ref x :: st) S cs ss) : WS F pc lv st S cs ss := by
  obtain ⟨d, rfl⟩ := d
  intro ls H locs hl hw hS
  exact lv_aload C.x C.b d (hl.2.2 _ _ h).2 (k ls H locs hl hw hS)
theorem ws_aload_nN (C : Cx F cc own dF cF sF) {i : Fin 4} (d : At cc pc (.aload_n i) 1 pc') (h : lv[(i : Nat)]? = some (some .null)) (k : WS F pc' lv (.null :: st) S cs ss) : WS F pc lv st S cs ss := by
  obtain ⟨d, rfl⟩ := d
  intro ls H locs hl hw hS
  exact lv_aload_nN C.x C.b d rfl (hl.2.2 _ _ h).2 (k ls H locs hl hw hS)
theorem ws_aloadN (C : Cx F cc own dF cF sF) {i : Nat} (d : At cc pc (.aload i) 2 pc') (h : lv[i]? = some (some .null)) (k : WS F pc' lv (.null :: st) S cs ss) : WS F pc lv st S cs ss := by
  obtain ⟨d, rfl⟩ := d
  intro ls H locs hl hw hS
  exact lv_aloadN C.x C.b d (hl.2.2 _ _ h).2 (k ls H locs hl hw hS)
theorem ws_istore_n (C : Cx F cc own dF cF sF) {i : Fin 4} {x : Int32} (d : At cc pc (.istore_n i) 1 pc') (hn : (i : Nat) < xn F) (k : WS F pc' (lv.set (i : Nat) (some (.int x))) st S cs ss) : WS F pc lv (.int x :: st) S cs ss := by
  obtain ⟨d, rfl⟩ := d
  intro ls H locs hl hw hS
  exact lv_istore_n C.x C.b d rfl hl.has hn rfl (fun ls' h' => k ls' H locs (hl.set rfl h') hw hS)
theorem ws_istore (C : Cx F cc own dF cF sF) {i : Nat} {x : Int32} (d : At cc pc (.istore i) 2 pc') (hn : i < xn F) (k : WS F pc' (lv.set i (some (.int x))) st S cs ss) : WS F pc lv (.int x :: st) S cs ss := by
  obtain ⟨d, rfl⟩ := d
  intro ls H locs hl hw hS
  exact lv_istore C.x C.b d hl.has hn rfl (fun ls' h' => k ls' H locs (hl.set rfl h') hw hS)
theorem ws_astore_n (C : Cx F cc own dF cF sF) {i : Fin 4} {x : Nat} (d : At cc pc (.astore_n i) 1 pc') (hn : (i : Nat) < xn F) (k : WS F pc' (lv.set (i : Nat) (some (.ref x))) st S cs ss) : WS F pc lv (.ref x :: st) S cs ss := by
  obtain ⟨d, rfl⟩ := d
  intro ls H locs hl hw hS
  exact lv_astore_n C.x C.b d rfl hl.has hn rfl (fun ls' h' => k ls' H locs (hl.set rfl h') hw hS)
theorem ws_astore (C : Cx F cc own dF cF sF) {i : Nat} {x : Nat} (d : At cc pc (.astore i) 2 pc') (hn : i < xn F) (k : WS F pc' (lv.set i (some (.ref x))) st S cs ss) : WS F pc lv (.ref x :: st) S cs ss := by
  obtain ⟨d, rfl⟩ := d
  intro ls H locs hl hw hS
  exact lv_astore C.x C.b d hl.has hn rfl (fun ls' h' => k ls' H locs (hl.set rfl h') hw hS)
theorem ws_astore_nN (C : Cx F cc own dF cF sF) {i : Fin 4} (d : At cc pc (.astore_n i) 1 pc') (hn : (i : Nat) < xn F) (k : WS F pc' (lv.set (i : Nat) (some .null)) st S cs ss) : WS F pc lv (.null :: st) S cs ss := by
  obtain ⟨d, rfl⟩ := d
  intro ls H locs hl hw hS
  exact lv_astore_nN C.x C.b d rfl hl.has hn rfl (fun ls' h' => k ls' H locs (hl.set rfl h') hw hS)
theorem ws_astoreN (C : Cx F cc own dF cF sF) {i : Nat} (d : At cc pc (.astore i) 2 pc') (hn : i < xn F) (k : WS F pc' (lv.set i (some .null)) st S cs ss) : WS F pc lv (.null :: st) S cs ss := by
  obtain ⟨d, rfl⟩ := d
  intro ls H locs hl hw hS
  exact lv_astoreN C.x C.b d hl.has hn rfl (fun ls' h' => k ls' H locs (hl.set rfl h') hw hS)
theorem ws_iinc (C : Cx F cc own dF cF sF) {i : Nat} {n : Int} {x : Int32} (v : Int32) (d : At cc pc (.iinc i n) 3 pc') (h : lv[i]? = some (some (.int x))) (hv : x + Int32.ofInt n = v) (hn : i < xn F) (k : WS F pc' (lv.set i (some (.int v))) st S cs ss) : WS F pc lv st S cs ss := by
  obtain ⟨d, rfl⟩ := d
  intro ls H locs hl hw hS
  obtain ⟨q, hq⟩ := List.getElem?_of_mem (lvl_in (q := (i, .int x)).mpr h)
  exact lv_iinc C.x C.b d hl.has hq hv hn rfl (fun ls' h' => k ls' H locs (hl.set rfl h') hw hS)
-- stack
theorem ws_dup (C : Cx F cc own dF cF sF) {v : Value} (d : At cc pc .dup 1 pc') (hv : v.category = 1) (k : WS F pc' lv (v :: v :: st) S cs ss) : WS F pc lv (v :: st) S cs ss := by
  obtain ⟨d, rfl⟩ := d
  intro ls H locs hl hw hS
  exact lv_dup C.x C.b d hv (k ls H locs hl hw hS)
theorem ws_pop (C : Cx F cc own dF cF sF) {v : Value} (d : At cc pc .pop 1 pc') (hv : v.category = 1) (k : WS F pc' lv st S cs ss) : WS F pc lv (v :: st) S cs ss := by
  obtain ⟨d, rfl⟩ := d
  intro ls H locs hl hw hS
  exact lv_pop C.x C.b d hv (k ls H locs hl hw hS)
theorem ws_dup_x1 (C : Cx F cc own dF cF sF) {v w : Value} (d : At cc pc .dup_x1 1 pc') (hv : v.category = 1) (hw' : w.category = 1) (k : WS F pc' lv (v :: w :: v :: st) S cs ss) : WS F pc lv (v :: w :: st) S cs ss := by
  obtain ⟨d, rfl⟩ := d
  intro ls H locs hl hw hS
  exact lv_dup_x1 C.x C.b d hv hw' (k ls H locs hl hw hS)
theorem ws_dup2 (C : Cx F cc own dF cF sF) {v w : Value} (d : At cc pc .dup2 1 pc') (hv : v.category = 1) (hw' : w.category = 1) (k : WS F pc' lv (v :: w :: v :: w :: st) S cs ss) : WS F pc lv (v :: w :: st) S cs ss := by
  obtain ⟨d, rfl⟩ := d
  intro ls H locs hl hw hS
  exact lv_dup2_11 C.x C.b d hv hw' (k ls H locs hl hw hS)
theorem ws_top {x : Int32} (y : Int32) (h : x = y) (k : WS F pc lv (.int y :: st) S cs ss) : WS F pc lv (.int x :: st) S cs ss := h ▸ k
theorem ws_sto {S' : Sto} (h : S = S') (k : WS F pc lv st S' cs ss) : WS F pc lv st S cs ss := h ▸ k
theorem ws_lv {lv' : List (Option Value)} (h : lv = lv') (k : WS F pc lv' st S cs ss) : WS F pc lv st S cs ss := h ▸ k
theorem ws_less {lv' : List (Option Value)} (h : ∀ (i : Nat) (v : Value), lv'[i]? = some (some v) → lv[i]? = some (some v)) (k : WS F pc lv' st S cs ss) : WS F pc lv st S cs ss := fun ls H locs hl hw hS => k ls H locs ⟨hl.1, hl.2.1, fun i v hv => hl.2.2 i v (h i v hv)⟩ hw hS
theorem ws_widen {cs' ss' : Nat} (h1 : cs ≤ cs') (h2 : ss ≤ ss') (k : WS F pc lv st S cs' ss') : WS F pc lv st S cs ss := fun ls H locs hl hw hS => W.widen h1 h2 (k ls H locs hl hw hS)
-- arithmetic
theorem ws_iadd (C : Cx F cc own dF cF sF) {x y : Int32} (d : At cc pc .iadd 1 pc') (k : WS F pc' lv (.int (x + y) :: st) S cs ss) : WS F pc lv (.int y :: .int x :: st) S cs ss := by
  obtain ⟨d, rfl⟩ := d
  intro ls H locs hl hw hS
  exact lv_iadd C.x C.b d (k ls H locs hl hw hS)
theorem ws_isub (C : Cx F cc own dF cF sF) {x y : Int32} (d : At cc pc .isub 1 pc') (k : WS F pc' lv (.int (x - y) :: st) S cs ss) : WS F pc lv (.int y :: .int x :: st) S cs ss := by
  obtain ⟨d, rfl⟩ := d
  intro ls H locs hl hw hS
  exact lv_isub C.x C.b d (k ls H locs hl hw hS)
theorem ws_imul (C : Cx F cc own dF cF sF) {x y : Int32} (d : At cc pc .imul 1 pc') (k : WS F pc' lv (.int (x * y) :: st) S cs ss) : WS F pc lv (.int y :: .int x :: st) S cs ss := by
  obtain ⟨d, rfl⟩ := d
  intro ls H locs hl hw hS
  exact lv_imul C.x C.b d (k ls H locs hl hw hS)
theorem ws_iand (C : Cx F cc own dF cF sF) {x y : Int32} (d : At cc pc .iand 1 pc') (k : WS F pc' lv (.int (x &&& y) :: st) S cs ss) : WS F pc lv (.int y :: .int x :: st) S cs ss := by
  obtain ⟨d, rfl⟩ := d
  intro ls H locs hl hw hS
  exact lv_iand C.x C.b d (k ls H locs hl hw hS)
theorem ws_ior (C : Cx F cc own dF cF sF) {x y : Int32} (d : At cc pc .ior 1 pc') (k : WS F pc' lv (.int (x ||| y) :: st) S cs ss) : WS F pc lv (.int y :: .int x :: st) S cs ss := by
  obtain ⟨d, rfl⟩ := d
  intro ls H locs hl hw hS
  exact lv_ior C.x C.b d (k ls H locs hl hw hS)
theorem ws_ixor (C : Cx F cc own dF cF sF) {x y : Int32} (d : At cc pc .ixor 1 pc') (k : WS F pc' lv (.int (x ^^^ y) :: st) S cs ss) : WS F pc lv (.int y :: .int x :: st) S cs ss := by
  obtain ⟨d, rfl⟩ := d
  intro ls H locs hl hw hS
  exact lv_ixor C.x C.b d (k ls H locs hl hw hS)
theorem ws_ishl (C : Cx F cc own dF cF sF) {x y : Int32} (d : At cc pc .ishl 1 pc') (k : WS F pc' lv (.int (x <<< (y &&& 31)) :: st) S cs ss) : WS F pc lv (.int y :: .int x :: st) S cs ss := by
  obtain ⟨d, rfl⟩ := d
  intro ls H locs hl hw hS
  exact lv_ishl C.x C.b d (k ls H locs hl hw hS)
theorem ws_ishr (C : Cx F cc own dF cF sF) {x y : Int32} (d : At cc pc .ishr 1 pc') (k : WS F pc' lv (.int (x >>> (y &&& 31)) :: st) S cs ss) : WS F pc lv (.int y :: .int x :: st) S cs ss := by
  obtain ⟨d, rfl⟩ := d
  intro ls H locs hl hw hS
  exact lv_ishr C.x C.b d (k ls H locs hl hw hS)
theorem nI_mul (a b : Nat) : nI a * nI b = nI (a * b) := (Int32.ofNat_mul a b).symm
theorem nI_sub {a b : Nat} (h : b ≤ a) : nI a - nI b = nI (a - b) := by
  have : nI a = nI (a - b) + nI b := by rw [nI_add]; congr 1; omega
  rw [this, Int32.add_sub_cancel]
theorem ws_iaddN (C : Cx F cc own dF cF sF) {x y : Nat} (d : At cc pc .iadd 1 pc') (k : WS F pc' lv (.int (nI (x + y)) :: st) S cs ss) : WS F pc lv (.int (nI y) :: .int (nI x) :: st) S cs ss := ws_iadd C d (ws_top _ (nI_add x y) k)
theorem ws_isubN (C : Cx F cc own dF cF sF) {x y : Nat} (d : At cc pc .isub 1 pc') (h : y ≤ x) (k : WS F pc' lv (.int (nI (x - y)) :: st) S cs ss) : WS F pc lv (.int (nI y) :: .int (nI x) :: st) S cs ss := ws_isub C d (ws_top _ (nI_sub h) k)
theorem ws_imulN (C : Cx F cc own dF cF sF) {x y : Nat} (d : At cc pc .imul 1 pc') (k : WS F pc' lv (.int (nI (x * y)) :: st) S cs ss) : WS F pc lv (.int (nI y) :: .int (nI x) :: st) S cs ss := ws_imul C d (ws_top _ (nI_mul x y) k)
-- branches
theorem ws_goto (C : Cx F cc own dF cF sF) (d : AtC cc pc .goto tgt pc') (k : WS F tgt lv st S cs ss) : WS F pc lv st S cs ss := by
  obtain ⟨off, d, ht, -⟩ := d
  intro ls H locs hl hw hS
  exact lv_goto C.x C.b d ht (k ls H locs hl hw hS)
theorem ws_if_eq (C : Cx F cc own dF cF sF) {x : Int32} (d : AtC cc pc (.ifCond .eq) tgt pc') (kt : x = 0 → WS F tgt lv st S cs ss) (kf : ¬ x = 0 → WS F pc' lv st S cs ss) : WS F pc lv (.int x :: st) S cs ss := by
  obtain ⟨off, d, ht, rfl⟩ := d
  intro ls H locs hl hw hS
  exact lv_if_eq C.x C.b d ht (fun h => kt h ls H locs hl hw hS) (fun h => kf h ls H locs hl hw hS)
theorem ws_icmp_eq (C : Cx F cc own dF cF sF) {x y : Int32} (d : AtC cc pc (.if_icmp .eq) tgt pc') (kt : x = y → WS F tgt lv st S cs ss) (kf : ¬ x = y → WS F pc' lv st S cs ss) : WS F pc lv (.int y :: .int x :: st) S cs ss := by
  obtain ⟨off, d, ht, rfl⟩ := d
  intro ls H locs hl hw hS
  exact lv_icmp_eq C.x C.b d ht (fun h => kt h ls H locs hl hw hS) (fun h => kf h ls H locs hl hw hS)
theorem ws_if_ne (C : Cx F cc own dF cF sF) {x : Int32} (d : AtC cc pc (.ifCond .ne) tgt pc') (kt : ¬ x = 0 → WS F tgt lv st S cs ss) (kf : x = 0 → WS F pc' lv st S cs ss) : WS F pc lv (.int x :: st) S cs ss := by
  obtain ⟨off, d, ht, rfl⟩ := d
  intro ls H locs hl hw hS
  exact lv_if_ne C.x C.b d ht (fun h => kt h ls H locs hl hw hS) (fun h => kf h ls H locs hl hw hS)
theorem ws_icmp_ne (C : Cx F cc own dF cF sF) {x y : Int32} (d : AtC cc pc (.if_icmp .ne) tgt pc') (kt : ¬ x = y → WS F tgt lv st S cs ss) (kf : x = y → WS F pc' lv st S cs ss) : WS F pc lv (.int y :: .int x :: st) S cs ss := by
  obtain ⟨off, d, ht, rfl⟩ := d
  intro ls H locs hl hw hS
  exact lv_icmp_ne C.x C.b d ht (fun h => kt h ls H locs hl hw hS) (fun h => kf h ls H locs hl hw hS)
theorem ws_if_lt (C : Cx F cc own dF cF sF) {x : Int32} (d : AtC cc pc (.ifCond .lt) tgt pc') (kt : x < 0 → WS F tgt lv st S cs ss) (kf : ¬ x < 0 → WS F pc' lv st S cs ss) : WS F pc lv (.int x :: st) S cs ss := by
  obtain ⟨off, d, ht, rfl⟩ := d
  intro ls H locs hl hw hS
  exact lv_if_lt C.x C.b d ht (fun h => kt h ls H locs hl hw hS) (fun h => kf h ls H locs hl hw hS)
theorem ws_icmp_lt (C : Cx F cc own dF cF sF) {x y : Int32} (d : AtC cc pc (.if_icmp .lt) tgt pc') (kt : x < y → WS F tgt lv st S cs ss) (kf : ¬ x < y → WS F pc' lv st S cs ss) : WS F pc lv (.int y :: .int x :: st) S cs ss := by
  obtain ⟨off, d, ht, rfl⟩ := d
  intro ls H locs hl hw hS
  exact lv_icmp_lt C.x C.b d ht (fun h => kt h ls H locs hl hw hS) (fun h => kf h ls H locs hl hw hS)
theorem ws_if_ge (C : Cx F cc own dF cF sF) {x : Int32} (d : AtC cc pc (.ifCond .ge) tgt pc') (kt : 0 ≤ x → WS F tgt lv st S cs ss) (kf : ¬ 0 ≤ x → WS F pc' lv st S cs ss) : WS F pc lv (.int x :: st) S cs ss := by
  obtain ⟨off, d, ht, rfl⟩ := d
  intro ls H locs hl hw hS
  exact lv_if_ge C.x C.b d ht (fun h => kt h ls H locs hl hw hS) (fun h => kf h ls H locs hl hw hS)
theorem ws_icmp_ge (C : Cx F cc own dF cF sF) {x y : Int32} (d : AtC cc pc (.if_icmp .ge) tgt pc') (kt : y ≤ x → WS F tgt lv st S cs ss) (kf : ¬ y ≤ x → WS F pc' lv st S cs ss) : WS F pc lv (.int y :: .int x :: st) S cs ss := by
  obtain ⟨off, d, ht, rfl⟩ := d
  intro ls H locs hl hw hS
  exact lv_icmp_ge C.x C.b d ht (fun h => kt h ls H locs hl hw hS) (fun h => kf h ls H locs hl hw hS)
theorem ws_if_gt (C : Cx F cc own dF cF sF) {x : Int32} (d : AtC cc pc (.ifCond .gt) tgt pc') (kt : 0 < x → WS F tgt lv st S cs ss) (kf : ¬ 0 < x → WS F pc' lv st S cs ss) : WS F pc lv (.int x :: st) S cs ss := by
  obtain ⟨off, d, ht, rfl⟩ := d
  intro ls H locs hl hw hS
  exact lv_if_gt C.x C.b d ht (fun h => kt h ls H locs hl hw hS) (fun h => kf h ls H locs hl hw hS)
theorem ws_icmp_gt (C : Cx F cc own dF cF sF) {x y : Int32} (d : AtC cc pc (.if_icmp .gt) tgt pc') (kt : y < x → WS F tgt lv st S cs ss) (kf : ¬ y < x → WS F pc' lv st S cs ss) : WS F pc lv (.int y :: .int x :: st) S cs ss := by
  obtain ⟨off, d, ht, rfl⟩ := d
  intro ls H locs hl hw hS
  exact lv_icmp_gt C.x C.b d ht (fun h => kt h ls H locs hl hw hS) (fun h => kf h ls H locs hl hw hS)
theorem ws_if_le (C : Cx F cc own dF cF sF) {x : Int32} (d : AtC cc pc (.ifCond .le) tgt pc') (kt : x ≤ 0 → WS F tgt lv st S cs ss) (kf : ¬ x ≤ 0 → WS F pc' lv st S cs ss) : WS F pc lv (.int x :: st) S cs ss := by
  obtain ⟨off, d, ht, rfl⟩ := d
  intro ls H locs hl hw hS
  exact lv_if_le C.x C.b d ht (fun h => kt h ls H locs hl hw hS) (fun h => kf h ls H locs hl hw hS)
theorem ws_icmp_le (C : Cx F cc own dF cF sF) {x y : Int32} (d : AtC cc pc (.if_icmp .le) tgt pc') (kt : x ≤ y → WS F tgt lv st S cs ss) (kf : ¬ x ≤ y → WS F pc' lv st S cs ss) : WS F pc lv (.int y :: .int x :: st) S cs ss := by
  obtain ⟨off, d, ht, rfl⟩ := d
  intro ls H locs hl hw hS
  exact lv_icmp_le C.x C.b d ht (fun h => kt h ls H locs hl hw hS) (fun h => kf h ls H locs hl hw hS)
theorem ws_icmp_eqN (C : Cx F cc own dF cF sF) {x y : Nat} (d : AtC cc pc (.if_icmp .eq) tgt pc') (hx : x < 2 ^ 31) (hy : y < 2 ^ 31) (kt : x = y → WS F tgt lv st S cs ss) (kf : ¬ x = y → WS F pc' lv st S cs ss) : WS F pc lv (.int (nI y) :: .int (nI x) :: st) S cs ss :=
  ws_icmp_eq C d (fun h => kt ((nI_eq hx hy).mp h)) (fun h => kf (fun z => h ((nI_eq hx hy).mpr z)))
theorem ws_icmp_neN (C : Cx F cc own dF cF sF) {x y : Nat} (d : AtC cc pc (.if_icmp .ne) tgt pc') (hx : x < 2 ^ 31) (hy : y < 2 ^ 31) (kt : ¬ x = y → WS F tgt lv st S cs ss) (kf : x = y → WS F pc' lv st S cs ss) : WS F pc lv (.int (nI y) :: .int (nI x) :: st) S cs ss :=
  ws_icmp_ne C d (fun h => kt (fun z => h (congrArg nI z))) (fun h => kf ((nI_eq hx hy).mp h))
theorem ws_icmp_ltN (C : Cx F cc own dF cF sF) {x y : Nat} (d : AtC cc pc (.if_icmp .lt) tgt pc') (hx : x < 2 ^ 31) (hy : y < 2 ^ 31) (kt : x < y → WS F tgt lv st S cs ss) (kf : ¬ x < y → WS F pc' lv st S cs ss) : WS F pc lv (.int (nI y) :: .int (nI x) :: st) S cs ss :=
  ws_icmp_lt C d (fun h => kt ((nI_ltI hx hy).mp h)) (fun h => kf (fun z => h ((nI_ltI hx hy).mpr z)))
theorem ws_icmp_geN (C : Cx F cc own dF cF sF) {x y : Nat} (d : AtC cc pc (.if_icmp .ge) tgt pc') (hx : x < 2 ^ 31) (hy : y < 2 ^ 31) (kt : y ≤ x → WS F tgt lv st S cs ss) (kf : ¬ y ≤ x → WS F pc' lv st S cs ss) : WS F pc lv (.int (nI y) :: .int (nI x) :: st) S cs ss :=
  ws_icmp_ge C d (fun h => kt ((nI_leI hy hx).mp h)) (fun h => kf (fun z => h ((nI_leI hy hx).mpr z)))
theorem ws_icmp_gtN (C : Cx F cc own dF cF sF) {x y : Nat} (d : AtC cc pc (.if_icmp .gt) tgt pc') (hx : x < 2 ^ 31) (hy : y < 2 ^ 31) (kt : y < x → WS F tgt lv st S cs ss) (kf : ¬ y < x → WS F pc' lv st S cs ss) : WS F pc lv (.int (nI y) :: .int (nI x) :: st) S cs ss :=
  ws_icmp_gt C d (fun h => kt ((nI_ltI hy hx).mp h)) (fun h => kf (fun z => h ((nI_ltI hy hx).mpr z)))
theorem ws_icmp_leN (C : Cx F cc own dF cF sF) {x y : Nat} (d : AtC cc pc (.if_icmp .le) tgt pc') (hx : x < 2 ^ 31) (hy : y < 2 ^ 31) (kt : x ≤ y → WS F tgt lv st S cs ss) (kf : ¬ x ≤ y → WS F pc' lv st S cs ss) : WS F pc lv (.int (nI y) :: .int (nI x) :: st) S cs ss :=
  ws_icmp_le C d (fun h => kt ((nI_leI hx hy).mp h)) (fun h => kf (fun z => h ((nI_leI hx hy).mpr z)))
theorem nI_z {n : Nat} (h : n < 2 ^ 31) : nI n = 0 ↔ n = 0 := nI_eq (b := 0) h (by decide)
theorem nI_lz {n : Nat} (h : n < 2 ^ 31) : 0 < nI n ↔ 0 < n := nI_ltI (a := 0) (by decide) h
theorem nI_zl {n : Nat} (h : n < 2 ^ 31) : nI n ≤ 0 ↔ n = 0 := by
  have := nI_leI (a := n) (b := 0) h (by decide)
  exact this.trans ⟨fun z => by omega, fun z => by omega⟩
theorem ws_if_eqN (C : Cx F cc own dF cF sF) {x : Nat} (d : AtC cc pc (.ifCond .eq) tgt pc') (hx : x < 2 ^ 31) (kt : x = 0 → WS F tgt lv st S cs ss) (kf : ¬ x = 0 → WS F pc' lv st S cs ss) : WS F pc lv (.int (nI x) :: st) S cs ss :=
  ws_if_eq C d (fun h => kt ((nI_z hx).mp h)) (fun h => kf (fun z => h ((nI_z hx).mpr z)))
theorem ws_if_neN (C : Cx F cc own dF cF sF) {x : Nat} (d : AtC cc pc (.ifCond .ne) tgt pc') (hx : x < 2 ^ 31) (kt : ¬ x = 0 → WS F tgt lv st S cs ss) (kf : x = 0 → WS F pc' lv st S cs ss) : WS F pc lv (.int (nI x) :: st) S cs ss :=
  ws_if_ne C d (fun h => kt (fun z => h ((nI_z hx).mpr z))) (fun h => kf ((nI_z hx).mp h))
theorem ws_if_gtN (C : Cx F cc own dF cF sF) {x : Nat} (d : AtC cc pc (.ifCond .gt) tgt pc') (hx : x < 2 ^ 31) (kt : 0 < x → WS F tgt lv st S cs ss) (kf : x = 0 → WS F pc' lv st S cs ss) : WS F pc lv (.int (nI x) :: st) S cs ss :=
  ws_if_gt C d (fun h => kt ((nI_lz hx).mp h)) (fun h => kf (by have hh : ¬ 0 < x := fun z => h ((nI_lz hx).mpr z); omega))
theorem ws_if_leN (C : Cx F cc own dF cF sF) {x : Nat} (d : AtC cc pc (.ifCond .le) tgt pc') (hx : x < 2 ^ 31) (kt : x = 0 → WS F tgt lv st S cs ss) (kf : 0 < x → WS F pc' lv st S cs ss) : WS F pc lv (.int (nI x) :: st) S cs ss :=
  ws_if_le C d (fun h => kt ((nI_zl hx).mp h)) (fun h => kf (by have hh : ¬ x = 0 := fun z => h ((nI_zl hx).mpr z); omega))
/-- a number that is not below zero -/
theorem ws_if_ltN (C : Cx F cc own dF cF sF) {x : Nat} (d : AtC cc pc (.ifCond .lt) tgt pc') (hx : x < 2 ^ 31) (kf : WS F pc' lv st S cs ss) : WS F pc lv (.int (nI x) :: st) S cs ss :=
  ws_if_lt C d (fun h => absurd h (nI_pos hx)) (fun _ => kf)
theorem ws_if_geN (C : Cx F cc own dF cF sF) {x : Nat} (d : AtC cc pc (.ifCond .ge) tgt pc') (hx : x < 2 ^ 31) (kt : WS F tgt lv st S cs ss) : WS F pc lv (.int (nI x) :: st) S cs ss :=
  ws_if_ge C d (fun _ => kt) (fun h => absurd (nI_pos' hx) h)
/-- -1 -/
theorem ws_if_ltM (C : Cx F cc own dF cF sF) (d : AtC cc pc (.ifCond .lt) tgt pc') (kt : WS F tgt lv st S cs ss) : WS F pc lv (.int (-1) :: st) S cs ss :=
  ws_if_lt C d (fun _ => kt) (fun h => absurd (show (-1 : Int32) < 0 by decide) h)
theorem ws_if_geM (C : Cx F cc own dF cF sF) (d : AtC cc pc (.ifCond .ge) tgt pc') (kf : WS F pc' lv st S cs ss) : WS F pc lv (.int (-1) :: st) S cs ss :=
  ws_if_ge C d (fun h => absurd h (show ¬ (0 : Int32) ≤ -1 by decide)) (fun _ => kf)
def bI (b : Bool) : Int32 := if b = true then 1 else 0
theorem bI_t : bI true = 1 := rfl
theorem bI_f : bI false = 0 := rfl
theorem bI_0 (b : Bool) : bI b = 0 ↔ b = false := by cases b <;> decide
theorem ws_if_eqB (C : Cx F cc own dF cF sF) {b : Bool} (d : AtC cc pc (.ifCond .eq) tgt pc') (kt : b = false → WS F tgt lv st S cs ss) (kf : b = true → WS F pc' lv st S cs ss) : WS F pc lv (.int (bI b) :: st) S cs ss :=
  ws_if_eq C d (fun h => kt ((bI_0 b).mp h)) (fun h => kf (by cases b; exact absurd rfl h; rfl))
theorem ws_if_neB (C : Cx F cc own dF cF sF) {b : Bool} (d : AtC cc pc (.ifCond .ne) tgt pc') (kt : b = true → WS F tgt lv st S cs ss) (kf : b = false → WS F pc' lv st S cs ss) : WS F pc lv (.int (bI b) :: st) S cs ss :=
  ws_if_ne C d (fun h => kt (by cases b; exact absurd rfl h; rfl)) (fun h => kf ((bI_0 b).mp h))
theorem ws_ifnull (C : Cx F cc own dF cF sF) {x : Nat} (d : AtC cc pc .ifnull tgt pc') (k : WS F pc' lv st S cs ss) : WS F pc lv (.ref x :: st) S cs ss := by
  obtain ⟨off, d, ht, rfl⟩ := d
  intro ls H locs hl hw hS
  exact lv_ifnull C.x C.b d (k ls H locs hl hw hS)
theorem ws_ifnullN (C : Cx F cc own dF cF sF) (d : AtC cc pc .ifnull tgt pc') (k : WS F tgt lv st S cs ss) : WS F pc lv (.null :: st) S cs ss := by
  obtain ⟨off, d, ht, rfl⟩ := d
  intro ls H locs hl hw hS
  exact lv_ifnullN C.x C.b d ht (k ls H locs hl hw hS)
theorem ws_ifnonnull (C : Cx F cc own dF cF sF) {x : Nat} (d : AtC cc pc .ifnonnull tgt pc') (k : WS F tgt lv st S cs ss) : WS F pc lv (.ref x :: st) S cs ss := by
  obtain ⟨off, d, ht, rfl⟩ := d
  intro ls H locs hl hw hS
  exact lv_ifnonnull C.x C.b d ht (k ls H locs hl hw hS)
theorem ws_ifnonnullN (C : Cx F cc own dF cF sF) (d : AtC cc pc .ifnonnull tgt pc') (k : WS F pc' lv st S cs ss) : WS F pc lv (.null :: st) S cs ss := by
  obtain ⟨off, d, ht, rfl⟩ := d
  intro ls H locs hl hw hS
  exact lv_ifnonnullN C.x C.b d (k ls H locs hl hw hS)
/-- tableswitch at a number of its table, and beside it -/
theorem ws_tabIn (C : Cx F cc own dF cF sF) {df lo hi : Int} {offs : Array Int} {len : Nat} {x : Int32} (off : Int) (d : decode cc pc = .ok (.tableswitch df lo hi offs, len)) (h1 : ¬ x.toInt < lo) (h2 : ¬ hi < x.toInt) (ho : offs[(x.toInt - lo).toNat]? = some off) (ht : (pc : Int) + off = (tgt : Int)) (k : WS F tgt lv st S cs ss) : WS F pc lv (.int x :: st) S cs ss := by
  intro ls H locs hl hw hS
  exact lv_tableIn C.x C.b d h1 h2 ho ht (k ls H locs hl hw hS)
theorem ws_tabOut (C : Cx F cc own dF cF sF) {df lo hi : Int} {offs : Array Int} {len : Nat} {x : Int32} (d : decode cc pc = .ok (.tableswitch df lo hi offs, len)) (h : x.toInt < lo ∨ hi < x.toInt) (ht : (pc : Int) + df = (tgt : Int)) (k : WS F tgt lv st S cs ss) : WS F pc lv (.int x :: st) S cs ss := by
  intro ls H locs hl hw hS
  exact lv_tableOut C.x C.b d h ht (k ls H locs hl hw hS)
end ROWS
end
section
/-! fields, arrays, new cells -/
def tyk (kd k : Nat) : FieldType := (parseFieldDescriptor (ctb kd k).2.2.1).getD .int
theorem tyk_ok (kd : Nat) (h0 : 0 < kd) (h8 : kd ≤ 8) : ∀ k, k < nf kd → parseFieldDescriptor (ctb kd k).2.2.1 = some (tyk kd k) := by
  have : kd = 1 ∨ kd = 2 ∨ kd = 3 ∨ kd = 4 ∨ kd = 5 ∨ kd = 6 ∨ kd = 7 ∨ kd = 8 := by omega
  rcases this with rfl | rfl | rfl | rfl | rfl | rfl | rfl | rfl <;> decide +kernel
theorem nmk_ok (kd : Nat) (h0 : 0 < kd) (h8 : kd ≤ 8) : ∀ a, a < nf kd → ∀ b, b < nf kd → a ≠ b → (ctb kd a).2.1 ≠ (ctb kd b).2.1 := by
  have : kd = 1 ∨ kd = 2 ∨ kd = 3 ∨ kd = 4 ∨ kd = 5 ∨ kd = 6 ∨ kd = 7 ∨ kd = 8 := by omega
  rcases this with rfl | rfl | rfl | rfl | rfl | rfl | rfl | rfl <;> decide +kernel
theorem dfk_ok (kd : Nat) (h0 : 0 < kd) (h8 : kd ≤ 8) : ∀ k, k < nf kd → defaultValue (tyk kd k) = if rfk (32 * kd + k) = true then .null else .int 0 := by
  have : kd = 1 ∨ kd = 2 ∨ kd = 3 ∨ kd = 4 ∨ kd = 5 ∨ kd = 6 ∨ kd = 7 ∨ kd = 8 := by omega
  rcases this with rfl | rfl | rfl | rfl | rfl | rfl | rfl | rfl <;> decide +kernel
theorem lys_1 : ∀ w ∈ u_ws (cnm 1) (ctb 1) (nf 1), w ∈ TB := by decide +kernel
theorem lys_2 : ∀ w ∈ u_ws (cnm 2) (ctb 2) (nf 2), w ∈ TB := by decide +kernel
theorem lys_3 : ∀ w ∈ u_ws (cnm 3) (ctb 3) (nf 3), w ∈ TB := by decide +kernel
theorem lys_4 : ∀ w ∈ u_ws (cnm 4) (ctb 4) (nf 4), w ∈ TB := by decide +kernel
theorem lys_5 : ∀ w ∈ u_ws (cnm 5) (ctb 5) (nf 5), w ∈ TB := by decide +kernel
theorem lys_6 : ∀ w ∈ u_ws (cnm 6) (ctb 6) (nf 6), w ∈ TB := by decide +kernel
theorem lys_7 : ∀ w ∈ u_ws (cnm 7) (ctb 7) (nf 7), w ∈ TB := by decide +kernel
theorem lys_8 : ∀ w ∈ u_ws (cnm 8) (ctb 8) (nf 8), w ∈ TB := by decide +kernel
end
section
/-! rows: fields, arrays, new cells, calls, returns -/
theorem lys {kd : Nat} (h0 : 0 < kd) (h8 : kd ≤ 8) : ∀ w ∈ u_ws (cnm kd) (ctb kd) (nf kd), w ∈ TB := by
  have : kd = 1 ∨ kd = 2 ∨ kd = 3 ∨ kd = 4 ∨ kd = 5 ∨ kd = 6 ∨ kd = 7 ∨ kd = 8 := by omega
  rcases this with rfl | rfl | rfl | rfl | rfl | rfl | rfl | rfl
  · exact lys_1
  · exact lys_2
  · exact lys_3
  · exact lys_4
  · exact lys_5
  · exact lys_6
  · exact lys_7
  · exact lys_8
/-- a field by its number: f = 32 * kd + k; the word that links it; whether it is final -/
def FLk (own : String) (idx f : Nat) (ref : String) : Prop := Cond.fieldLink own idx ref (ctb (f / 32) (f % 32)).2.1 (ctb (f / 32) (f % 32)).2.2.1 ∈ TB ∧ 0 < f / 32 ∧ f / 32 ≤ 8 ∧ f % 32 < nf (f / 32)
def FLs (own : String) (idx f : Nat) : Prop := ∃ ref : String, FLk own idx f ref ∧ ((ctb (f / 32) (f % 32)).1 = ref ∨ Cond.sameField ref (ctb (f / 32) (f % 32)).1 (ctb (f / 32) (f % 32)).2.1 (ctb (f / 32) (f % 32)).2.2.1 ∈ TB)
theorem cel_up {Y : Nat → ClassId} {S : Sto} {a f : Nat} {x : Int32} : ∀ b, b ≠ a → cel Y (setI S f a x) b = cel Y S b := fun b hb => cel_congr rfl (fun g => by simp [setI, sI, up2, hb]) (fun _ => rfl) (fun _ => rfl) (fun _ => rfl) rfl
theorem cel_upP {Y : Nat → ClassId} {S : Sto} {a f : Nat} {x : Option Nat} : ∀ b, b ≠ a → cel Y (setP S f a x) b = cel Y S b := fun b hb => cel_congr rfl (fun _ => rfl) (fun g => by simp [setP, sP, up2, hb]) (fun _ => rfl) (fun _ => rfl) rfl
theorem cel_upE {Y : Nat → ClassId} {S : Sto} {k a i : Nat} {x : Int32} : ∀ b, b ≠ a → cel Y (setE S k a i x) b = cel Y S b := fun b hb => cel_congr rfl (fun _ => rfl) (fun _ => rfl) (fun g => by funext j; simp [setE, sE, up3, hb]) (fun _ => rfl) rfl
theorem cel_upQ {Y : Nat → ClassId} {S : Sto} {k a i : Nat} {x : Option Nat} : ∀ b, b ≠ a → cel Y (setQ S k a i x) b = cel Y S b := fun b hb => cel_congr rfl (fun _ => rfl) (fun _ => rfl) (fun _ => rfl) (fun g => by funext j; simp [setQ, sQ, up3, hb]) rfl
theorem cel_nO {Y : Nat → ClassId} {S : Sto} {q kd : Nat} : ∀ b, b ≠ q → cel Y (newO S q kd) b = cel Y S b := fun b hb => cel_congr (by simp [newO, sK, va_up, hb]) (fun g => by simp [newO, sI, hb]) (fun g => by simp [newO, sP, hb]) (fun _ => rfl) (fun _ => rfl) rfl
theorem cel_nA {Y : Nat → ClassId} {S : Sto} {q kd n : Nat} : ∀ b, b ≠ q → cel Y (newA S q kd n) b = cel Y S b := fun b hb => cel_congr (by simp [newA, sK, va_up, hb]) (fun _ => rfl) (fun _ => rfl) (fun g => by funext j; simp [newA, sE, hb]) (fun g => by funext j; simp [newA, sQ, hb]) (by simp [newA, sZ, va_up, hb])
section ROWS
variable {F : Fx} {cc : ByteArray} {own : String} {pc pc' tgt : Nat} {lv : List (Option Value)} {st : List Value} {S : Sto} {cs ss : Nat} {dF cF sF : Nat}
theorem fls_link (C : Cx F cc own dF cF sF) {idx f : Nat} (h : FLs own idx f) : ∃ ref : String, (Cond.fieldLink own idx ref (ctb (f / 32) (f % 32)).2.1 (ctb (f / 32) (f % 32)).2.2.1).before (xa F) (xs F) = true ∧ (∀ x, (xs F).fieldFound? (ctb (f / 32) (f % 32)).1 (ctb (f / 32) (f % 32)).2.1 (ctb (f / 32) (f % 32)).2.2.1 = some x → (xs F).fieldFound? ref (ctb (f / 32) (f % 32)).2.1 (ctb (f / 32) (f % 32)).2.2.1 = some x) ∧ 0 < f / 32 ∧ f / 32 ≤ 8 ∧ f % 32 < nf (f / 32) := by
  obtain ⟨ref, ⟨h1, h2, h3, h4⟩, h5⟩ := h
  refine ⟨ref, C.t h1, ?_, h2, h3, h4⟩
  rcases h5 with h5 | h5
  · intro x hx
    rw [← h5]
    exact hx
  · exact u_same (C.t h5)
theorem f_eq (f : Nat) : 32 * (f / 32) + f % 32 = f := Nat.div_add_mod f 32
theorem ws_getI (C : Cx F cc own dF cF sF) {idx f a : Nat} (d : At cc pc (.getfield idx) 3 pc') (h : FLs own idx f) (hr : rfk f = false) (hk : sK S a = f / 32) (k : WS F pc' lv (.int (sI S f a) :: st) S cs ss) : WS F pc lv (.ref a :: st) S cs ss := by
  obtain ⟨d, rfl⟩ := d
  obtain ⟨ref, h1, h2, h3, h4, h5⟩ := fls_link C h
  intro ls H locs hl hw hS
  obtain ⟨q, hq⟩ := wl_get hw (cel_o hk h3 h4)
  refine va_get (D := xD F) C.x C.b (Ts := TB) C.2.2.2.2.2.1 (lys h3 h4) C.o C.k (wl_P hw) q hq (vCl_at h3 h4) (f % 32) h5 h1 h2 (v := .int (sI S f a)) ?_ d (k ls H locs hl hw hS)
  rw [fl_get h5, f_eq, fv_I hr]
theorem ws_getP (C : Cx F cc own dF cF sF) {idx f a b : Nat} (d : At cc pc (.getfield idx) 3 pc') (h : FLs own idx f) (hr : rfk f = true) (hk : sK S a = f / 32) (hb : sP S f a = some b) (k : WS F pc' lv (.ref b :: st) S cs ss) : WS F pc lv (.ref a :: st) S cs ss := by
  obtain ⟨d, rfl⟩ := d
  obtain ⟨ref, h1, h2, h3, h4, h5⟩ := fls_link C h
  intro ls H locs hl hw hS
  obtain ⟨q, hq⟩ := wl_get hw (cel_o hk h3 h4)
  refine va_get (D := xD F) C.x C.b (Ts := TB) C.2.2.2.2.2.1 (lys h3 h4) C.o C.k (wl_P hw) q hq (vCl_at h3 h4) (f % 32) h5 h1 h2 (v := .ref b) ?_ d (k ls H locs hl hw hS)
  rw [fl_get h5, f_eq, fv_P hr, hb]
  rfl
theorem ws_getN (C : Cx F cc own dF cF sF) {idx f a : Nat} (d : At cc pc (.getfield idx) 3 pc') (h : FLs own idx f) (hr : rfk f = true) (hk : sK S a = f / 32) (hb : sP S f a = none) (k : WS F pc' lv (.null :: st) S cs ss) : WS F pc lv (.ref a :: st) S cs ss := by
  obtain ⟨d, rfl⟩ := d
  obtain ⟨ref, h1, h2, h3, h4, h5⟩ := fls_link C h
  intro ls H locs hl hw hS
  obtain ⟨q, hq⟩ := wl_get hw (cel_o hk h3 h4)
  refine va_get (D := xD F) C.x C.b (Ts := TB) C.2.2.2.2.2.1 (lys h3 h4) C.o C.k (wl_P hw) q hq (vCl_at h3 h4) (f % 32) h5 h1 h2 (v := .null) ?_ d (k ls H locs hl hw hS)
  rw [fl_get h5, f_eq, fv_P hr, hb]
  rfl
/-- int-like fields that are not final -/
theorem ws_putI (C : Cx F cc own dF cF sF) {idx f a : Nat} {x : Int32} (d : At cc pc (.putfield idx) 3 pc') (h : FLs own idx f) (hr : rfk f = false) (hf : (ctb (f / 32) (f % 32)).2.2.2 = false) (hn : narrow (tyk (f / 32) (f % 32)) (.int x) = .int x ∧ fits (tyk (f / 32) (f % 32)) (.int x) = true) (hk : sK S a = f / 32) (k : WS F pc' lv st (setI S f a x) cs ss) : WS F pc lv (.int x :: .ref a :: st) S cs ss := by
  obtain ⟨d, rfl⟩ := d
  obtain ⟨ref, h1, h2, h3, h4, h5⟩ := fls_link C h
  intro ls H locs hl hw hS
  obtain ⟨q, hq⟩ := wl_get hw (cel_o hk h3 h4)
  refine va_put (D := xD F) C.x C.b (Ts := TB) C.2.2.2.2.2.1 (lys h3 h4) (tyk (f / 32)) (tyk_ok _ h3 h4) (nmk_ok _ h3 h4) C.o C.k (wl_P hw) (wl_D hw) hS q hq (vCl_at h3 h4) (f % 32) h5 h1 h2 hf (tyk_ok _ h3 h4 _ h5) hn.1 hn.2 (by rw [fl_len]; exact h5) d (fun H1 locs1 hP1 _ hS1 => k ls H1 locs1 hl ?_ hS1)
  refine wl_set hw hq hP1 ?_ cel_up
  have hk' : sK (setI S f a x) a = f / 32 := hk
  rw [cel_o hk' h3 h4, fl_setI h5 (by rw [f_eq]; exact hr), f_eq]
theorem ws_putR (C : Cx F cc own dF cF sF) {idx f a : Nat} (x : Option Nat) {v : Value} (hv : va_rf x = v) (d : At cc pc (.putfield idx) 3 pc') (h : FLs own idx f) (hr : rfk f = true) (hf : (ctb (f / 32) (f % 32)).2.2.2 = false) (hn : narrow (tyk (f / 32) (f % 32)) v = v ∧ fits (tyk (f / 32) (f % 32)) v = true) (hk : sK S a = f / 32) (k : WS F pc' lv st (setP S f a x) cs ss) : WS F pc lv (v :: .ref a :: st) S cs ss := by
  subst hv
  obtain ⟨d, rfl⟩ := d
  obtain ⟨ref, h1, h2, h3, h4, h5⟩ := fls_link C h
  intro ls H locs hl hw hS
  obtain ⟨q, hq⟩ := wl_get hw (cel_o hk h3 h4)
  refine va_put (D := xD F) C.x C.b (Ts := TB) C.2.2.2.2.2.1 (lys h3 h4) (tyk (f / 32)) (tyk_ok _ h3 h4) (nmk_ok _ h3 h4) C.o C.k (wl_P hw) (wl_D hw) hS q hq (vCl_at h3 h4) (f % 32) h5 h1 h2 hf (tyk_ok _ h3 h4 _ h5) hn.1 hn.2 (by rw [fl_len]; exact h5) d (fun H1 locs1 hP1 _ hS1 => k ls H1 locs1 hl ?_ hS1)
  refine wl_set hw hq hP1 ?_ cel_upP
  have hk' : sK (setP S f a x) a = f / 32 := hk
  rw [cel_o hk' h3 h4, fl_setP h5 (by rw [f_eq]; exact hr), f_eq]
/-- final fields, in the constructor -/
theorem ws_putFI (C : Cx F cc own dF cF sF) (hin : (xt F).name = "<init>") {idx f a : Nat} {x : Int32} (d : At cc pc (.putfield idx) 3 pc') (h : FLs own idx f) (hr : rfk f = false) (hf : (ctb (f / 32) (f % 32)).2.2.2 = true) (ho : (ctb (f / 32) (f % 32)).1 = own) (hn : narrow (tyk (f / 32) (f % 32)) (.int x) = .int x ∧ fits (tyk (f / 32) (f % 32)) (.int x) = true) (hk : sK S a = f / 32) (k : WS F pc' lv st (setI S f a x) cs ss) : WS F pc lv (.int x :: .ref a :: st) S cs ss := by
  obtain ⟨d, rfl⟩ := d
  obtain ⟨ref, h1, h2, h3, h4, h5⟩ := fls_link C h
  intro ls H locs hl hw hS
  obtain ⟨q, hq⟩ := wl_get hw (cel_o hk h3 h4)
  refine va_putF (D := xD F) C.x C.b (Ts := TB) C.2.2.2.2.2.1 (lys h3 h4) (tyk (f / 32)) (tyk_ok _ h3 h4) (nmk_ok _ h3 h4) C.o C.k (wl_P hw) (wl_D hw) hS q hq (vCl_at h3 h4) (f % 32) h5 h1 h2 hf hin ho (tyk_ok _ h3 h4 _ h5) hn.1 hn.2 (by rw [fl_len]; exact h5) d (fun H1 locs1 hP1 _ hS1 => k ls H1 locs1 hl ?_ hS1)
  refine wl_set hw hq hP1 ?_ cel_up
  have hk' : sK (setI S f a x) a = f / 32 := hk
  rw [cel_o hk' h3 h4, fl_setI h5 (by rw [f_eq]; exact hr), f_eq]
theorem ws_putFR (C : Cx F cc own dF cF sF) (hin : (xt F).name = "<init>") {idx f a : Nat} (x : Option Nat) {v : Value} (hv : va_rf x = v) (d : At cc pc (.putfield idx) 3 pc') (h : FLs own idx f) (hr : rfk f = true) (hf : (ctb (f / 32) (f % 32)).2.2.2 = true) (ho : (ctb (f / 32) (f % 32)).1 = own) (hn : narrow (tyk (f / 32) (f % 32)) v = v ∧ fits (tyk (f / 32) (f % 32)) v = true) (hk : sK S a = f / 32) (k : WS F pc' lv st (setP S f a x) cs ss) : WS F pc lv (v :: .ref a :: st) S cs ss := by
  subst hv
  obtain ⟨d, rfl⟩ := d
  obtain ⟨ref, h1, h2, h3, h4, h5⟩ := fls_link C h
  intro ls H locs hl hw hS
  obtain ⟨q, hq⟩ := wl_get hw (cel_o hk h3 h4)
  refine va_putF (D := xD F) C.x C.b (Ts := TB) C.2.2.2.2.2.1 (lys h3 h4) (tyk (f / 32)) (tyk_ok _ h3 h4) (nmk_ok _ h3 h4) C.o C.k (wl_P hw) (wl_D hw) hS q hq (vCl_at h3 h4) (f % 32) h5 h1 h2 hf hin ho (tyk_ok _ h3 h4 _ h5) hn.1 hn.2 (by rw [fl_len]; exact h5) d (fun H1 locs1 hP1 _ hS1 => k ls H1 locs1 hl ?_ hS1)
  refine wl_set hw hq hP1 ?_ cel_upP
  have hk' : sK (setP S f a x) a = f / 32 := hk
  rw [cel_o hk' h3 h4, fl_setP h5 (by rw [f_eq]; exact hr), f_eq]
-- arrays
theorem ws_iald (C : Cx F cc own dF cF sF) {a i : Nat} (d : At cc pc .iaload 1 pc') (hk : sK S a = 9) (hi : i < sZ S a) (hz : sZ S a < 2 ^ 31) (k : WS F pc' lv (.int (sE S 9 a i) :: st) S cs ss) : WS F pc lv (.int (nI i) :: .ref a :: st) S cs ss := by
  obtain ⟨d, rfl⟩ := d
  intro ls H locs hl hw hS
  obtain ⟨q, hq⟩ := wl_get hw (cel_i hk (by decide) (by decide))
  refine va_iald C.x C.b C.k (wl_P hw) q 0 hq rfl (vp_in_nI hi hz) d ?_
  rw [nI_clamp (by omega)]
  exact k ls H locs hl hw hS
theorem ws_zald (C : Cx F cc own dF cF sF) {a i : Nat} (d : At cc pc .baload 1 pc') (hk : sK S a = 10) (hi : i < sZ S a) (hz : sZ S a < 2 ^ 31) (k : WS F pc' lv (.int (sE S 10 a i) :: st) S cs ss) : WS F pc lv (.int (nI i) :: .ref a :: st) S cs ss := by
  obtain ⟨d, rfl⟩ := d
  intro ls H locs hl hw hS
  obtain ⟨q, hq⟩ := wl_get hw (cel_i hk (by decide) (by decide))
  refine va_zald C.x C.b C.k (wl_P hw) q 1 hq rfl (vp_in_nI hi hz) d ?_
  rw [nI_clamp (by omega)]
  exact k ls H locs hl hw hS
theorem ws_aald (C : Cx F cc own dF cF sF) {a i kd : Nat} (h0 : 11 ≤ kd) (h1 : kd ≤ 14) (d : At cc pc .aaload 1 pc') (hk : sK S a = kd) (hi : i < sZ S a) (hz : sZ S a < 2 ^ 31) (k : WS F pc' lv (va_rf (sQ S kd a i) :: st) S cs ss) : WS F pc lv (.int (nI i) :: .ref a :: st) S cs ss := by
  obtain ⟨d, rfl⟩ := d
  intro ls H locs hl hw hS
  obtain ⟨q, hq⟩ := wl_get hw (cel_q hk (by omega))
  have hty : ∃ Cn, aty kd = .object Cn := by
    have : kd = 11 ∨ kd = 12 ∨ kd = 13 ∨ kd = 14 := by omega
    rcases this with rfl | rfl | rfl | rfl <;> exact ⟨_, rfl⟩
  obtain ⟨Cn, hCn⟩ := hty
  refine va_aldq C.x C.b C.k (wl_P hw) q (kd - 9) hq (by rw [tYs_at _ (by omega) h1, hCn]) (vp_in_nI hi hz) d ?_
  rw [nI_clamp (by omega)]
  exact k ls H locs hl hw hS
theorem ws_alen (C : Cx F cc own dF cF sF) {a kd : Nat} (h0 : 9 ≤ kd) (h1 : kd ≤ 14) (d : At cc pc .arraylength 1 pc') (hk : sK S a = kd) (k : WS F pc' lv (.int (nI (sZ S a)) :: st) S cs ss) : WS F pc lv (.ref a :: st) S cs ss := by
  obtain ⟨d, rfl⟩ := d
  intro ls H locs hl hw hS
  by_cases h10 : kd ≤ 10
  · obtain ⟨q, hq⟩ := wl_get hw (cel_i hk (by omega) h10)
    exact va_alen C.x C.b C.k (wl_P hw) q (kd - 9) hq (tYs_at _ h0 h1) rfl d (k ls H locs hl hw hS)
  · obtain ⟨q, hq⟩ := wl_get hw (cel_q hk (by omega))
    exact va_alen C.x C.b C.k (wl_P hw) q (kd - 9) hq (tYs_at _ h0 h1) rfl d (k ls H locs hl hw hS)
theorem upd_E {S : Sto} {k a i : Nat} {x : Int32} : upd (sE S k a) i x = sE (setE S k a i x) k a := by
  funext j
  simp [upd, setE, sE, up3]
theorem upd_Q {S : Sto} {k a i : Nat} {x : Option Nat} : va_up (sQ S k a) i x = sQ (setQ S k a i x) k a := by
  funext j
  simp [va_up, setQ, sQ, up3]
theorem ws_iast (C : Cx F cc own dF cF sF) {a i : Nat} {x : Int32} (d : At cc pc .iastore 1 pc') (hk : sK S a = 9) (hi : i < sZ S a) (hz : sZ S a < 2 ^ 31) (k : WS F pc' lv st (setE S 9 a i x) cs ss) : WS F pc lv (.int x :: .int (nI i) :: .ref a :: st) S cs ss := by
  obtain ⟨d, rfl⟩ := d
  intro ls H locs hl hw hS
  obtain ⟨q, hq⟩ := wl_get hw (cel_i hk (by decide) (by decide))
  refine va_iast C.x C.b C.k (wl_P hw) (wl_D hw) hS q 0 hq rfl (vp_in_nI hi hz) d (fun H1 locs1 hP1 _ hS1 => k ls H1 locs1 hl ?_ hS1)
  rw [nI_clamp (by omega), upd_E] at hP1
  refine wl_set hw hq hP1 ?_ cel_upE
  have hk' : sK (setE S 9 a i x) a = 9 := hk
  rw [cel_i hk' (by decide) (by decide)]
  rfl
theorem ws_zast (C : Cx F cc own dF cF sF) {a i : Nat} {x : Int32} (d : At cc pc .bastore 1 pc') (hx : vp_nar .boolean x = x) (hk : sK S a = 10) (hi : i < sZ S a) (hz : sZ S a < 2 ^ 31) (k : WS F pc' lv st (setE S 10 a i x) cs ss) : WS F pc lv (.int x :: .int (nI i) :: .ref a :: st) S cs ss := by
  obtain ⟨d, rfl⟩ := d
  intro ls H locs hl hw hS
  obtain ⟨q, hq⟩ := wl_get hw (cel_i hk (by decide) (by decide))
  refine va_zast C.x C.b C.k (wl_P hw) (wl_D hw) hS q 1 hq rfl (vp_in_nI hi hz) d (fun H1 locs1 hP1 _ hS1 => k ls H1 locs1 hl ?_ hS1)
  rw [nI_clamp (by omega), hx, upd_E] at hP1
  refine wl_set hw hq hP1 ?_ cel_upE
  have hk' : sK (setE S 10 a i x) a = 10 := hk
  rw [cel_i hk' (by decide) (by decide)]
  rfl
/-- an object into an array of its own class -/
theorem ws_aast (C : Cx F cc own dF cF sF) {a i b kd ko : Nat} (d : At cc pc .aastore 1 pc') (hko : (kd = 11 ∧ ko = 4) ∨ (kd = 12 ∧ ko = 2) ∨ (kd = 13 ∧ ko = 5)) (hk : sK S a = kd) (hb : sK S b = ko) (hi : i < sZ S a) (hz : sZ S a < 2 ^ 31) (k : WS F pc' lv st (setQ S kd a i (some b)) cs ss) : WS F pc lv (.ref b :: .int (nI i) :: .ref a :: st) S cs ss := by
  obtain ⟨d, rfl⟩ := d
  intro ls H locs hl hw hS
  have hkd : 11 ≤ kd ∧ kd ≤ 14 ∧ 0 < ko ∧ ko ≤ 8 := by omega
  obtain ⟨q, hq⟩ := wl_get hw (cel_q hk (by omega))
  obtain ⟨q2, hq2⟩ := wl_get hw (cel_o hb (by omega) (by omega))
  refine va_astq C.x C.b C.k (wl_P hw) (wl_D hw) hS q (kd - 9) q2 (ko - 1) hq ?_ hq2 (vCl_at (by omega) (by omega)) (vp_in_nI hi hz) d (fun H1 locs1 hP1 _ hS1 => k ls H1 locs1 hl ?_ hS1)
  · rw [tYs_at _ (by omega) (by omega)]
    rcases hko with ⟨rfl, rfl⟩ | ⟨rfl, rfl⟩ | ⟨rfl, rfl⟩ <;> rfl
  rw [nI_clamp (by omega), upd_Q] at hP1
  refine wl_set hw hq hP1 ?_ cel_upQ
  have hk' : sK (setQ S kd a i (some b)) a = kd := hk
  rw [cel_q hk' (by omega)]
  rfl
theorem ws_aastN (C : Cx F cc own dF cF sF) {a i kd : Nat} (d : At cc pc .aastore 1 pc') (h0 : 11 ≤ kd) (h1 : kd ≤ 14) (hk : sK S a = kd) (hi : i < sZ S a) (hz : sZ S a < 2 ^ 31) (k : WS F pc' lv st (setQ S kd a i none) cs ss) : WS F pc lv (.null :: .int (nI i) :: .ref a :: st) S cs ss := by
  obtain ⟨d, rfl⟩ := d
  intro ls H locs hl hw hS
  obtain ⟨q, hq⟩ := wl_get hw (cel_q hk (by omega))
  have hty : ∃ Cn, aty kd = .object Cn := by
    have : kd = 11 ∨ kd = 12 ∨ kd = 13 ∨ kd = 14 := by omega
    rcases this with rfl | rfl | rfl | rfl <;> exact ⟨_, rfl⟩
  obtain ⟨Cn, hCn⟩ := hty
  refine va_astqN C.x C.b C.k (wl_P hw) (wl_D hw) hS q (kd - 9) hq (by rw [tYs_at _ (by omega) h1, hCn]) (vp_in_nI hi hz) d (fun H1 locs1 hP1 _ hS1 => k ls H1 locs1 hl ?_ hS1)
  rw [nI_clamp (by omega), upd_Q] at hP1
  refine wl_set hw hq hP1 ?_ cel_upQ
  have hk' : sK (setQ S kd a i none) a = kd := hk
  rw [cel_q hk' (by omega)]
  rfl
/-- a Message into an array of Objects -/
theorem ws_aastO (C : Cx F cc own dF cF sF) {a i b : Nat} (d : At cc pc .aastore 1 pc') (hk : sK S a = 14) (hb : sK S b = 7) (hi : i < sZ S a) (hz : sZ S a < 2 ^ 31) (k : WS F pc' lv st (setQ S 14 a i (some b)) cs ss) : WS F pc lv (.ref b :: .int (nI i) :: .ref a :: st) S cs ss := by
  obtain ⟨d, rfl⟩ := d
  intro ls H locs hl hw hS
  obtain ⟨q, hq⟩ := wl_get hw (cel_q hk (by omega))
  obtain ⟨q2, hq2⟩ := wl_get hw (cel_o hb (by decide) (by decide))
  refine va_astqO (E := "java/lang/Object") C.x C.b C.k (wl_P hw) (wl_D hw) hS q 5 q2 6 hq rfl C.E.1 hq2 (vCl_at (kd := 7) (by decide) (by decide)) (vp_in_nI hi hz) d (fun H1 locs1 hP1 _ hS1 => k ls H1 locs1 hl ?_ hS1)
  rw [nI_clamp (by omega), upd_Q] at hP1
  refine wl_set hw hq hP1 ?_ cel_upQ
  have hk' : sK (setQ S 14 a i (some b)) a = 14 := hk
  rw [cel_q hk' (by omega)]
  rfl
-- new cells
theorem ws_new (C : Cx F cc own dF cF sF) {idx kd n : Nat} (d : At cc pc (.new idx) 3 pc') (h0 : 0 < kd) (h8 : kd ≤ 8) (hn : nf kd = n) (hc : Cond.classLink own idx (cnm kd) ∈ TB) (hi : Cond.instantiable (cnm kd) (nf kd) ∈ TB) (hini : Cond.initialized (cnm kd) ∈ TB) (h1 : cs + 1 ≤ cF) (h2 : ss + n ≤ sF)
    (k : ∀ q, sK S q = 0 → WS F pc' lv (.ref q :: st) (newO S q kd) (cs + 1) (ss + n)) : WS F pc lv st S cs ss := by
  subst hn
  obtain ⟨d, rfl⟩ := d
  intro ls H locs hl hw hS
  refine va_new (D := xD F) C.x C.b (Ts := TB) C.2.2.2.2.2.1 (lys h0 h8) (tyk kd) (tyk_ok _ h0 h8) C.o (C.t hc) (C.t hi) (C.t hini) C.k (wl_P hw) (wl_D hw) hS C.A (vCl_at h0 h8) (fs := (List.range (nf kd)).map (fun j => defaultValue (tyk kd j))) ?_ (by rw [C.1.2.2.1]; exact h1) (by rw [C.1.2.2.2]; exact h2) d (fun q H1 hP1 hD1 hS1 => ?_)
  · intro j hj
    show _ = List.getD _ _ _
    rw [List.getD_eq_getElem?_getD, List.getElem?_map, List.getElem?_range hj]
    rfl
  have hcel : cel (xY F) (newO S q kd) q = some (.inr (kd - 1, (List.range (nf kd)).map (fun j => defaultValue (tyk kd j)))) := by
    have hk' : sK (newO S q kd) q = kd := by simp [newO, sK, va_up]
    rw [cel_o hk' h0 h8]
    congr 3
    unfold fl
    refine List.map_congr_left (fun j hj => ?_)
    rw [List.mem_range] at hj
    rw [dfk_ok kd h0 h8 j hj]
    unfold fv
    have e : (32 * kd + j) / 32 = kd := by have := nf_le kd; omega
    by_cases hr : rfk (32 * kd + j) = true
    · rw [if_pos hr, if_pos hr]
      simp [newO, sP, e, va_rf]
    · rw [if_neg hr, if_neg hr]
      simp [newO, sI, e]
  obtain ⟨w1, w2⟩ := wl_push (S' := newO S q kd) hw hP1 hD1 hcel cel_nO
  exact k q w2 ls H1 locs hl w1 hS1
theorem arr_cls (C : Cx F cc own dF cF sF) {kd : Nat} (h0 : 9 ≤ kd) (h1 : kd ≤ 14) {cA : ClassId} (h : va_K (xD F) vCl (tYs (xY F) ++ [(cA, aty kd)]) (xs F)) : cA = xY F (kd - 9) := by
  have e1 := (h.2 6 (cA, aty kd) (by simp [tYs])).2
  have e2 := (C.k.2 (kd - 9) _ (tYs_at (xY F) h0 h1)).2
  have : kd = 9 ∨ kd = 10 ∨ kd = 11 ∨ kd = 12 ∨ kd = 13 ∨ kd = 14 := by omega
  rcases this with rfl | rfl | rfl | rfl | rfl | rfl
  · exact Option.some.inj (e1.symm.trans e2)
  · exact Option.some.inj (e1.symm.trans e2)
  all_goals
    obtain ⟨_, _, _, _, _, q1⟩ := e1
    obtain ⟨_, _, _, _, _, q2⟩ := e2
    exact Option.some.inj (q1.symm.trans q2)
theorem ws_newi (C : Cx F cc own dF cF sF) {n : Nat} (d : At cc pc (.newarray .int) 2 pc') (hn : n < 100000) (hc : Cond.arrayClass .int ∈ TB) (h1 : cs + 1 ≤ cF) (h2 : ss + n ≤ sF)
    (k : ∀ q, sK S q = 0 → WS F pc' lv (.ref q :: st) (newA S q 9 n) (cs + 1) (ss + n)) : WS F pc lv (.int (nI n) :: st) S cs ss := by
  obtain ⟨d, rfl⟩ := d
  intro ls H locs hl hw hS
  refine va_newa (atype := .int) (ty := .int) (N' := n) (a0 := (n, .inl (fun _ => 0))) C.x C.b (C.t hc) rfl C.k (wl_P hw) (wl_D hw) hS C.A (fun cA => rfl) (nI_pos (by omega)) (nI_clamp (by omega)) (by show n * 4 ≤ _; omega) (by rw [C.1.2.2.1]; exact h1) (by rw [C.1.2.2.2]; exact h2) d (fun q cA H1 hK1 hP1 hD1 hS1 => ?_)
  have hcA := arr_cls C (kd := 9) (by decide) (by decide) hK1
  subst hcA
  have hcel : cel (xY F) (newA S q 9 n) q = some (.inl (xY F (9 - 9), n, .inl (fun _ => 0))) := by
    have hk' : sK (newA S q 9 n) q = 9 := by simp [newA, sK, va_up]
    rw [cel_i hk' (by decide) (by decide)]
    have e1 : sZ (newA S q 9 n) q = n := by simp [newA, sZ, va_up]
    have e2 : sE (newA S q 9 n) 9 q = fun _ => 0 := by funext j; simp [newA, sE]
    rw [e1, e2]
  obtain ⟨w1, w2⟩ := wl_push (S' := newA S q 9 n) hw hP1 hD1 hcel cel_nA
  exact k q w2 ls H1 locs hl w1 hS1
theorem ws_newz (C : Cx F cc own dF cF sF) {n : Nat} (d : At cc pc (.newarray .boolean) 2 pc') (hn : n < 100000) (hc : Cond.arrayClass .boolean ∈ TB) (h1 : cs + 1 ≤ cF) (h2 : ss + n ≤ sF)
    (k : ∀ q, sK S q = 0 → WS F pc' lv (.ref q :: st) (newA S q 10 n) (cs + 1) (ss + n)) : WS F pc lv (.int (nI n) :: st) S cs ss := by
  obtain ⟨d, rfl⟩ := d
  intro ls H locs hl hw hS
  refine va_newa (atype := .boolean) (ty := .boolean) (N' := n) (a0 := (n, .inl (fun _ => 0))) C.x C.b (C.t hc) rfl C.k (wl_P hw) (wl_D hw) hS C.A (fun cA => rfl) (nI_pos (by omega)) (nI_clamp (by omega)) (by show n * 1 ≤ _; omega) (by rw [C.1.2.2.1]; exact h1) (by rw [C.1.2.2.2]; exact h2) d (fun q cA H1 hK1 hP1 hD1 hS1 => ?_)
  have hcA := arr_cls C (kd := 10) (by decide) (by decide) hK1
  subst hcA
  have hcel : cel (xY F) (newA S q 10 n) q = some (.inl (xY F (10 - 9), n, .inl (fun _ => 0))) := by
    have hk' : sK (newA S q 10 n) q = 10 := by simp [newA, sK, va_up]
    rw [cel_i hk' (by decide) (by decide)]
    have e1 : sZ (newA S q 10 n) q = n := by simp [newA, sZ, va_up]
    have e2 : sE (newA S q 10 n) 10 q = fun _ => 0 := by funext j; simp [newA, sE]
    rw [e1, e2]
  obtain ⟨w1, w2⟩ := wl_push (S' := newA S q 10 n) hw hP1 hD1 hcel cel_nA
  exact k q w2 ls H1 locs hl w1 hS1
theorem ws_newq (C : Cx F cc own dF cF sF) {idx n kd : Nat} {Cn : String} (d : At cc pc (.anewarray idx) 3 pc') (hn : n < 100000) (h0 : 11 ≤ kd) (h14 : kd ≤ 14) (hC : aty kd = .object Cn) (hc : Cond.classLink own idx Cn ∈ TB) (ha : va_AO Cn (xs F)) (h1 : cs + 1 ≤ cF) (h2 : ss + n ≤ sF)
    (k : ∀ q, sK S q = 0 → WS F pc' lv (.ref q :: st) (newA S q kd n) (cs + 1) (ss + n)) : WS F pc lv (.int (nI n) :: st) S cs ss := by
  obtain ⟨d, rfl⟩ := d
  intro ls H locs hl hw hS
  refine va_newq (N' := n) C.x C.b C.o (C.t hc) ha C.k (wl_P hw) (wl_D hw) hS C.A (nI_pos (by omega)) (nI_clamp (by omega)) (by omega) (by rw [C.1.2.2.1]; exact h1) (by rw [C.1.2.2.2]; exact h2) d (fun q cA H1 hK1 hP1 hD1 hS1 => ?_)
  have hcA := arr_cls C (kd := kd) (by omega) (by omega) (by rw [hC]; exact hK1)
  subst hcA
  have hcel : cel (xY F) (newA S q kd n) q = some (.inl (xY F (kd - 9), n, .inr (.inr (.inr (.inr (fun _ => none)))))) := by
    have hk' : sK (newA S q kd n) q = kd := by simp [newA, sK, va_up]
    rw [cel_q hk' (by omega)]
    have e1 : sZ (newA S q kd n) q = n := by simp [newA, sZ, va_up]
    have e2 : sQ (newA S q kd n) kd q = fun _ => none := by funext j; simp [newA, sQ]
    rw [e1, e2]
  obtain ⟨w1, w2⟩ := wl_push (S' := newA S q kd n) hw hP1 hD1 hcel cel_nA
  exact k q w2 ls H1 locs hl w1 hS1
end ROWS
end
section
/-! contracts, calls, returns -/
/-- a method: name, code, locals, what it returns, how deep its calls go -/
abbrev MI : Type := MethodName × ByteArray × Nat × Option FieldType × Nat
def rmD (d mc ms : Nat) : Room := { frames := d, cells := mc, slots := ms, locals := 39 * d }
def QcT (Post : Option Value → Sto → Prop) (V : Ev) : Array Value → State → Outcome → State → Prop := fun _ st oc t => (∃ (v : Option Value) (S' : Sto), oc = .returned v ∧ Post v S' ∧ Wd (vD V) (vY V) (vA V) S' t.heap) ∧ va_F (vA V) st t
/-- the contract: from store S with arguments av, method mi returns with Post, at most mc new cells of ms slots -/
def CT (V : Ev) (mi : MI) (mc ms : Nat) (av : List Value) (S : Sto) (Post : Option Value → Sto → Prop) : Prop :=
  Met (vL V) mi.1 (Cond.code mi.1 mi.2.1 mi.2.2.1 mi.2.2.2.1 :: TB) (rmD mi.2.2.2.2 mc ms) (va_Pc av (fun U => Wd (vD V) (vY V) (vA V) S U.heap ∧ KK (vD V) (vY V) (vA V) (vZ V) U U.heap)) (QcT Post V) mc ms (vA V)
/-- the end of a walk -/
def RT (F : Fx) (mi : MI) (mc ms : Nat) (Post : Option Value → Sto → Prop) : Prop := xQ F = MQ (xb F) (QcT Post F.1) (xa F) (xs F) mc ms (xA F) ∧ (xt F).sig.returnType = mi.2.2.2.1 ∧ (xt F).locks = false ∧ (xt F).name = mi.1.name
theorem LH.entry {av : List Value} {n : Nat} (h1 : ∀ v ∈ av, v.category = 1) (hn : av.length ≤ n) : LH ((lg_sl av ++ List.replicate (n - (lg_sl av).length) Slot.unset).toArray) n (av.map some) := by
  have hsl : ∀ l : List Value, (∀ v ∈ l, v.category = 1) → lg_sl l = l.map Slot.val := by
    intro l
    induction l with
    | nil => intro _; rfl
    | cons v t ih =>
      intro h
      have hv : ¬ v.category = 2 := by rw [h v List.mem_cons_self]; decide
      have := ih (fun w hw => h w (List.mem_cons_of_mem _ hw))
      unfold lg_sl at this ⊢
      rw [List.flatMap_cons, this, if_neg hv]
      rfl
  have e := hsl av h1
  have hlen : (lg_sl av).length ≤ n := by rw [e, List.length_map]; exact hn
  have hh := lv_entry av hlen
  refine ⟨hh.1, hh.2.1, fun i v hi => ?_⟩
  rw [List.getElem?_map] at hi
  cases hav : av[i]? with
  | none => rw [hav] at hi; cases hi
  | some w =>
    rw [hav] at hi
    cases hi
    refine ⟨h1 v (List.mem_of_getElem? hav), ?_⟩
    have hl := (List.getElem?_eq_some_iff.mp hav).1
    rw [e]
    rw [List.getElem?_toArray, List.getElem?_append_left (by rw [List.length_map]; exact hl), List.getElem?_map, hav]
    rfl
theorem LH.more {ls : Array Slot} {n k : Nat} {lv : List (Option Value)} (h : LH ls n lv) : LH ls n (lv ++ List.replicate k none) := ⟨h.1, h.2.1, fun i v hi => by
  by_cases hl : i < lv.length
  · rw [List.getElem?_append_left hl] at hi
    exact h.2.2 i v hi
  · rw [List.getElem?_append_right (by omega)] at hi
    have := List.mem_of_getElem? hi
    have := List.eq_of_mem_replicate this
    cases this⟩
theorem CT.of {V : Ev} {mi : MI} {mc ms : Nat} {av : List Value} {S : Sto} {Post : Option Value → Sto → Prop} {cc : ByteArray} {own : String} {nL d : Nat} {lv : List (Option Value)} (hy : plainName mi.1.cls = true) (hcc : mi.2.1 = cc) (hown : mi.1.cls = own) (hnL : mi.2.2.1 = nL) (hd : mi.2.2.2.2 = d) (h1 : ∀ v ∈ av, v.category = 1) (hn : av.length ≤ nL) (hlv : lv = av.map some ++ List.replicate (nL - av.length) none)
    (body : ∀ F : Fx, F.1 = V → xn F = nL → Cx F cc own d mc ms → RT F mi mc ms Post → WS F 0 lv [] S 0 0) : CT V mi mc ms av S Post := by
  subst hcc; subst hown; subst hnL; subst hd; subst hlv
  refine Met.ofW (cc := mi.2.1) (maxL := mi.2.2.1) (ret := mi.2.2.2.1) hy rfl ?_
  intro p e s m args below meth c s₁ B hml hv
  obtain ⟨rfl, hW, hK⟩ := hv
  have hts : ∀ w ∈ TB, w.before av.toArray s = true := fun w hw => atoms_spec (ws := Cond.code mi.1 mi.2.1 mi.2.2.1 mi.2.2.2.1 :: TB) B.pre w (List.mem_cons_of_mem _ hw)
  have k := body (V, (p, e, rmD mi.2.2.2.2 mc ms, s, m, av.toArray, below), (meth, c, MQ below (QcT Post V) av.toArray s mc ms (vA V)), mi.2.2.1) rfl rfl
    ⟨⟨Nat.le_refl _, Nat.le_refl _, rfl, rfl⟩, B.exec, B.bytes, hml, findClass_of_methodNamed B.named, hts, hK⟩ ⟨rfl, B.returns, B.notSynchronized, (name_of_methodNamed B.named B.method).1⟩
  rw [lg_entry_eq]
  exact k _ s.heap [] (LH.entry h1 hn).more hW va_S.rf
section ROWS
variable {F : Fx} {cc : ByteArray} {own : String} {pc pc' tgt : Nat} {lv : List (Option Value)} {st : List Value} {S : Sto} {cs ss : Nat} {dF cF sF : Nat} {mi : MI} {mc ms : Nat} {Post : Option Value → Sto → Prop}
theorem ws_iret (C : Cx F cc own dF cF sF) (R : RT F mi mc ms Post) (d : At cc pc .ireturn 1 pc') (hr : mi.2.2.2.1 = some .int) {v : Int32} (hc : cs ≤ mc) (hs : ss ≤ ms) (h : Post (some (.int v)) S) : WS F pc lv [.int v] S cs ss := by
  intro ls H locs hl hw hS
  refine W.widen hc hs ?_
  rw [R.1]
  exact W.iret C.x C.b (R.2.1.trans hr) (fun t ht hW => ⟨⟨_, S, rfl, h, by rw [ht]; exact hw⟩, hS.F ht⟩) hS.2.2 d.1 R.2.2.1
theorem ws_zret (C : Cx F cc own dF cF sF) (R : RT F mi mc ms Post) (d : At cc pc .ireturn 1 pc') (hr : mi.2.2.2.1 = some .boolean) {v : Int32} (hv : v = 0 ∨ v = 1) (hc : cs ≤ mc) (hs : ss ≤ ms) (h : Post (some (.int v)) S) : WS F pc lv [.int v] S cs ss := by
  intro ls H locs hl hw hS
  refine W.widen hc hs ?_
  rw [R.1]
  exact W.zret C.x C.b (R.2.1.trans hr) (by rcases hv with rfl | rfl <;> rfl) (fun t ht hW => ⟨⟨_, S, rfl, h, by rw [ht]; exact hw⟩, hS.F ht⟩) hS.2.2 d.1 R.2.2.1
theorem ws_vret (C : Cx F cc own dF cF sF) (R : RT F mi mc ms Post) (d : At cc pc .return_ 1 pc') (hr : mi.2.2.2.1 = none) (hc : cs ≤ mc) (hs : ss ≤ ms) (h : Post none S) : WS F pc lv [] S cs ss := by
  intro ls H locs hl hw hS
  refine W.widen hc hs ?_
  rw [R.1]
  exact W.vret C.x C.b (R.2.1.trans hr) (fun t ht hW => ⟨⟨_, S, rfl, h, by rw [ht]; exact hw⟩, hS.F ht⟩) hS.2.2 d.1 R.2.2.1
theorem ws_aret (C : Cx F cc own dF cF sF) (R : RT F mi mc ms Post) (d : At cc pc .areturn 1 pc') {rt : FieldType} (hr : mi.2.2.2.1 = some rt) (hrt : (∃ n, rt = .object n) ∨ ∃ t, rt = .array t) {v : Value} (hv : v = .null ∨ ∃ a, v = .ref a) (hc : cs ≤ mc) (hs : ss ≤ ms) (h : Post (some v) S) : WS F pc lv [v] S cs ss := by
  intro ls H locs hl hw hS
  refine W.widen hc hs ?_
  rw [R.1]
  exact W.aret C.x C.b (R.2.1.trans hr) hrt hv (fun t ht hW => ⟨⟨_, S, rfl, h, by rw [ht]; exact hw⟩, hS.F ht⟩) hS.2.2 d.1 R.2.2.1
/-- words of a call -/
def cOK (mi : MI) (n : Nat) : Prop := Cond.code mi.1 mi.2.1 mi.2.2.1 mi.2.2.2.1 ∈ TB ∧ Cond.initialized mi.1.cls ∈ TB ∧ mi.1.cls ≠ "java/lang/invoke/MethodHandle" ∧ mi.1.cls ≠ "java/lang/invoke/VarHandle" ∧ (parseMethodDescriptor mi.1.desc).map (fun d => d.parameters.length) = some n ∧ mi.2.2.1 ≤ 20
def cV (own : String) (idx kd : Nat) (mi : MI) (n : Nat) : Prop := cOK mi n ∧ Cond.methodLink own idx mi.1 ∈ TB ∧ Cond.instanceMethod mi.1 ∈ TB ∧ Cond.selects (cnm kd) mi.1 mi.1 ∈ TB ∧ 0 < kd ∧ kd ≤ 8
def cS (own : String) (idx : Nat) (mi : MI) (n : Nat) : Prop := cOK mi n ∧ Cond.methodLink own idx mi.1 ∈ TB ∧ Cond.static mi.1 ∈ TB
def cI (own : String) (idx : Nat) (mi : MI) (n : Nat) : Prop := cOK mi n ∧ Cond.methodLink own idx mi.1 ∈ TB ∧ Cond.instanceMethod mi.1 ∈ TB ∧ mi.1.name = "<init>" ∧ mi.2.2.2.1 = none
theorem cB (C : Cx F cc own dF cF sF) {idx n : Nat} (h : cOK mi n) (hl : Cond.methodLink own idx mi.1 ∈ TB) (hd : mi.2.2.2.2 < dF) : CallB (xR F) (xs F) (xa F) own idx mi.1 mi.2.1 mi.2.2.1 mi.2.2.2.1 (Cond.code mi.1 mi.2.1 mi.2.2.1 mi.2.2.2.1 :: TB) (rmD mi.2.2.2.2 mc ms) mc ms n := by
  obtain ⟨h1, h2, h3, h4, h5, h6⟩ := h
  refine callB_of n C.2.2.2.2.2.1 (tb_good (fun _ h => h) h1) rfl rfl rfl (C.t h2) (C.t hl) ⟨h3, h4, h5⟩ ⟨?_, ?_⟩
  · show mi.2.2.2.2 + 1 ≤ _
    have := C.1.1
    omega
  · show 8 + (mi.2.2.1 + 11) + 39 * mi.2.2.2.2 ≤ _
    have := C.1.2.1
    omega
theorem kk_pre (C : Cx F cc own dF cF sF) {H : Heap} {locs : List Loc} (hw : Wd (xD F) (xY F) (xA F) S H) (hS : va_S (xA F) (xs F).heap H locs) (av : List Value) : PreS (xs F) H (va_Pc av (fun U => Wd (vD F.1) (vY F.1) (vA F.1) S U.heap ∧ KK (vD F.1) (vY F.1) (vA F.1) (vZ F.1) U U.heap)) av := by
  refine ⟨fun a U g mk q => ?_, fun U hU hW => ?_⟩
  · obtain ⟨q0, q1, q2, q3, q4, q5⟩ := q
    exact ⟨q0, q1, va_K.moved (u := U) (U := U.calling g mk a) (Vm.Alike.refl U.vm) q2, ⟨va_Z.moved (u := U) (U := U.calling g mk a) (Vm.Alike.refl U.vm) q3.1, va_T.moved (u := U) (U := U.calling g mk a) (Vm.Alike.refl U.vm) q3.2⟩, q4, EX.same (s := U) (U := U.calling g mk a) rfl q5⟩
  · have hsz : ∀ a : Nat, a < (xs F).heap.size → ¬ xA F a → H[a]? = (xs F).heap[a]? := fun a h1 h2 => hS.2.1 a h1 h2
    refine ⟨rfl, by rw [hU]; exact hw, va_K.moved hW.alike C.k, ⟨?_, ?_⟩, fun q hq => C.A q (Nat.le_trans hS.1 (by rw [hU] at hq; exact hq)), C.E.warm hW⟩
    · rw [hU]; exact (C.z.1.kept hsz).moved hW.alike
    · rw [hU]; exact (C.z.2.kept hsz).moved hW.alike
theorem ws_back (C : Cx F cc own dF cF sF) {H : Heap} {locs : List Loc} {ls : Array Slot} {st0 rest : List Value} {av : Array Value} (hl : LH ls (xn F) lv) (hS : va_S (xA F) (xs F).heap H locs)
    (hr : va_Run (xp F) (xl F) (xe F) (xR F) (xs F) (xm F) (xa F) (xb F) (xt F) (xc F) H locs cs ss mc ms (F0 (xm F) pc ls st0) rest (QcT Post F.1 av) (vA F.1))
    (k : ∀ (v : Option Value) (S' : Sto), Post v S' → WS F (pc + 3) lv (v.toList ++ rest) S' (cs + mc) (ss + ms)) : W (xp F) (xl F) (xe F) (xR F) (xs F) (xm F) (xa F) (xb F) (xt F) (xc F) H locs cs ss (xQ F) (F0 (xm F) pc ls st0) := by
  intro T hT X
  obtain ⟨v, st₀, t, T', L, h0, X', hL, e1, e2, ⟨⟨v', S', hv, hp, hw'⟩, hz, hk⟩, st⟩ := hr T hT X
  cases hv
  rw [h0] at hz hk
  obtain ⟨t2, a1, b1⟩ := k v S' hp ls T'.heap (locs ++ L) hl (by rw [e1]; exact hw')
    ⟨Nat.le_trans hS.1 (by rw [e1]; exact hz), fun q h1 h2 => by rw [e1, hk q (Nat.lt_of_lt_of_le h1 hS.1) h2]; exact hS.2.1 q h1 h2, fun q hq => by
      rcases List.mem_append.mp hq with h | h
      · exact hS.2.2 q h
      · exact hL q h⟩ T' rfl X'
  exact ⟨t2, st t2 a1, b1⟩
theorem ws_callV (C : Cx F cc own dF cF sF) {idx kd n b : Nat} {As rest : List Value} (hw0 : cV own idx kd mi n) (hM : CT F.1 mi mc ms (.ref b :: As) S Post) (d : At cc pc (.invokevirtual idx) 3 pc') (hst : st = As.reverse ++ .ref b :: rest) (hn : As.length = n) (hb : sK S b = kd) (hroom : (rest.map fun v => v.category).sum ≤ 8) (hd : mi.2.2.2.2 < dF) (hc : cs + mc ≤ cF) (hs : ss + ms ≤ sF)
    (k : ∀ (v : Option Value) (S' : Sto), Post v S' → WS F pc' lv (v.toList ++ rest) S' (cs + mc) (ss + ms)) : WS F pc lv st S cs ss := by
  obtain ⟨d, rfl⟩ := d
  obtain ⟨w1, w2, w3, w4, w5, w6⟩ := hw0
  intro ls H locs hl hw hS
  obtain ⟨q, hq⟩ := wl_get hw (cel_o hb w5 w6)
  have hpre := kk_pre C hw hS (.ref b :: As)
  refine ws_back C hl hS (va_runV ⟨C.x, C.b, C.ml, C.o, C.2.2.2.2.2.1⟩ hM ⟨cB C w1 w2 hd, C.t w3, C.t w4⟩ ⟨hpre.1, va_recv C.k (wl_P hw) (vCl_at w5 w6) hq, hpre.2⟩ rfl hn hl.1 hst (lv_room hroom) d ⟨by rw [C.1.2.2.1]; exact hc, by rw [C.1.2.2.2]; exact hs⟩) k
theorem ws_callS (C : Cx F cc own dF cF sF) {idx n : Nat} {As rest : List Value} (hw0 : cS own idx mi n) (hM : CT F.1 mi mc ms As S Post) (d : At cc pc (.invokestatic idx) 3 pc') (hst : st = As.reverse ++ rest) (hn : As.length = n) (hroom : (rest.map fun v => v.category).sum ≤ 8) (hd : mi.2.2.2.2 < dF) (hc : cs + mc ≤ cF) (hs : ss + ms ≤ sF)
    (k : ∀ (v : Option Value) (S' : Sto), Post v S' → WS F pc' lv (v.toList ++ rest) S' (cs + mc) (ss + ms)) : WS F pc lv st S cs ss := by
  obtain ⟨d, rfl⟩ := d
  obtain ⟨w1, w2, w3⟩ := hw0
  intro ls H locs hl hw hS
  exact ws_back C hl hS (va_runS ⟨C.x, C.b, C.ml, C.o, C.2.2.2.2.2.1⟩ hM ⟨cB C w1 w2 hd, C.t w3⟩ (kk_pre C hw hS As) rfl hn hl.1 hst (lv_room hroom) d ⟨by rw [C.1.2.2.1]; exact hc, by rw [C.1.2.2.2]; exact hs⟩) k
theorem ws_callI (C : Cx F cc own dF cF sF) {idx n b : Nat} {As rest : List Value} (hw0 : cI own idx mi n) (hM : CT F.1 mi mc ms (.ref b :: As) S Post) (d : At cc pc (.invokespecial idx) 3 pc') (hst : st = As.reverse ++ .ref b :: rest) (hn : As.length = n) (hroom : (rest.map fun v => v.category).sum ≤ 8) (hd : mi.2.2.2.2 < dF) (hc : cs + mc ≤ cF) (hs : ss + ms ≤ sF)
    (k : ∀ (v : Option Value) (S' : Sto), Post v S' → WS F pc' lv (v.toList ++ rest) S' (cs + mc) (ss + ms)) : WS F pc lv st S cs ss := by
  obtain ⟨d, rfl⟩ := d
  obtain ⟨w1, w2, w3, w4, w5⟩ := hw0
  intro ls H locs hl hw hS
  have hcb := cB (mc := mc) (ms := ms) C w1 w2 hd
  rw [w5] at hcb
  have hM' : Met (vL F.1) mi.1 (Cond.code mi.1 mi.2.1 mi.2.2.1 none :: TB) (rmD mi.2.2.2.2 mc ms) (va_Pc (.ref b :: As) (fun U => Wd (vD F.1) (vY F.1) (vA F.1) S U.heap ∧ KK (vD F.1) (vY F.1) (vA F.1) (vZ F.1) U U.heap)) (QcT Post F.1) mc ms (vA F.1) := by
    unfold CT at hM
    rw [w5] at hM
    exact hM
  exact ws_back C hl hS (va_runI ⟨C.x, C.b, C.ml, C.o, C.2.2.2.2.2.1⟩ hM' ⟨hcb, w4, C.t w3⟩ (kk_pre C hw hS (.ref b :: As)) rfl hn hl.1 hst (lv_room hroom) d ⟨by rw [C.1.2.2.1]; exact hc, by rw [C.1.2.2.2]; exact hs⟩) k
theorem ws_objInit (C : Cx F cc own dF cF sF) {idx a : Nat} (hl0 : Cond.methodLink own idx objectInit ∈ TB) (h1 : Cond.instanceMethod objectInit ∈ TB) (h2 : Cond.code objectInit ⟨#[0xb1]⟩ 1 none ∈ TB) (d : At cc pc (.invokespecial idx) 3 pc') (hroom : (st.map fun v => v.category).sum ≤ 8) (hd : 0 < dF) (k : WS F pc' lv st S cs ss) : WS F pc lv (.ref a :: st) S cs ss := by
  obtain ⟨d, rfl⟩ := d
  intro ls H locs hl hw hS
  have hlr := lv_room (m := xm F) (pc := pc) (ls := ls) (rest := .ref a :: st) hroom
  refine W.objInit C.x C.b C.o (C.t hl0) (C.t h1) (C.t h2) rfl (by rw [C.ml]; exact hl.1) (a := a) (rest := st) rfl d ?_ ?_ (k ls H locs hl hw hS)
  · have := C.1.1; omega
  · have := C.1.2.1; omega
end ROWS
end
section
/-! names of methods, words of calls -/
def mi_X_init : MI := (⟨"ChainVersions", "<init>", "(I)V"⟩, prog_1_method_1_code, 5, none, 4)
def mi_AL_init : MI := (⟨"java/util/ArrayList", "<init>", "()V"⟩, prog_16_method_2_code, 1, none, 3)
def mi_AbL_init : MI := (⟨"java/util/AbstractList", "<init>", "()V"⟩, prog_15_method_1_code, 1, none, 2)
def mi_AbC_init : MI := (⟨"java/util/AbstractCollection", "<init>", "()V"⟩, prog_14_method_1_code, 1, none, 1)
def mi_Ma_min : MI := (⟨"java/lang/Math", "min", "(II)I"⟩, prog_12_method_69_code, 2, some (FieldType.int), 0)
def mi_Ma_max : MI := (⟨"java/lang/Math", "max", "(II)I"⟩, prog_12_method_65_code, 2, some (FieldType.int), 0)
def mi_Cf_init : MI := (⟨"ChainVersions$Configuration", "<init>", "(I[I)V"⟩, prog_3_method_1_code, 3, none, 1)
def mi_Nd_init : MI := (⟨"ChainVersions$Node", "<init>", "(ILChainVersions$Configuration;Z)V"⟩, prog_5_method_1_code, 4, none, 1)
def mi_Cl_init : MI := (⟨"ChainVersions$Client", "<init>", "()V"⟩, prog_2_method_1_code, 1, none, 1)
def mi_X_put : MI := (⟨"ChainVersions", "put", "(III)I"⟩, prog_1_method_2_code, 5, some (FieldType.int), 11)
def mi_X_clientOf : MI := (⟨"ChainVersions", "clientOf", "(I)LChainVersions$Client;"⟩, prog_1_method_22_code, 2, some ((FieldType.object "ChainVersions$Client")), 0)
def mi_X_isKey : MI := (⟨"ChainVersions", "isKey", "(I)Z"⟩, prog_1_method_21_code, 1, some (FieldType.boolean), 0)
def mi_Cl_isUnderWay : MI := (⟨"ChainVersions$Client", "isUnderWay", "()Z"⟩, prog_2_method_2_code, 1, some (FieldType.boolean), 0)
def mi_Cl_beginWrite : MI := (⟨"ChainVersions$Client", "beginWrite", "(II)V"⟩, prog_2_method_5_code, 3, none, 0)
def mi_X_sendWrite : MI := (⟨"ChainVersions", "sendWrite", "(ILChainVersions$Client;)I"⟩, prog_1_method_29_code, 5, some (FieldType.int), 10)
def mi_Cf_head : MI := (⟨"ChainVersions$Configuration", "head", "()I"⟩, prog_3_method_3_code, 1, some (FieldType.int), 1)
def mi_Cf_memberAt : MI := (⟨"ChainVersions$Configuration", "memberAt", "(I)I"⟩, prog_3_method_2_code, 2, some (FieldType.int), 0)
def mi_X_livingNode : MI := (⟨"ChainVersions", "livingNode", "(I)LChainVersions$Node;"⟩, prog_1_method_24_code, 3, some ((FieldType.object "ChainVersions$Node")), 0)
def mi_Nd_isHead : MI := (⟨"ChainVersions$Node", "isHead", "()Z"⟩, prog_5_method_2_code, 1, some (FieldType.boolean), 2)
def mi_Nd_numberOf : MI := (⟨"ChainVersions$Node", "numberOf", "(II)I"⟩, prog_5_method_11_code, 5, some (FieldType.int), 1)
def mi_Nd_updateAt : MI := (⟨"ChainVersions$Node", "updateAt", "(I)LChainVersions$Update;"⟩, prog_5_method_8_code, 2, some ((FieldType.object "ChainVersions$Update")), 0)
def mi_Nd_isFull : MI := (⟨"ChainVersions$Node", "isFull", "()Z"⟩, prog_5_method_6_code, 1, some (FieldType.boolean), 0)
def mi_Up_init : MI := (⟨"ChainVersions$Update", "<init>", "(IIII)V"⟩, prog_6_method_1_code, 5, none, 1)
def mi_X_take : MI := (⟨"ChainVersions", "take", "(LChainVersions$Node;LChainVersions$Update;)V"⟩, prog_1_method_34_code, 4, none, 9)
def mi_Nd_hold : MI := (⟨"ChainVersions$Node", "hold", "(LChainVersions$Update;)Z"⟩, prog_5_method_7_code, 2, some (FieldType.boolean), 0)
def mi_Nd_isTail : MI := (⟨"ChainVersions$Node", "isTail", "()Z"⟩, prog_5_method_3_code, 1, some (FieldType.boolean), 2)
def mi_Cf_tail : MI := (⟨"ChainVersions$Configuration", "tail", "()I"⟩, prog_3_method_4_code, 1, some (FieldType.int), 1)
def mi_X_settleAll : MI := (⟨"ChainVersions", "settleAll", "(LChainVersions$Node;)V"⟩, prog_1_method_35_code, 3, none, 2)
def mi_X_finishWrite : MI := (⟨"ChainVersions", "finishWrite", "(LChainVersions$Update;I)V"⟩, prog_1_method_36_code, 4, none, 1)
def mi_Cl_finish : MI := (⟨"ChainVersions$Client", "finish", "(III)V"⟩, prog_2_method_7_code, 4, none, 0)
def mi_X_sendAck : MI := (⟨"ChainVersions", "sendAck", "(LChainVersions$Node;)V"⟩, prog_1_method_43_code, 3, none, 8)
def mi_Nd_predecessor : MI := (⟨"ChainVersions$Node", "predecessor", "()I"⟩, prog_5_method_4_code, 1, some (FieldType.int), 1)
def mi_Cf_neighbour : MI := (⟨"ChainVersions$Configuration", "neighbour", "(II)I"⟩, prog_3_method_5_code, 5, some (FieldType.int), 0)
def mi_Mg_init : MI := (⟨"ChainVersions$Message", "<init>", "(ILChainVersions$Node;I)V"⟩, prog_4_method_1_code, 4, none, 1)
def mi_X_send : MI := (⟨"ChainVersions", "send", "(LChainVersions$Message;)V"⟩, prog_1_method_44_code, 3, none, 7)
def mi_AL_add_0 : MI := (⟨"java/util/ArrayList", "add", "(Ljava/lang/Object;)Z"⟩, prog_16_method_25_code, 2, some (FieldType.boolean), 6)
def mi_AL_add_1 : MI := (⟨"java/util/ArrayList", "add", "(Ljava/lang/Object;[Ljava/lang/Object;I)V"⟩, prog_16_method_24_code, 4, none, 5)
def mi_AL_grow_0 : MI := (⟨"java/util/ArrayList", "grow", "()[Ljava/lang/Object;"⟩, prog_16_method_7_code, 1, some ((FieldType.array (FieldType.object "java/lang/Object"))), 4)
def mi_AL_grow_1 : MI := (⟨"java/util/ArrayList", "grow", "(I)[Ljava/lang/Object;"⟩, prog_16_method_6_code, 4, some ((FieldType.array (FieldType.object "java/lang/Object"))), 3)
def mi_ASu_newLength : MI := (⟨"jdk/internal/util/ArraysSupport", "newLength", "(III)I"⟩, prog_23_method_27_code, 4, some (FieldType.int), 1)
def mi_ASu_hugeLength : MI := (⟨"jdk/internal/util/ArraysSupport", "hugeLength", "(II)I"⟩, prog_23_method_28_code, 3, some (FieldType.int), 0)
def mi_As_copyOf_0 : MI := (⟨"java/util/Arrays", "copyOf", "([Ljava/lang/Object;I)[Ljava/lang/Object;"⟩, prog_17_method_119_code, 2, some ((FieldType.array (FieldType.object "java/lang/Object"))), 2)
def mi_As_copyOf_1 : MI := (⟨"java/util/Arrays", "copyOf", "([Ljava/lang/Object;ILjava/lang/Class;)[Ljava/lang/Object;"⟩, prog_17_method_120_code, 4, some ((FieldType.array (FieldType.object "java/lang/Object"))), 1)
def mi_Nd_successor : MI := (⟨"ChainVersions$Node", "successor", "()I"⟩, prog_5_method_5_code, 1, some (FieldType.int), 1)
def mi_X_get : MI := (⟨"ChainVersions", "get", "(III)I"⟩, prog_1_method_3_code, 6, some (FieldType.int), 9)
def mi_X_isNodeNumber : MI := (⟨"ChainVersions", "isNodeNumber", "(I)Z"⟩, prog_1_method_20_code, 1, some (FieldType.boolean), 0)
def mi_X_readyNode : MI := (⟨"ChainVersions", "readyNode", "(I)LChainVersions$Node;"⟩, prog_1_method_25_code, 3, some ((FieldType.object "ChainVersions$Node")), 1)
def mi_Cl_beginRead : MI := (⟨"ChainVersions$Client", "beginRead", "(I)V"⟩, prog_2_method_6_code, 2, none, 0)
def mi_X_serve : MI := (⟨"ChainVersions", "serve", "(ILChainVersions$Client;LChainVersions$Node;)I"⟩, prog_1_method_30_code, 5, some (FieldType.int), 8)
def mi_Nd_isClean : MI := (⟨"ChainVersions$Node", "isClean", "(I)Z"⟩, prog_5_method_14_code, 3, some (FieldType.boolean), 2)
def mi_Nd_isOfKey : MI := (⟨"ChainVersions$Node", "isOfKey", "(II)Z"⟩, prog_5_method_10_code, 4, some (FieldType.boolean), 1)
def mi_Nd_cleanVersion : MI := (⟨"ChainVersions$Node", "cleanVersion", "(I)I"⟩, prog_5_method_12_code, 3, some (FieldType.int), 2)
def mi_X_finishRead : MI := (⟨"ChainVersions", "finishRead", "(LChainVersions$Client;LChainVersions$Node;I)V"⟩, prog_1_method_32_code, 3, none, 2)
def mi_Nd_valueOf : MI := (⟨"ChainVersions$Node", "valueOf", "(I)I"⟩, prog_5_method_9_code, 3, some (FieldType.int), 1)
def mi_X_retry : MI := (⟨"ChainVersions", "retry", "(II)I"⟩, prog_1_method_4_code, 5, some (FieldType.int), 11)
def mi_X_status : MI := (⟨"ChainVersions", "status", "(I)I"⟩, prog_1_method_5_code, 3, some (FieldType.int), 1)
def mi_X_number : MI := (⟨"ChainVersions", "number", "(I)I"⟩, prog_1_method_6_code, 3, some (FieldType.int), 1)
def mi_Cl_isDone : MI := (⟨"ChainVersions$Client", "isDone", "()Z"⟩, prog_2_method_3_code, 1, some (FieldType.boolean), 0)
def mi_X_value : MI := (⟨"ChainVersions", "value", "(I)I"⟩, prog_1_method_7_code, 3, some (FieldType.int), 1)
def mi_X_deliver : MI := (⟨"ChainVersions", "deliver", "(II)I"⟩, prog_1_method_8_code, 6, some (FieldType.int), 12)
def mi_X_firstOnLink : MI := (⟨"ChainVersions", "firstOnLink", "(II)I"⟩, prog_1_method_45_code, 4, some (FieldType.int), 3)
def mi_AL_size : MI := (⟨"java/util/ArrayList", "size", "()I"⟩, prog_16_method_8_code, 1, some (FieldType.int), 0)
def mi_AL_get : MI := (⟨"java/util/ArrayList", "get", "(I)Ljava/lang/Object;"⟩, prog_16_method_20_code, 2, some ((FieldType.object "java/lang/Object")), 2)
def mi_Ob_checkIndex : MI := (⟨"java/util/Objects", "checkIndex", "(II)I"⟩, prog_20_method_17_code, 2, some (FieldType.int), 1)
def mi_Pr_checkIndex : MI := (⟨"jdk/internal/util/Preconditions", "checkIndex", "(IILjava/util/function/BiFunction;)I"⟩, prog_24_method_11_code, 3, some (FieldType.int), 0)
def mi_AL_elementData : MI := (⟨"java/util/ArrayList", "elementData", "(I)Ljava/lang/Object;"⟩, prog_16_method_18_code, 2, some ((FieldType.object "java/lang/Object")), 0)
def mi_Mg_isOnLink : MI := (⟨"ChainVersions$Message", "isOnLink", "(II)Z"⟩, prog_4_method_2_code, 3, some (FieldType.boolean), 0)
def mi_AL_remove : MI := (⟨"java/util/ArrayList", "remove", "(I)Ljava/lang/Object;"⟩, prog_16_method_29_code, 4, some ((FieldType.object "java/lang/Object")), 2)
def mi_AL_fastRemove : MI := (⟨"java/util/ArrayList", "fastRemove", "([Ljava/lang/Object;I)V"⟩, prog_16_method_39_code, 4, none, 1)
def mi_X_receive : MI := (⟨"ChainVersions", "receive", "(LChainVersions$Node;LChainVersions$Message;)V"⟩, prog_1_method_33_code, 3, none, 11)
def mi_X_settleUpTo : MI := (⟨"ChainVersions", "settleUpTo", "(LChainVersions$Node;I)V"⟩, prog_1_method_37_code, 3, none, 9)
def mi_X_answer : MI := (⟨"ChainVersions", "answer", "(LChainVersions$Node;LChainVersions$Message;)V"⟩, prog_1_method_38_code, 4, none, 8)
def mi_X_useAnswer : MI := (⟨"ChainVersions", "useAnswer", "(LChainVersions$Node;LChainVersions$Message;)V"⟩, prog_1_method_39_code, 5, none, 4)
def mi_Cl_isReadingAt : MI := (⟨"ChainVersions$Client", "isReadingAt", "(I)Z"⟩, prog_2_method_4_code, 2, some (FieldType.boolean), 0)
def mi_Nd_hasVersion : MI := (⟨"ChainVersions$Node", "hasVersion", "(II)Z"⟩, prog_5_method_15_code, 3, some (FieldType.boolean), 3)
def mi_X_receiveCopy : MI := (⟨"ChainVersions", "receiveCopy", "(LChainVersions$Node;LChainVersions$Message;)V"⟩, prog_1_method_40_code, 5, none, 10)
def mi_X_madeNode : MI := (⟨"ChainVersions", "madeNode", "(I)LChainVersions$Node;"⟩, prog_1_method_23_code, 2, some ((FieldType.object "ChainVersions$Node")), 1)
def mi_X_tellNeighbours : MI := (⟨"ChainVersions", "tellNeighbours", "(LChainVersions$Node;)V"⟩, prog_1_method_41_code, 2, none, 9)
def mi_X_sendCopy : MI := (⟨"ChainVersions", "sendCopy", "(LChainVersions$Node;)V"⟩, prog_1_method_42_code, 3, none, 8)
def mi_X_waiting : MI := (⟨"ChainVersions", "waiting", "(II)I"⟩, prog_1_method_9_code, 5, some (FieldType.int), 3)
def mi_X_stop : MI := (⟨"ChainVersions", "stop", "(I)Z"⟩, prog_1_method_10_code, 3, some (FieldType.boolean), 4)
def mi_X_hasOtherReadyNode : MI := (⟨"ChainVersions", "hasOtherReadyNode", "(I)Z"⟩, prog_1_method_26_code, 3, some (FieldType.boolean), 2)
def mi_X_loseMessagesTo : MI := (⟨"ChainVersions", "loseMessagesTo", "(II)V"⟩, prog_1_method_46_code, 5, none, 3)
def mi_X_join : MI := (⟨"ChainVersions", "join", "()I"⟩, prog_1_method_11_code, 2, some (FieldType.int), 3)
def mi_Cf_with : MI := (⟨"ChainVersions$Configuration", "with", "(I)LChainVersions$Configuration;"⟩, prog_3_method_6_code, 3, some ((FieldType.object "ChainVersions$Configuration")), 2)
def mi_X_tick : MI := (⟨"ChainVersions", "tick", "()I"⟩, prog_1_method_12_code, 3, some (FieldType.int), 4)
def mi_X_isLongSilent : MI := (⟨"ChainVersions", "isLongSilent", "(I)Z"⟩, prog_1_method_27_code, 3, some (FieldType.boolean), 2)
def mi_X_withoutSilent : MI := (⟨"ChainVersions", "withoutSilent", "(I)LChainVersions$Configuration;"⟩, prog_1_method_28_code, 6, some ((FieldType.object "ChainVersions$Configuration")), 3)
def mi_X_adopt : MI := (⟨"ChainVersions", "adopt", "(I)Z"⟩, prog_1_method_13_code, 3, some (FieldType.boolean), 10)
def mi_X_serveWaitingReads : MI := (⟨"ChainVersions", "serveWaitingReads", "(LChainVersions$Node;)V"⟩, prog_1_method_31_code, 3, none, 9)
def mi_X_member : MI := (⟨"ChainVersions", "member", "(I)I"⟩, prog_1_method_14_code, 2, some (FieldType.int), 1)
def mi_X_epoch : MI := (⟨"ChainVersions", "epoch", "(I)I"⟩, prog_1_method_15_code, 3, some (FieldType.int), 1)
def mi_X_length : MI := (⟨"ChainVersions", "length", "(I)I"⟩, prog_1_method_16_code, 3, some (FieldType.int), 2)
def mi_X_settled : MI := (⟨"ChainVersions", "settled", "(I)I"⟩, prog_1_method_17_code, 3, some (FieldType.int), 2)
def mi_X_version : MI := (⟨"ChainVersions", "version", "(III)I"⟩, prog_1_method_18_code, 5, some (FieldType.int), 4)
def mi_Nd_versionAt : MI := (⟨"ChainVersions$Node", "versionAt", "(II)I"⟩, prog_5_method_13_code, 6, some (FieldType.int), 3)
def mi_X_look : MI := (⟨"ChainVersions", "look", "(III)I"⟩, prog_1_method_19_code, 5, some (FieldType.int), 4)
def mi_L_cell : MI := (⟨"ChainVersionsLaw", "cell", "([II)I"⟩, method_2_code, 2, some (FieldType.int), 0)
def mi_M_init : MI := (⟨"ChainVersionsModel", "<init>", "(I)V"⟩, prog_8_method_1_code, 3, none, 1)
def mi_M_put : MI := (⟨"ChainVersionsModel", "put", "(III)I"⟩, prog_8_method_24_code, 4, some (FieldType.int), 4)
def mi_M_outside : MI := (⟨"ChainVersionsModel", "outside", "(II)Z"⟩, prog_8_method_2_code, 2, some (FieldType.boolean), 0)
def mi_M_sendWrite : MI := (⟨"ChainVersionsModel", "sendWrite", "(I)I"⟩, prog_8_method_20_code, 4, some (FieldType.int), 3)
def mi_M_isIn : MI := (⟨"ChainVersionsModel", "isIn", "(II)Z"⟩, prog_8_method_3_code, 3, some (FieldType.boolean), 0)
def mi_M_predecessor : MI := (⟨"ChainVersionsModel", "predecessor", "(I)I"⟩, prog_8_method_4_code, 3, some (FieldType.int), 1)
def mi_M_take : MI := (⟨"ChainVersionsModel", "take", "(IIIII)V"⟩, prog_8_method_16_code, 7, none, 2)
def mi_M_successor : MI := (⟨"ChainVersionsModel", "successor", "(I)I"⟩, prog_8_method_5_code, 3, some (FieldType.int), 1)
def mi_M_settleAll : MI := (⟨"ChainVersionsModel", "settleAll", "(I)V"⟩, prog_8_method_15_code, 4, none, 0)
def mi_M_send : MI := (⟨"ChainVersionsModel", "send", "(IIIII)V"⟩, prog_8_method_11_code, 6, none, 0)
def mi_M_get : MI := (⟨"ChainVersionsModel", "get", "(III)I"⟩, prog_8_method_25_code, 4, some (FieldType.int), 3)
def mi_M_serves : MI := (⟨"ChainVersionsModel", "serves", "(I)Z"⟩, prog_8_method_7_code, 2, some (FieldType.boolean), 1)
def mi_M_serve : MI := (⟨"ChainVersionsModel", "serve", "(II)I"⟩, prog_8_method_19_code, 4, some (FieldType.int), 2)
def mi_M_isClean : MI := (⟨"ChainVersionsModel", "isClean", "(II)Z"⟩, prog_8_method_8_code, 4, some (FieldType.boolean), 0)
def mi_M_cleanNumber : MI := (⟨"ChainVersionsModel", "cleanNumber", "(II)I"⟩, prog_8_method_9_code, 4, some (FieldType.int), 0)
def mi_M_done : MI := (⟨"ChainVersionsModel", "done", "(III)V"⟩, prog_8_method_18_code, 4, none, 1)
def mi_M_valueAt : MI := (⟨"ChainVersionsModel", "valueAt", "(II)I"⟩, prog_8_method_10_code, 3, some (FieldType.int), 0)
def mi_M_tailOf : MI := (⟨"ChainVersionsModel", "tailOf", "(I)I"⟩, prog_8_method_6_code, 4, some (FieldType.int), 1)
def mi_M_retry : MI := (⟨"ChainVersionsModel", "retry", "(II)I"⟩, prog_8_method_26_code, 3, some (FieldType.int), 4)
def mi_M_status : MI := (⟨"ChainVersionsModel", "status", "(I)I"⟩, prog_8_method_27_code, 2, some (FieldType.int), 1)
def mi_M_number : MI := (⟨"ChainVersionsModel", "number", "(I)I"⟩, prog_8_method_29_code, 2, some (FieldType.int), 2)
def mi_M_isDone : MI := (⟨"ChainVersionsModel", "isDone", "(I)Z"⟩, prog_8_method_28_code, 2, some (FieldType.boolean), 1)
def mi_M_value : MI := (⟨"ChainVersionsModel", "value", "(I)I"⟩, prog_8_method_30_code, 2, some (FieldType.int), 2)
def mi_M_deliver : MI := (⟨"ChainVersionsModel", "deliver", "(II)I"⟩, prog_8_method_31_code, 8, some (FieldType.int), 5)
def mi_M_first : MI := (⟨"ChainVersionsModel", "first", "(II)I"⟩, prog_8_method_12_code, 4, some (FieldType.int), 0)
def mi_M_strike : MI := (⟨"ChainVersionsModel", "strike", "(I)V"⟩, prog_8_method_13_code, 3, none, 0)
def mi_M_act : MI := (⟨"ChainVersionsModel", "act", "(IIIII)V"⟩, prog_8_method_21_code, 7, none, 4)
def mi_M_takeFrom : MI := (⟨"ChainVersionsModel", "takeFrom", "(III)V"⟩, prog_8_method_17_code, 5, none, 3)
def mi_M_answer : MI := (⟨"ChainVersionsModel", "answer", "(III)V"⟩, prog_8_method_22_code, 5, none, 2)
def mi_M_arrive : MI := (⟨"ChainVersionsModel", "arrive", "(IIII)V"⟩, prog_8_method_23_code, 6, none, 2)
def mi_M_waiting : MI := (⟨"ChainVersionsModel", "waiting", "(II)I"⟩, prog_8_method_32_code, 5, some (FieldType.int), 1)
def mi_M_stop : MI := (⟨"ChainVersionsModel", "stop", "(I)Z"⟩, prog_8_method_33_code, 4, some (FieldType.boolean), 2)
def mi_M_lose : MI := (⟨"ChainVersionsModel", "lose", "(II)V"⟩, prog_8_method_14_code, 4, none, 1)
def mi_M_join : MI := (⟨"ChainVersionsModel", "join", "()I"⟩, prog_8_method_34_code, 2, some (FieldType.int), 0)
def mi_M_tick : MI := (⟨"ChainVersionsModel", "tick", "()I"⟩, prog_8_method_35_code, 3, some (FieldType.int), 1)
def mi_M_adopt : MI := (⟨"ChainVersionsModel", "adopt", "(I)Z"⟩, prog_8_method_36_code, 4, some (FieldType.boolean), 3)
def mi_M_member : MI := (⟨"ChainVersionsModel", "member", "(I)I"⟩, prog_8_method_37_code, 4, some (FieldType.int), 1)
def mi_M_epoch : MI := (⟨"ChainVersionsModel", "epoch", "(I)I"⟩, prog_8_method_38_code, 2, some (FieldType.int), 1)
def mi_M_length : MI := (⟨"ChainVersionsModel", "length", "(I)I"⟩, prog_8_method_39_code, 2, some (FieldType.int), 2)
def mi_M_settled : MI := (⟨"ChainVersionsModel", "settled", "(I)I"⟩, prog_8_method_40_code, 2, some (FieldType.int), 2)
def mi_M_version : MI := (⟨"ChainVersionsModel", "version", "(III)I"⟩, prog_8_method_41_code, 7, some (FieldType.int), 2)
def mi_M_look : MI := (⟨"ChainVersionsModel", "look", "(III)I"⟩, prog_8_method_42_code, 5, some (FieldType.int), 3)
theorem ok_X_init : cOK mi_X_init 1 := ⟨tb_at 71 (by decide +kernel) (by decide +kernel), tb_at 51 (by decide +kernel) (by decide +kernel), by decide +kernel, by decide +kernel, by decide +kernel, by decide⟩
theorem ok_AL_init : cOK mi_AL_init 0 := ⟨tb_at 83 (by decide +kernel) (by decide +kernel), tb_at 54 (by decide +kernel) (by decide +kernel), by decide +kernel, by decide +kernel, by decide +kernel, by decide⟩
theorem ok_AbL_init : cOK mi_AbL_init 0 := ⟨tb_at 86 (by decide +kernel) (by decide +kernel), tb_at 53 (by decide +kernel) (by decide +kernel), by decide +kernel, by decide +kernel, by decide +kernel, by decide⟩
theorem ok_AbC_init : cOK mi_AbC_init 0 := ⟨tb_at 89 (by decide +kernel) (by decide +kernel), tb_at 52 (by decide +kernel) (by decide +kernel), by decide +kernel, by decide +kernel, by decide +kernel, by decide⟩
theorem ok_Ma_min : cOK mi_Ma_min 2 := ⟨tb_at 107 (by decide +kernel) (by decide +kernel), tb_at 55 (by decide +kernel) (by decide +kernel), by decide +kernel, by decide +kernel, by decide +kernel, by decide⟩
theorem ok_Ma_max : cOK mi_Ma_max 2 := ⟨tb_at 110 (by decide +kernel) (by decide +kernel), tb_at 55 (by decide +kernel) (by decide +kernel), by decide +kernel, by decide +kernel, by decide +kernel, by decide⟩
theorem ok_Cf_init : cOK mi_Cf_init 2 := ⟨tb_at 115 (by decide +kernel) (by decide +kernel), tb_at 56 (by decide +kernel) (by decide +kernel), by decide +kernel, by decide +kernel, by decide +kernel, by decide⟩
theorem ok_Nd_init : cOK mi_Nd_init 3 := ⟨tb_at 131 (by decide +kernel) (by decide +kernel), tb_at 57 (by decide +kernel) (by decide +kernel), by decide +kernel, by decide +kernel, by decide +kernel, by decide⟩
theorem ok_Cl_init : cOK mi_Cl_init 0 := ⟨tb_at 171 (by decide +kernel) (by decide +kernel), tb_at 58 (by decide +kernel) (by decide +kernel), by decide +kernel, by decide +kernel, by decide +kernel, by decide⟩
theorem ok_X_put : cOK mi_X_put 3 := ⟨tb_at 224 (by decide +kernel) (by decide +kernel), tb_at 51 (by decide +kernel) (by decide +kernel), by decide +kernel, by decide +kernel, by decide +kernel, by decide⟩
theorem ok_X_clientOf : cOK mi_X_clientOf 1 := ⟨tb_at 228 (by decide +kernel) (by decide +kernel), tb_at 51 (by decide +kernel) (by decide +kernel), by decide +kernel, by decide +kernel, by decide +kernel, by decide⟩
theorem ok_X_isKey : cOK mi_X_isKey 1 := ⟨tb_at 231 (by decide +kernel) (by decide +kernel), tb_at 51 (by decide +kernel) (by decide +kernel), by decide +kernel, by decide +kernel, by decide +kernel, by decide⟩
theorem ok_Cl_isUnderWay : cOK mi_Cl_isUnderWay 0 := ⟨tb_at 235 (by decide +kernel) (by decide +kernel), tb_at 58 (by decide +kernel) (by decide +kernel), by decide +kernel, by decide +kernel, by decide +kernel, by decide⟩
theorem ok_Cl_beginWrite : cOK mi_Cl_beginWrite 2 := ⟨tb_at 239 (by decide +kernel) (by decide +kernel), tb_at 58 (by decide +kernel) (by decide +kernel), by decide +kernel, by decide +kernel, by decide +kernel, by decide⟩
theorem ok_X_sendWrite : cOK mi_X_sendWrite 2 := ⟨tb_at 243 (by decide +kernel) (by decide +kernel), tb_at 51 (by decide +kernel) (by decide +kernel), by decide +kernel, by decide +kernel, by decide +kernel, by decide⟩
theorem ok_Cf_head : cOK mi_Cf_head 0 := ⟨tb_at 247 (by decide +kernel) (by decide +kernel), tb_at 56 (by decide +kernel) (by decide +kernel), by decide +kernel, by decide +kernel, by decide +kernel, by decide⟩
theorem ok_Cf_memberAt : cOK mi_Cf_memberAt 1 := ⟨tb_at 251 (by decide +kernel) (by decide +kernel), tb_at 56 (by decide +kernel) (by decide +kernel), by decide +kernel, by decide +kernel, by decide +kernel, by decide⟩
theorem ok_X_livingNode : cOK mi_X_livingNode 1 := ⟨tb_at 255 (by decide +kernel) (by decide +kernel), tb_at 51 (by decide +kernel) (by decide +kernel), by decide +kernel, by decide +kernel, by decide +kernel, by decide⟩
theorem ok_Nd_isHead : cOK mi_Nd_isHead 0 := ⟨tb_at 259 (by decide +kernel) (by decide +kernel), tb_at 57 (by decide +kernel) (by decide +kernel), by decide +kernel, by decide +kernel, by decide +kernel, by decide⟩
theorem ok_Nd_numberOf : cOK mi_Nd_numberOf 2 := ⟨tb_at 264 (by decide +kernel) (by decide +kernel), tb_at 57 (by decide +kernel) (by decide +kernel), by decide +kernel, by decide +kernel, by decide +kernel, by decide⟩
theorem ok_Nd_updateAt : cOK mi_Nd_updateAt 1 := ⟨tb_at 268 (by decide +kernel) (by decide +kernel), tb_at 57 (by decide +kernel) (by decide +kernel), by decide +kernel, by decide +kernel, by decide +kernel, by decide⟩
theorem ok_Nd_isFull : cOK mi_Nd_isFull 0 := ⟨tb_at 272 (by decide +kernel) (by decide +kernel), tb_at 57 (by decide +kernel) (by decide +kernel), by decide +kernel, by decide +kernel, by decide +kernel, by decide⟩
theorem ok_Up_init : cOK mi_Up_init 4 := ⟨tb_at 277 (by decide +kernel) (by decide +kernel), tb_at 60 (by decide +kernel) (by decide +kernel), by decide +kernel, by decide +kernel, by decide +kernel, by decide⟩
theorem ok_X_take : cOK mi_X_take 2 := ⟨tb_at 302 (by decide +kernel) (by decide +kernel), tb_at 51 (by decide +kernel) (by decide +kernel), by decide +kernel, by decide +kernel, by decide +kernel, by decide⟩
theorem ok_Nd_hold : cOK mi_Nd_hold 1 := ⟨tb_at 306 (by decide +kernel) (by decide +kernel), tb_at 57 (by decide +kernel) (by decide +kernel), by decide +kernel, by decide +kernel, by decide +kernel, by decide⟩
theorem ok_Nd_isTail : cOK mi_Nd_isTail 0 := ⟨tb_at 310 (by decide +kernel) (by decide +kernel), tb_at 57 (by decide +kernel) (by decide +kernel), by decide +kernel, by decide +kernel, by decide +kernel, by decide⟩
theorem ok_Cf_tail : cOK mi_Cf_tail 0 := ⟨tb_at 314 (by decide +kernel) (by decide +kernel), tb_at 56 (by decide +kernel) (by decide +kernel), by decide +kernel, by decide +kernel, by decide +kernel, by decide⟩
theorem ok_X_settleAll : cOK mi_X_settleAll 1 := ⟨tb_at 318 (by decide +kernel) (by decide +kernel), tb_at 51 (by decide +kernel) (by decide +kernel), by decide +kernel, by decide +kernel, by decide +kernel, by decide⟩
theorem ok_X_finishWrite : cOK mi_X_finishWrite 2 := ⟨tb_at 323 (by decide +kernel) (by decide +kernel), tb_at 51 (by decide +kernel) (by decide +kernel), by decide +kernel, by decide +kernel, by decide +kernel, by decide⟩
theorem ok_Cl_finish : cOK mi_Cl_finish 3 := ⟨tb_at 327 (by decide +kernel) (by decide +kernel), tb_at 58 (by decide +kernel) (by decide +kernel), by decide +kernel, by decide +kernel, by decide +kernel, by decide⟩
theorem ok_X_sendAck : cOK mi_X_sendAck 1 := ⟨tb_at 331 (by decide +kernel) (by decide +kernel), tb_at 51 (by decide +kernel) (by decide +kernel), by decide +kernel, by decide +kernel, by decide +kernel, by decide⟩
theorem ok_Nd_predecessor : cOK mi_Nd_predecessor 0 := ⟨tb_at 337 (by decide +kernel) (by decide +kernel), tb_at 57 (by decide +kernel) (by decide +kernel), by decide +kernel, by decide +kernel, by decide +kernel, by decide⟩
theorem ok_Cf_neighbour : cOK mi_Cf_neighbour 2 := ⟨tb_at 341 (by decide +kernel) (by decide +kernel), tb_at 56 (by decide +kernel) (by decide +kernel), by decide +kernel, by decide +kernel, by decide +kernel, by decide⟩
theorem ok_Mg_init : cOK mi_Mg_init 3 := ⟨tb_at 344 (by decide +kernel) (by decide +kernel), tb_at 61 (by decide +kernel) (by decide +kernel), by decide +kernel, by decide +kernel, by decide +kernel, by decide⟩
theorem ok_X_send : cOK mi_X_send 1 := ⟨tb_at 381 (by decide +kernel) (by decide +kernel), tb_at 51 (by decide +kernel) (by decide +kernel), by decide +kernel, by decide +kernel, by decide +kernel, by decide⟩
theorem ok_AL_add_0 : cOK mi_AL_add_0 1 := ⟨tb_at 385 (by decide +kernel) (by decide +kernel), tb_at 54 (by decide +kernel) (by decide +kernel), by decide +kernel, by decide +kernel, by decide +kernel, by decide⟩
theorem ok_AL_add_1 : cOK mi_AL_add_1 3 := ⟨tb_at 389 (by decide +kernel) (by decide +kernel), tb_at 54 (by decide +kernel) (by decide +kernel), by decide +kernel, by decide +kernel, by decide +kernel, by decide⟩
theorem ok_AL_grow_0 : cOK mi_AL_grow_0 0 := ⟨tb_at 393 (by decide +kernel) (by decide +kernel), tb_at 54 (by decide +kernel) (by decide +kernel), by decide +kernel, by decide +kernel, by decide +kernel, by decide⟩
theorem ok_AL_grow_1 : cOK mi_AL_grow_1 1 := ⟨tb_at 397 (by decide +kernel) (by decide +kernel), tb_at 54 (by decide +kernel) (by decide +kernel), by decide +kernel, by decide +kernel, by decide +kernel, by decide⟩
theorem ok_ASu_newLength : cOK mi_ASu_newLength 3 := ⟨tb_at 400 (by decide +kernel) (by decide +kernel), tb_at 62 (by decide +kernel) (by decide +kernel), by decide +kernel, by decide +kernel, by decide +kernel, by decide⟩
theorem ok_ASu_hugeLength : cOK mi_ASu_hugeLength 2 := ⟨tb_at 405 (by decide +kernel) (by decide +kernel), tb_at 62 (by decide +kernel) (by decide +kernel), by decide +kernel, by decide +kernel, by decide +kernel, by decide⟩
theorem ok_As_copyOf_0 : cOK mi_As_copyOf_0 2 := ⟨tb_at 408 (by decide +kernel) (by decide +kernel), tb_at 63 (by decide +kernel) (by decide +kernel), by decide +kernel, by decide +kernel, by decide +kernel, by decide⟩
theorem ok_As_copyOf_1 : cOK mi_As_copyOf_1 3 := ⟨tb_at 423 (by decide +kernel) (by decide +kernel), tb_at 63 (by decide +kernel) (by decide +kernel), by decide +kernel, by decide +kernel, by decide +kernel, by decide⟩
theorem ok_Nd_successor : cOK mi_Nd_successor 0 := ⟨tb_at 436 (by decide +kernel) (by decide +kernel), tb_at 57 (by decide +kernel) (by decide +kernel), by decide +kernel, by decide +kernel, by decide +kernel, by decide⟩
theorem ok_X_get : cOK mi_X_get 3 := ⟨tb_at 440 (by decide +kernel) (by decide +kernel), tb_at 51 (by decide +kernel) (by decide +kernel), by decide +kernel, by decide +kernel, by decide +kernel, by decide⟩
theorem ok_X_isNodeNumber : cOK mi_X_isNodeNumber 1 := ⟨tb_at 443 (by decide +kernel) (by decide +kernel), tb_at 51 (by decide +kernel) (by decide +kernel), by decide +kernel, by decide +kernel, by decide +kernel, by decide⟩
theorem ok_X_readyNode : cOK mi_X_readyNode 1 := ⟨tb_at 447 (by decide +kernel) (by decide +kernel), tb_at 51 (by decide +kernel) (by decide +kernel), by decide +kernel, by decide +kernel, by decide +kernel, by decide⟩
theorem ok_Cl_beginRead : cOK mi_Cl_beginRead 1 := ⟨tb_at 451 (by decide +kernel) (by decide +kernel), tb_at 58 (by decide +kernel) (by decide +kernel), by decide +kernel, by decide +kernel, by decide +kernel, by decide⟩
theorem ok_X_serve : cOK mi_X_serve 3 := ⟨tb_at 455 (by decide +kernel) (by decide +kernel), tb_at 51 (by decide +kernel) (by decide +kernel), by decide +kernel, by decide +kernel, by decide +kernel, by decide⟩
theorem ok_Nd_isClean : cOK mi_Nd_isClean 1 := ⟨tb_at 459 (by decide +kernel) (by decide +kernel), tb_at 57 (by decide +kernel) (by decide +kernel), by decide +kernel, by decide +kernel, by decide +kernel, by decide⟩
theorem ok_Nd_isOfKey : cOK mi_Nd_isOfKey 2 := ⟨tb_at 463 (by decide +kernel) (by decide +kernel), tb_at 57 (by decide +kernel) (by decide +kernel), by decide +kernel, by decide +kernel, by decide +kernel, by decide⟩
theorem ok_Nd_cleanVersion : cOK mi_Nd_cleanVersion 1 := ⟨tb_at 467 (by decide +kernel) (by decide +kernel), tb_at 57 (by decide +kernel) (by decide +kernel), by decide +kernel, by decide +kernel, by decide +kernel, by decide⟩
theorem ok_X_finishRead : cOK mi_X_finishRead 3 := ⟨tb_at 470 (by decide +kernel) (by decide +kernel), tb_at 51 (by decide +kernel) (by decide +kernel), by decide +kernel, by decide +kernel, by decide +kernel, by decide⟩
theorem ok_Nd_valueOf : cOK mi_Nd_valueOf 1 := ⟨tb_at 474 (by decide +kernel) (by decide +kernel), tb_at 57 (by decide +kernel) (by decide +kernel), by decide +kernel, by decide +kernel, by decide +kernel, by decide⟩
theorem ok_X_retry : cOK mi_X_retry 2 := ⟨tb_at 479 (by decide +kernel) (by decide +kernel), tb_at 51 (by decide +kernel) (by decide +kernel), by decide +kernel, by decide +kernel, by decide +kernel, by decide⟩
theorem ok_X_status : cOK mi_X_status 1 := ⟨tb_at 483 (by decide +kernel) (by decide +kernel), tb_at 51 (by decide +kernel) (by decide +kernel), by decide +kernel, by decide +kernel, by decide +kernel, by decide⟩
theorem ok_X_number : cOK mi_X_number 1 := ⟨tb_at 487 (by decide +kernel) (by decide +kernel), tb_at 51 (by decide +kernel) (by decide +kernel), by decide +kernel, by decide +kernel, by decide +kernel, by decide⟩
theorem ok_Cl_isDone : cOK mi_Cl_isDone 0 := ⟨tb_at 491 (by decide +kernel) (by decide +kernel), tb_at 58 (by decide +kernel) (by decide +kernel), by decide +kernel, by decide +kernel, by decide +kernel, by decide⟩
theorem ok_X_value : cOK mi_X_value 1 := ⟨tb_at 495 (by decide +kernel) (by decide +kernel), tb_at 51 (by decide +kernel) (by decide +kernel), by decide +kernel, by decide +kernel, by decide +kernel, by decide⟩
theorem ok_X_deliver : cOK mi_X_deliver 2 := ⟨tb_at 499 (by decide +kernel) (by decide +kernel), tb_at 51 (by decide +kernel) (by decide +kernel), by decide +kernel, by decide +kernel, by decide +kernel, by decide⟩
theorem ok_X_firstOnLink : cOK mi_X_firstOnLink 2 := ⟨tb_at 503 (by decide +kernel) (by decide +kernel), tb_at 51 (by decide +kernel) (by decide +kernel), by decide +kernel, by decide +kernel, by decide +kernel, by decide⟩
theorem ok_AL_size : cOK mi_AL_size 0 := ⟨tb_at 507 (by decide +kernel) (by decide +kernel), tb_at 54 (by decide +kernel) (by decide +kernel), by decide +kernel, by decide +kernel, by decide +kernel, by decide⟩
theorem ok_AL_get : cOK mi_AL_get 1 := ⟨tb_at 511 (by decide +kernel) (by decide +kernel), tb_at 54 (by decide +kernel) (by decide +kernel), by decide +kernel, by decide +kernel, by decide +kernel, by decide⟩
theorem ok_Ob_checkIndex : cOK mi_Ob_checkIndex 2 := ⟨tb_at 514 (by decide +kernel) (by decide +kernel), tb_at 65 (by decide +kernel) (by decide +kernel), by decide +kernel, by decide +kernel, by decide +kernel, by decide⟩
theorem ok_Pr_checkIndex : cOK mi_Pr_checkIndex 3 := ⟨tb_at 517 (by decide +kernel) (by decide +kernel), tb_at 66 (by decide +kernel) (by decide +kernel), by decide +kernel, by decide +kernel, by decide +kernel, by decide⟩
theorem ok_AL_elementData : cOK mi_AL_elementData 1 := ⟨tb_at 521 (by decide +kernel) (by decide +kernel), tb_at 54 (by decide +kernel) (by decide +kernel), by decide +kernel, by decide +kernel, by decide +kernel, by decide⟩
theorem ok_Mg_isOnLink : cOK mi_Mg_isOnLink 2 := ⟨tb_at 525 (by decide +kernel) (by decide +kernel), tb_at 61 (by decide +kernel) (by decide +kernel), by decide +kernel, by decide +kernel, by decide +kernel, by decide⟩
theorem ok_AL_remove : cOK mi_AL_remove 1 := ⟨tb_at 529 (by decide +kernel) (by decide +kernel), tb_at 54 (by decide +kernel) (by decide +kernel), by decide +kernel, by decide +kernel, by decide +kernel, by decide⟩
theorem ok_AL_fastRemove : cOK mi_AL_fastRemove 2 := ⟨tb_at 533 (by decide +kernel) (by decide +kernel), tb_at 54 (by decide +kernel) (by decide +kernel), by decide +kernel, by decide +kernel, by decide +kernel, by decide⟩
theorem ok_X_receive : cOK mi_X_receive 2 := ⟨tb_at 538 (by decide +kernel) (by decide +kernel), tb_at 51 (by decide +kernel) (by decide +kernel), by decide +kernel, by decide +kernel, by decide +kernel, by decide⟩
theorem ok_X_settleUpTo : cOK mi_X_settleUpTo 2 := ⟨tb_at 542 (by decide +kernel) (by decide +kernel), tb_at 51 (by decide +kernel) (by decide +kernel), by decide +kernel, by decide +kernel, by decide +kernel, by decide⟩
theorem ok_X_answer : cOK mi_X_answer 2 := ⟨tb_at 546 (by decide +kernel) (by decide +kernel), tb_at 51 (by decide +kernel) (by decide +kernel), by decide +kernel, by decide +kernel, by decide +kernel, by decide⟩
theorem ok_X_useAnswer : cOK mi_X_useAnswer 2 := ⟨tb_at 550 (by decide +kernel) (by decide +kernel), tb_at 51 (by decide +kernel) (by decide +kernel), by decide +kernel, by decide +kernel, by decide +kernel, by decide⟩
theorem ok_Cl_isReadingAt : cOK mi_Cl_isReadingAt 1 := ⟨tb_at 554 (by decide +kernel) (by decide +kernel), tb_at 58 (by decide +kernel) (by decide +kernel), by decide +kernel, by decide +kernel, by decide +kernel, by decide⟩
theorem ok_Nd_hasVersion : cOK mi_Nd_hasVersion 2 := ⟨tb_at 558 (by decide +kernel) (by decide +kernel), tb_at 57 (by decide +kernel) (by decide +kernel), by decide +kernel, by decide +kernel, by decide +kernel, by decide⟩
theorem ok_X_receiveCopy : cOK mi_X_receiveCopy 2 := ⟨tb_at 563 (by decide +kernel) (by decide +kernel), tb_at 51 (by decide +kernel) (by decide +kernel), by decide +kernel, by decide +kernel, by decide +kernel, by decide⟩
theorem ok_X_madeNode : cOK mi_X_madeNode 1 := ⟨tb_at 567 (by decide +kernel) (by decide +kernel), tb_at 51 (by decide +kernel) (by decide +kernel), by decide +kernel, by decide +kernel, by decide +kernel, by decide⟩
theorem ok_X_tellNeighbours : cOK mi_X_tellNeighbours 1 := ⟨tb_at 571 (by decide +kernel) (by decide +kernel), tb_at 51 (by decide +kernel) (by decide +kernel), by decide +kernel, by decide +kernel, by decide +kernel, by decide⟩
theorem ok_X_sendCopy : cOK mi_X_sendCopy 1 := ⟨tb_at 575 (by decide +kernel) (by decide +kernel), tb_at 51 (by decide +kernel) (by decide +kernel), by decide +kernel, by decide +kernel, by decide +kernel, by decide⟩
theorem ok_X_waiting : cOK mi_X_waiting 2 := ⟨tb_at 579 (by decide +kernel) (by decide +kernel), tb_at 51 (by decide +kernel) (by decide +kernel), by decide +kernel, by decide +kernel, by decide +kernel, by decide⟩
theorem ok_X_stop : cOK mi_X_stop 1 := ⟨tb_at 583 (by decide +kernel) (by decide +kernel), tb_at 51 (by decide +kernel) (by decide +kernel), by decide +kernel, by decide +kernel, by decide +kernel, by decide⟩
theorem ok_X_hasOtherReadyNode : cOK mi_X_hasOtherReadyNode 1 := ⟨tb_at 587 (by decide +kernel) (by decide +kernel), tb_at 51 (by decide +kernel) (by decide +kernel), by decide +kernel, by decide +kernel, by decide +kernel, by decide⟩
theorem ok_X_loseMessagesTo : cOK mi_X_loseMessagesTo 2 := ⟨tb_at 592 (by decide +kernel) (by decide +kernel), tb_at 51 (by decide +kernel) (by decide +kernel), by decide +kernel, by decide +kernel, by decide +kernel, by decide⟩
theorem ok_X_join : cOK mi_X_join 0 := ⟨tb_at 596 (by decide +kernel) (by decide +kernel), tb_at 51 (by decide +kernel) (by decide +kernel), by decide +kernel, by decide +kernel, by decide +kernel, by decide⟩
theorem ok_Cf_with : cOK mi_Cf_with 1 := ⟨tb_at 600 (by decide +kernel) (by decide +kernel), tb_at 56 (by decide +kernel) (by decide +kernel), by decide +kernel, by decide +kernel, by decide +kernel, by decide⟩
theorem ok_X_tick : cOK mi_X_tick 0 := ⟨tb_at 607 (by decide +kernel) (by decide +kernel), tb_at 51 (by decide +kernel) (by decide +kernel), by decide +kernel, by decide +kernel, by decide +kernel, by decide⟩
theorem ok_X_isLongSilent : cOK mi_X_isLongSilent 1 := ⟨tb_at 611 (by decide +kernel) (by decide +kernel), tb_at 51 (by decide +kernel) (by decide +kernel), by decide +kernel, by decide +kernel, by decide +kernel, by decide⟩
theorem ok_X_withoutSilent : cOK mi_X_withoutSilent 1 := ⟨tb_at 615 (by decide +kernel) (by decide +kernel), tb_at 51 (by decide +kernel) (by decide +kernel), by decide +kernel, by decide +kernel, by decide +kernel, by decide⟩
theorem ok_X_adopt : cOK mi_X_adopt 1 := ⟨tb_at 619 (by decide +kernel) (by decide +kernel), tb_at 51 (by decide +kernel) (by decide +kernel), by decide +kernel, by decide +kernel, by decide +kernel, by decide⟩
theorem ok_X_serveWaitingReads : cOK mi_X_serveWaitingReads 1 := ⟨tb_at 623 (by decide +kernel) (by decide +kernel), tb_at 51 (by decide +kernel) (by decide +kernel), by decide +kernel, by decide +kernel, by decide +kernel, by decide⟩
theorem ok_X_member : cOK mi_X_member 1 := ⟨tb_at 627 (by decide +kernel) (by decide +kernel), tb_at 51 (by decide +kernel) (by decide +kernel), by decide +kernel, by decide +kernel, by decide +kernel, by decide⟩
theorem ok_X_epoch : cOK mi_X_epoch 1 := ⟨tb_at 632 (by decide +kernel) (by decide +kernel), tb_at 51 (by decide +kernel) (by decide +kernel), by decide +kernel, by decide +kernel, by decide +kernel, by decide⟩
theorem ok_X_length : cOK mi_X_length 1 := ⟨tb_at 636 (by decide +kernel) (by decide +kernel), tb_at 51 (by decide +kernel) (by decide +kernel), by decide +kernel, by decide +kernel, by decide +kernel, by decide⟩
theorem ok_X_settled : cOK mi_X_settled 1 := ⟨tb_at 640 (by decide +kernel) (by decide +kernel), tb_at 51 (by decide +kernel) (by decide +kernel), by decide +kernel, by decide +kernel, by decide +kernel, by decide⟩
theorem ok_X_version : cOK mi_X_version 3 := ⟨tb_at 644 (by decide +kernel) (by decide +kernel), tb_at 51 (by decide +kernel) (by decide +kernel), by decide +kernel, by decide +kernel, by decide +kernel, by decide⟩
theorem ok_Nd_versionAt : cOK mi_Nd_versionAt 2 := ⟨tb_at 648 (by decide +kernel) (by decide +kernel), tb_at 57 (by decide +kernel) (by decide +kernel), by decide +kernel, by decide +kernel, by decide +kernel, by decide⟩
theorem ok_X_look : cOK mi_X_look 3 := ⟨tb_at 652 (by decide +kernel) (by decide +kernel), tb_at 51 (by decide +kernel) (by decide +kernel), by decide +kernel, by decide +kernel, by decide +kernel, by decide⟩
theorem ok_L_cell : cOK mi_L_cell 2 := ⟨tb_at 655 (by decide +kernel) (by decide +kernel), tb_at 50 (by decide +kernel) (by decide +kernel), by decide +kernel, by decide +kernel, by decide +kernel, by decide⟩
theorem ok_M_init : cOK mi_M_init 1 := ⟨tb_at 660 (by decide +kernel) (by decide +kernel), tb_at 59 (by decide +kernel) (by decide +kernel), by decide +kernel, by decide +kernel, by decide +kernel, by decide⟩
theorem ok_M_put : cOK mi_M_put 3 := ⟨tb_at 748 (by decide +kernel) (by decide +kernel), tb_at 59 (by decide +kernel) (by decide +kernel), by decide +kernel, by decide +kernel, by decide +kernel, by decide⟩
theorem ok_M_outside : cOK mi_M_outside 2 := ⟨tb_at 751 (by decide +kernel) (by decide +kernel), tb_at 59 (by decide +kernel) (by decide +kernel), by decide +kernel, by decide +kernel, by decide +kernel, by decide⟩
theorem ok_M_sendWrite : cOK mi_M_sendWrite 1 := ⟨tb_at 755 (by decide +kernel) (by decide +kernel), tb_at 59 (by decide +kernel) (by decide +kernel), by decide +kernel, by decide +kernel, by decide +kernel, by decide⟩
theorem ok_M_isIn : cOK mi_M_isIn 2 := ⟨tb_at 759 (by decide +kernel) (by decide +kernel), tb_at 59 (by decide +kernel) (by decide +kernel), by decide +kernel, by decide +kernel, by decide +kernel, by decide⟩
theorem ok_M_predecessor : cOK mi_M_predecessor 1 := ⟨tb_at 763 (by decide +kernel) (by decide +kernel), tb_at 59 (by decide +kernel) (by decide +kernel), by decide +kernel, by decide +kernel, by decide +kernel, by decide⟩
theorem ok_M_take : cOK mi_M_take 5 := ⟨tb_at 767 (by decide +kernel) (by decide +kernel), tb_at 59 (by decide +kernel) (by decide +kernel), by decide +kernel, by decide +kernel, by decide +kernel, by decide⟩
theorem ok_M_successor : cOK mi_M_successor 1 := ⟨tb_at 771 (by decide +kernel) (by decide +kernel), tb_at 59 (by decide +kernel) (by decide +kernel), by decide +kernel, by decide +kernel, by decide +kernel, by decide⟩
theorem ok_M_settleAll : cOK mi_M_settleAll 1 := ⟨tb_at 775 (by decide +kernel) (by decide +kernel), tb_at 59 (by decide +kernel) (by decide +kernel), by decide +kernel, by decide +kernel, by decide +kernel, by decide⟩
theorem ok_M_send : cOK mi_M_send 5 := ⟨tb_at 779 (by decide +kernel) (by decide +kernel), tb_at 59 (by decide +kernel) (by decide +kernel), by decide +kernel, by decide +kernel, by decide +kernel, by decide⟩
theorem ok_M_get : cOK mi_M_get 3 := ⟨tb_at 783 (by decide +kernel) (by decide +kernel), tb_at 59 (by decide +kernel) (by decide +kernel), by decide +kernel, by decide +kernel, by decide +kernel, by decide⟩
theorem ok_M_serves : cOK mi_M_serves 1 := ⟨tb_at 787 (by decide +kernel) (by decide +kernel), tb_at 59 (by decide +kernel) (by decide +kernel), by decide +kernel, by decide +kernel, by decide +kernel, by decide⟩
theorem ok_M_serve : cOK mi_M_serve 2 := ⟨tb_at 791 (by decide +kernel) (by decide +kernel), tb_at 59 (by decide +kernel) (by decide +kernel), by decide +kernel, by decide +kernel, by decide +kernel, by decide⟩
theorem ok_M_isClean : cOK mi_M_isClean 2 := ⟨tb_at 795 (by decide +kernel) (by decide +kernel), tb_at 59 (by decide +kernel) (by decide +kernel), by decide +kernel, by decide +kernel, by decide +kernel, by decide⟩
theorem ok_M_cleanNumber : cOK mi_M_cleanNumber 2 := ⟨tb_at 799 (by decide +kernel) (by decide +kernel), tb_at 59 (by decide +kernel) (by decide +kernel), by decide +kernel, by decide +kernel, by decide +kernel, by decide⟩
theorem ok_M_done : cOK mi_M_done 3 := ⟨tb_at 803 (by decide +kernel) (by decide +kernel), tb_at 59 (by decide +kernel) (by decide +kernel), by decide +kernel, by decide +kernel, by decide +kernel, by decide⟩
theorem ok_M_valueAt : cOK mi_M_valueAt 2 := ⟨tb_at 807 (by decide +kernel) (by decide +kernel), tb_at 59 (by decide +kernel) (by decide +kernel), by decide +kernel, by decide +kernel, by decide +kernel, by decide⟩
theorem ok_M_tailOf : cOK mi_M_tailOf 1 := ⟨tb_at 811 (by decide +kernel) (by decide +kernel), tb_at 59 (by decide +kernel) (by decide +kernel), by decide +kernel, by decide +kernel, by decide +kernel, by decide⟩
theorem ok_M_retry : cOK mi_M_retry 2 := ⟨tb_at 815 (by decide +kernel) (by decide +kernel), tb_at 59 (by decide +kernel) (by decide +kernel), by decide +kernel, by decide +kernel, by decide +kernel, by decide⟩
theorem ok_M_status : cOK mi_M_status 1 := ⟨tb_at 819 (by decide +kernel) (by decide +kernel), tb_at 59 (by decide +kernel) (by decide +kernel), by decide +kernel, by decide +kernel, by decide +kernel, by decide⟩
theorem ok_M_number : cOK mi_M_number 1 := ⟨tb_at 823 (by decide +kernel) (by decide +kernel), tb_at 59 (by decide +kernel) (by decide +kernel), by decide +kernel, by decide +kernel, by decide +kernel, by decide⟩
theorem ok_M_isDone : cOK mi_M_isDone 1 := ⟨tb_at 827 (by decide +kernel) (by decide +kernel), tb_at 59 (by decide +kernel) (by decide +kernel), by decide +kernel, by decide +kernel, by decide +kernel, by decide⟩
theorem ok_M_value : cOK mi_M_value 1 := ⟨tb_at 831 (by decide +kernel) (by decide +kernel), tb_at 59 (by decide +kernel) (by decide +kernel), by decide +kernel, by decide +kernel, by decide +kernel, by decide⟩
theorem ok_M_deliver : cOK mi_M_deliver 2 := ⟨tb_at 835 (by decide +kernel) (by decide +kernel), tb_at 59 (by decide +kernel) (by decide +kernel), by decide +kernel, by decide +kernel, by decide +kernel, by decide⟩
theorem ok_M_first : cOK mi_M_first 2 := ⟨tb_at 839 (by decide +kernel) (by decide +kernel), tb_at 59 (by decide +kernel) (by decide +kernel), by decide +kernel, by decide +kernel, by decide +kernel, by decide⟩
theorem ok_M_strike : cOK mi_M_strike 1 := ⟨tb_at 843 (by decide +kernel) (by decide +kernel), tb_at 59 (by decide +kernel) (by decide +kernel), by decide +kernel, by decide +kernel, by decide +kernel, by decide⟩
theorem ok_M_act : cOK mi_M_act 5 := ⟨tb_at 847 (by decide +kernel) (by decide +kernel), tb_at 59 (by decide +kernel) (by decide +kernel), by decide +kernel, by decide +kernel, by decide +kernel, by decide⟩
theorem ok_M_takeFrom : cOK mi_M_takeFrom 3 := ⟨tb_at 851 (by decide +kernel) (by decide +kernel), tb_at 59 (by decide +kernel) (by decide +kernel), by decide +kernel, by decide +kernel, by decide +kernel, by decide⟩
theorem ok_M_answer : cOK mi_M_answer 3 := ⟨tb_at 855 (by decide +kernel) (by decide +kernel), tb_at 59 (by decide +kernel) (by decide +kernel), by decide +kernel, by decide +kernel, by decide +kernel, by decide⟩
theorem ok_M_arrive : cOK mi_M_arrive 4 := ⟨tb_at 859 (by decide +kernel) (by decide +kernel), tb_at 59 (by decide +kernel) (by decide +kernel), by decide +kernel, by decide +kernel, by decide +kernel, by decide⟩
theorem ok_M_waiting : cOK mi_M_waiting 2 := ⟨tb_at 863 (by decide +kernel) (by decide +kernel), tb_at 59 (by decide +kernel) (by decide +kernel), by decide +kernel, by decide +kernel, by decide +kernel, by decide⟩
theorem ok_M_stop : cOK mi_M_stop 1 := ⟨tb_at 867 (by decide +kernel) (by decide +kernel), tb_at 59 (by decide +kernel) (by decide +kernel), by decide +kernel, by decide +kernel, by decide +kernel, by decide⟩
theorem ok_M_lose : cOK mi_M_lose 2 := ⟨tb_at 871 (by decide +kernel) (by decide +kernel), tb_at 59 (by decide +kernel) (by decide +kernel), by decide +kernel, by decide +kernel, by decide +kernel, by decide⟩
theorem ok_M_join : cOK mi_M_join 0 := ⟨tb_at 875 (by decide +kernel) (by decide +kernel), tb_at 59 (by decide +kernel) (by decide +kernel), by decide +kernel, by decide +kernel, by decide +kernel, by decide⟩
theorem ok_M_tick : cOK mi_M_tick 0 := ⟨tb_at 879 (by decide +kernel) (by decide +kernel), tb_at 59 (by decide +kernel) (by decide +kernel), by decide +kernel, by decide +kernel, by decide +kernel, by decide⟩
theorem ok_M_adopt : cOK mi_M_adopt 1 := ⟨tb_at 883 (by decide +kernel) (by decide +kernel), tb_at 59 (by decide +kernel) (by decide +kernel), by decide +kernel, by decide +kernel, by decide +kernel, by decide⟩
theorem ok_M_member : cOK mi_M_member 1 := ⟨tb_at 887 (by decide +kernel) (by decide +kernel), tb_at 59 (by decide +kernel) (by decide +kernel), by decide +kernel, by decide +kernel, by decide +kernel, by decide⟩
theorem ok_M_epoch : cOK mi_M_epoch 1 := ⟨tb_at 891 (by decide +kernel) (by decide +kernel), tb_at 59 (by decide +kernel) (by decide +kernel), by decide +kernel, by decide +kernel, by decide +kernel, by decide⟩
theorem ok_M_length : cOK mi_M_length 1 := ⟨tb_at 895 (by decide +kernel) (by decide +kernel), tb_at 59 (by decide +kernel) (by decide +kernel), by decide +kernel, by decide +kernel, by decide +kernel, by decide⟩
theorem ok_M_settled : cOK mi_M_settled 1 := ⟨tb_at 899 (by decide +kernel) (by decide +kernel), tb_at 59 (by decide +kernel) (by decide +kernel), by decide +kernel, by decide +kernel, by decide +kernel, by decide⟩
theorem ok_M_version : cOK mi_M_version 3 := ⟨tb_at 903 (by decide +kernel) (by decide +kernel), tb_at 59 (by decide +kernel) (by decide +kernel), by decide +kernel, by decide +kernel, by decide +kernel, by decide⟩
theorem ok_M_look : cOK mi_M_look 3 := ⟨tb_at 907 (by decide +kernel) (by decide +kernel), tb_at 59 (by decide +kernel) (by decide +kernel), by decide +kernel, by decide +kernel, by decide +kernel, by decide⟩
end
section
/-! words of fields and calls -/
theorem f_M_7 : FLs "ChainVersionsModel" 7 257 := ⟨"ChainVersionsModel", ⟨tb_at 663 (by decide +kernel) (by decide +kernel), by decide, by decide, by decide⟩, Or.inl rfl⟩
theorem f_M_13 : FLs "ChainVersionsModel" 13 258 := ⟨"ChainVersionsModel", ⟨tb_at 664 (by decide +kernel) (by decide +kernel), by decide, by decide, by decide⟩, Or.inl rfl⟩
theorem f_M_16 : FLs "ChainVersionsModel" 16 259 := ⟨"ChainVersionsModel", ⟨tb_at 665 (by decide +kernel) (by decide +kernel), by decide, by decide, by decide⟩, Or.inl rfl⟩
theorem f_M_20 : FLs "ChainVersionsModel" 20 260 := ⟨"ChainVersionsModel", ⟨tb_at 666 (by decide +kernel) (by decide +kernel), by decide, by decide, by decide⟩, Or.inl rfl⟩
theorem f_M_23 : FLs "ChainVersionsModel" 23 261 := ⟨"ChainVersionsModel", ⟨tb_at 667 (by decide +kernel) (by decide +kernel), by decide, by decide, by decide⟩, Or.inl rfl⟩
theorem f_M_26 : FLs "ChainVersionsModel" 26 262 := ⟨"ChainVersionsModel", ⟨tb_at 668 (by decide +kernel) (by decide +kernel), by decide, by decide, by decide⟩, Or.inl rfl⟩
theorem f_M_29 : FLs "ChainVersionsModel" 29 263 := ⟨"ChainVersionsModel", ⟨tb_at 669 (by decide +kernel) (by decide +kernel), by decide, by decide, by decide⟩, Or.inl rfl⟩
theorem f_M_32 : FLs "ChainVersionsModel" 32 265 := ⟨"ChainVersionsModel", ⟨tb_at 671 (by decide +kernel) (by decide +kernel), by decide, by decide, by decide⟩, Or.inl rfl⟩
theorem f_M_35 : FLs "ChainVersionsModel" 35 266 := ⟨"ChainVersionsModel", ⟨tb_at 672 (by decide +kernel) (by decide +kernel), by decide, by decide, by decide⟩, Or.inl rfl⟩
theorem f_M_38 : FLs "ChainVersionsModel" 38 267 := ⟨"ChainVersionsModel", ⟨tb_at 673 (by decide +kernel) (by decide +kernel), by decide, by decide, by decide⟩, Or.inl rfl⟩
theorem f_M_41 : FLs "ChainVersionsModel" 41 268 := ⟨"ChainVersionsModel", ⟨tb_at 674 (by decide +kernel) (by decide +kernel), by decide, by decide, by decide⟩, Or.inl rfl⟩
theorem f_M_44 : FLs "ChainVersionsModel" 44 269 := ⟨"ChainVersionsModel", ⟨tb_at 675 (by decide +kernel) (by decide +kernel), by decide, by decide, by decide⟩, Or.inl rfl⟩
theorem f_M_47 : FLs "ChainVersionsModel" 47 270 := ⟨"ChainVersionsModel", ⟨tb_at 676 (by decide +kernel) (by decide +kernel), by decide, by decide, by decide⟩, Or.inl rfl⟩
theorem f_M_50 : FLs "ChainVersionsModel" 50 271 := ⟨"ChainVersionsModel", ⟨tb_at 677 (by decide +kernel) (by decide +kernel), by decide, by decide, by decide⟩, Or.inl rfl⟩
theorem f_M_53 : FLs "ChainVersionsModel" 53 272 := ⟨"ChainVersionsModel", ⟨tb_at 678 (by decide +kernel) (by decide +kernel), by decide, by decide, by decide⟩, Or.inl rfl⟩
theorem f_M_56 : FLs "ChainVersionsModel" 56 273 := ⟨"ChainVersionsModel", ⟨tb_at 679 (by decide +kernel) (by decide +kernel), by decide, by decide, by decide⟩, Or.inl rfl⟩
theorem f_M_59 : FLs "ChainVersionsModel" 59 274 := ⟨"ChainVersionsModel", ⟨tb_at 680 (by decide +kernel) (by decide +kernel), by decide, by decide, by decide⟩, Or.inl rfl⟩
theorem f_M_62 : FLs "ChainVersionsModel" 62 275 := ⟨"ChainVersionsModel", ⟨tb_at 681 (by decide +kernel) (by decide +kernel), by decide, by decide, by decide⟩, Or.inl rfl⟩
theorem f_M_65 : FLs "ChainVersionsModel" 65 277 := ⟨"ChainVersionsModel", ⟨tb_at 683 (by decide +kernel) (by decide +kernel), by decide, by decide, by decide⟩, Or.inl rfl⟩
theorem f_M_68 : FLs "ChainVersionsModel" 68 278 := ⟨"ChainVersionsModel", ⟨tb_at 684 (by decide +kernel) (by decide +kernel), by decide, by decide, by decide⟩, Or.inl rfl⟩
theorem f_M_71 : FLs "ChainVersionsModel" 71 279 := ⟨"ChainVersionsModel", ⟨tb_at 685 (by decide +kernel) (by decide +kernel), by decide, by decide, by decide⟩, Or.inl rfl⟩
theorem f_M_74 : FLs "ChainVersionsModel" 74 280 := ⟨"ChainVersionsModel", ⟨tb_at 686 (by decide +kernel) (by decide +kernel), by decide, by decide, by decide⟩, Or.inl rfl⟩
theorem f_M_77 : FLs "ChainVersionsModel" 77 281 := ⟨"ChainVersionsModel", ⟨tb_at 687 (by decide +kernel) (by decide +kernel), by decide, by decide, by decide⟩, Or.inl rfl⟩
theorem f_M_80 : FLs "ChainVersionsModel" 80 282 := ⟨"ChainVersionsModel", ⟨tb_at 688 (by decide +kernel) (by decide +kernel), by decide, by decide, by decide⟩, Or.inl rfl⟩
theorem f_M_83 : FLs "ChainVersionsModel" 83 256 := ⟨"ChainVersionsModel", ⟨tb_at 662 (by decide +kernel) (by decide +kernel), by decide, by decide, by decide⟩, Or.inl rfl⟩
theorem f_M_87 : FLs "ChainVersionsModel" 87 264 := ⟨"ChainVersionsModel", ⟨tb_at 670 (by decide +kernel) (by decide +kernel), by decide, by decide, by decide⟩, Or.inl rfl⟩
theorem f_M_97 : FLs "ChainVersionsModel" 97 276 := ⟨"ChainVersionsModel", ⟨tb_at 682 (by decide +kernel) (by decide +kernel), by decide, by decide, by decide⟩, Or.inl rfl⟩
theorem w_M_90 : cV "ChainVersionsModel" 90 8 mi_M_isIn 2 := ⟨ok_M_isIn, tb_at 756 (by decide +kernel) (by decide +kernel), tb_at 758 (by decide +kernel) (by decide +kernel), tb_at 29 (by decide +kernel) (by decide +kernel), by decide, by decide⟩
theorem w_M_94 : cS "ChainVersionsModel" 94 mi_M_outside 2 := ⟨ok_M_outside, tb_at 749 (by decide +kernel) (by decide +kernel), tb_at 750 (by decide +kernel) (by decide +kernel)⟩
theorem w_M_100 : cV "ChainVersionsModel" 100 8 mi_M_strike 1 := ⟨ok_M_strike, tb_at 840 (by decide +kernel) (by decide +kernel), tb_at 842 (by decide +kernel) (by decide +kernel), tb_at 44 (by decide +kernel) (by decide +kernel), by decide, by decide⟩
theorem w_M_104 : cV "ChainVersionsModel" 104 8 mi_M_successor 1 := ⟨ok_M_successor, tb_at 768 (by decide +kernel) (by decide +kernel), tb_at 770 (by decide +kernel) (by decide +kernel), tb_at 32 (by decide +kernel) (by decide +kernel), by decide, by decide⟩
theorem w_M_108 : cV "ChainVersionsModel" 108 8 mi_M_settleAll 1 := ⟨ok_M_settleAll, tb_at 772 (by decide +kernel) (by decide +kernel), tb_at 774 (by decide +kernel) (by decide +kernel), tb_at 33 (by decide +kernel) (by decide +kernel), by decide, by decide⟩
theorem w_M_111 : cV "ChainVersionsModel" 111 8 mi_M_predecessor 1 := ⟨ok_M_predecessor, tb_at 760 (by decide +kernel) (by decide +kernel), tb_at 762 (by decide +kernel) (by decide +kernel), tb_at 30 (by decide +kernel) (by decide +kernel), by decide, by decide⟩
theorem w_M_114 : cV "ChainVersionsModel" 114 8 mi_M_send 5 := ⟨ok_M_send, tb_at 776 (by decide +kernel) (by decide +kernel), tb_at 778 (by decide +kernel) (by decide +kernel), tb_at 34 (by decide +kernel) (by decide +kernel), by decide, by decide⟩
theorem w_M_118 : cV "ChainVersionsModel" 118 8 mi_M_take 5 := ⟨ok_M_take, tb_at 764 (by decide +kernel) (by decide +kernel), tb_at 766 (by decide +kernel) (by decide +kernel), tb_at 31 (by decide +kernel) (by decide +kernel), by decide, by decide⟩
theorem w_M_121 : cV "ChainVersionsModel" 121 8 mi_M_valueAt 2 := ⟨ok_M_valueAt, tb_at 804 (by decide +kernel) (by decide +kernel), tb_at 806 (by decide +kernel) (by decide +kernel), tb_at 40 (by decide +kernel) (by decide +kernel), by decide, by decide⟩
theorem w_M_125 : cV "ChainVersionsModel" 125 8 mi_M_isClean 2 := ⟨ok_M_isClean, tb_at 792 (by decide +kernel) (by decide +kernel), tb_at 794 (by decide +kernel) (by decide +kernel), tb_at 37 (by decide +kernel) (by decide +kernel), by decide, by decide⟩
theorem w_M_128 : cV "ChainVersionsModel" 128 8 mi_M_cleanNumber 2 := ⟨ok_M_cleanNumber, tb_at 796 (by decide +kernel) (by decide +kernel), tb_at 798 (by decide +kernel) (by decide +kernel), tb_at 38 (by decide +kernel) (by decide +kernel), by decide, by decide⟩
theorem w_M_131 : cV "ChainVersionsModel" 131 8 mi_M_done 3 := ⟨ok_M_done, tb_at 800 (by decide +kernel) (by decide +kernel), tb_at 802 (by decide +kernel) (by decide +kernel), tb_at 39 (by decide +kernel) (by decide +kernel), by decide, by decide⟩
theorem w_M_135 : cV "ChainVersionsModel" 135 8 mi_M_tailOf 1 := ⟨ok_M_tailOf, tb_at 808 (by decide +kernel) (by decide +kernel), tb_at 810 (by decide +kernel) (by decide +kernel), tb_at 41 (by decide +kernel) (by decide +kernel), by decide, by decide⟩
theorem w_M_138 : cV "ChainVersionsModel" 138 8 mi_M_takeFrom 3 := ⟨ok_M_takeFrom, tb_at 848 (by decide +kernel) (by decide +kernel), tb_at 850 (by decide +kernel) (by decide +kernel), tb_at 46 (by decide +kernel) (by decide +kernel), by decide, by decide⟩
theorem w_M_141 : cV "ChainVersionsModel" 141 8 mi_M_answer 3 := ⟨ok_M_answer, tb_at 852 (by decide +kernel) (by decide +kernel), tb_at 854 (by decide +kernel) (by decide +kernel), tb_at 47 (by decide +kernel) (by decide +kernel), by decide, by decide⟩
theorem w_M_144 : cV "ChainVersionsModel" 144 8 mi_M_sendWrite 1 := ⟨ok_M_sendWrite, tb_at 752 (by decide +kernel) (by decide +kernel), tb_at 754 (by decide +kernel) (by decide +kernel), tb_at 28 (by decide +kernel) (by decide +kernel), by decide, by decide⟩
theorem w_M_147 : cV "ChainVersionsModel" 147 8 mi_M_serves 1 := ⟨ok_M_serves, tb_at 784 (by decide +kernel) (by decide +kernel), tb_at 786 (by decide +kernel) (by decide +kernel), tb_at 35 (by decide +kernel) (by decide +kernel), by decide, by decide⟩
theorem w_M_151 : cV "ChainVersionsModel" 151 8 mi_M_serve 2 := ⟨ok_M_serve, tb_at 788 (by decide +kernel) (by decide +kernel), tb_at 790 (by decide +kernel) (by decide +kernel), tb_at 36 (by decide +kernel) (by decide +kernel), by decide, by decide⟩
theorem w_M_154 : cV "ChainVersionsModel" 154 8 mi_M_isDone 1 := ⟨ok_M_isDone, tb_at 824 (by decide +kernel) (by decide +kernel), tb_at 826 (by decide +kernel) (by decide +kernel), tb_at 42 (by decide +kernel) (by decide +kernel), by decide, by decide⟩
theorem w_M_157 : cV "ChainVersionsModel" 157 8 mi_M_first 2 := ⟨ok_M_first, tb_at 836 (by decide +kernel) (by decide +kernel), tb_at 838 (by decide +kernel) (by decide +kernel), tb_at 43 (by decide +kernel) (by decide +kernel), by decide, by decide⟩
theorem w_M_160 : cV "ChainVersionsModel" 160 8 mi_M_act 5 := ⟨ok_M_act, tb_at 844 (by decide +kernel) (by decide +kernel), tb_at 846 (by decide +kernel) (by decide +kernel), tb_at 45 (by decide +kernel) (by decide +kernel), by decide, by decide⟩
theorem w_M_163 : cV "ChainVersionsModel" 163 8 mi_M_arrive 4 := ⟨ok_M_arrive, tb_at 856 (by decide +kernel) (by decide +kernel), tb_at 858 (by decide +kernel) (by decide +kernel), tb_at 48 (by decide +kernel) (by decide +kernel), by decide, by decide⟩
theorem w_M_167 : cV "ChainVersionsModel" 167 8 mi_M_lose 2 := ⟨ok_M_lose, tb_at 868 (by decide +kernel) (by decide +kernel), tb_at 870 (by decide +kernel) (by decide +kernel), tb_at 49 (by decide +kernel) (by decide +kernel), by decide, by decide⟩
theorem w_M_171 : cV "ChainVersionsModel" 171 8 mi_M_version 3 := ⟨ok_M_version, tb_at 908 (by decide +kernel) (by decide +kernel), tb_at 901 (by decide +kernel) (by decide +kernel), tb_at 902 (by decide +kernel) (by decide +kernel), by decide, by decide⟩
theorem f_X_11 : FLs "ChainVersions" 11 192 := ⟨"ChainVersions", ⟨tb_at 202 (by decide +kernel) (by decide +kernel), by decide, by decide, by decide⟩, Or.inl rfl⟩
theorem f_X_17 : FLs "ChainVersions" 17 193 := ⟨"ChainVersions", ⟨tb_at 203 (by decide +kernel) (by decide +kernel), by decide, by decide, by decide⟩, Or.inl rfl⟩
theorem f_X_24 : FLs "ChainVersions" 24 194 := ⟨"ChainVersions", ⟨tb_at 204 (by decide +kernel) (by decide +kernel), by decide, by decide, by decide⟩, Or.inl rfl⟩
theorem f_X_42 : FLs "ChainVersions" 42 195 := ⟨"ChainVersions", ⟨tb_at 205 (by decide +kernel) (by decide +kernel), by decide, by decide, by decide⟩, Or.inl rfl⟩
theorem f_X_49 : FLs "ChainVersions" 49 196 := ⟨"ChainVersions", ⟨tb_at 206 (by decide +kernel) (by decide +kernel), by decide, by decide, by decide⟩, Or.inl rfl⟩
theorem f_X_89 : FLs "ChainVersions" 89 64 := ⟨"ChainVersions$Client", ⟨tb_at 174 (by decide +kernel) (by decide +kernel), by decide, by decide, by decide⟩, Or.inl rfl⟩
theorem f_X_92 : FLs "ChainVersions" 92 68 := ⟨"ChainVersions$Client", ⟨tb_at 182 (by decide +kernel) (by decide +kernel), by decide, by decide, by decide⟩, Or.inl rfl⟩
theorem f_X_101 : FLs "ChainVersions" 101 69 := ⟨"ChainVersions$Client", ⟨tb_at 183 (by decide +kernel) (by decide +kernel), by decide, by decide, by decide⟩, Or.inl rfl⟩
theorem f_X_104 : FLs "ChainVersions" 104 70 := ⟨"ChainVersions$Client", ⟨tb_at 186 (by decide +kernel) (by decide +kernel), by decide, by decide, by decide⟩, Or.inl rfl⟩
theorem f_X_116 : FLs "ChainVersions" 116 227 := ⟨"ChainVersions$Message", ⟨tb_at 353 (by decide +kernel) (by decide +kernel), by decide, by decide, by decide⟩, Or.inl rfl⟩
theorem f_X_119 : FLs "ChainVersions" 119 130 := ⟨"ChainVersions$Node", ⟨tb_at 141 (by decide +kernel) (by decide +kernel), by decide, by decide, by decide⟩, Or.inl rfl⟩
theorem f_X_122 : FLs "ChainVersions" 122 96 := ⟨"ChainVersions$Configuration", ⟨tb_at 119 (by decide +kernel) (by decide +kernel), by decide, by decide, by decide⟩, Or.inl rfl⟩
theorem f_X_123 : FLs "ChainVersions" 123 132 := ⟨"ChainVersions$Node", ⟨tb_at 145 (by decide +kernel) (by decide +kernel), by decide, by decide, by decide⟩, Or.inl rfl⟩
theorem f_X_127 : FLs "ChainVersions" 127 224 := ⟨"ChainVersions$Message", ⟨tb_at 347 (by decide +kernel) (by decide +kernel), by decide, by decide, by decide⟩, Or.inl rfl⟩
theorem f_X_148 : FLs "ChainVersions" 148 131 := ⟨"ChainVersions$Node", ⟨tb_at 143 (by decide +kernel) (by decide +kernel), by decide, by decide, by decide⟩, Or.inl rfl⟩
theorem f_X_151 : FLs "ChainVersions" 151 197 := ⟨"ChainVersions", ⟨tb_at 207 (by decide +kernel) (by decide +kernel), by decide, by decide, by decide⟩, Or.inl rfl⟩
theorem f_X_154 : FLs "ChainVersions" 154 133 := ⟨"ChainVersions$Node", ⟨tb_at 146 (by decide +kernel) (by decide +kernel), by decide, by decide, by decide⟩, Or.inl rfl⟩
theorem f_X_167 : FLs "ChainVersions" 167 97 := ⟨"ChainVersions$Configuration", ⟨tb_at 121 (by decide +kernel) (by decide +kernel), by decide, by decide, by decide⟩, Or.inl rfl⟩
theorem f_X_188 : FLs "ChainVersions" 188 134 := ⟨"ChainVersions$Node", ⟨tb_at 148 (by decide +kernel) (by decide +kernel), by decide, by decide, by decide⟩, Or.inl rfl⟩
theorem f_X_191 : FLs "ChainVersions" 191 135 := ⟨"ChainVersions$Node", ⟨tb_at 150 (by decide +kernel) (by decide +kernel), by decide, by decide, by decide⟩, Or.inl rfl⟩
theorem f_X_209 : FLs "ChainVersions" 209 65 := ⟨"ChainVersions$Client", ⟨tb_at 176 (by decide +kernel) (by decide +kernel), by decide, by decide, by decide⟩, Or.inl rfl⟩
theorem f_X_220 : FLs "ChainVersions" 220 66 := ⟨"ChainVersions$Client", ⟨tb_at 178 (by decide +kernel) (by decide +kernel), by decide, by decide, by decide⟩, Or.inl rfl⟩
theorem f_X_223 : FLs "ChainVersions" 223 67 := ⟨"ChainVersions$Client", ⟨tb_at 180 (by decide +kernel) (by decide +kernel), by decide, by decide, by decide⟩, Or.inl rfl⟩
theorem f_X_243 : FLs "ChainVersions" 243 128 := ⟨"ChainVersions$Node", ⟨tb_at 137 (by decide +kernel) (by decide +kernel), by decide, by decide, by decide⟩, Or.inl rfl⟩
theorem f_X_252 : FLs "ChainVersions" 252 231 := ⟨"ChainVersions$Message", ⟨tb_at 357 (by decide +kernel) (by decide +kernel), by decide, by decide, by decide⟩, Or.inl rfl⟩
theorem f_X_253 : FLs "ChainVersions" 253 232 := ⟨"ChainVersions$Message", ⟨tb_at 358 (by decide +kernel) (by decide +kernel), by decide, by decide, by decide⟩, Or.inl rfl⟩
theorem f_X_267 : FLs "ChainVersions" 267 228 := ⟨"ChainVersions$Message", ⟨tb_at 354 (by decide +kernel) (by decide +kernel), by decide, by decide, by decide⟩, Or.inl rfl⟩
theorem f_X_271 : FLs "ChainVersions" 271 229 := ⟨"ChainVersions$Message", ⟨tb_at 355 (by decide +kernel) (by decide +kernel), by decide, by decide, by decide⟩, Or.inl rfl⟩
theorem f_X_309 : FLs "ChainVersions" 309 162 := ⟨"ChainVersions$Update", ⟨tb_at 286 (by decide +kernel) (by decide +kernel), by decide, by decide, by decide⟩, Or.inl rfl⟩
theorem f_X_310 : FLs "ChainVersions" 310 163 := ⟨"ChainVersions$Update", ⟨tb_at 289 (by decide +kernel) (by decide +kernel), by decide, by decide, by decide⟩, Or.inl rfl⟩
theorem f_X_313 : FLs "ChainVersions" 313 161 := ⟨"ChainVersions$Update", ⟨tb_at 283 (by decide +kernel) (by decide +kernel), by decide, by decide, by decide⟩, Or.inl rfl⟩
theorem f_X_316 : FLs "ChainVersions" 316 225 := ⟨"ChainVersions$Message", ⟨tb_at 349 (by decide +kernel) (by decide +kernel), by decide, by decide, by decide⟩, Or.inl rfl⟩
theorem f_X_322 : FLs "ChainVersions" 322 230 := ⟨"ChainVersions$Message", ⟨tb_at 356 (by decide +kernel) (by decide +kernel), by decide, by decide, by decide⟩, Or.inl rfl⟩
theorem f_X_329 : FLs "ChainVersions" 329 226 := ⟨"ChainVersions$Message", ⟨tb_at 351 (by decide +kernel) (by decide +kernel), by decide, by decide, by decide⟩, Or.inl rfl⟩
theorem w_X_23 : cI "ChainVersions" 23 mi_AL_init 0 := ⟨ok_AL_init, tb_at 81 (by decide +kernel) (by decide +kernel), tb_at 82 (by decide +kernel) (by decide +kernel), rfl, rfl⟩
theorem w_X_28 : cS "ChainVersions" 28 mi_Ma_min 2 := ⟨ok_Ma_min, tb_at 105 (by decide +kernel) (by decide +kernel), tb_at 106 (by decide +kernel) (by decide +kernel)⟩
theorem w_X_34 : cS "ChainVersions" 34 mi_Ma_max 2 := ⟨ok_Ma_max, tb_at 108 (by decide +kernel) (by decide +kernel), tb_at 109 (by decide +kernel) (by decide +kernel)⟩
theorem w_X_39 : cI "ChainVersions" 39 mi_Cf_init 2 := ⟨ok_Cf_init, tb_at 113 (by decide +kernel) (by decide +kernel), tb_at 114 (by decide +kernel) (by decide +kernel), rfl, rfl⟩
theorem w_X_46 : cI "ChainVersions" 46 mi_Nd_init 3 := ⟨ok_Nd_init, tb_at 129 (by decide +kernel) (by decide +kernel), tb_at 130 (by decide +kernel) (by decide +kernel), rfl, rfl⟩
theorem w_X_54 : cV "ChainVersions" 54 6 mi_X_clientOf 1 := ⟨ok_X_clientOf, tb_at 225 (by decide +kernel) (by decide +kernel), tb_at 227 (by decide +kernel) (by decide +kernel), tb_at 0 (by decide +kernel) (by decide +kernel), by decide, by decide⟩
theorem w_X_58 : cS "ChainVersions" 58 mi_X_isKey 1 := ⟨ok_X_isKey, tb_at 229 (by decide +kernel) (by decide +kernel), tb_at 230 (by decide +kernel) (by decide +kernel)⟩
theorem w_X_62 : cV "ChainVersions" 62 2 mi_Cl_isUnderWay 0 := ⟨ok_Cl_isUnderWay, tb_at 232 (by decide +kernel) (by decide +kernel), tb_at 233 (by decide +kernel) (by decide +kernel), tb_at 234 (by decide +kernel) (by decide +kernel), by decide, by decide⟩
theorem w_X_66 : cV "ChainVersions" 66 2 mi_Cl_beginWrite 2 := ⟨ok_Cl_beginWrite, tb_at 236 (by decide +kernel) (by decide +kernel), tb_at 237 (by decide +kernel) (by decide +kernel), tb_at 238 (by decide +kernel) (by decide +kernel), by decide, by decide⟩
theorem w_X_70 : cV "ChainVersions" 70 6 mi_X_sendWrite 2 := ⟨ok_X_sendWrite, tb_at 240 (by decide +kernel) (by decide +kernel), tb_at 242 (by decide +kernel) (by decide +kernel), tb_at 1 (by decide +kernel) (by decide +kernel), by decide, by decide⟩
theorem w_X_74 : cS "ChainVersions" 74 mi_X_isNodeNumber 1 := ⟨ok_X_isNodeNumber, tb_at 441 (by decide +kernel) (by decide +kernel), tb_at 442 (by decide +kernel) (by decide +kernel)⟩
theorem w_X_77 : cV "ChainVersions" 77 6 mi_X_readyNode 1 := ⟨ok_X_readyNode, tb_at 444 (by decide +kernel) (by decide +kernel), tb_at 446 (by decide +kernel) (by decide +kernel), tb_at 11 (by decide +kernel) (by decide +kernel), by decide, by decide⟩
theorem w_X_81 : cV "ChainVersions" 81 2 mi_Cl_beginRead 1 := ⟨ok_Cl_beginRead, tb_at 448 (by decide +kernel) (by decide +kernel), tb_at 449 (by decide +kernel) (by decide +kernel), tb_at 450 (by decide +kernel) (by decide +kernel), by decide, by decide⟩
theorem w_X_85 : cV "ChainVersions" 85 6 mi_X_serve 3 := ⟨ok_X_serve, tb_at 452 (by decide +kernel) (by decide +kernel), tb_at 454 (by decide +kernel) (by decide +kernel), tb_at 12 (by decide +kernel) (by decide +kernel), by decide, by decide⟩
theorem w_X_95 : cV "ChainVersions" 95 6 mi_X_livingNode 1 := ⟨ok_X_livingNode, tb_at 252 (by decide +kernel) (by decide +kernel), tb_at 254 (by decide +kernel) (by decide +kernel), tb_at 2 (by decide +kernel) (by decide +kernel), by decide, by decide⟩
theorem w_X_98 : cV "ChainVersions" 98 2 mi_Cl_isDone 0 := ⟨ok_Cl_isDone, tb_at 488 (by decide +kernel) (by decide +kernel), tb_at 489 (by decide +kernel) (by decide +kernel), tb_at 490 (by decide +kernel) (by decide +kernel), by decide, by decide⟩
theorem w_X_107 : cV "ChainVersions" 107 6 mi_X_firstOnLink 2 := ⟨ok_X_firstOnLink, tb_at 500 (by decide +kernel) (by decide +kernel), tb_at 502 (by decide +kernel) (by decide +kernel), tb_at 13 (by decide +kernel) (by decide +kernel), by decide, by decide⟩
theorem w_X_110 : cV "ChainVersions" 110 1 mi_AL_get 1 := ⟨ok_AL_get, tb_at 508 (by decide +kernel) (by decide +kernel), tb_at 509 (by decide +kernel) (by decide +kernel), tb_at 510 (by decide +kernel) (by decide +kernel), by decide, by decide⟩
theorem w_X_130 : cV "ChainVersions" 130 1 mi_AL_remove 1 := ⟨ok_AL_remove, tb_at 526 (by decide +kernel) (by decide +kernel), tb_at 527 (by decide +kernel) (by decide +kernel), tb_at 528 (by decide +kernel) (by decide +kernel), by decide, by decide⟩
theorem w_X_133 : cV "ChainVersions" 133 6 mi_X_receive 2 := ⟨ok_X_receive, tb_at 535 (by decide +kernel) (by decide +kernel), tb_at 537 (by decide +kernel) (by decide +kernel), tb_at 15 (by decide +kernel) (by decide +kernel), by decide, by decide⟩
theorem w_X_137 : cV "ChainVersions" 137 1 mi_AL_size 0 := ⟨ok_AL_size, tb_at 504 (by decide +kernel) (by decide +kernel), tb_at 505 (by decide +kernel) (by decide +kernel), tb_at 506 (by decide +kernel) (by decide +kernel), by decide, by decide⟩
theorem w_X_141 : cV "ChainVersions" 141 7 mi_Mg_isOnLink 2 := ⟨ok_Mg_isOnLink, tb_at 522 (by decide +kernel) (by decide +kernel), tb_at 523 (by decide +kernel) (by decide +kernel), tb_at 524 (by decide +kernel) (by decide +kernel), by decide, by decide⟩
theorem w_X_145 : cV "ChainVersions" 145 6 mi_X_hasOtherReadyNode 1 := ⟨ok_X_hasOtherReadyNode, tb_at 584 (by decide +kernel) (by decide +kernel), tb_at 586 (by decide +kernel) (by decide +kernel), tb_at 23 (by decide +kernel) (by decide +kernel), by decide, by decide⟩
theorem w_X_160 : cV "ChainVersions" 160 6 mi_X_loseMessagesTo 2 := ⟨ok_X_loseMessagesTo, tb_at 589 (by decide +kernel) (by decide +kernel), tb_at 591 (by decide +kernel) (by decide +kernel), tb_at 24 (by decide +kernel) (by decide +kernel), by decide, by decide⟩
theorem w_X_163 : cV "ChainVersions" 163 3 mi_Cf_with 1 := ⟨ok_Cf_with, tb_at 597 (by decide +kernel) (by decide +kernel), tb_at 598 (by decide +kernel) (by decide +kernel), tb_at 599 (by decide +kernel) (by decide +kernel), by decide, by decide⟩
theorem w_X_171 : cV "ChainVersions" 171 6 mi_X_isLongSilent 1 := ⟨ok_X_isLongSilent, tb_at 608 (by decide +kernel) (by decide +kernel), tb_at 610 (by decide +kernel) (by decide +kernel), tb_at 25 (by decide +kernel) (by decide +kernel), by decide, by decide⟩
theorem w_X_174 : cV "ChainVersions" 174 6 mi_X_withoutSilent 1 := ⟨ok_X_withoutSilent, tb_at 612 (by decide +kernel) (by decide +kernel), tb_at 614 (by decide +kernel) (by decide +kernel), tb_at 26 (by decide +kernel) (by decide +kernel), by decide, by decide⟩
theorem w_X_177 : cV "ChainVersions" 177 6 mi_X_tellNeighbours 1 := ⟨ok_X_tellNeighbours, tb_at 568 (by decide +kernel) (by decide +kernel), tb_at 570 (by decide +kernel) (by decide +kernel), tb_at 21 (by decide +kernel) (by decide +kernel), by decide, by decide⟩
theorem w_X_181 : cV "ChainVersions" 181 6 mi_X_serveWaitingReads 1 := ⟨ok_X_serveWaitingReads, tb_at 620 (by decide +kernel) (by decide +kernel), tb_at 622 (by decide +kernel) (by decide +kernel), tb_at 27 (by decide +kernel) (by decide +kernel), by decide, by decide⟩
theorem w_X_184 : cV "ChainVersions" 184 3 mi_Cf_memberAt 1 := ⟨ok_Cf_memberAt, tb_at 628 (by decide +kernel) (by decide +kernel), tb_at 249 (by decide +kernel) (by decide +kernel), tb_at 250 (by decide +kernel) (by decide +kernel), by decide, by decide⟩
theorem w_X_194 : cV "ChainVersions" 194 4 mi_Nd_versionAt 2 := ⟨ok_Nd_versionAt, tb_at 645 (by decide +kernel) (by decide +kernel), tb_at 646 (by decide +kernel) (by decide +kernel), tb_at 647 (by decide +kernel) (by decide +kernel), by decide, by decide⟩
theorem w_X_197 : cV "ChainVersions" 197 4 mi_Nd_valueOf 1 := ⟨ok_Nd_valueOf, tb_at 471 (by decide +kernel) (by decide +kernel), tb_at 472 (by decide +kernel) (by decide +kernel), tb_at 473 (by decide +kernel) (by decide +kernel), by decide, by decide⟩
theorem w_X_200 : cV "ChainVersions" 200 6 mi_X_madeNode 1 := ⟨ok_X_madeNode, tb_at 564 (by decide +kernel) (by decide +kernel), tb_at 566 (by decide +kernel) (by decide +kernel), tb_at 20 (by decide +kernel) (by decide +kernel), by decide, by decide⟩
theorem w_X_203 : cV "ChainVersions" 203 3 mi_Cf_head 0 := ⟨ok_Cf_head, tb_at 244 (by decide +kernel) (by decide +kernel), tb_at 245 (by decide +kernel) (by decide +kernel), tb_at 246 (by decide +kernel) (by decide +kernel), by decide, by decide⟩
theorem w_X_206 : cV "ChainVersions" 206 4 mi_Nd_isHead 0 := ⟨ok_Nd_isHead, tb_at 256 (by decide +kernel) (by decide +kernel), tb_at 257 (by decide +kernel) (by decide +kernel), tb_at 258 (by decide +kernel) (by decide +kernel), by decide, by decide⟩
theorem w_X_212 : cV "ChainVersions" 212 4 mi_Nd_numberOf 2 := ⟨ok_Nd_numberOf, tb_at 261 (by decide +kernel) (by decide +kernel), tb_at 262 (by decide +kernel) (by decide +kernel), tb_at 263 (by decide +kernel) (by decide +kernel), by decide, by decide⟩
theorem w_X_215 : cV "ChainVersions" 215 4 mi_Nd_isFull 0 := ⟨ok_Nd_isFull, tb_at 269 (by decide +kernel) (by decide +kernel), tb_at 270 (by decide +kernel) (by decide +kernel), tb_at 271 (by decide +kernel) (by decide +kernel), by decide, by decide⟩
theorem w_X_226 : cI "ChainVersions" 226 mi_Up_init 4 := ⟨ok_Up_init, tb_at 275 (by decide +kernel) (by decide +kernel), tb_at 276 (by decide +kernel) (by decide +kernel), rfl, rfl⟩
theorem w_X_229 : cV "ChainVersions" 229 6 mi_X_take 2 := ⟨ok_X_take, tb_at 299 (by decide +kernel) (by decide +kernel), tb_at 301 (by decide +kernel) (by decide +kernel), tb_at 3 (by decide +kernel) (by decide +kernel), by decide, by decide⟩
theorem w_X_233 : cV "ChainVersions" 233 4 mi_Nd_isClean 1 := ⟨ok_Nd_isClean, tb_at 456 (by decide +kernel) (by decide +kernel), tb_at 457 (by decide +kernel) (by decide +kernel), tb_at 458 (by decide +kernel) (by decide +kernel), by decide, by decide⟩
theorem w_X_236 : cV "ChainVersions" 236 4 mi_Nd_cleanVersion 1 := ⟨ok_Nd_cleanVersion, tb_at 464 (by decide +kernel) (by decide +kernel), tb_at 465 (by decide +kernel) (by decide +kernel), tb_at 466 (by decide +kernel) (by decide +kernel), by decide, by decide⟩
theorem w_X_239 : cS "ChainVersions" 239 mi_X_finishRead 3 := ⟨ok_X_finishRead, tb_at 468 (by decide +kernel) (by decide +kernel), tb_at 469 (by decide +kernel) (by decide +kernel)⟩
theorem w_X_246 : cV "ChainVersions" 246 3 mi_Cf_tail 0 := ⟨ok_Cf_tail, tb_at 475 (by decide +kernel) (by decide +kernel), tb_at 312 (by decide +kernel) (by decide +kernel), tb_at 313 (by decide +kernel) (by decide +kernel), by decide, by decide⟩
theorem w_X_249 : cI "ChainVersions" 249 mi_Mg_init 3 := ⟨ok_Mg_init, tb_at 342 (by decide +kernel) (by decide +kernel), tb_at 343 (by decide +kernel) (by decide +kernel), rfl, rfl⟩
theorem w_X_256 : cV "ChainVersions" 256 6 mi_X_send 1 := ⟨ok_X_send, tb_at 378 (by decide +kernel) (by decide +kernel), tb_at 380 (by decide +kernel) (by decide +kernel), tb_at 7 (by decide +kernel) (by decide +kernel), by decide, by decide⟩
theorem w_X_260 : cV "ChainVersions" 260 2 mi_Cl_isReadingAt 1 := ⟨ok_Cl_isReadingAt, tb_at 551 (by decide +kernel) (by decide +kernel), tb_at 552 (by decide +kernel) (by decide +kernel), tb_at 553 (by decide +kernel) (by decide +kernel), by decide, by decide⟩
theorem w_X_263 : cV "ChainVersions" 263 2 mi_Cl_finish 3 := ⟨ok_Cl_finish, tb_at 324 (by decide +kernel) (by decide +kernel), tb_at 325 (by decide +kernel) (by decide +kernel), tb_at 326 (by decide +kernel) (by decide +kernel), by decide, by decide⟩
theorem w_X_272 : cV "ChainVersions" 272 6 mi_X_settleUpTo 2 := ⟨ok_X_settleUpTo, tb_at 539 (by decide +kernel) (by decide +kernel), tb_at 541 (by decide +kernel) (by decide +kernel), tb_at 16 (by decide +kernel) (by decide +kernel), by decide, by decide⟩
theorem w_X_276 : cV "ChainVersions" 276 6 mi_X_answer 2 := ⟨ok_X_answer, tb_at 543 (by decide +kernel) (by decide +kernel), tb_at 545 (by decide +kernel) (by decide +kernel), tb_at 17 (by decide +kernel) (by decide +kernel), by decide, by decide⟩
theorem w_X_279 : cV "ChainVersions" 279 6 mi_X_useAnswer 2 := ⟨ok_X_useAnswer, tb_at 547 (by decide +kernel) (by decide +kernel), tb_at 549 (by decide +kernel) (by decide +kernel), tb_at 18 (by decide +kernel) (by decide +kernel), by decide, by decide⟩
theorem w_X_282 : cV "ChainVersions" 282 6 mi_X_receiveCopy 2 := ⟨ok_X_receiveCopy, tb_at 560 (by decide +kernel) (by decide +kernel), tb_at 562 (by decide +kernel) (by decide +kernel), tb_at 19 (by decide +kernel) (by decide +kernel), by decide, by decide⟩
theorem w_X_285 : cV "ChainVersions" 285 4 mi_Nd_hold 1 := ⟨ok_Nd_hold, tb_at 303 (by decide +kernel) (by decide +kernel), tb_at 304 (by decide +kernel) (by decide +kernel), tb_at 305 (by decide +kernel) (by decide +kernel), by decide, by decide⟩
theorem w_X_289 : cV "ChainVersions" 289 4 mi_Nd_isTail 0 := ⟨ok_Nd_isTail, tb_at 307 (by decide +kernel) (by decide +kernel), tb_at 308 (by decide +kernel) (by decide +kernel), tb_at 309 (by decide +kernel) (by decide +kernel), by decide, by decide⟩
theorem w_X_292 : cV "ChainVersions" 292 6 mi_X_settleAll 1 := ⟨ok_X_settleAll, tb_at 315 (by decide +kernel) (by decide +kernel), tb_at 317 (by decide +kernel) (by decide +kernel), tb_at 4 (by decide +kernel) (by decide +kernel), by decide, by decide⟩
theorem w_X_295 : cV "ChainVersions" 295 6 mi_X_sendAck 1 := ⟨ok_X_sendAck, tb_at 328 (by decide +kernel) (by decide +kernel), tb_at 330 (by decide +kernel) (by decide +kernel), tb_at 6 (by decide +kernel) (by decide +kernel), by decide, by decide⟩
theorem w_X_298 : cV "ChainVersions" 298 4 mi_Nd_successor 0 := ⟨ok_Nd_successor, tb_at 433 (by decide +kernel) (by decide +kernel), tb_at 434 (by decide +kernel) (by decide +kernel), tb_at 435 (by decide +kernel) (by decide +kernel), by decide, by decide⟩
theorem w_X_301 : cV "ChainVersions" 301 4 mi_Nd_updateAt 1 := ⟨ok_Nd_updateAt, tb_at 319 (by decide +kernel) (by decide +kernel), tb_at 266 (by decide +kernel) (by decide +kernel), tb_at 267 (by decide +kernel) (by decide +kernel), by decide, by decide⟩
theorem w_X_305 : cV "ChainVersions" 305 6 mi_X_finishWrite 2 := ⟨ok_X_finishWrite, tb_at 320 (by decide +kernel) (by decide +kernel), tb_at 322 (by decide +kernel) (by decide +kernel), tb_at 5 (by decide +kernel) (by decide +kernel), by decide, by decide⟩
theorem w_X_319 : cV "ChainVersions" 319 4 mi_Nd_hasVersion 2 := ⟨ok_Nd_hasVersion, tb_at 555 (by decide +kernel) (by decide +kernel), tb_at 556 (by decide +kernel) (by decide +kernel), tb_at 557 (by decide +kernel) (by decide +kernel), by decide, by decide⟩
theorem w_X_323 : cV "ChainVersions" 323 6 mi_X_sendCopy 1 := ⟨ok_X_sendCopy, tb_at 572 (by decide +kernel) (by decide +kernel), tb_at 574 (by decide +kernel) (by decide +kernel), tb_at 22 (by decide +kernel) (by decide +kernel), by decide, by decide⟩
theorem w_X_326 : cV "ChainVersions" 326 4 mi_Nd_predecessor 0 := ⟨ok_Nd_predecessor, tb_at 334 (by decide +kernel) (by decide +kernel), tb_at 335 (by decide +kernel) (by decide +kernel), tb_at 336 (by decide +kernel) (by decide +kernel), by decide, by decide⟩
theorem w_X_332 : cV "ChainVersions" 332 1 mi_AL_add_0 1 := ⟨ok_AL_add_0, tb_at 382 (by decide +kernel) (by decide +kernel), tb_at 383 (by decide +kernel) (by decide +kernel), tb_at 384 (by decide +kernel) (by decide +kernel), by decide, by decide⟩
theorem f_Cl_9 : FLs "ChainVersions$Client" 9 64 := ⟨"ChainVersions$Client", ⟨tb_at 173 (by decide +kernel) (by decide +kernel), by decide, by decide, by decide⟩, Or.inl rfl⟩
theorem f_Cl_15 : FLs "ChainVersions$Client" 15 68 := ⟨"ChainVersions$Client", ⟨tb_at 181 (by decide +kernel) (by decide +kernel), by decide, by decide, by decide⟩, Or.inl rfl⟩
theorem f_Cl_18 : FLs "ChainVersions$Client" 18 65 := ⟨"ChainVersions$Client", ⟨tb_at 175 (by decide +kernel) (by decide +kernel), by decide, by decide, by decide⟩, Or.inl rfl⟩
theorem f_Cl_21 : FLs "ChainVersions$Client" 21 66 := ⟨"ChainVersions$Client", ⟨tb_at 177 (by decide +kernel) (by decide +kernel), by decide, by decide, by decide⟩, Or.inl rfl⟩
theorem f_Cl_24 : FLs "ChainVersions$Client" 24 67 := ⟨"ChainVersions$Client", ⟨tb_at 179 (by decide +kernel) (by decide +kernel), by decide, by decide, by decide⟩, Or.inl rfl⟩
theorem f_Cl_27 : FLs "ChainVersions$Client" 27 69 := ⟨"ChainVersions$Client", ⟨tb_at 184 (by decide +kernel) (by decide +kernel), by decide, by decide, by decide⟩, Or.inl rfl⟩
theorem f_Cl_30 : FLs "ChainVersions$Client" 30 70 := ⟨"ChainVersions$Client", ⟨tb_at 185 (by decide +kernel) (by decide +kernel), by decide, by decide, by decide⟩, Or.inl rfl⟩
theorem f_Cf_9 : FLs "ChainVersions$Configuration" 9 96 := ⟨"ChainVersions$Configuration", ⟨tb_at 117 (by decide +kernel) (by decide +kernel), by decide, by decide, by decide⟩, Or.inl rfl⟩
theorem f_Cf_15 : FLs "ChainVersions$Configuration" 15 97 := ⟨"ChainVersions$Configuration", ⟨tb_at 120 (by decide +kernel) (by decide +kernel), by decide, by decide, by decide⟩, Or.inl rfl⟩
theorem w_Cf_19 : cV "ChainVersions$Configuration" 19 3 mi_Cf_memberAt 1 := ⟨ok_Cf_memberAt, tb_at 248 (by decide +kernel) (by decide +kernel), tb_at 249 (by decide +kernel) (by decide +kernel), tb_at 250 (by decide +kernel) (by decide +kernel), by decide, by decide⟩
theorem w_Cf_29 : cI "ChainVersions$Configuration" 29 mi_Cf_init 2 := ⟨ok_Cf_init, tb_at 603 (by decide +kernel) (by decide +kernel), tb_at 114 (by decide +kernel) (by decide +kernel), rfl, rfl⟩
theorem f_Mg_7 : FLs "ChainVersions$Message" 7 224 := ⟨"ChainVersions$Message", ⟨tb_at 346 (by decide +kernel) (by decide +kernel), by decide, by decide, by decide⟩, Or.inl rfl⟩
theorem f_Mg_13 : FLs "ChainVersions$Message" 13 128 := ⟨"ChainVersions$Node", ⟨tb_at 135 (by decide +kernel) (by decide +kernel), by decide, by decide, by decide⟩, Or.inl rfl⟩
theorem f_Mg_18 : FLs "ChainVersions$Message" 18 225 := ⟨"ChainVersions$Message", ⟨tb_at 348 (by decide +kernel) (by decide +kernel), by decide, by decide, by decide⟩, Or.inl rfl⟩
theorem f_Mg_21 : FLs "ChainVersions$Message" 21 226 := ⟨"ChainVersions$Message", ⟨tb_at 350 (by decide +kernel) (by decide +kernel), by decide, by decide, by decide⟩, Or.inl rfl⟩
theorem f_Mg_24 : FLs "ChainVersions$Message" 24 130 := ⟨"ChainVersions$Node", ⟨tb_at 139 (by decide +kernel) (by decide +kernel), by decide, by decide, by decide⟩, Or.inl rfl⟩
theorem f_Mg_28 : FLs "ChainVersions$Message" 28 96 := ⟨"ChainVersions$Configuration", ⟨tb_at 118 (by decide +kernel) (by decide +kernel), by decide, by decide, by decide⟩, Or.inl rfl⟩
theorem f_Mg_33 : FLs "ChainVersions$Message" 33 227 := ⟨"ChainVersions$Message", ⟨tb_at 352 (by decide +kernel) (by decide +kernel), by decide, by decide, by decide⟩, Or.inl rfl⟩
theorem f_Nd_11 : FLs "ChainVersions$Node" 11 129 := ⟨"ChainVersions$Node", ⟨tb_at 138 (by decide +kernel) (by decide +kernel), by decide, by decide, by decide⟩, Or.inl rfl⟩
theorem f_Nd_17 : FLs "ChainVersions$Node" 17 131 := ⟨"ChainVersions$Node", ⟨tb_at 142 (by decide +kernel) (by decide +kernel), by decide, by decide, by decide⟩, Or.inl rfl⟩
theorem f_Nd_21 : FLs "ChainVersions$Node" 21 128 := ⟨"ChainVersions$Node", ⟨tb_at 136 (by decide +kernel) (by decide +kernel), by decide, by decide, by decide⟩, Or.inl rfl⟩
theorem f_Nd_25 : FLs "ChainVersions$Node" 25 130 := ⟨"ChainVersions$Node", ⟨tb_at 140 (by decide +kernel) (by decide +kernel), by decide, by decide, by decide⟩, Or.inl rfl⟩
theorem f_Nd_29 : FLs "ChainVersions$Node" 29 132 := ⟨"ChainVersions$Node", ⟨tb_at 144 (by decide +kernel) (by decide +kernel), by decide, by decide, by decide⟩, Or.inl rfl⟩
theorem f_Nd_45 : FLs "ChainVersions$Node" 45 134 := ⟨"ChainVersions$Node", ⟨tb_at 147 (by decide +kernel) (by decide +kernel), by decide, by decide, by decide⟩, Or.inl rfl⟩
theorem f_Nd_48 : FLs "ChainVersions$Node" 48 135 := ⟨"ChainVersions$Node", ⟨tb_at 149 (by decide +kernel) (by decide +kernel), by decide, by decide, by decide⟩, Or.inl rfl⟩
theorem f_Nd_55 : FLs "ChainVersions$Node" 55 161 := ⟨"ChainVersions$Update", ⟨tb_at 282 (by decide +kernel) (by decide +kernel), by decide, by decide, by decide⟩, Or.inl rfl⟩
theorem f_Nd_58 : FLs "ChainVersions$Node" 58 160 := ⟨"ChainVersions$Update", ⟨tb_at 280 (by decide +kernel) (by decide +kernel), by decide, by decide, by decide⟩, Or.inl rfl⟩
theorem f_Nd_61 : FLs "ChainVersions$Node" 61 162 := ⟨"ChainVersions$Update", ⟨tb_at 285 (by decide +kernel) (by decide +kernel), by decide, by decide, by decide⟩, Or.inl rfl⟩
theorem f_Nd_64 : FLs "ChainVersions$Node" 64 163 := ⟨"ChainVersions$Update", ⟨tb_at 288 (by decide +kernel) (by decide +kernel), by decide, by decide, by decide⟩, Or.inl rfl⟩
theorem w_Nd_32 : cV "ChainVersions$Node" 32 3 mi_Cf_head 0 := ⟨ok_Cf_head, tb_at 260 (by decide +kernel) (by decide +kernel), tb_at 245 (by decide +kernel) (by decide +kernel), tb_at 246 (by decide +kernel) (by decide +kernel), by decide, by decide⟩
theorem w_Nd_38 : cV "ChainVersions$Node" 38 3 mi_Cf_tail 0 := ⟨ok_Cf_tail, tb_at 311 (by decide +kernel) (by decide +kernel), tb_at 312 (by decide +kernel) (by decide +kernel), tb_at 313 (by decide +kernel) (by decide +kernel), by decide, by decide⟩
theorem w_Nd_41 : cV "ChainVersions$Node" 41 3 mi_Cf_neighbour 2 := ⟨ok_Cf_neighbour, tb_at 338 (by decide +kernel) (by decide +kernel), tb_at 339 (by decide +kernel) (by decide +kernel), tb_at 340 (by decide +kernel) (by decide +kernel), by decide, by decide⟩
theorem w_Nd_51 : cV "ChainVersions$Node" 51 4 mi_Nd_updateAt 1 := ⟨ok_Nd_updateAt, tb_at 265 (by decide +kernel) (by decide +kernel), tb_at 266 (by decide +kernel) (by decide +kernel), tb_at 267 (by decide +kernel) (by decide +kernel), by decide, by decide⟩
theorem w_Nd_67 : cV "ChainVersions$Node" 67 4 mi_Nd_isOfKey 2 := ⟨ok_Nd_isOfKey, tb_at 460 (by decide +kernel) (by decide +kernel), tb_at 461 (by decide +kernel) (by decide +kernel), tb_at 462 (by decide +kernel) (by decide +kernel), by decide, by decide⟩
theorem w_Nd_71 : cV "ChainVersions$Node" 71 4 mi_Nd_cleanVersion 1 := ⟨ok_Nd_cleanVersion, tb_at 559 (by decide +kernel) (by decide +kernel), tb_at 465 (by decide +kernel) (by decide +kernel), tb_at 466 (by decide +kernel) (by decide +kernel), by decide, by decide⟩
theorem f_Up_7 : FLs "ChainVersions$Update" 7 160 := ⟨"ChainVersions$Update", ⟨tb_at 279 (by decide +kernel) (by decide +kernel), by decide, by decide, by decide⟩, Or.inl rfl⟩
theorem f_Up_13 : FLs "ChainVersions$Update" 13 161 := ⟨"ChainVersions$Update", ⟨tb_at 281 (by decide +kernel) (by decide +kernel), by decide, by decide, by decide⟩, Or.inl rfl⟩
theorem f_Up_16 : FLs "ChainVersions$Update" 16 162 := ⟨"ChainVersions$Update", ⟨tb_at 284 (by decide +kernel) (by decide +kernel), by decide, by decide, by decide⟩, Or.inl rfl⟩
theorem f_Up_19 : FLs "ChainVersions$Update" 19 163 := ⟨"ChainVersions$Update", ⟨tb_at 287 (by decide +kernel) (by decide +kernel), by decide, by decide, by decide⟩, Or.inl rfl⟩
theorem f_AL_9 : FLs "java/util/ArrayList" 9 33 := ⟨"java/util/ArrayList", ⟨tb_at 93 (by decide +kernel) (by decide +kernel), by decide, by decide, by decide⟩, Or.inl rfl⟩
theorem f_AL_48 : FLs "java/util/ArrayList" 48 34 := ⟨"java/util/ArrayList", ⟨tb_at 94 (by decide +kernel) (by decide +kernel), by decide, by decide, by decide⟩, Or.inl rfl⟩
theorem f_AL_63 : FLs "java/util/ArrayList" 63 32 := ⟨"java/util/ArrayList", ⟨tb_at 96 (by decide +kernel) (by decide +kernel), by decide, by decide, by decide⟩, Or.inr (tb_at 97 (by decide +kernel) (by decide +kernel))⟩
theorem w_AL_1 : cI "java/util/ArrayList" 1 mi_AbL_init 0 := ⟨ok_AbL_init, tb_at 84 (by decide +kernel) (by decide +kernel), tb_at 85 (by decide +kernel) (by decide +kernel), rfl, rfl⟩
theorem w_AL_66 : cS "java/util/ArrayList" 66 mi_As_copyOf_0 2 := ⟨ok_As_copyOf_0, tb_at 406 (by decide +kernel) (by decide +kernel), tb_at 407 (by decide +kernel) (by decide +kernel)⟩
theorem w_AL_69 : cV "java/util/ArrayList" 69 1 mi_AL_grow_1 1 := ⟨ok_AL_grow_1, tb_at 394 (by decide +kernel) (by decide +kernel), tb_at 396 (by decide +kernel) (by decide +kernel), tb_at 10 (by decide +kernel) (by decide +kernel), by decide, by decide⟩
theorem w_AL_73 : cS "java/util/ArrayList" 73 mi_ASu_newLength 3 := ⟨ok_ASu_newLength, tb_at 398 (by decide +kernel) (by decide +kernel), tb_at 399 (by decide +kernel) (by decide +kernel)⟩
theorem w_AL_79 : cS "java/util/ArrayList" 79 mi_Ma_max 2 := ⟨ok_Ma_max, tb_at 431 (by decide +kernel) (by decide +kernel), tb_at 109 (by decide +kernel) (by decide +kernel)⟩
theorem w_AL_118 : cS "java/util/ArrayList" 118 mi_Ob_checkIndex 2 := ⟨ok_Ob_checkIndex, tb_at 512 (by decide +kernel) (by decide +kernel), tb_at 513 (by decide +kernel) (by decide +kernel)⟩
theorem w_AL_123 : cV "java/util/ArrayList" 123 1 mi_AL_elementData 1 := ⟨ok_AL_elementData, tb_at 518 (by decide +kernel) (by decide +kernel), tb_at 519 (by decide +kernel) (by decide +kernel), tb_at 520 (by decide +kernel) (by decide +kernel), by decide, by decide⟩
theorem w_AL_129 : cV "java/util/ArrayList" 129 1 mi_AL_grow_0 0 := ⟨ok_AL_grow_0, tb_at 390 (by decide +kernel) (by decide +kernel), tb_at 392 (by decide +kernel) (by decide +kernel), tb_at 9 (by decide +kernel) (by decide +kernel), by decide, by decide⟩
theorem w_AL_131 : cV "java/util/ArrayList" 131 1 mi_AL_add_1 3 := ⟨ok_AL_add_1, tb_at 386 (by decide +kernel) (by decide +kernel), tb_at 388 (by decide +kernel) (by decide +kernel), tb_at 8 (by decide +kernel) (by decide +kernel), by decide, by decide⟩
theorem w_AL_144 : cV "java/util/ArrayList" 144 1 mi_AL_fastRemove 2 := ⟨ok_AL_fastRemove, tb_at 530 (by decide +kernel) (by decide +kernel), tb_at 532 (by decide +kernel) (by decide +kernel), tb_at 14 (by decide +kernel) (by decide +kernel), by decide, by decide⟩
theorem f_AbL_7 : FLs "java/util/AbstractList" 7 32 := ⟨"java/util/AbstractList", ⟨tb_at 95 (by decide +kernel) (by decide +kernel), by decide, by decide, by decide⟩, Or.inl rfl⟩
theorem w_AbL_1 : cI "java/util/AbstractList" 1 mi_AbC_init 0 := ⟨ok_AbC_init, tb_at 87 (by decide +kernel) (by decide +kernel), tb_at 88 (by decide +kernel) (by decide +kernel), rfl, rfl⟩
theorem w_As_300 : cS "java/util/Arrays" 300 mi_As_copyOf_1 3 := ⟨ok_As_copyOf_1, tb_at 421 (by decide +kernel) (by decide +kernel), tb_at 422 (by decide +kernel) (by decide +kernel)⟩
theorem w_As_304 : cS "java/util/Arrays" 304 mi_Ma_min 2 := ⟨ok_Ma_min, tb_at 427 (by decide +kernel) (by decide +kernel), tb_at 106 (by decide +kernel) (by decide +kernel)⟩
theorem w_Ob_105 : cS "java/util/Objects" 105 mi_Pr_checkIndex 3 := ⟨ok_Pr_checkIndex, tb_at 515 (by decide +kernel) (by decide +kernel), tb_at 516 (by decide +kernel) (by decide +kernel)⟩
theorem w_ASu_194 : cS "jdk/internal/util/ArraysSupport" 194 mi_Ma_max 2 := ⟨ok_Ma_max, tb_at 401 (by decide +kernel) (by decide +kernel), tb_at 109 (by decide +kernel) (by decide +kernel)⟩
theorem w_ASu_201 : cS "jdk/internal/util/ArraysSupport" 201 mi_ASu_hugeLength 2 := ⟨ok_ASu_hugeLength, tb_at 403 (by decide +kernel) (by decide +kernel), tb_at 404 (by decide +kernel) (by decide +kernel)⟩
theorem w_L_9 : cS "ChainVersionsLaw" 9 mi_L_cell 2 := ⟨ok_L_cell, tb_at 653 (by decide +kernel) (by decide +kernel), tb_at 654 (by decide +kernel) (by decide +kernel)⟩
theorem w_L_15 : cI "ChainVersionsLaw" 15 mi_X_init 1 := ⟨ok_X_init, tb_at 69 (by decide +kernel) (by decide +kernel), tb_at 70 (by decide +kernel) (by decide +kernel), rfl, rfl⟩
theorem w_L_20 : cI "ChainVersionsLaw" 20 mi_M_init 1 := ⟨ok_M_init, tb_at 658 (by decide +kernel) (by decide +kernel), tb_at 659 (by decide +kernel) (by decide +kernel), rfl, rfl⟩
theorem w_L_21 : cV "ChainVersionsLaw" 21 6 mi_X_put 3 := ⟨ok_X_put, tb_at 221 (by decide +kernel) (by decide +kernel), tb_at 222 (by decide +kernel) (by decide +kernel), tb_at 223 (by decide +kernel) (by decide +kernel), by decide, by decide⟩
theorem w_L_25 : cV "ChainVersionsLaw" 25 8 mi_M_put 3 := ⟨ok_M_put, tb_at 745 (by decide +kernel) (by decide +kernel), tb_at 746 (by decide +kernel) (by decide +kernel), tb_at 747 (by decide +kernel) (by decide +kernel), by decide, by decide⟩
theorem w_L_26 : cV "ChainVersionsLaw" 26 6 mi_X_get 3 := ⟨ok_X_get, tb_at 437 (by decide +kernel) (by decide +kernel), tb_at 438 (by decide +kernel) (by decide +kernel), tb_at 439 (by decide +kernel) (by decide +kernel), by decide, by decide⟩
theorem w_L_29 : cV "ChainVersionsLaw" 29 8 mi_M_get 3 := ⟨ok_M_get, tb_at 780 (by decide +kernel) (by decide +kernel), tb_at 781 (by decide +kernel) (by decide +kernel), tb_at 782 (by decide +kernel) (by decide +kernel), by decide, by decide⟩
theorem w_L_30 : cV "ChainVersionsLaw" 30 6 mi_X_retry 2 := ⟨ok_X_retry, tb_at 476 (by decide +kernel) (by decide +kernel), tb_at 477 (by decide +kernel) (by decide +kernel), tb_at 478 (by decide +kernel) (by decide +kernel), by decide, by decide⟩
theorem w_L_34 : cV "ChainVersionsLaw" 34 8 mi_M_retry 2 := ⟨ok_M_retry, tb_at 812 (by decide +kernel) (by decide +kernel), tb_at 813 (by decide +kernel) (by decide +kernel), tb_at 814 (by decide +kernel) (by decide +kernel), by decide, by decide⟩
theorem w_L_35 : cV "ChainVersionsLaw" 35 6 mi_X_status 1 := ⟨ok_X_status, tb_at 480 (by decide +kernel) (by decide +kernel), tb_at 481 (by decide +kernel) (by decide +kernel), tb_at 482 (by decide +kernel) (by decide +kernel), by decide, by decide⟩
theorem w_L_39 : cV "ChainVersionsLaw" 39 8 mi_M_status 1 := ⟨ok_M_status, tb_at 816 (by decide +kernel) (by decide +kernel), tb_at 817 (by decide +kernel) (by decide +kernel), tb_at 818 (by decide +kernel) (by decide +kernel), by decide, by decide⟩
theorem w_L_40 : cV "ChainVersionsLaw" 40 6 mi_X_number 1 := ⟨ok_X_number, tb_at 484 (by decide +kernel) (by decide +kernel), tb_at 485 (by decide +kernel) (by decide +kernel), tb_at 486 (by decide +kernel) (by decide +kernel), by decide, by decide⟩
theorem w_L_43 : cV "ChainVersionsLaw" 43 8 mi_M_number 1 := ⟨ok_M_number, tb_at 820 (by decide +kernel) (by decide +kernel), tb_at 821 (by decide +kernel) (by decide +kernel), tb_at 822 (by decide +kernel) (by decide +kernel), by decide, by decide⟩
theorem w_L_44 : cV "ChainVersionsLaw" 44 6 mi_X_value 1 := ⟨ok_X_value, tb_at 492 (by decide +kernel) (by decide +kernel), tb_at 493 (by decide +kernel) (by decide +kernel), tb_at 494 (by decide +kernel) (by decide +kernel), by decide, by decide⟩
theorem w_L_47 : cV "ChainVersionsLaw" 47 8 mi_M_value 1 := ⟨ok_M_value, tb_at 828 (by decide +kernel) (by decide +kernel), tb_at 829 (by decide +kernel) (by decide +kernel), tb_at 830 (by decide +kernel) (by decide +kernel), by decide, by decide⟩
theorem w_L_48 : cV "ChainVersionsLaw" 48 6 mi_X_deliver 2 := ⟨ok_X_deliver, tb_at 496 (by decide +kernel) (by decide +kernel), tb_at 497 (by decide +kernel) (by decide +kernel), tb_at 498 (by decide +kernel) (by decide +kernel), by decide, by decide⟩
theorem w_L_51 : cV "ChainVersionsLaw" 51 8 mi_M_deliver 2 := ⟨ok_M_deliver, tb_at 832 (by decide +kernel) (by decide +kernel), tb_at 833 (by decide +kernel) (by decide +kernel), tb_at 834 (by decide +kernel) (by decide +kernel), by decide, by decide⟩
theorem w_L_52 : cV "ChainVersionsLaw" 52 6 mi_X_waiting 2 := ⟨ok_X_waiting, tb_at 576 (by decide +kernel) (by decide +kernel), tb_at 577 (by decide +kernel) (by decide +kernel), tb_at 578 (by decide +kernel) (by decide +kernel), by decide, by decide⟩
theorem w_L_55 : cV "ChainVersionsLaw" 55 8 mi_M_waiting 2 := ⟨ok_M_waiting, tb_at 860 (by decide +kernel) (by decide +kernel), tb_at 861 (by decide +kernel) (by decide +kernel), tb_at 862 (by decide +kernel) (by decide +kernel), by decide, by decide⟩
theorem w_L_56 : cV "ChainVersionsLaw" 56 6 mi_X_stop 1 := ⟨ok_X_stop, tb_at 580 (by decide +kernel) (by decide +kernel), tb_at 581 (by decide +kernel) (by decide +kernel), tb_at 582 (by decide +kernel) (by decide +kernel), by decide, by decide⟩
theorem w_L_60 : cV "ChainVersionsLaw" 60 8 mi_M_stop 1 := ⟨ok_M_stop, tb_at 864 (by decide +kernel) (by decide +kernel), tb_at 865 (by decide +kernel) (by decide +kernel), tb_at 866 (by decide +kernel) (by decide +kernel), by decide, by decide⟩
theorem w_L_61 : cV "ChainVersionsLaw" 61 6 mi_X_join 0 := ⟨ok_X_join, tb_at 593 (by decide +kernel) (by decide +kernel), tb_at 594 (by decide +kernel) (by decide +kernel), tb_at 595 (by decide +kernel) (by decide +kernel), by decide, by decide⟩
theorem w_L_65 : cV "ChainVersionsLaw" 65 8 mi_M_join 0 := ⟨ok_M_join, tb_at 872 (by decide +kernel) (by decide +kernel), tb_at 873 (by decide +kernel) (by decide +kernel), tb_at 874 (by decide +kernel) (by decide +kernel), by decide, by decide⟩
theorem w_L_66 : cV "ChainVersionsLaw" 66 6 mi_X_tick 0 := ⟨ok_X_tick, tb_at 604 (by decide +kernel) (by decide +kernel), tb_at 605 (by decide +kernel) (by decide +kernel), tb_at 606 (by decide +kernel) (by decide +kernel), by decide, by decide⟩
theorem w_L_69 : cV "ChainVersionsLaw" 69 8 mi_M_tick 0 := ⟨ok_M_tick, tb_at 876 (by decide +kernel) (by decide +kernel), tb_at 877 (by decide +kernel) (by decide +kernel), tb_at 878 (by decide +kernel) (by decide +kernel), by decide, by decide⟩
theorem w_L_70 : cV "ChainVersionsLaw" 70 6 mi_X_adopt 1 := ⟨ok_X_adopt, tb_at 616 (by decide +kernel) (by decide +kernel), tb_at 617 (by decide +kernel) (by decide +kernel), tb_at 618 (by decide +kernel) (by decide +kernel), by decide, by decide⟩
theorem w_L_73 : cV "ChainVersionsLaw" 73 8 mi_M_adopt 1 := ⟨ok_M_adopt, tb_at 880 (by decide +kernel) (by decide +kernel), tb_at 881 (by decide +kernel) (by decide +kernel), tb_at 882 (by decide +kernel) (by decide +kernel), by decide, by decide⟩
theorem w_L_74 : cV "ChainVersionsLaw" 74 6 mi_X_member 1 := ⟨ok_X_member, tb_at 624 (by decide +kernel) (by decide +kernel), tb_at 625 (by decide +kernel) (by decide +kernel), tb_at 626 (by decide +kernel) (by decide +kernel), by decide, by decide⟩
theorem w_L_77 : cV "ChainVersionsLaw" 77 8 mi_M_member 1 := ⟨ok_M_member, tb_at 884 (by decide +kernel) (by decide +kernel), tb_at 885 (by decide +kernel) (by decide +kernel), tb_at 886 (by decide +kernel) (by decide +kernel), by decide, by decide⟩
theorem w_L_78 : cV "ChainVersionsLaw" 78 6 mi_X_epoch 1 := ⟨ok_X_epoch, tb_at 629 (by decide +kernel) (by decide +kernel), tb_at 630 (by decide +kernel) (by decide +kernel), tb_at 631 (by decide +kernel) (by decide +kernel), by decide, by decide⟩
theorem w_L_81 : cV "ChainVersionsLaw" 81 8 mi_M_epoch 1 := ⟨ok_M_epoch, tb_at 888 (by decide +kernel) (by decide +kernel), tb_at 889 (by decide +kernel) (by decide +kernel), tb_at 890 (by decide +kernel) (by decide +kernel), by decide, by decide⟩
theorem w_L_82 : cV "ChainVersionsLaw" 82 6 mi_X_length 1 := ⟨ok_X_length, tb_at 633 (by decide +kernel) (by decide +kernel), tb_at 634 (by decide +kernel) (by decide +kernel), tb_at 635 (by decide +kernel) (by decide +kernel), by decide, by decide⟩
theorem w_L_85 : cV "ChainVersionsLaw" 85 8 mi_M_length 1 := ⟨ok_M_length, tb_at 892 (by decide +kernel) (by decide +kernel), tb_at 893 (by decide +kernel) (by decide +kernel), tb_at 894 (by decide +kernel) (by decide +kernel), by decide, by decide⟩
theorem w_L_86 : cV "ChainVersionsLaw" 86 6 mi_X_settled 1 := ⟨ok_X_settled, tb_at 637 (by decide +kernel) (by decide +kernel), tb_at 638 (by decide +kernel) (by decide +kernel), tb_at 639 (by decide +kernel) (by decide +kernel), by decide, by decide⟩
theorem w_L_89 : cV "ChainVersionsLaw" 89 8 mi_M_settled 1 := ⟨ok_M_settled, tb_at 896 (by decide +kernel) (by decide +kernel), tb_at 897 (by decide +kernel) (by decide +kernel), tb_at 898 (by decide +kernel) (by decide +kernel), by decide, by decide⟩
theorem w_L_90 : cV "ChainVersionsLaw" 90 6 mi_X_version 3 := ⟨ok_X_version, tb_at 641 (by decide +kernel) (by decide +kernel), tb_at 642 (by decide +kernel) (by decide +kernel), tb_at 643 (by decide +kernel) (by decide +kernel), by decide, by decide⟩
theorem w_L_93 : cV "ChainVersionsLaw" 93 8 mi_M_version 3 := ⟨ok_M_version, tb_at 900 (by decide +kernel) (by decide +kernel), tb_at 901 (by decide +kernel) (by decide +kernel), tb_at 902 (by decide +kernel) (by decide +kernel), by decide, by decide⟩
theorem w_L_94 : cV "ChainVersionsLaw" 94 6 mi_X_look 3 := ⟨ok_X_look, tb_at 649 (by decide +kernel) (by decide +kernel), tb_at 650 (by decide +kernel) (by decide +kernel), tb_at 651 (by decide +kernel) (by decide +kernel), by decide, by decide⟩
theorem w_L_97 : cV "ChainVersionsLaw" 97 8 mi_M_look 3 := ⟨ok_M_look, tb_at 904 (by decide +kernel) (by decide +kernel), tb_at 905 (by decide +kernel) (by decide +kernel), tb_at 906 (by decide +kernel) (by decide +kernel), by decide, by decide⟩
end
section
/-! decode rows -/
theorem d_M_init_0 : At prog_8_method_1_code 0 (.aload_n 0) 1 1 := ⟨by decide +kernel, rfl⟩
theorem d_M_init_1 : At prog_8_method_1_code 1 (.invokespecial 1) 3 4 := ⟨by decide +kernel, rfl⟩
theorem d_M_init_4 : At prog_8_method_1_code 4 (.aload_n 0) 1 5 := ⟨by decide +kernel, rfl⟩
theorem d_M_init_5 : At prog_8_method_1_code 5 (.bipush 6) 2 7 := ⟨by decide +kernel, rfl⟩
theorem d_M_init_7 : At prog_8_method_1_code 7 (.newarray .boolean) 2 9 := ⟨by decide +kernel, rfl⟩
theorem d_M_init_9 : At prog_8_method_1_code 9 (.putfield 7) 3 12 := ⟨by decide +kernel, rfl⟩
theorem d_M_init_12 : At prog_8_method_1_code 12 (.aload_n 0) 1 13 := ⟨by decide +kernel, rfl⟩
theorem d_M_init_13 : At prog_8_method_1_code 13 (.bipush 6) 2 15 := ⟨by decide +kernel, rfl⟩
theorem d_M_init_15 : At prog_8_method_1_code 15 (.newarray .boolean) 2 17 := ⟨by decide +kernel, rfl⟩
theorem d_M_init_17 : At prog_8_method_1_code 17 (.putfield 13) 3 20 := ⟨by decide +kernel, rfl⟩
theorem d_M_init_20 : At prog_8_method_1_code 20 (.aload_n 0) 1 21 := ⟨by decide +kernel, rfl⟩
theorem d_M_init_21 : At prog_8_method_1_code 21 (.bipush 6) 2 23 := ⟨by decide +kernel, rfl⟩
theorem d_M_init_23 : At prog_8_method_1_code 23 (.newarray .int) 2 25 := ⟨by decide +kernel, rfl⟩
theorem d_M_init_25 : At prog_8_method_1_code 25 (.putfield 16) 3 28 := ⟨by decide +kernel, rfl⟩
theorem d_M_init_28 : At prog_8_method_1_code 28 (.aload_n 0) 1 29 := ⟨by decide +kernel, rfl⟩
theorem d_M_init_29 : At prog_8_method_1_code 29 (.bipush 6) 2 31 := ⟨by decide +kernel, rfl⟩
theorem d_M_init_31 : At prog_8_method_1_code 31 (.newarray .int) 2 33 := ⟨by decide +kernel, rfl⟩
theorem d_M_init_33 : At prog_8_method_1_code 33 (.putfield 20) 3 36 := ⟨by decide +kernel, rfl⟩
theorem d_M_init_36 : At prog_8_method_1_code 36 (.aload_n 0) 1 37 := ⟨by decide +kernel, rfl⟩
theorem d_M_init_37 : At prog_8_method_1_code 37 (.bipush 6) 2 39 := ⟨by decide +kernel, rfl⟩
theorem d_M_init_39 : At prog_8_method_1_code 39 (.newarray .int) 2 41 := ⟨by decide +kernel, rfl⟩
theorem d_M_init_41 : At prog_8_method_1_code 41 (.putfield 23) 3 44 := ⟨by decide +kernel, rfl⟩
theorem d_M_init_44 : At prog_8_method_1_code 44 (.aload_n 0) 1 45 := ⟨by decide +kernel, rfl⟩
theorem d_M_init_45 : At prog_8_method_1_code 45 (.bipush 6) 2 47 := ⟨by decide +kernel, rfl⟩
theorem d_M_init_47 : At prog_8_method_1_code 47 (.newarray .int) 2 49 := ⟨by decide +kernel, rfl⟩
theorem d_M_init_49 : At prog_8_method_1_code 49 (.putfield 26) 3 52 := ⟨by decide +kernel, rfl⟩
theorem d_M_init_52 : At prog_8_method_1_code 52 (.aload_n 0) 1 53 := ⟨by decide +kernel, rfl⟩
theorem d_M_init_53 : At prog_8_method_1_code 53 (.bipush 14) 2 55 := ⟨by decide +kernel, rfl⟩
theorem d_M_init_55 : At prog_8_method_1_code 55 (.newarray .int) 2 57 := ⟨by decide +kernel, rfl⟩
theorem d_M_init_57 : At prog_8_method_1_code 57 (.putfield 29) 3 60 := ⟨by decide +kernel, rfl⟩
theorem d_M_init_60 : At prog_8_method_1_code 60 (.aload_n 0) 1 61 := ⟨by decide +kernel, rfl⟩
theorem d_M_init_61 : At prog_8_method_1_code 61 (.sipush 768) 3 64 := ⟨by decide +kernel, rfl⟩
theorem d_M_init_64 : At prog_8_method_1_code 64 (.newarray .int) 2 66 := ⟨by decide +kernel, rfl⟩
theorem d_M_init_66 : At prog_8_method_1_code 66 (.putfield 32) 3 69 := ⟨by decide +kernel, rfl⟩
theorem d_M_init_69 : At prog_8_method_1_code 69 (.aload_n 0) 1 70 := ⟨by decide +kernel, rfl⟩
theorem d_M_init_70 : At prog_8_method_1_code 70 (.sipush 768) 3 73 := ⟨by decide +kernel, rfl⟩
theorem d_M_init_73 : At prog_8_method_1_code 73 (.newarray .int) 2 75 := ⟨by decide +kernel, rfl⟩
theorem d_M_init_75 : At prog_8_method_1_code 75 (.putfield 35) 3 78 := ⟨by decide +kernel, rfl⟩
theorem d_M_init_78 : At prog_8_method_1_code 78 (.aload_n 0) 1 79 := ⟨by decide +kernel, rfl⟩
theorem d_M_init_79 : At prog_8_method_1_code 79 (.sipush 768) 3 82 := ⟨by decide +kernel, rfl⟩
theorem d_M_init_82 : At prog_8_method_1_code 82 (.newarray .int) 2 84 := ⟨by decide +kernel, rfl⟩
theorem d_M_init_84 : At prog_8_method_1_code 84 (.putfield 38) 3 87 := ⟨by decide +kernel, rfl⟩
theorem d_M_init_87 : At prog_8_method_1_code 87 (.aload_n 0) 1 88 := ⟨by decide +kernel, rfl⟩
theorem d_M_init_88 : At prog_8_method_1_code 88 (.sipush 768) 3 91 := ⟨by decide +kernel, rfl⟩
theorem d_M_init_91 : At prog_8_method_1_code 91 (.newarray .int) 2 93 := ⟨by decide +kernel, rfl⟩
theorem d_M_init_93 : At prog_8_method_1_code 93 (.putfield 41) 3 96 := ⟨by decide +kernel, rfl⟩
theorem d_M_init_96 : At prog_8_method_1_code 96 (.aload_n 0) 1 97 := ⟨by decide +kernel, rfl⟩
theorem d_M_init_97 : At prog_8_method_1_code 97 (.iconst 3) 1 98 := ⟨by decide +kernel, rfl⟩
theorem d_M_init_98 : At prog_8_method_1_code 98 (.newarray .int) 2 100 := ⟨by decide +kernel, rfl⟩
theorem d_M_init_100 : At prog_8_method_1_code 100 (.putfield 44) 3 103 := ⟨by decide +kernel, rfl⟩
theorem d_M_init_103 : At prog_8_method_1_code 103 (.aload_n 0) 1 104 := ⟨by decide +kernel, rfl⟩
theorem d_M_init_104 : At prog_8_method_1_code 104 (.iconst 3) 1 105 := ⟨by decide +kernel, rfl⟩
theorem d_M_init_105 : At prog_8_method_1_code 105 (.newarray .int) 2 107 := ⟨by decide +kernel, rfl⟩
theorem d_M_init_107 : At prog_8_method_1_code 107 (.putfield 47) 3 110 := ⟨by decide +kernel, rfl⟩
theorem d_M_init_110 : At prog_8_method_1_code 110 (.aload_n 0) 1 111 := ⟨by decide +kernel, rfl⟩
theorem d_M_init_111 : At prog_8_method_1_code 111 (.iconst 3) 1 112 := ⟨by decide +kernel, rfl⟩
theorem d_M_init_112 : At prog_8_method_1_code 112 (.newarray .int) 2 114 := ⟨by decide +kernel, rfl⟩
theorem d_M_init_114 : At prog_8_method_1_code 114 (.putfield 50) 3 117 := ⟨by decide +kernel, rfl⟩
theorem d_M_init_117 : At prog_8_method_1_code 117 (.aload_n 0) 1 118 := ⟨by decide +kernel, rfl⟩
theorem d_M_init_118 : At prog_8_method_1_code 118 (.iconst 3) 1 119 := ⟨by decide +kernel, rfl⟩
theorem d_M_init_119 : At prog_8_method_1_code 119 (.newarray .int) 2 121 := ⟨by decide +kernel, rfl⟩
theorem d_M_init_121 : At prog_8_method_1_code 121 (.putfield 53) 3 124 := ⟨by decide +kernel, rfl⟩
theorem d_M_init_124 : At prog_8_method_1_code 124 (.aload_n 0) 1 125 := ⟨by decide +kernel, rfl⟩
theorem d_M_init_125 : At prog_8_method_1_code 125 (.iconst 3) 1 126 := ⟨by decide +kernel, rfl⟩
theorem d_M_init_126 : At prog_8_method_1_code 126 (.newarray .int) 2 128 := ⟨by decide +kernel, rfl⟩
theorem d_M_init_128 : At prog_8_method_1_code 128 (.putfield 56) 3 131 := ⟨by decide +kernel, rfl⟩
theorem d_M_init_131 : At prog_8_method_1_code 131 (.aload_n 0) 1 132 := ⟨by decide +kernel, rfl⟩
theorem d_M_init_132 : At prog_8_method_1_code 132 (.iconst 3) 1 133 := ⟨by decide +kernel, rfl⟩
theorem d_M_init_133 : At prog_8_method_1_code 133 (.newarray .int) 2 135 := ⟨by decide +kernel, rfl⟩
theorem d_M_init_135 : At prog_8_method_1_code 135 (.putfield 59) 3 138 := ⟨by decide +kernel, rfl⟩
theorem d_M_init_138 : At prog_8_method_1_code 138 (.aload_n 0) 1 139 := ⟨by decide +kernel, rfl⟩
theorem d_M_init_139 : At prog_8_method_1_code 139 (.iconst 3) 1 140 := ⟨by decide +kernel, rfl⟩
theorem d_M_init_140 : At prog_8_method_1_code 140 (.newarray .int) 2 142 := ⟨by decide +kernel, rfl⟩
theorem d_M_init_142 : At prog_8_method_1_code 142 (.putfield 62) 3 145 := ⟨by decide +kernel, rfl⟩
theorem d_M_init_145 : At prog_8_method_1_code 145 (.aload_n 0) 1 146 := ⟨by decide +kernel, rfl⟩
theorem d_M_init_146 : At prog_8_method_1_code 146 (.sipush 1400) 3 149 := ⟨by decide +kernel, rfl⟩
theorem d_M_init_149 : At prog_8_method_1_code 149 (.newarray .int) 2 151 := ⟨by decide +kernel, rfl⟩
theorem d_M_init_151 : At prog_8_method_1_code 151 (.putfield 65) 3 154 := ⟨by decide +kernel, rfl⟩
theorem d_M_init_154 : At prog_8_method_1_code 154 (.aload_n 0) 1 155 := ⟨by decide +kernel, rfl⟩
theorem d_M_init_155 : At prog_8_method_1_code 155 (.sipush 1400) 3 158 := ⟨by decide +kernel, rfl⟩
theorem d_M_init_158 : At prog_8_method_1_code 158 (.newarray .int) 2 160 := ⟨by decide +kernel, rfl⟩
theorem d_M_init_160 : At prog_8_method_1_code 160 (.putfield 68) 3 163 := ⟨by decide +kernel, rfl⟩
theorem d_M_init_163 : At prog_8_method_1_code 163 (.aload_n 0) 1 164 := ⟨by decide +kernel, rfl⟩
theorem d_M_init_164 : At prog_8_method_1_code 164 (.sipush 1400) 3 167 := ⟨by decide +kernel, rfl⟩
theorem d_M_init_167 : At prog_8_method_1_code 167 (.newarray .int) 2 169 := ⟨by decide +kernel, rfl⟩
theorem d_M_init_169 : At prog_8_method_1_code 169 (.putfield 71) 3 172 := ⟨by decide +kernel, rfl⟩
theorem d_M_init_172 : At prog_8_method_1_code 172 (.aload_n 0) 1 173 := ⟨by decide +kernel, rfl⟩
theorem d_M_init_173 : At prog_8_method_1_code 173 (.sipush 1400) 3 176 := ⟨by decide +kernel, rfl⟩
theorem d_M_init_176 : At prog_8_method_1_code 176 (.newarray .int) 2 178 := ⟨by decide +kernel, rfl⟩
theorem d_M_init_178 : At prog_8_method_1_code 178 (.putfield 74) 3 181 := ⟨by decide +kernel, rfl⟩
theorem d_M_init_181 : At prog_8_method_1_code 181 (.aload_n 0) 1 182 := ⟨by decide +kernel, rfl⟩
theorem d_M_init_182 : At prog_8_method_1_code 182 (.sipush 1400) 3 185 := ⟨by decide +kernel, rfl⟩
theorem d_M_init_185 : At prog_8_method_1_code 185 (.newarray .int) 2 187 := ⟨by decide +kernel, rfl⟩
theorem d_M_init_187 : At prog_8_method_1_code 187 (.putfield 77) 3 190 := ⟨by decide +kernel, rfl⟩
theorem d_M_init_190 : At prog_8_method_1_code 190 (.aload_n 0) 1 191 := ⟨by decide +kernel, rfl⟩
theorem d_M_init_191 : At prog_8_method_1_code 191 (.sipush 1400) 3 194 := ⟨by decide +kernel, rfl⟩
theorem d_M_init_194 : At prog_8_method_1_code 194 (.newarray .int) 2 196 := ⟨by decide +kernel, rfl⟩
theorem d_M_init_196 : At prog_8_method_1_code 196 (.putfield 80) 3 199 := ⟨by decide +kernel, rfl⟩
theorem d_M_init_199 : At prog_8_method_1_code 199 (.aload_n 0) 1 200 := ⟨by decide +kernel, rfl⟩
theorem d_M_init_200 : At prog_8_method_1_code 200 (.iload_n 1) 1 201 := ⟨by decide +kernel, rfl⟩
theorem d_M_init_201 : At prog_8_method_1_code 201 (.iconst 1) 1 202 := ⟨by decide +kernel, rfl⟩
theorem d_M_init_202 : AtC prog_8_method_1_code 202 (.if_icmp .ge) 209 205 := ⟨7, by decide +kernel, by decide, rfl⟩
theorem d_M_init_205 : At prog_8_method_1_code 205 (.iconst 1) 1 206 := ⟨by decide +kernel, rfl⟩
theorem d_M_init_206 : AtC prog_8_method_1_code 206 .goto 219 209 := ⟨13, by decide +kernel, by decide, rfl⟩
theorem d_M_init_209 : At prog_8_method_1_code 209 (.iload_n 1) 1 210 := ⟨by decide +kernel, rfl⟩
theorem d_M_init_210 : At prog_8_method_1_code 210 (.iconst 3) 1 211 := ⟨by decide +kernel, rfl⟩
theorem d_M_init_211 : AtC prog_8_method_1_code 211 (.if_icmp .le) 218 214 := ⟨7, by decide +kernel, by decide, rfl⟩
theorem d_M_init_214 : At prog_8_method_1_code 214 (.iconst 3) 1 215 := ⟨by decide +kernel, rfl⟩
theorem d_M_init_215 : AtC prog_8_method_1_code 215 .goto 219 218 := ⟨4, by decide +kernel, by decide, rfl⟩
theorem d_M_init_218 : At prog_8_method_1_code 218 (.iload_n 1) 1 219 := ⟨by decide +kernel, rfl⟩
theorem d_M_init_219 : At prog_8_method_1_code 219 (.putfield 83) 3 222 := ⟨by decide +kernel, rfl⟩
theorem d_M_init_222 : At prog_8_method_1_code 222 (.aload_n 0) 1 223 := ⟨by decide +kernel, rfl⟩
theorem d_M_init_223 : At prog_8_method_1_code 223 (.iconst 1) 1 224 := ⟨by decide +kernel, rfl⟩
theorem d_M_init_224 : At prog_8_method_1_code 224 (.putfield 87) 3 227 := ⟨by decide +kernel, rfl⟩
theorem d_M_init_227 : At prog_8_method_1_code 227 (.aload_n 0) 1 228 := ⟨by decide +kernel, rfl⟩
theorem d_M_init_228 : At prog_8_method_1_code 228 (.getfield 29) 3 231 := ⟨by decide +kernel, rfl⟩
theorem d_M_init_231 : At prog_8_method_1_code 231 (.iconst 1) 1 232 := ⟨by decide +kernel, rfl⟩
theorem d_M_init_232 : At prog_8_method_1_code 232 (.iconst 1) 1 233 := ⟨by decide +kernel, rfl⟩
theorem d_M_init_233 : At prog_8_method_1_code 233 (.aload_n 0) 1 234 := ⟨by decide +kernel, rfl⟩
theorem d_M_init_234 : At prog_8_method_1_code 234 (.getfield 83) 3 237 := ⟨by decide +kernel, rfl⟩
theorem d_M_init_237 : At prog_8_method_1_code 237 (.ishl) 1 238 := ⟨by decide +kernel, rfl⟩
theorem d_M_init_238 : At prog_8_method_1_code 238 (.iconst 1) 1 239 := ⟨by decide +kernel, rfl⟩
theorem d_M_init_239 : At prog_8_method_1_code 239 (.isub) 1 240 := ⟨by decide +kernel, rfl⟩
theorem d_M_init_240 : At prog_8_method_1_code 240 (.iastore) 1 241 := ⟨by decide +kernel, rfl⟩
theorem d_M_init_241 : At prog_8_method_1_code 241 (.iconst 0) 1 242 := ⟨by decide +kernel, rfl⟩
theorem d_M_init_242 : At prog_8_method_1_code 242 (.istore_n 2) 1 243 := ⟨by decide +kernel, rfl⟩
theorem d_M_init_243 : At prog_8_method_1_code 243 (.iload_n 2) 1 244 := ⟨by decide +kernel, rfl⟩
theorem d_M_init_244 : At prog_8_method_1_code 244 (.aload_n 0) 1 245 := ⟨by decide +kernel, rfl⟩
theorem d_M_init_245 : At prog_8_method_1_code 245 (.getfield 83) 3 248 := ⟨by decide +kernel, rfl⟩
theorem d_M_init_248 : AtC prog_8_method_1_code 248 (.if_icmp .ge) 278 251 := ⟨30, by decide +kernel, by decide, rfl⟩
theorem d_M_init_251 : At prog_8_method_1_code 251 (.aload_n 0) 1 252 := ⟨by decide +kernel, rfl⟩
theorem d_M_init_252 : At prog_8_method_1_code 252 (.getfield 7) 3 255 := ⟨by decide +kernel, rfl⟩
theorem d_M_init_255 : At prog_8_method_1_code 255 (.iload_n 2) 1 256 := ⟨by decide +kernel, rfl⟩
theorem d_M_init_256 : At prog_8_method_1_code 256 (.iconst 1) 1 257 := ⟨by decide +kernel, rfl⟩
theorem d_M_init_257 : At prog_8_method_1_code 257 (.bastore) 1 258 := ⟨by decide +kernel, rfl⟩
theorem d_M_init_258 : At prog_8_method_1_code 258 (.aload_n 0) 1 259 := ⟨by decide +kernel, rfl⟩
theorem d_M_init_259 : At prog_8_method_1_code 259 (.getfield 13) 3 262 := ⟨by decide +kernel, rfl⟩
theorem d_M_init_262 : At prog_8_method_1_code 262 (.iload_n 2) 1 263 := ⟨by decide +kernel, rfl⟩
theorem d_M_init_263 : At prog_8_method_1_code 263 (.iconst 1) 1 264 := ⟨by decide +kernel, rfl⟩
theorem d_M_init_264 : At prog_8_method_1_code 264 (.bastore) 1 265 := ⟨by decide +kernel, rfl⟩
theorem d_M_init_265 : At prog_8_method_1_code 265 (.aload_n 0) 1 266 := ⟨by decide +kernel, rfl⟩
theorem d_M_init_266 : At prog_8_method_1_code 266 (.getfield 16) 3 269 := ⟨by decide +kernel, rfl⟩
theorem d_M_init_269 : At prog_8_method_1_code 269 (.iload_n 2) 1 270 := ⟨by decide +kernel, rfl⟩
theorem d_M_init_270 : At prog_8_method_1_code 270 (.iconst 1) 1 271 := ⟨by decide +kernel, rfl⟩
theorem d_M_init_271 : At prog_8_method_1_code 271 (.iastore) 1 272 := ⟨by decide +kernel, rfl⟩
theorem d_M_init_272 : At prog_8_method_1_code 272 (.iinc 2 1) 3 275 := ⟨by decide +kernel, rfl⟩
theorem d_M_init_275 : AtC prog_8_method_1_code 275 .goto 243 278 := ⟨-32, by decide +kernel, by decide, rfl⟩
theorem d_M_init_278 : At prog_8_method_1_code 278 (.return_) 1 279 := ⟨by decide +kernel, rfl⟩
theorem d_M_put_0 : At prog_8_method_24_code 0 (.iload_n 1) 1 1 := ⟨by decide +kernel, rfl⟩
theorem d_M_put_1 : At prog_8_method_24_code 1 (.iconst 2) 1 2 := ⟨by decide +kernel, rfl⟩
theorem d_M_put_2 : At prog_8_method_24_code 2 (.invokestatic 94) 3 5 := ⟨by decide +kernel, rfl⟩
theorem d_M_put_5 : AtC prog_8_method_24_code 5 (.ifCond .ne) 16 8 := ⟨11, by decide +kernel, by decide, rfl⟩
theorem d_M_put_8 : At prog_8_method_24_code 8 (.iload_n 2) 1 9 := ⟨by decide +kernel, rfl⟩
theorem d_M_put_9 : At prog_8_method_24_code 9 (.iconst 3) 1 10 := ⟨by decide +kernel, rfl⟩
theorem d_M_put_10 : At prog_8_method_24_code 10 (.invokestatic 94) 3 13 := ⟨by decide +kernel, rfl⟩
theorem d_M_put_13 : AtC prog_8_method_24_code 13 (.ifCond .eq) 18 16 := ⟨5, by decide +kernel, by decide, rfl⟩
theorem d_M_put_16 : At prog_8_method_24_code 16 (.iconst (-1)) 1 17 := ⟨by decide +kernel, rfl⟩
theorem d_M_put_17 : At prog_8_method_24_code 17 (.ireturn) 1 18 := ⟨by decide +kernel, rfl⟩
theorem d_M_put_18 : At prog_8_method_24_code 18 (.aload_n 0) 1 19 := ⟨by decide +kernel, rfl⟩
theorem d_M_put_19 : At prog_8_method_24_code 19 (.getfield 44) 3 22 := ⟨by decide +kernel, rfl⟩
theorem d_M_put_22 : At prog_8_method_24_code 22 (.iload_n 1) 1 23 := ⟨by decide +kernel, rfl⟩
theorem d_M_put_23 : At prog_8_method_24_code 23 (.iaload) 1 24 := ⟨by decide +kernel, rfl⟩
theorem d_M_put_24 : At prog_8_method_24_code 24 (.iconst 1) 1 25 := ⟨by decide +kernel, rfl⟩
theorem d_M_put_25 : At prog_8_method_24_code 25 (.iand) 1 26 := ⟨by decide +kernel, rfl⟩
theorem d_M_put_26 : At prog_8_method_24_code 26 (.iconst 1) 1 27 := ⟨by decide +kernel, rfl⟩
theorem d_M_put_27 : AtC prog_8_method_24_code 27 (.if_icmp .ne) 33 30 := ⟨6, by decide +kernel, by decide, rfl⟩
theorem d_M_put_30 : At prog_8_method_24_code 30 (.bipush (-2)) 2 32 := ⟨by decide +kernel, rfl⟩
theorem d_M_put_32 : At prog_8_method_24_code 32 (.ireturn) 1 33 := ⟨by decide +kernel, rfl⟩
theorem d_M_put_33 : At prog_8_method_24_code 33 (.aload_n 0) 1 34 := ⟨by decide +kernel, rfl⟩
theorem d_M_put_34 : At prog_8_method_24_code 34 (.getfield 44) 3 37 := ⟨by decide +kernel, rfl⟩
theorem d_M_put_37 : At prog_8_method_24_code 37 (.iload_n 1) 1 38 := ⟨by decide +kernel, rfl⟩
theorem d_M_put_38 : At prog_8_method_24_code 38 (.iconst 1) 1 39 := ⟨by decide +kernel, rfl⟩
theorem d_M_put_39 : At prog_8_method_24_code 39 (.iastore) 1 40 := ⟨by decide +kernel, rfl⟩
theorem d_M_put_40 : At prog_8_method_24_code 40 (.aload_n 0) 1 41 := ⟨by decide +kernel, rfl⟩
theorem d_M_put_41 : At prog_8_method_24_code 41 (.getfield 47) 3 44 := ⟨by decide +kernel, rfl⟩
theorem d_M_put_44 : At prog_8_method_24_code 44 (.iload_n 1) 1 45 := ⟨by decide +kernel, rfl⟩
theorem d_M_put_45 : At prog_8_method_24_code 45 (.dup2) 1 46 := ⟨by decide +kernel, rfl⟩
theorem d_M_put_46 : At prog_8_method_24_code 46 (.iaload) 1 47 := ⟨by decide +kernel, rfl⟩
theorem d_M_put_47 : At prog_8_method_24_code 47 (.iconst 1) 1 48 := ⟨by decide +kernel, rfl⟩
theorem d_M_put_48 : At prog_8_method_24_code 48 (.iadd) 1 49 := ⟨by decide +kernel, rfl⟩
theorem d_M_put_49 : At prog_8_method_24_code 49 (.iastore) 1 50 := ⟨by decide +kernel, rfl⟩
theorem d_M_put_50 : At prog_8_method_24_code 50 (.aload_n 0) 1 51 := ⟨by decide +kernel, rfl⟩
theorem d_M_put_51 : At prog_8_method_24_code 51 (.getfield 50) 3 54 := ⟨by decide +kernel, rfl⟩
theorem d_M_put_54 : At prog_8_method_24_code 54 (.iload_n 1) 1 55 := ⟨by decide +kernel, rfl⟩
theorem d_M_put_55 : At prog_8_method_24_code 55 (.iload_n 2) 1 56 := ⟨by decide +kernel, rfl⟩
theorem d_M_put_56 : At prog_8_method_24_code 56 (.iastore) 1 57 := ⟨by decide +kernel, rfl⟩
theorem d_M_put_57 : At prog_8_method_24_code 57 (.aload_n 0) 1 58 := ⟨by decide +kernel, rfl⟩
theorem d_M_put_58 : At prog_8_method_24_code 58 (.getfield 53) 3 61 := ⟨by decide +kernel, rfl⟩
theorem d_M_put_61 : At prog_8_method_24_code 61 (.iload_n 1) 1 62 := ⟨by decide +kernel, rfl⟩
theorem d_M_put_62 : At prog_8_method_24_code 62 (.iload_n 3) 1 63 := ⟨by decide +kernel, rfl⟩
theorem d_M_put_63 : At prog_8_method_24_code 63 (.iastore) 1 64 := ⟨by decide +kernel, rfl⟩
theorem d_M_put_64 : At prog_8_method_24_code 64 (.aload_n 0) 1 65 := ⟨by decide +kernel, rfl⟩
theorem d_M_put_65 : At prog_8_method_24_code 65 (.iload_n 1) 1 66 := ⟨by decide +kernel, rfl⟩
theorem d_M_put_66 : At prog_8_method_24_code 66 (.invokevirtual 144) 3 69 := ⟨by decide +kernel, rfl⟩
theorem d_M_put_69 : At prog_8_method_24_code 69 (.ireturn) 1 70 := ⟨by decide +kernel, rfl⟩
theorem d_M_outside_0 : At prog_8_method_2_code 0 (.iload_n 0) 1 1 := ⟨by decide +kernel, rfl⟩
theorem d_M_outside_1 : AtC prog_8_method_2_code 1 (.ifCond .lt) 9 4 := ⟨8, by decide +kernel, by decide, rfl⟩
theorem d_M_outside_4 : At prog_8_method_2_code 4 (.iload_n 0) 1 5 := ⟨by decide +kernel, rfl⟩
theorem d_M_outside_5 : At prog_8_method_2_code 5 (.iload_n 1) 1 6 := ⟨by decide +kernel, rfl⟩
theorem d_M_outside_6 : AtC prog_8_method_2_code 6 (.if_icmp .le) 13 9 := ⟨7, by decide +kernel, by decide, rfl⟩
theorem d_M_outside_9 : At prog_8_method_2_code 9 (.iconst 1) 1 10 := ⟨by decide +kernel, rfl⟩
theorem d_M_outside_10 : AtC prog_8_method_2_code 10 .goto 14 13 := ⟨4, by decide +kernel, by decide, rfl⟩
theorem d_M_outside_13 : At prog_8_method_2_code 13 (.iconst 0) 1 14 := ⟨by decide +kernel, rfl⟩
theorem d_M_outside_14 : At prog_8_method_2_code 14 (.ireturn) 1 15 := ⟨by decide +kernel, rfl⟩
theorem d_M_sendWrite_0 : At prog_8_method_20_code 0 (.iconst 0) 1 1 := ⟨by decide +kernel, rfl⟩
theorem d_M_sendWrite_1 : At prog_8_method_20_code 1 (.istore_n 2) 1 2 := ⟨by decide +kernel, rfl⟩
theorem d_M_sendWrite_2 : At prog_8_method_20_code 2 (.iload_n 2) 1 3 := ⟨by decide +kernel, rfl⟩
theorem d_M_sendWrite_3 : At prog_8_method_20_code 3 (.iconst 5) 1 4 := ⟨by decide +kernel, rfl⟩
theorem d_M_sendWrite_4 : AtC prog_8_method_20_code 4 (.if_icmp .ge) 25 7 := ⟨21, by decide +kernel, by decide, rfl⟩
theorem d_M_sendWrite_7 : At prog_8_method_20_code 7 (.aload_n 0) 1 8 := ⟨by decide +kernel, rfl⟩
theorem d_M_sendWrite_8 : At prog_8_method_20_code 8 (.aload_n 0) 1 9 := ⟨by decide +kernel, rfl⟩
theorem d_M_sendWrite_9 : At prog_8_method_20_code 9 (.getfield 87) 3 12 := ⟨by decide +kernel, rfl⟩
theorem d_M_sendWrite_12 : At prog_8_method_20_code 12 (.iload_n 2) 1 13 := ⟨by decide +kernel, rfl⟩
theorem d_M_sendWrite_13 : At prog_8_method_20_code 13 (.invokevirtual 90) 3 16 := ⟨by decide +kernel, rfl⟩
theorem d_M_sendWrite_16 : AtC prog_8_method_20_code 16 (.ifCond .ne) 25 19 := ⟨9, by decide +kernel, by decide, rfl⟩
theorem d_M_sendWrite_19 : At prog_8_method_20_code 19 (.iinc 2 1) 3 22 := ⟨by decide +kernel, rfl⟩
theorem d_M_sendWrite_22 : AtC prog_8_method_20_code 22 .goto 2 25 := ⟨-20, by decide +kernel, by decide, rfl⟩
theorem d_M_sendWrite_25 : At prog_8_method_20_code 25 (.aload_n 0) 1 26 := ⟨by decide +kernel, rfl⟩
theorem d_M_sendWrite_26 : At prog_8_method_20_code 26 (.getfield 7) 3 29 := ⟨by decide +kernel, rfl⟩
theorem d_M_sendWrite_29 : At prog_8_method_20_code 29 (.iload_n 2) 1 30 := ⟨by decide +kernel, rfl⟩
theorem d_M_sendWrite_30 : At prog_8_method_20_code 30 (.baload) 1 31 := ⟨by decide +kernel, rfl⟩
theorem d_M_sendWrite_31 : AtC prog_8_method_20_code 31 (.ifCond .eq) 42 34 := ⟨11, by decide +kernel, by decide, rfl⟩
theorem d_M_sendWrite_34 : At prog_8_method_20_code 34 (.aload_n 0) 1 35 := ⟨by decide +kernel, rfl⟩
theorem d_M_sendWrite_35 : At prog_8_method_20_code 35 (.iload_n 2) 1 36 := ⟨by decide +kernel, rfl⟩
theorem d_M_sendWrite_36 : At prog_8_method_20_code 36 (.invokevirtual 111) 3 39 := ⟨by decide +kernel, rfl⟩
theorem d_M_sendWrite_39 : AtC prog_8_method_20_code 39 (.ifCond .lt) 44 42 := ⟨5, by decide +kernel, by decide, rfl⟩
theorem d_M_sendWrite_42 : At prog_8_method_20_code 42 (.iconst 0) 1 43 := ⟨by decide +kernel, rfl⟩
theorem d_M_sendWrite_43 : At prog_8_method_20_code 43 (.ireturn) 1 44 := ⟨by decide +kernel, rfl⟩
theorem d_M_sendWrite_44 : At prog_8_method_20_code 44 (.iconst 1) 1 45 := ⟨by decide +kernel, rfl⟩
theorem d_M_sendWrite_45 : At prog_8_method_20_code 45 (.istore_n 3) 1 46 := ⟨by decide +kernel, rfl⟩
theorem d_M_sendWrite_46 : At prog_8_method_20_code 46 (.iload_n 3) 1 47 := ⟨by decide +kernel, rfl⟩
theorem d_M_sendWrite_47 : At prog_8_method_20_code 47 (.aload_n 0) 1 48 := ⟨by decide +kernel, rfl⟩
theorem d_M_sendWrite_48 : At prog_8_method_20_code 48 (.getfield 20) 3 51 := ⟨by decide +kernel, rfl⟩
theorem d_M_sendWrite_51 : At prog_8_method_20_code 51 (.iload_n 2) 1 52 := ⟨by decide +kernel, rfl⟩
theorem d_M_sendWrite_52 : At prog_8_method_20_code 52 (.iaload) 1 53 := ⟨by decide +kernel, rfl⟩
theorem d_M_sendWrite_53 : AtC prog_8_method_20_code 53 (.if_icmp .gt) 115 56 := ⟨62, by decide +kernel, by decide, rfl⟩
theorem d_M_sendWrite_56 : At prog_8_method_20_code 56 (.aload_n 0) 1 57 := ⟨by decide +kernel, rfl⟩
theorem d_M_sendWrite_57 : At prog_8_method_20_code 57 (.getfield 38) 3 60 := ⟨by decide +kernel, rfl⟩
theorem d_M_sendWrite_60 : At prog_8_method_20_code 60 (.sipush 128) 3 63 := ⟨by decide +kernel, rfl⟩
theorem d_M_sendWrite_63 : At prog_8_method_20_code 63 (.iload_n 2) 1 64 := ⟨by decide +kernel, rfl⟩
theorem d_M_sendWrite_64 : At prog_8_method_20_code 64 (.imul) 1 65 := ⟨by decide +kernel, rfl⟩
theorem d_M_sendWrite_65 : At prog_8_method_20_code 65 (.iload_n 3) 1 66 := ⟨by decide +kernel, rfl⟩
theorem d_M_sendWrite_66 : At prog_8_method_20_code 66 (.iadd) 1 67 := ⟨by decide +kernel, rfl⟩
theorem d_M_sendWrite_67 : At prog_8_method_20_code 67 (.iaload) 1 68 := ⟨by decide +kernel, rfl⟩
theorem d_M_sendWrite_68 : At prog_8_method_20_code 68 (.iload_n 1) 1 69 := ⟨by decide +kernel, rfl⟩
theorem d_M_sendWrite_69 : AtC prog_8_method_20_code 69 (.if_icmp .ne) 109 72 := ⟨40, by decide +kernel, by decide, rfl⟩
theorem d_M_sendWrite_72 : At prog_8_method_20_code 72 (.aload_n 0) 1 73 := ⟨by decide +kernel, rfl⟩
theorem d_M_sendWrite_73 : At prog_8_method_20_code 73 (.getfield 41) 3 76 := ⟨by decide +kernel, rfl⟩
theorem d_M_sendWrite_76 : At prog_8_method_20_code 76 (.sipush 128) 3 79 := ⟨by decide +kernel, rfl⟩
theorem d_M_sendWrite_79 : At prog_8_method_20_code 79 (.iload_n 2) 1 80 := ⟨by decide +kernel, rfl⟩
theorem d_M_sendWrite_80 : At prog_8_method_20_code 80 (.imul) 1 81 := ⟨by decide +kernel, rfl⟩
theorem d_M_sendWrite_81 : At prog_8_method_20_code 81 (.iload_n 3) 1 82 := ⟨by decide +kernel, rfl⟩
theorem d_M_sendWrite_82 : At prog_8_method_20_code 82 (.iadd) 1 83 := ⟨by decide +kernel, rfl⟩
theorem d_M_sendWrite_83 : At prog_8_method_20_code 83 (.iaload) 1 84 := ⟨by decide +kernel, rfl⟩
theorem d_M_sendWrite_84 : At prog_8_method_20_code 84 (.aload_n 0) 1 85 := ⟨by decide +kernel, rfl⟩
theorem d_M_sendWrite_85 : At prog_8_method_20_code 85 (.getfield 47) 3 88 := ⟨by decide +kernel, rfl⟩
theorem d_M_sendWrite_88 : At prog_8_method_20_code 88 (.iload_n 1) 1 89 := ⟨by decide +kernel, rfl⟩
theorem d_M_sendWrite_89 : At prog_8_method_20_code 89 (.iaload) 1 90 := ⟨by decide +kernel, rfl⟩
theorem d_M_sendWrite_90 : AtC prog_8_method_20_code 90 (.if_icmp .ne) 109 93 := ⟨19, by decide +kernel, by decide, rfl⟩
theorem d_M_sendWrite_93 : At prog_8_method_20_code 93 (.iload_n 3) 1 94 := ⟨by decide +kernel, rfl⟩
theorem d_M_sendWrite_94 : At prog_8_method_20_code 94 (.aload_n 0) 1 95 := ⟨by decide +kernel, rfl⟩
theorem d_M_sendWrite_95 : At prog_8_method_20_code 95 (.getfield 23) 3 98 := ⟨by decide +kernel, rfl⟩
theorem d_M_sendWrite_98 : At prog_8_method_20_code 98 (.iload_n 2) 1 99 := ⟨by decide +kernel, rfl⟩
theorem d_M_sendWrite_99 : At prog_8_method_20_code 99 (.iaload) 1 100 := ⟨by decide +kernel, rfl⟩
theorem d_M_sendWrite_100 : AtC prog_8_method_20_code 100 (.if_icmp .gt) 107 103 := ⟨7, by decide +kernel, by decide, rfl⟩
theorem d_M_sendWrite_103 : At prog_8_method_20_code 103 (.iconst 4) 1 104 := ⟨by decide +kernel, rfl⟩
theorem d_M_sendWrite_104 : AtC prog_8_method_20_code 104 .goto 108 107 := ⟨4, by decide +kernel, by decide, rfl⟩
theorem d_M_sendWrite_107 : At prog_8_method_20_code 107 (.iconst 3) 1 108 := ⟨by decide +kernel, rfl⟩
theorem d_M_sendWrite_108 : At prog_8_method_20_code 108 (.ireturn) 1 109 := ⟨by decide +kernel, rfl⟩
theorem d_M_sendWrite_109 : At prog_8_method_20_code 109 (.iinc 3 1) 3 112 := ⟨by decide +kernel, rfl⟩
theorem d_M_sendWrite_112 : AtC prog_8_method_20_code 112 .goto 46 115 := ⟨-66, by decide +kernel, by decide, rfl⟩
theorem d_M_sendWrite_115 : At prog_8_method_20_code 115 (.aload_n 0) 1 116 := ⟨by decide +kernel, rfl⟩
theorem d_M_sendWrite_116 : At prog_8_method_20_code 116 (.getfield 20) 3 119 := ⟨by decide +kernel, rfl⟩
theorem d_M_sendWrite_119 : At prog_8_method_20_code 119 (.iload_n 2) 1 120 := ⟨by decide +kernel, rfl⟩
theorem d_M_sendWrite_120 : At prog_8_method_20_code 120 (.iaload) 1 121 := ⟨by decide +kernel, rfl⟩
theorem d_M_sendWrite_121 : At prog_8_method_20_code 121 (.aload_n 0) 1 122 := ⟨by decide +kernel, rfl⟩
theorem d_M_sendWrite_122 : At prog_8_method_20_code 122 (.getfield 23) 3 125 := ⟨by decide +kernel, rfl⟩
theorem d_M_sendWrite_125 : At prog_8_method_20_code 125 (.iload_n 2) 1 126 := ⟨by decide +kernel, rfl⟩
theorem d_M_sendWrite_126 : At prog_8_method_20_code 126 (.iaload) 1 127 := ⟨by decide +kernel, rfl⟩
theorem d_M_sendWrite_127 : At prog_8_method_20_code 127 (.isub) 1 128 := ⟨by decide +kernel, rfl⟩
theorem d_M_sendWrite_128 : At prog_8_method_20_code 128 (.bipush 8) 2 130 := ⟨by decide +kernel, rfl⟩
theorem d_M_sendWrite_130 : AtC prog_8_method_20_code 130 (.if_icmp .ge) 144 133 := ⟨14, by decide +kernel, by decide, rfl⟩
theorem d_M_sendWrite_133 : At prog_8_method_20_code 133 (.aload_n 0) 1 134 := ⟨by decide +kernel, rfl⟩
theorem d_M_sendWrite_134 : At prog_8_method_20_code 134 (.getfield 20) 3 137 := ⟨by decide +kernel, rfl⟩
theorem d_M_sendWrite_137 : At prog_8_method_20_code 137 (.iload_n 2) 1 138 := ⟨by decide +kernel, rfl⟩
theorem d_M_sendWrite_138 : At prog_8_method_20_code 138 (.iaload) 1 139 := ⟨by decide +kernel, rfl⟩
theorem d_M_sendWrite_139 : At prog_8_method_20_code 139 (.bipush 100) 2 141 := ⟨by decide +kernel, rfl⟩
theorem d_M_sendWrite_141 : AtC prog_8_method_20_code 141 (.if_icmp .lt) 146 144 := ⟨5, by decide +kernel, by decide, rfl⟩
theorem d_M_sendWrite_144 : At prog_8_method_20_code 144 (.iconst 1) 1 145 := ⟨by decide +kernel, rfl⟩
theorem d_M_sendWrite_145 : At prog_8_method_20_code 145 (.ireturn) 1 146 := ⟨by decide +kernel, rfl⟩
theorem d_M_sendWrite_146 : At prog_8_method_20_code 146 (.aload_n 0) 1 147 := ⟨by decide +kernel, rfl⟩
theorem d_M_sendWrite_147 : At prog_8_method_20_code 147 (.iload_n 2) 1 148 := ⟨by decide +kernel, rfl⟩
theorem d_M_sendWrite_148 : At prog_8_method_20_code 148 (.aload_n 0) 1 149 := ⟨by decide +kernel, rfl⟩
theorem d_M_sendWrite_149 : At prog_8_method_20_code 149 (.getfield 50) 3 152 := ⟨by decide +kernel, rfl⟩
theorem d_M_sendWrite_152 : At prog_8_method_20_code 152 (.iload_n 1) 1 153 := ⟨by decide +kernel, rfl⟩
theorem d_M_sendWrite_153 : At prog_8_method_20_code 153 (.iaload) 1 154 := ⟨by decide +kernel, rfl⟩
theorem d_M_sendWrite_154 : At prog_8_method_20_code 154 (.aload_n 0) 1 155 := ⟨by decide +kernel, rfl⟩
theorem d_M_sendWrite_155 : At prog_8_method_20_code 155 (.getfield 53) 3 158 := ⟨by decide +kernel, rfl⟩
theorem d_M_sendWrite_158 : At prog_8_method_20_code 158 (.iload_n 1) 1 159 := ⟨by decide +kernel, rfl⟩
theorem d_M_sendWrite_159 : At prog_8_method_20_code 159 (.iaload) 1 160 := ⟨by decide +kernel, rfl⟩
theorem d_M_sendWrite_160 : At prog_8_method_20_code 160 (.iload_n 1) 1 161 := ⟨by decide +kernel, rfl⟩
theorem d_M_sendWrite_161 : At prog_8_method_20_code 161 (.aload_n 0) 1 162 := ⟨by decide +kernel, rfl⟩
theorem d_M_sendWrite_162 : At prog_8_method_20_code 162 (.getfield 47) 3 165 := ⟨by decide +kernel, rfl⟩
theorem d_M_sendWrite_165 : At prog_8_method_20_code 165 (.iload_n 1) 1 166 := ⟨by decide +kernel, rfl⟩
theorem d_M_sendWrite_166 : At prog_8_method_20_code 166 (.iaload) 1 167 := ⟨by decide +kernel, rfl⟩
theorem d_M_sendWrite_167 : At prog_8_method_20_code 167 (.invokevirtual 118) 3 170 := ⟨by decide +kernel, rfl⟩
theorem d_M_sendWrite_170 : At prog_8_method_20_code 170 (.iconst 2) 1 171 := ⟨by decide +kernel, rfl⟩
theorem d_M_sendWrite_171 : At prog_8_method_20_code 171 (.ireturn) 1 172 := ⟨by decide +kernel, rfl⟩
theorem d_M_isIn_0 : At prog_8_method_3_code 0 (.aload_n 0) 1 1 := ⟨by decide +kernel, rfl⟩
theorem d_M_isIn_1 : At prog_8_method_3_code 1 (.getfield 29) 3 4 := ⟨by decide +kernel, rfl⟩
theorem d_M_isIn_4 : At prog_8_method_3_code 4 (.iload_n 1) 1 5 := ⟨by decide +kernel, rfl⟩
theorem d_M_isIn_5 : At prog_8_method_3_code 5 (.iaload) 1 6 := ⟨by decide +kernel, rfl⟩
theorem d_M_isIn_6 : At prog_8_method_3_code 6 (.iload_n 2) 1 7 := ⟨by decide +kernel, rfl⟩
theorem d_M_isIn_7 : At prog_8_method_3_code 7 (.ishr) 1 8 := ⟨by decide +kernel, rfl⟩
theorem d_M_isIn_8 : At prog_8_method_3_code 8 (.iconst 1) 1 9 := ⟨by decide +kernel, rfl⟩
theorem d_M_isIn_9 : At prog_8_method_3_code 9 (.iand) 1 10 := ⟨by decide +kernel, rfl⟩
theorem d_M_isIn_10 : At prog_8_method_3_code 10 (.iconst 1) 1 11 := ⟨by decide +kernel, rfl⟩
theorem d_M_isIn_11 : AtC prog_8_method_3_code 11 (.if_icmp .ne) 18 14 := ⟨7, by decide +kernel, by decide, rfl⟩
theorem d_M_isIn_14 : At prog_8_method_3_code 14 (.iconst 1) 1 15 := ⟨by decide +kernel, rfl⟩
theorem d_M_isIn_15 : AtC prog_8_method_3_code 15 .goto 19 18 := ⟨4, by decide +kernel, by decide, rfl⟩
theorem d_M_isIn_18 : At prog_8_method_3_code 18 (.iconst 0) 1 19 := ⟨by decide +kernel, rfl⟩
theorem d_M_isIn_19 : At prog_8_method_3_code 19 (.ireturn) 1 20 := ⟨by decide +kernel, rfl⟩
theorem d_M_predecessor_0 : At prog_8_method_4_code 0 (.iload_n 1) 1 1 := ⟨by decide +kernel, rfl⟩
theorem d_M_predecessor_1 : At prog_8_method_4_code 1 (.iconst 1) 1 2 := ⟨by decide +kernel, rfl⟩
theorem d_M_predecessor_2 : At prog_8_method_4_code 2 (.isub) 1 3 := ⟨by decide +kernel, rfl⟩
theorem d_M_predecessor_3 : At prog_8_method_4_code 3 (.istore_n 2) 1 4 := ⟨by decide +kernel, rfl⟩
theorem d_M_predecessor_4 : At prog_8_method_4_code 4 (.iload_n 2) 1 5 := ⟨by decide +kernel, rfl⟩
theorem d_M_predecessor_5 : AtC prog_8_method_4_code 5 (.ifCond .lt) 30 8 := ⟨25, by decide +kernel, by decide, rfl⟩
theorem d_M_predecessor_8 : At prog_8_method_4_code 8 (.aload_n 0) 1 9 := ⟨by decide +kernel, rfl⟩
theorem d_M_predecessor_9 : At prog_8_method_4_code 9 (.aload_n 0) 1 10 := ⟨by decide +kernel, rfl⟩
theorem d_M_predecessor_10 : At prog_8_method_4_code 10 (.getfield 16) 3 13 := ⟨by decide +kernel, rfl⟩
theorem d_M_predecessor_13 : At prog_8_method_4_code 13 (.iload_n 1) 1 14 := ⟨by decide +kernel, rfl⟩
theorem d_M_predecessor_14 : At prog_8_method_4_code 14 (.iaload) 1 15 := ⟨by decide +kernel, rfl⟩
theorem d_M_predecessor_15 : At prog_8_method_4_code 15 (.iload_n 2) 1 16 := ⟨by decide +kernel, rfl⟩
theorem d_M_predecessor_16 : At prog_8_method_4_code 16 (.invokevirtual 90) 3 19 := ⟨by decide +kernel, rfl⟩
theorem d_M_predecessor_19 : AtC prog_8_method_4_code 19 (.ifCond .eq) 24 22 := ⟨5, by decide +kernel, by decide, rfl⟩
theorem d_M_predecessor_22 : At prog_8_method_4_code 22 (.iload_n 2) 1 23 := ⟨by decide +kernel, rfl⟩
theorem d_M_predecessor_23 : At prog_8_method_4_code 23 (.ireturn) 1 24 := ⟨by decide +kernel, rfl⟩
theorem d_M_predecessor_24 : At prog_8_method_4_code 24 (.iinc 2 (-1)) 3 27 := ⟨by decide +kernel, rfl⟩
theorem d_M_predecessor_27 : AtC prog_8_method_4_code 27 .goto 4 30 := ⟨-23, by decide +kernel, by decide, rfl⟩
theorem d_M_predecessor_30 : At prog_8_method_4_code 30 (.iconst (-1)) 1 31 := ⟨by decide +kernel, rfl⟩
theorem d_M_predecessor_31 : At prog_8_method_4_code 31 (.ireturn) 1 32 := ⟨by decide +kernel, rfl⟩
theorem d_M_take_0 : At prog_8_method_16_code 0 (.aload_n 0) 1 1 := ⟨by decide +kernel, rfl⟩
theorem d_M_take_1 : At prog_8_method_16_code 1 (.getfield 20) 3 4 := ⟨by decide +kernel, rfl⟩
theorem d_M_take_4 : At prog_8_method_16_code 4 (.iload_n 1) 1 5 := ⟨by decide +kernel, rfl⟩
theorem d_M_take_5 : At prog_8_method_16_code 5 (.dup2) 1 6 := ⟨by decide +kernel, rfl⟩
theorem d_M_take_6 : At prog_8_method_16_code 6 (.iaload) 1 7 := ⟨by decide +kernel, rfl⟩
theorem d_M_take_7 : At prog_8_method_16_code 7 (.iconst 1) 1 8 := ⟨by decide +kernel, rfl⟩
theorem d_M_take_8 : At prog_8_method_16_code 8 (.iadd) 1 9 := ⟨by decide +kernel, rfl⟩
theorem d_M_take_9 : At prog_8_method_16_code 9 (.iastore) 1 10 := ⟨by decide +kernel, rfl⟩
theorem d_M_take_10 : At prog_8_method_16_code 10 (.sipush 128) 3 13 := ⟨by decide +kernel, rfl⟩
theorem d_M_take_13 : At prog_8_method_16_code 13 (.iload_n 1) 1 14 := ⟨by decide +kernel, rfl⟩
theorem d_M_take_14 : At prog_8_method_16_code 14 (.imul) 1 15 := ⟨by decide +kernel, rfl⟩
theorem d_M_take_15 : At prog_8_method_16_code 15 (.aload_n 0) 1 16 := ⟨by decide +kernel, rfl⟩
theorem d_M_take_16 : At prog_8_method_16_code 16 (.getfield 20) 3 19 := ⟨by decide +kernel, rfl⟩
theorem d_M_take_19 : At prog_8_method_16_code 19 (.iload_n 1) 1 20 := ⟨by decide +kernel, rfl⟩
theorem d_M_take_20 : At prog_8_method_16_code 20 (.iaload) 1 21 := ⟨by decide +kernel, rfl⟩
theorem d_M_take_21 : At prog_8_method_16_code 21 (.iadd) 1 22 := ⟨by decide +kernel, rfl⟩
theorem d_M_take_22 : At prog_8_method_16_code 22 (.istore 6) 2 24 := ⟨by decide +kernel, rfl⟩
theorem d_M_take_24 : At prog_8_method_16_code 24 (.aload_n 0) 1 25 := ⟨by decide +kernel, rfl⟩
theorem d_M_take_25 : At prog_8_method_16_code 25 (.getfield 32) 3 28 := ⟨by decide +kernel, rfl⟩
theorem d_M_take_28 : At prog_8_method_16_code 28 (.iload 6) 2 30 := ⟨by decide +kernel, rfl⟩
theorem d_M_take_30 : At prog_8_method_16_code 30 (.iload_n 2) 1 31 := ⟨by decide +kernel, rfl⟩
theorem d_M_take_31 : At prog_8_method_16_code 31 (.iastore) 1 32 := ⟨by decide +kernel, rfl⟩
theorem d_M_take_32 : At prog_8_method_16_code 32 (.aload_n 0) 1 33 := ⟨by decide +kernel, rfl⟩
theorem d_M_take_33 : At prog_8_method_16_code 33 (.getfield 35) 3 36 := ⟨by decide +kernel, rfl⟩
theorem d_M_take_36 : At prog_8_method_16_code 36 (.iload 6) 2 38 := ⟨by decide +kernel, rfl⟩
theorem d_M_take_38 : At prog_8_method_16_code 38 (.iload_n 3) 1 39 := ⟨by decide +kernel, rfl⟩
theorem d_M_take_39 : At prog_8_method_16_code 39 (.iastore) 1 40 := ⟨by decide +kernel, rfl⟩
theorem d_M_take_40 : At prog_8_method_16_code 40 (.aload_n 0) 1 41 := ⟨by decide +kernel, rfl⟩
theorem d_M_take_41 : At prog_8_method_16_code 41 (.getfield 38) 3 44 := ⟨by decide +kernel, rfl⟩
theorem d_M_take_44 : At prog_8_method_16_code 44 (.iload 6) 2 46 := ⟨by decide +kernel, rfl⟩
theorem d_M_take_46 : At prog_8_method_16_code 46 (.iload 4) 2 48 := ⟨by decide +kernel, rfl⟩
theorem d_M_take_48 : At prog_8_method_16_code 48 (.iastore) 1 49 := ⟨by decide +kernel, rfl⟩
theorem d_M_take_49 : At prog_8_method_16_code 49 (.aload_n 0) 1 50 := ⟨by decide +kernel, rfl⟩
theorem d_M_take_50 : At prog_8_method_16_code 50 (.getfield 41) 3 53 := ⟨by decide +kernel, rfl⟩
theorem d_M_take_53 : At prog_8_method_16_code 53 (.iload 6) 2 55 := ⟨by decide +kernel, rfl⟩
theorem d_M_take_55 : At prog_8_method_16_code 55 (.iload 5) 2 57 := ⟨by decide +kernel, rfl⟩
theorem d_M_take_57 : At prog_8_method_16_code 57 (.iastore) 1 58 := ⟨by decide +kernel, rfl⟩
theorem d_M_take_58 : At prog_8_method_16_code 58 (.aload_n 0) 1 59 := ⟨by decide +kernel, rfl⟩
theorem d_M_take_59 : At prog_8_method_16_code 59 (.iload_n 1) 1 60 := ⟨by decide +kernel, rfl⟩
theorem d_M_take_60 : At prog_8_method_16_code 60 (.invokevirtual 104) 3 63 := ⟨by decide +kernel, rfl⟩
theorem d_M_take_63 : AtC prog_8_method_16_code 63 (.ifCond .ge) 92 66 := ⟨29, by decide +kernel, by decide, rfl⟩
theorem d_M_take_66 : At prog_8_method_16_code 66 (.aload_n 0) 1 67 := ⟨by decide +kernel, rfl⟩
theorem d_M_take_67 : At prog_8_method_16_code 67 (.iload_n 1) 1 68 := ⟨by decide +kernel, rfl⟩
theorem d_M_take_68 : At prog_8_method_16_code 68 (.invokevirtual 108) 3 71 := ⟨by decide +kernel, rfl⟩
theorem d_M_take_71 : At prog_8_method_16_code 71 (.aload_n 0) 1 72 := ⟨by decide +kernel, rfl⟩
theorem d_M_take_72 : At prog_8_method_16_code 72 (.iload_n 1) 1 73 := ⟨by decide +kernel, rfl⟩
theorem d_M_take_73 : At prog_8_method_16_code 73 (.aload_n 0) 1 74 := ⟨by decide +kernel, rfl⟩
theorem d_M_take_74 : At prog_8_method_16_code 74 (.iload_n 1) 1 75 := ⟨by decide +kernel, rfl⟩
theorem d_M_take_75 : At prog_8_method_16_code 75 (.invokevirtual 111) 3 78 := ⟨by decide +kernel, rfl⟩
theorem d_M_take_78 : At prog_8_method_16_code 78 (.iconst 2) 1 79 := ⟨by decide +kernel, rfl⟩
theorem d_M_take_79 : At prog_8_method_16_code 79 (.aload_n 0) 1 80 := ⟨by decide +kernel, rfl⟩
theorem d_M_take_80 : At prog_8_method_16_code 80 (.getfield 23) 3 83 := ⟨by decide +kernel, rfl⟩
theorem d_M_take_83 : At prog_8_method_16_code 83 (.iload_n 1) 1 84 := ⟨by decide +kernel, rfl⟩
theorem d_M_take_84 : At prog_8_method_16_code 84 (.iaload) 1 85 := ⟨by decide +kernel, rfl⟩
theorem d_M_take_85 : At prog_8_method_16_code 85 (.iconst 0) 1 86 := ⟨by decide +kernel, rfl⟩
theorem d_M_take_86 : At prog_8_method_16_code 86 (.invokevirtual 114) 3 89 := ⟨by decide +kernel, rfl⟩
theorem d_M_take_89 : AtC prog_8_method_16_code 89 .goto 110 92 := ⟨21, by decide +kernel, by decide, rfl⟩
theorem d_M_take_92 : At prog_8_method_16_code 92 (.aload_n 0) 1 93 := ⟨by decide +kernel, rfl⟩
theorem d_M_take_93 : At prog_8_method_16_code 93 (.iload_n 1) 1 94 := ⟨by decide +kernel, rfl⟩
theorem d_M_take_94 : At prog_8_method_16_code 94 (.aload_n 0) 1 95 := ⟨by decide +kernel, rfl⟩
theorem d_M_take_95 : At prog_8_method_16_code 95 (.iload_n 1) 1 96 := ⟨by decide +kernel, rfl⟩
theorem d_M_take_96 : At prog_8_method_16_code 96 (.invokevirtual 104) 3 99 := ⟨by decide +kernel, rfl⟩
theorem d_M_take_99 : At prog_8_method_16_code 99 (.iconst 1) 1 100 := ⟨by decide +kernel, rfl⟩
theorem d_M_take_100 : At prog_8_method_16_code 100 (.aload_n 0) 1 101 := ⟨by decide +kernel, rfl⟩
theorem d_M_take_101 : At prog_8_method_16_code 101 (.getfield 20) 3 104 := ⟨by decide +kernel, rfl⟩
theorem d_M_take_104 : At prog_8_method_16_code 104 (.iload_n 1) 1 105 := ⟨by decide +kernel, rfl⟩
theorem d_M_take_105 : At prog_8_method_16_code 105 (.iaload) 1 106 := ⟨by decide +kernel, rfl⟩
theorem d_M_take_106 : At prog_8_method_16_code 106 (.iconst 0) 1 107 := ⟨by decide +kernel, rfl⟩
theorem d_M_take_107 : At prog_8_method_16_code 107 (.invokevirtual 114) 3 110 := ⟨by decide +kernel, rfl⟩
theorem d_M_take_110 : At prog_8_method_16_code 110 (.return_) 1 111 := ⟨by decide +kernel, rfl⟩
theorem d_M_successor_0 : At prog_8_method_5_code 0 (.iload_n 1) 1 1 := ⟨by decide +kernel, rfl⟩
theorem d_M_successor_1 : At prog_8_method_5_code 1 (.iconst 1) 1 2 := ⟨by decide +kernel, rfl⟩
theorem d_M_successor_2 : At prog_8_method_5_code 2 (.iadd) 1 3 := ⟨by decide +kernel, rfl⟩
theorem d_M_successor_3 : At prog_8_method_5_code 3 (.istore_n 2) 1 4 := ⟨by decide +kernel, rfl⟩
theorem d_M_successor_4 : At prog_8_method_5_code 4 (.iload_n 2) 1 5 := ⟨by decide +kernel, rfl⟩
theorem d_M_successor_5 : At prog_8_method_5_code 5 (.bipush 6) 2 7 := ⟨by decide +kernel, rfl⟩
theorem d_M_successor_7 : AtC prog_8_method_5_code 7 (.if_icmp .ge) 32 10 := ⟨25, by decide +kernel, by decide, rfl⟩
theorem d_M_successor_10 : At prog_8_method_5_code 10 (.aload_n 0) 1 11 := ⟨by decide +kernel, rfl⟩
theorem d_M_successor_11 : At prog_8_method_5_code 11 (.aload_n 0) 1 12 := ⟨by decide +kernel, rfl⟩
theorem d_M_successor_12 : At prog_8_method_5_code 12 (.getfield 16) 3 15 := ⟨by decide +kernel, rfl⟩
theorem d_M_successor_15 : At prog_8_method_5_code 15 (.iload_n 1) 1 16 := ⟨by decide +kernel, rfl⟩
theorem d_M_successor_16 : At prog_8_method_5_code 16 (.iaload) 1 17 := ⟨by decide +kernel, rfl⟩
theorem d_M_successor_17 : At prog_8_method_5_code 17 (.iload_n 2) 1 18 := ⟨by decide +kernel, rfl⟩
theorem d_M_successor_18 : At prog_8_method_5_code 18 (.invokevirtual 90) 3 21 := ⟨by decide +kernel, rfl⟩
theorem d_M_successor_21 : AtC prog_8_method_5_code 21 (.ifCond .eq) 26 24 := ⟨5, by decide +kernel, by decide, rfl⟩
theorem d_M_successor_24 : At prog_8_method_5_code 24 (.iload_n 2) 1 25 := ⟨by decide +kernel, rfl⟩
theorem d_M_successor_25 : At prog_8_method_5_code 25 (.ireturn) 1 26 := ⟨by decide +kernel, rfl⟩
theorem d_M_successor_26 : At prog_8_method_5_code 26 (.iinc 2 1) 3 29 := ⟨by decide +kernel, rfl⟩
theorem d_M_successor_29 : AtC prog_8_method_5_code 29 .goto 4 32 := ⟨-25, by decide +kernel, by decide, rfl⟩
theorem d_M_successor_32 : At prog_8_method_5_code 32 (.iconst (-1)) 1 33 := ⟨by decide +kernel, rfl⟩
theorem d_M_successor_33 : At prog_8_method_5_code 33 (.ireturn) 1 34 := ⟨by decide +kernel, rfl⟩
theorem d_M_settleAll_0 : At prog_8_method_15_code 0 (.aload_n 0) 1 1 := ⟨by decide +kernel, rfl⟩
theorem d_M_settleAll_1 : At prog_8_method_15_code 1 (.getfield 23) 3 4 := ⟨by decide +kernel, rfl⟩
theorem d_M_settleAll_4 : At prog_8_method_15_code 4 (.iload_n 1) 1 5 := ⟨by decide +kernel, rfl⟩
theorem d_M_settleAll_5 : At prog_8_method_15_code 5 (.iaload) 1 6 := ⟨by decide +kernel, rfl⟩
theorem d_M_settleAll_6 : At prog_8_method_15_code 6 (.iconst 1) 1 7 := ⟨by decide +kernel, rfl⟩
theorem d_M_settleAll_7 : At prog_8_method_15_code 7 (.iadd) 1 8 := ⟨by decide +kernel, rfl⟩
theorem d_M_settleAll_8 : At prog_8_method_15_code 8 (.istore_n 2) 1 9 := ⟨by decide +kernel, rfl⟩
theorem d_M_settleAll_9 : At prog_8_method_15_code 9 (.iload_n 2) 1 10 := ⟨by decide +kernel, rfl⟩
theorem d_M_settleAll_10 : At prog_8_method_15_code 10 (.aload_n 0) 1 11 := ⟨by decide +kernel, rfl⟩
theorem d_M_settleAll_11 : At prog_8_method_15_code 11 (.getfield 20) 3 14 := ⟨by decide +kernel, rfl⟩
theorem d_M_settleAll_14 : At prog_8_method_15_code 14 (.iload_n 1) 1 15 := ⟨by decide +kernel, rfl⟩
theorem d_M_settleAll_15 : At prog_8_method_15_code 15 (.iaload) 1 16 := ⟨by decide +kernel, rfl⟩
theorem d_M_settleAll_16 : AtC prog_8_method_15_code 16 (.if_icmp .gt) 101 19 := ⟨85, by decide +kernel, by decide, rfl⟩
theorem d_M_settleAll_19 : At prog_8_method_15_code 19 (.aload_n 0) 1 20 := ⟨by decide +kernel, rfl⟩
theorem d_M_settleAll_20 : At prog_8_method_15_code 20 (.getfield 38) 3 23 := ⟨by decide +kernel, rfl⟩
theorem d_M_settleAll_23 : At prog_8_method_15_code 23 (.sipush 128) 3 26 := ⟨by decide +kernel, rfl⟩
theorem d_M_settleAll_26 : At prog_8_method_15_code 26 (.iload_n 1) 1 27 := ⟨by decide +kernel, rfl⟩
theorem d_M_settleAll_27 : At prog_8_method_15_code 27 (.imul) 1 28 := ⟨by decide +kernel, rfl⟩
theorem d_M_settleAll_28 : At prog_8_method_15_code 28 (.iload_n 2) 1 29 := ⟨by decide +kernel, rfl⟩
theorem d_M_settleAll_29 : At prog_8_method_15_code 29 (.iadd) 1 30 := ⟨by decide +kernel, rfl⟩
theorem d_M_settleAll_30 : At prog_8_method_15_code 30 (.iaload) 1 31 := ⟨by decide +kernel, rfl⟩
theorem d_M_settleAll_31 : At prog_8_method_15_code 31 (.istore_n 3) 1 32 := ⟨by decide +kernel, rfl⟩
theorem d_M_settleAll_32 : At prog_8_method_15_code 32 (.aload_n 0) 1 33 := ⟨by decide +kernel, rfl⟩
theorem d_M_settleAll_33 : At prog_8_method_15_code 33 (.getfield 44) 3 36 := ⟨by decide +kernel, rfl⟩
theorem d_M_settleAll_36 : At prog_8_method_15_code 36 (.iload_n 3) 1 37 := ⟨by decide +kernel, rfl⟩
theorem d_M_settleAll_37 : At prog_8_method_15_code 37 (.iaload) 1 38 := ⟨by decide +kernel, rfl⟩
theorem d_M_settleAll_38 : At prog_8_method_15_code 38 (.iconst 1) 1 39 := ⟨by decide +kernel, rfl⟩
theorem d_M_settleAll_39 : AtC prog_8_method_15_code 39 (.if_icmp .ne) 95 42 := ⟨56, by decide +kernel, by decide, rfl⟩
theorem d_M_settleAll_42 : At prog_8_method_15_code 42 (.aload_n 0) 1 43 := ⟨by decide +kernel, rfl⟩
theorem d_M_settleAll_43 : At prog_8_method_15_code 43 (.getfield 41) 3 46 := ⟨by decide +kernel, rfl⟩
theorem d_M_settleAll_46 : At prog_8_method_15_code 46 (.sipush 128) 3 49 := ⟨by decide +kernel, rfl⟩
theorem d_M_settleAll_49 : At prog_8_method_15_code 49 (.iload_n 1) 1 50 := ⟨by decide +kernel, rfl⟩
theorem d_M_settleAll_50 : At prog_8_method_15_code 50 (.imul) 1 51 := ⟨by decide +kernel, rfl⟩
theorem d_M_settleAll_51 : At prog_8_method_15_code 51 (.iload_n 2) 1 52 := ⟨by decide +kernel, rfl⟩
theorem d_M_settleAll_52 : At prog_8_method_15_code 52 (.iadd) 1 53 := ⟨by decide +kernel, rfl⟩
theorem d_M_settleAll_53 : At prog_8_method_15_code 53 (.iaload) 1 54 := ⟨by decide +kernel, rfl⟩
theorem d_M_settleAll_54 : At prog_8_method_15_code 54 (.aload_n 0) 1 55 := ⟨by decide +kernel, rfl⟩
theorem d_M_settleAll_55 : At prog_8_method_15_code 55 (.getfield 47) 3 58 := ⟨by decide +kernel, rfl⟩
theorem d_M_settleAll_58 : At prog_8_method_15_code 58 (.iload_n 3) 1 59 := ⟨by decide +kernel, rfl⟩
theorem d_M_settleAll_59 : At prog_8_method_15_code 59 (.iaload) 1 60 := ⟨by decide +kernel, rfl⟩
theorem d_M_settleAll_60 : AtC prog_8_method_15_code 60 (.if_icmp .ne) 95 63 := ⟨35, by decide +kernel, by decide, rfl⟩
theorem d_M_settleAll_63 : At prog_8_method_15_code 63 (.aload_n 0) 1 64 := ⟨by decide +kernel, rfl⟩
theorem d_M_settleAll_64 : At prog_8_method_15_code 64 (.getfield 44) 3 67 := ⟨by decide +kernel, rfl⟩
theorem d_M_settleAll_67 : At prog_8_method_15_code 67 (.iload_n 3) 1 68 := ⟨by decide +kernel, rfl⟩
theorem d_M_settleAll_68 : At prog_8_method_15_code 68 (.iconst 2) 1 69 := ⟨by decide +kernel, rfl⟩
theorem d_M_settleAll_69 : At prog_8_method_15_code 69 (.iastore) 1 70 := ⟨by decide +kernel, rfl⟩
theorem d_M_settleAll_70 : At prog_8_method_15_code 70 (.aload_n 0) 1 71 := ⟨by decide +kernel, rfl⟩
theorem d_M_settleAll_71 : At prog_8_method_15_code 71 (.getfield 59) 3 74 := ⟨by decide +kernel, rfl⟩
theorem d_M_settleAll_74 : At prog_8_method_15_code 74 (.iload_n 3) 1 75 := ⟨by decide +kernel, rfl⟩
theorem d_M_settleAll_75 : At prog_8_method_15_code 75 (.iload_n 2) 1 76 := ⟨by decide +kernel, rfl⟩
theorem d_M_settleAll_76 : At prog_8_method_15_code 76 (.iastore) 1 77 := ⟨by decide +kernel, rfl⟩
theorem d_M_settleAll_77 : At prog_8_method_15_code 77 (.aload_n 0) 1 78 := ⟨by decide +kernel, rfl⟩
theorem d_M_settleAll_78 : At prog_8_method_15_code 78 (.getfield 62) 3 81 := ⟨by decide +kernel, rfl⟩
theorem d_M_settleAll_81 : At prog_8_method_15_code 81 (.iload_n 3) 1 82 := ⟨by decide +kernel, rfl⟩
theorem d_M_settleAll_82 : At prog_8_method_15_code 82 (.aload_n 0) 1 83 := ⟨by decide +kernel, rfl⟩
theorem d_M_settleAll_83 : At prog_8_method_15_code 83 (.getfield 35) 3 86 := ⟨by decide +kernel, rfl⟩
theorem d_M_settleAll_86 : At prog_8_method_15_code 86 (.sipush 128) 3 89 := ⟨by decide +kernel, rfl⟩
theorem d_M_settleAll_89 : At prog_8_method_15_code 89 (.iload_n 1) 1 90 := ⟨by decide +kernel, rfl⟩
theorem d_M_settleAll_90 : At prog_8_method_15_code 90 (.imul) 1 91 := ⟨by decide +kernel, rfl⟩
theorem d_M_settleAll_91 : At prog_8_method_15_code 91 (.iload_n 2) 1 92 := ⟨by decide +kernel, rfl⟩
theorem d_M_settleAll_92 : At prog_8_method_15_code 92 (.iadd) 1 93 := ⟨by decide +kernel, rfl⟩
theorem d_M_settleAll_93 : At prog_8_method_15_code 93 (.iaload) 1 94 := ⟨by decide +kernel, rfl⟩
theorem d_M_settleAll_94 : At prog_8_method_15_code 94 (.iastore) 1 95 := ⟨by decide +kernel, rfl⟩
theorem d_M_settleAll_95 : At prog_8_method_15_code 95 (.iinc 2 1) 3 98 := ⟨by decide +kernel, rfl⟩
theorem d_M_settleAll_98 : AtC prog_8_method_15_code 98 .goto 9 101 := ⟨-89, by decide +kernel, by decide, rfl⟩
theorem d_M_settleAll_101 : At prog_8_method_15_code 101 (.aload_n 0) 1 102 := ⟨by decide +kernel, rfl⟩
theorem d_M_settleAll_102 : At prog_8_method_15_code 102 (.getfield 23) 3 105 := ⟨by decide +kernel, rfl⟩
theorem d_M_settleAll_105 : At prog_8_method_15_code 105 (.iload_n 1) 1 106 := ⟨by decide +kernel, rfl⟩
theorem d_M_settleAll_106 : At prog_8_method_15_code 106 (.aload_n 0) 1 107 := ⟨by decide +kernel, rfl⟩
theorem d_M_settleAll_107 : At prog_8_method_15_code 107 (.getfield 20) 3 110 := ⟨by decide +kernel, rfl⟩
theorem d_M_settleAll_110 : At prog_8_method_15_code 110 (.iload_n 1) 1 111 := ⟨by decide +kernel, rfl⟩
theorem d_M_settleAll_111 : At prog_8_method_15_code 111 (.iaload) 1 112 := ⟨by decide +kernel, rfl⟩
theorem d_M_settleAll_112 : At prog_8_method_15_code 112 (.iastore) 1 113 := ⟨by decide +kernel, rfl⟩
theorem d_M_settleAll_113 : At prog_8_method_15_code 113 (.return_) 1 114 := ⟨by decide +kernel, rfl⟩
theorem d_M_send_0 : At prog_8_method_11_code 0 (.iload_n 2) 1 1 := ⟨by decide +kernel, rfl⟩
theorem d_M_send_1 : AtC prog_8_method_11_code 1 (.ifCond .lt) 28 4 := ⟨27, by decide +kernel, by decide, rfl⟩
theorem d_M_send_4 : At prog_8_method_11_code 4 (.aload_n 0) 1 5 := ⟨by decide +kernel, rfl⟩
theorem d_M_send_5 : At prog_8_method_11_code 5 (.getfield 7) 3 8 := ⟨by decide +kernel, rfl⟩
theorem d_M_send_8 : At prog_8_method_11_code 8 (.iload_n 2) 1 9 := ⟨by decide +kernel, rfl⟩
theorem d_M_send_9 : At prog_8_method_11_code 9 (.baload) 1 10 := ⟨by decide +kernel, rfl⟩
theorem d_M_send_10 : AtC prog_8_method_11_code 10 (.ifCond .eq) 28 13 := ⟨18, by decide +kernel, by decide, rfl⟩
theorem d_M_send_13 : At prog_8_method_11_code 13 (.aload_n 0) 1 14 := ⟨by decide +kernel, rfl⟩
theorem d_M_send_14 : At prog_8_method_11_code 14 (.getfield 16) 3 17 := ⟨by decide +kernel, rfl⟩
theorem d_M_send_17 : At prog_8_method_11_code 17 (.iload_n 2) 1 18 := ⟨by decide +kernel, rfl⟩
theorem d_M_send_18 : At prog_8_method_11_code 18 (.iaload) 1 19 := ⟨by decide +kernel, rfl⟩
theorem d_M_send_19 : At prog_8_method_11_code 19 (.aload_n 0) 1 20 := ⟨by decide +kernel, rfl⟩
theorem d_M_send_20 : At prog_8_method_11_code 20 (.getfield 16) 3 23 := ⟨by decide +kernel, rfl⟩
theorem d_M_send_23 : At prog_8_method_11_code 23 (.iload_n 1) 1 24 := ⟨by decide +kernel, rfl⟩
theorem d_M_send_24 : At prog_8_method_11_code 24 (.iaload) 1 25 := ⟨by decide +kernel, rfl⟩
theorem d_M_send_25 : AtC prog_8_method_11_code 25 (.if_icmp .le) 29 28 := ⟨4, by decide +kernel, by decide, rfl⟩
theorem d_M_send_28 : At prog_8_method_11_code 28 (.return_) 1 29 := ⟨by decide +kernel, rfl⟩
theorem d_M_send_29 : At prog_8_method_11_code 29 (.aload_n 0) 1 30 := ⟨by decide +kernel, rfl⟩
theorem d_M_send_30 : At prog_8_method_11_code 30 (.getfield 65) 3 33 := ⟨by decide +kernel, rfl⟩
theorem d_M_send_33 : At prog_8_method_11_code 33 (.aload_n 0) 1 34 := ⟨by decide +kernel, rfl⟩
theorem d_M_send_34 : At prog_8_method_11_code 34 (.getfield 97) 3 37 := ⟨by decide +kernel, rfl⟩
theorem d_M_send_37 : At prog_8_method_11_code 37 (.iload_n 1) 1 38 := ⟨by decide +kernel, rfl⟩
theorem d_M_send_38 : At prog_8_method_11_code 38 (.iastore) 1 39 := ⟨by decide +kernel, rfl⟩
theorem d_M_send_39 : At prog_8_method_11_code 39 (.aload_n 0) 1 40 := ⟨by decide +kernel, rfl⟩
theorem d_M_send_40 : At prog_8_method_11_code 40 (.getfield 68) 3 43 := ⟨by decide +kernel, rfl⟩
theorem d_M_send_43 : At prog_8_method_11_code 43 (.aload_n 0) 1 44 := ⟨by decide +kernel, rfl⟩
theorem d_M_send_44 : At prog_8_method_11_code 44 (.getfield 97) 3 47 := ⟨by decide +kernel, rfl⟩
theorem d_M_send_47 : At prog_8_method_11_code 47 (.iload_n 2) 1 48 := ⟨by decide +kernel, rfl⟩
theorem d_M_send_48 : At prog_8_method_11_code 48 (.iastore) 1 49 := ⟨by decide +kernel, rfl⟩
theorem d_M_send_49 : At prog_8_method_11_code 49 (.aload_n 0) 1 50 := ⟨by decide +kernel, rfl⟩
theorem d_M_send_50 : At prog_8_method_11_code 50 (.getfield 71) 3 53 := ⟨by decide +kernel, rfl⟩
theorem d_M_send_53 : At prog_8_method_11_code 53 (.aload_n 0) 1 54 := ⟨by decide +kernel, rfl⟩
theorem d_M_send_54 : At prog_8_method_11_code 54 (.getfield 97) 3 57 := ⟨by decide +kernel, rfl⟩
theorem d_M_send_57 : At prog_8_method_11_code 57 (.iload_n 3) 1 58 := ⟨by decide +kernel, rfl⟩
theorem d_M_send_58 : At prog_8_method_11_code 58 (.iastore) 1 59 := ⟨by decide +kernel, rfl⟩
theorem d_M_send_59 : At prog_8_method_11_code 59 (.aload_n 0) 1 60 := ⟨by decide +kernel, rfl⟩
theorem d_M_send_60 : At prog_8_method_11_code 60 (.getfield 74) 3 63 := ⟨by decide +kernel, rfl⟩
theorem d_M_send_63 : At prog_8_method_11_code 63 (.aload_n 0) 1 64 := ⟨by decide +kernel, rfl⟩
theorem d_M_send_64 : At prog_8_method_11_code 64 (.getfield 97) 3 67 := ⟨by decide +kernel, rfl⟩
theorem d_M_send_67 : At prog_8_method_11_code 67 (.aload_n 0) 1 68 := ⟨by decide +kernel, rfl⟩
theorem d_M_send_68 : At prog_8_method_11_code 68 (.getfield 16) 3 71 := ⟨by decide +kernel, rfl⟩
theorem d_M_send_71 : At prog_8_method_11_code 71 (.iload_n 1) 1 72 := ⟨by decide +kernel, rfl⟩
theorem d_M_send_72 : At prog_8_method_11_code 72 (.iaload) 1 73 := ⟨by decide +kernel, rfl⟩
theorem d_M_send_73 : At prog_8_method_11_code 73 (.iastore) 1 74 := ⟨by decide +kernel, rfl⟩
theorem d_M_send_74 : At prog_8_method_11_code 74 (.aload_n 0) 1 75 := ⟨by decide +kernel, rfl⟩
theorem d_M_send_75 : At prog_8_method_11_code 75 (.getfield 77) 3 78 := ⟨by decide +kernel, rfl⟩
theorem d_M_send_78 : At prog_8_method_11_code 78 (.aload_n 0) 1 79 := ⟨by decide +kernel, rfl⟩
theorem d_M_send_79 : At prog_8_method_11_code 79 (.getfield 97) 3 82 := ⟨by decide +kernel, rfl⟩
theorem d_M_send_82 : At prog_8_method_11_code 82 (.iload 4) 2 84 := ⟨by decide +kernel, rfl⟩
theorem d_M_send_84 : At prog_8_method_11_code 84 (.iastore) 1 85 := ⟨by decide +kernel, rfl⟩
theorem d_M_send_85 : At prog_8_method_11_code 85 (.aload_n 0) 1 86 := ⟨by decide +kernel, rfl⟩
theorem d_M_send_86 : At prog_8_method_11_code 86 (.getfield 80) 3 89 := ⟨by decide +kernel, rfl⟩
theorem d_M_send_89 : At prog_8_method_11_code 89 (.aload_n 0) 1 90 := ⟨by decide +kernel, rfl⟩
theorem d_M_send_90 : At prog_8_method_11_code 90 (.getfield 97) 3 93 := ⟨by decide +kernel, rfl⟩
theorem d_M_send_93 : At prog_8_method_11_code 93 (.iload 5) 2 95 := ⟨by decide +kernel, rfl⟩
theorem d_M_send_95 : At prog_8_method_11_code 95 (.iastore) 1 96 := ⟨by decide +kernel, rfl⟩
theorem d_M_send_96 : At prog_8_method_11_code 96 (.aload_n 0) 1 97 := ⟨by decide +kernel, rfl⟩
theorem d_M_send_97 : At prog_8_method_11_code 97 (.dup) 1 98 := ⟨by decide +kernel, rfl⟩
theorem d_M_send_98 : At prog_8_method_11_code 98 (.getfield 97) 3 101 := ⟨by decide +kernel, rfl⟩
theorem d_M_send_101 : At prog_8_method_11_code 101 (.iconst 1) 1 102 := ⟨by decide +kernel, rfl⟩
theorem d_M_send_102 : At prog_8_method_11_code 102 (.iadd) 1 103 := ⟨by decide +kernel, rfl⟩
theorem d_M_send_103 : At prog_8_method_11_code 103 (.putfield 97) 3 106 := ⟨by decide +kernel, rfl⟩
theorem d_M_send_106 : At prog_8_method_11_code 106 (.return_) 1 107 := ⟨by decide +kernel, rfl⟩
theorem d_M_get_0 : At prog_8_method_25_code 0 (.iload_n 1) 1 1 := ⟨by decide +kernel, rfl⟩
theorem d_M_get_1 : At prog_8_method_25_code 1 (.iconst 2) 1 2 := ⟨by decide +kernel, rfl⟩
theorem d_M_get_2 : At prog_8_method_25_code 2 (.invokestatic 94) 3 5 := ⟨by decide +kernel, rfl⟩
theorem d_M_get_5 : AtC prog_8_method_25_code 5 (.ifCond .ne) 24 8 := ⟨19, by decide +kernel, by decide, rfl⟩
theorem d_M_get_8 : At prog_8_method_25_code 8 (.iload_n 3) 1 9 := ⟨by decide +kernel, rfl⟩
theorem d_M_get_9 : At prog_8_method_25_code 9 (.iconst 3) 1 10 := ⟨by decide +kernel, rfl⟩
theorem d_M_get_10 : At prog_8_method_25_code 10 (.invokestatic 94) 3 13 := ⟨by decide +kernel, rfl⟩
theorem d_M_get_13 : AtC prog_8_method_25_code 13 (.ifCond .ne) 24 16 := ⟨11, by decide +kernel, by decide, rfl⟩
theorem d_M_get_16 : At prog_8_method_25_code 16 (.iload_n 2) 1 17 := ⟨by decide +kernel, rfl⟩
theorem d_M_get_17 : At prog_8_method_25_code 17 (.iconst 5) 1 18 := ⟨by decide +kernel, rfl⟩
theorem d_M_get_18 : At prog_8_method_25_code 18 (.invokestatic 94) 3 21 := ⟨by decide +kernel, rfl⟩
theorem d_M_get_21 : AtC prog_8_method_25_code 21 (.ifCond .eq) 26 24 := ⟨5, by decide +kernel, by decide, rfl⟩
theorem d_M_get_24 : At prog_8_method_25_code 24 (.iconst (-1)) 1 25 := ⟨by decide +kernel, rfl⟩
theorem d_M_get_25 : At prog_8_method_25_code 25 (.ireturn) 1 26 := ⟨by decide +kernel, rfl⟩
theorem d_M_get_26 : At prog_8_method_25_code 26 (.aload_n 0) 1 27 := ⟨by decide +kernel, rfl⟩
theorem d_M_get_27 : At prog_8_method_25_code 27 (.getfield 44) 3 30 := ⟨by decide +kernel, rfl⟩
theorem d_M_get_30 : At prog_8_method_25_code 30 (.iload_n 1) 1 31 := ⟨by decide +kernel, rfl⟩
theorem d_M_get_31 : At prog_8_method_25_code 31 (.iaload) 1 32 := ⟨by decide +kernel, rfl⟩
theorem d_M_get_32 : At prog_8_method_25_code 32 (.iconst 1) 1 33 := ⟨by decide +kernel, rfl⟩
theorem d_M_get_33 : At prog_8_method_25_code 33 (.iand) 1 34 := ⟨by decide +kernel, rfl⟩
theorem d_M_get_34 : At prog_8_method_25_code 34 (.iconst 1) 1 35 := ⟨by decide +kernel, rfl⟩
theorem d_M_get_35 : AtC prog_8_method_25_code 35 (.if_icmp .ne) 41 38 := ⟨6, by decide +kernel, by decide, rfl⟩
theorem d_M_get_38 : At prog_8_method_25_code 38 (.bipush (-2)) 2 40 := ⟨by decide +kernel, rfl⟩
theorem d_M_get_40 : At prog_8_method_25_code 40 (.ireturn) 1 41 := ⟨by decide +kernel, rfl⟩
theorem d_M_get_41 : At prog_8_method_25_code 41 (.aload_n 0) 1 42 := ⟨by decide +kernel, rfl⟩
theorem d_M_get_42 : At prog_8_method_25_code 42 (.iload_n 2) 1 43 := ⟨by decide +kernel, rfl⟩
theorem d_M_get_43 : At prog_8_method_25_code 43 (.invokevirtual 147) 3 46 := ⟨by decide +kernel, rfl⟩
theorem d_M_get_46 : AtC prog_8_method_25_code 46 (.ifCond .ne) 51 49 := ⟨5, by decide +kernel, by decide, rfl⟩
theorem d_M_get_49 : At prog_8_method_25_code 49 (.iconst 0) 1 50 := ⟨by decide +kernel, rfl⟩
theorem d_M_get_50 : At prog_8_method_25_code 50 (.ireturn) 1 51 := ⟨by decide +kernel, rfl⟩
theorem d_M_get_51 : At prog_8_method_25_code 51 (.aload_n 0) 1 52 := ⟨by decide +kernel, rfl⟩
theorem d_M_get_52 : At prog_8_method_25_code 52 (.getfield 44) 3 55 := ⟨by decide +kernel, rfl⟩
theorem d_M_get_55 : At prog_8_method_25_code 55 (.iload_n 1) 1 56 := ⟨by decide +kernel, rfl⟩
theorem d_M_get_56 : At prog_8_method_25_code 56 (.iconst 3) 1 57 := ⟨by decide +kernel, rfl⟩
theorem d_M_get_57 : At prog_8_method_25_code 57 (.iastore) 1 58 := ⟨by decide +kernel, rfl⟩
theorem d_M_get_58 : At prog_8_method_25_code 58 (.aload_n 0) 1 59 := ⟨by decide +kernel, rfl⟩
theorem d_M_get_59 : At prog_8_method_25_code 59 (.getfield 50) 3 62 := ⟨by decide +kernel, rfl⟩
theorem d_M_get_62 : At prog_8_method_25_code 62 (.iload_n 1) 1 63 := ⟨by decide +kernel, rfl⟩
theorem d_M_get_63 : At prog_8_method_25_code 63 (.iload_n 3) 1 64 := ⟨by decide +kernel, rfl⟩
theorem d_M_get_64 : At prog_8_method_25_code 64 (.iastore) 1 65 := ⟨by decide +kernel, rfl⟩
theorem d_M_get_65 : At prog_8_method_25_code 65 (.aload_n 0) 1 66 := ⟨by decide +kernel, rfl⟩
theorem d_M_get_66 : At prog_8_method_25_code 66 (.iload_n 1) 1 67 := ⟨by decide +kernel, rfl⟩
theorem d_M_get_67 : At prog_8_method_25_code 67 (.iload_n 2) 1 68 := ⟨by decide +kernel, rfl⟩
theorem d_M_get_68 : At prog_8_method_25_code 68 (.invokevirtual 151) 3 71 := ⟨by decide +kernel, rfl⟩
theorem d_M_get_71 : At prog_8_method_25_code 71 (.ireturn) 1 72 := ⟨by decide +kernel, rfl⟩
theorem d_M_serves_0 : At prog_8_method_7_code 0 (.iload_n 1) 1 1 := ⟨by decide +kernel, rfl⟩
theorem d_M_serves_1 : At prog_8_method_7_code 1 (.iconst 5) 1 2 := ⟨by decide +kernel, rfl⟩
theorem d_M_serves_2 : At prog_8_method_7_code 2 (.invokestatic 94) 3 5 := ⟨by decide +kernel, rfl⟩
theorem d_M_serves_5 : AtC prog_8_method_7_code 5 (.ifCond .ne) 30 8 := ⟨25, by decide +kernel, by decide, rfl⟩
theorem d_M_serves_8 : At prog_8_method_7_code 8 (.aload_n 0) 1 9 := ⟨by decide +kernel, rfl⟩
theorem d_M_serves_9 : At prog_8_method_7_code 9 (.getfield 7) 3 12 := ⟨by decide +kernel, rfl⟩
theorem d_M_serves_12 : At prog_8_method_7_code 12 (.iload_n 1) 1 13 := ⟨by decide +kernel, rfl⟩
theorem d_M_serves_13 : At prog_8_method_7_code 13 (.baload) 1 14 := ⟨by decide +kernel, rfl⟩
theorem d_M_serves_14 : AtC prog_8_method_7_code 14 (.ifCond .eq) 30 17 := ⟨16, by decide +kernel, by decide, rfl⟩
theorem d_M_serves_17 : At prog_8_method_7_code 17 (.aload_n 0) 1 18 := ⟨by decide +kernel, rfl⟩
theorem d_M_serves_18 : At prog_8_method_7_code 18 (.getfield 13) 3 21 := ⟨by decide +kernel, rfl⟩
theorem d_M_serves_21 : At prog_8_method_7_code 21 (.iload_n 1) 1 22 := ⟨by decide +kernel, rfl⟩
theorem d_M_serves_22 : At prog_8_method_7_code 22 (.baload) 1 23 := ⟨by decide +kernel, rfl⟩
theorem d_M_serves_23 : AtC prog_8_method_7_code 23 (.ifCond .eq) 30 26 := ⟨7, by decide +kernel, by decide, rfl⟩
theorem d_M_serves_26 : At prog_8_method_7_code 26 (.iconst 1) 1 27 := ⟨by decide +kernel, rfl⟩
theorem d_M_serves_27 : AtC prog_8_method_7_code 27 .goto 31 30 := ⟨4, by decide +kernel, by decide, rfl⟩
theorem d_M_serves_30 : At prog_8_method_7_code 30 (.iconst 0) 1 31 := ⟨by decide +kernel, rfl⟩
theorem d_M_serves_31 : At prog_8_method_7_code 31 (.ireturn) 1 32 := ⟨by decide +kernel, rfl⟩
theorem d_M_serve_0 : At prog_8_method_19_code 0 (.aload_n 0) 1 1 := ⟨by decide +kernel, rfl⟩
theorem d_M_serve_1 : At prog_8_method_19_code 1 (.getfield 56) 3 4 := ⟨by decide +kernel, rfl⟩
theorem d_M_serve_4 : At prog_8_method_19_code 4 (.iload_n 1) 1 5 := ⟨by decide +kernel, rfl⟩
theorem d_M_serve_5 : At prog_8_method_19_code 5 (.iload_n 2) 1 6 := ⟨by decide +kernel, rfl⟩
theorem d_M_serve_6 : At prog_8_method_19_code 6 (.iastore) 1 7 := ⟨by decide +kernel, rfl⟩
theorem d_M_serve_7 : At prog_8_method_19_code 7 (.aload_n 0) 1 8 := ⟨by decide +kernel, rfl⟩
theorem d_M_serve_8 : At prog_8_method_19_code 8 (.getfield 50) 3 11 := ⟨by decide +kernel, rfl⟩
theorem d_M_serve_11 : At prog_8_method_19_code 11 (.iload_n 1) 1 12 := ⟨by decide +kernel, rfl⟩
theorem d_M_serve_12 : At prog_8_method_19_code 12 (.iaload) 1 13 := ⟨by decide +kernel, rfl⟩
theorem d_M_serve_13 : At prog_8_method_19_code 13 (.istore_n 3) 1 14 := ⟨by decide +kernel, rfl⟩
theorem d_M_serve_14 : At prog_8_method_19_code 14 (.aload_n 0) 1 15 := ⟨by decide +kernel, rfl⟩
theorem d_M_serve_15 : At prog_8_method_19_code 15 (.iload_n 2) 1 16 := ⟨by decide +kernel, rfl⟩
theorem d_M_serve_16 : At prog_8_method_19_code 16 (.iload_n 3) 1 17 := ⟨by decide +kernel, rfl⟩
theorem d_M_serve_17 : At prog_8_method_19_code 17 (.invokevirtual 125) 3 20 := ⟨by decide +kernel, rfl⟩
theorem d_M_serve_20 : AtC prog_8_method_19_code 20 (.ifCond .eq) 37 23 := ⟨17, by decide +kernel, by decide, rfl⟩
theorem d_M_serve_23 : At prog_8_method_19_code 23 (.aload_n 0) 1 24 := ⟨by decide +kernel, rfl⟩
theorem d_M_serve_24 : At prog_8_method_19_code 24 (.iload_n 1) 1 25 := ⟨by decide +kernel, rfl⟩
theorem d_M_serve_25 : At prog_8_method_19_code 25 (.iload_n 2) 1 26 := ⟨by decide +kernel, rfl⟩
theorem d_M_serve_26 : At prog_8_method_19_code 26 (.aload_n 0) 1 27 := ⟨by decide +kernel, rfl⟩
theorem d_M_serve_27 : At prog_8_method_19_code 27 (.iload_n 2) 1 28 := ⟨by decide +kernel, rfl⟩
theorem d_M_serve_28 : At prog_8_method_19_code 28 (.iload_n 3) 1 29 := ⟨by decide +kernel, rfl⟩
theorem d_M_serve_29 : At prog_8_method_19_code 29 (.invokevirtual 128) 3 32 := ⟨by decide +kernel, rfl⟩
theorem d_M_serve_32 : At prog_8_method_19_code 32 (.invokevirtual 131) 3 35 := ⟨by decide +kernel, rfl⟩
theorem d_M_serve_35 : At prog_8_method_19_code 35 (.iconst 5) 1 36 := ⟨by decide +kernel, rfl⟩
theorem d_M_serve_36 : At prog_8_method_19_code 36 (.ireturn) 1 37 := ⟨by decide +kernel, rfl⟩
theorem d_M_serve_37 : At prog_8_method_19_code 37 (.aload_n 0) 1 38 := ⟨by decide +kernel, rfl⟩
theorem d_M_serve_38 : At prog_8_method_19_code 38 (.iload_n 2) 1 39 := ⟨by decide +kernel, rfl⟩
theorem d_M_serve_39 : At prog_8_method_19_code 39 (.aload_n 0) 1 40 := ⟨by decide +kernel, rfl⟩
theorem d_M_serve_40 : At prog_8_method_19_code 40 (.aload_n 0) 1 41 := ⟨by decide +kernel, rfl⟩
theorem d_M_serve_41 : At prog_8_method_19_code 41 (.getfield 16) 3 44 := ⟨by decide +kernel, rfl⟩
theorem d_M_serve_44 : At prog_8_method_19_code 44 (.iload_n 2) 1 45 := ⟨by decide +kernel, rfl⟩
theorem d_M_serve_45 : At prog_8_method_19_code 45 (.iaload) 1 46 := ⟨by decide +kernel, rfl⟩
theorem d_M_serve_46 : At prog_8_method_19_code 46 (.invokevirtual 135) 3 49 := ⟨by decide +kernel, rfl⟩
theorem d_M_serve_49 : At prog_8_method_19_code 49 (.iconst 3) 1 50 := ⟨by decide +kernel, rfl⟩
theorem d_M_serve_50 : At prog_8_method_19_code 50 (.iload_n 3) 1 51 := ⟨by decide +kernel, rfl⟩
theorem d_M_serve_51 : At prog_8_method_19_code 51 (.iload_n 1) 1 52 := ⟨by decide +kernel, rfl⟩
theorem d_M_serve_52 : At prog_8_method_19_code 52 (.invokevirtual 114) 3 55 := ⟨by decide +kernel, rfl⟩
theorem d_M_serve_55 : At prog_8_method_19_code 55 (.bipush 6) 2 57 := ⟨by decide +kernel, rfl⟩
theorem d_M_serve_57 : At prog_8_method_19_code 57 (.ireturn) 1 58 := ⟨by decide +kernel, rfl⟩
theorem d_M_isClean_0 : At prog_8_method_8_code 0 (.aload_n 0) 1 1 := ⟨by decide +kernel, rfl⟩
theorem d_M_isClean_1 : At prog_8_method_8_code 1 (.getfield 23) 3 4 := ⟨by decide +kernel, rfl⟩
theorem d_M_isClean_4 : At prog_8_method_8_code 4 (.iload_n 1) 1 5 := ⟨by decide +kernel, rfl⟩
theorem d_M_isClean_5 : At prog_8_method_8_code 5 (.iaload) 1 6 := ⟨by decide +kernel, rfl⟩
theorem d_M_isClean_6 : At prog_8_method_8_code 6 (.iconst 1) 1 7 := ⟨by decide +kernel, rfl⟩
theorem d_M_isClean_7 : At prog_8_method_8_code 7 (.iadd) 1 8 := ⟨by decide +kernel, rfl⟩
theorem d_M_isClean_8 : At prog_8_method_8_code 8 (.istore_n 3) 1 9 := ⟨by decide +kernel, rfl⟩
theorem d_M_isClean_9 : At prog_8_method_8_code 9 (.iload_n 3) 1 10 := ⟨by decide +kernel, rfl⟩
theorem d_M_isClean_10 : At prog_8_method_8_code 10 (.aload_n 0) 1 11 := ⟨by decide +kernel, rfl⟩
theorem d_M_isClean_11 : At prog_8_method_8_code 11 (.getfield 20) 3 14 := ⟨by decide +kernel, rfl⟩
theorem d_M_isClean_14 : At prog_8_method_8_code 14 (.iload_n 1) 1 15 := ⟨by decide +kernel, rfl⟩
theorem d_M_isClean_15 : At prog_8_method_8_code 15 (.iaload) 1 16 := ⟨by decide +kernel, rfl⟩
theorem d_M_isClean_16 : AtC prog_8_method_8_code 16 (.if_icmp .gt) 43 19 := ⟨27, by decide +kernel, by decide, rfl⟩
theorem d_M_isClean_19 : At prog_8_method_8_code 19 (.aload_n 0) 1 20 := ⟨by decide +kernel, rfl⟩
theorem d_M_isClean_20 : At prog_8_method_8_code 20 (.getfield 32) 3 23 := ⟨by decide +kernel, rfl⟩
theorem d_M_isClean_23 : At prog_8_method_8_code 23 (.sipush 128) 3 26 := ⟨by decide +kernel, rfl⟩
theorem d_M_isClean_26 : At prog_8_method_8_code 26 (.iload_n 1) 1 27 := ⟨by decide +kernel, rfl⟩
theorem d_M_isClean_27 : At prog_8_method_8_code 27 (.imul) 1 28 := ⟨by decide +kernel, rfl⟩
theorem d_M_isClean_28 : At prog_8_method_8_code 28 (.iload_n 3) 1 29 := ⟨by decide +kernel, rfl⟩
theorem d_M_isClean_29 : At prog_8_method_8_code 29 (.iadd) 1 30 := ⟨by decide +kernel, rfl⟩
theorem d_M_isClean_30 : At prog_8_method_8_code 30 (.iaload) 1 31 := ⟨by decide +kernel, rfl⟩
theorem d_M_isClean_31 : At prog_8_method_8_code 31 (.iload_n 2) 1 32 := ⟨by decide +kernel, rfl⟩
theorem d_M_isClean_32 : AtC prog_8_method_8_code 32 (.if_icmp .ne) 37 35 := ⟨5, by decide +kernel, by decide, rfl⟩
theorem d_M_isClean_35 : At prog_8_method_8_code 35 (.iconst 0) 1 36 := ⟨by decide +kernel, rfl⟩
theorem d_M_isClean_36 : At prog_8_method_8_code 36 (.ireturn) 1 37 := ⟨by decide +kernel, rfl⟩
theorem d_M_isClean_37 : At prog_8_method_8_code 37 (.iinc 3 1) 3 40 := ⟨by decide +kernel, rfl⟩
theorem d_M_isClean_40 : AtC prog_8_method_8_code 40 .goto 9 43 := ⟨-31, by decide +kernel, by decide, rfl⟩
theorem d_M_isClean_43 : At prog_8_method_8_code 43 (.iconst 1) 1 44 := ⟨by decide +kernel, rfl⟩
theorem d_M_isClean_44 : At prog_8_method_8_code 44 (.ireturn) 1 45 := ⟨by decide +kernel, rfl⟩
theorem d_M_cleanNumber_0 : At prog_8_method_9_code 0 (.aload_n 0) 1 1 := ⟨by decide +kernel, rfl⟩
theorem d_M_cleanNumber_1 : At prog_8_method_9_code 1 (.getfield 23) 3 4 := ⟨by decide +kernel, rfl⟩
theorem d_M_cleanNumber_4 : At prog_8_method_9_code 4 (.iload_n 1) 1 5 := ⟨by decide +kernel, rfl⟩
theorem d_M_cleanNumber_5 : At prog_8_method_9_code 5 (.iaload) 1 6 := ⟨by decide +kernel, rfl⟩
theorem d_M_cleanNumber_6 : At prog_8_method_9_code 6 (.istore_n 3) 1 7 := ⟨by decide +kernel, rfl⟩
theorem d_M_cleanNumber_7 : At prog_8_method_9_code 7 (.iload_n 3) 1 8 := ⟨by decide +kernel, rfl⟩
theorem d_M_cleanNumber_8 : AtC prog_8_method_9_code 8 (.ifCond .le) 35 11 := ⟨27, by decide +kernel, by decide, rfl⟩
theorem d_M_cleanNumber_11 : At prog_8_method_9_code 11 (.aload_n 0) 1 12 := ⟨by decide +kernel, rfl⟩
theorem d_M_cleanNumber_12 : At prog_8_method_9_code 12 (.getfield 32) 3 15 := ⟨by decide +kernel, rfl⟩
theorem d_M_cleanNumber_15 : At prog_8_method_9_code 15 (.sipush 128) 3 18 := ⟨by decide +kernel, rfl⟩
theorem d_M_cleanNumber_18 : At prog_8_method_9_code 18 (.iload_n 1) 1 19 := ⟨by decide +kernel, rfl⟩
theorem d_M_cleanNumber_19 : At prog_8_method_9_code 19 (.imul) 1 20 := ⟨by decide +kernel, rfl⟩
theorem d_M_cleanNumber_20 : At prog_8_method_9_code 20 (.iload_n 3) 1 21 := ⟨by decide +kernel, rfl⟩
theorem d_M_cleanNumber_21 : At prog_8_method_9_code 21 (.iadd) 1 22 := ⟨by decide +kernel, rfl⟩
theorem d_M_cleanNumber_22 : At prog_8_method_9_code 22 (.iaload) 1 23 := ⟨by decide +kernel, rfl⟩
theorem d_M_cleanNumber_23 : At prog_8_method_9_code 23 (.iload_n 2) 1 24 := ⟨by decide +kernel, rfl⟩
theorem d_M_cleanNumber_24 : AtC prog_8_method_9_code 24 (.if_icmp .ne) 29 27 := ⟨5, by decide +kernel, by decide, rfl⟩
theorem d_M_cleanNumber_27 : At prog_8_method_9_code 27 (.iload_n 3) 1 28 := ⟨by decide +kernel, rfl⟩
theorem d_M_cleanNumber_28 : At prog_8_method_9_code 28 (.ireturn) 1 29 := ⟨by decide +kernel, rfl⟩
theorem d_M_cleanNumber_29 : At prog_8_method_9_code 29 (.iinc 3 (-1)) 3 32 := ⟨by decide +kernel, rfl⟩
theorem d_M_cleanNumber_32 : AtC prog_8_method_9_code 32 .goto 7 35 := ⟨-25, by decide +kernel, by decide, rfl⟩
theorem d_M_cleanNumber_35 : At prog_8_method_9_code 35 (.iconst 0) 1 36 := ⟨by decide +kernel, rfl⟩
theorem d_M_cleanNumber_36 : At prog_8_method_9_code 36 (.ireturn) 1 37 := ⟨by decide +kernel, rfl⟩
theorem d_M_done_0 : At prog_8_method_18_code 0 (.aload_n 0) 1 1 := ⟨by decide +kernel, rfl⟩
theorem d_M_done_1 : At prog_8_method_18_code 1 (.getfield 44) 3 4 := ⟨by decide +kernel, rfl⟩
theorem d_M_done_4 : At prog_8_method_18_code 4 (.iload_n 1) 1 5 := ⟨by decide +kernel, rfl⟩
theorem d_M_done_5 : At prog_8_method_18_code 5 (.iconst 4) 1 6 := ⟨by decide +kernel, rfl⟩
theorem d_M_done_6 : At prog_8_method_18_code 6 (.iastore) 1 7 := ⟨by decide +kernel, rfl⟩
theorem d_M_done_7 : At prog_8_method_18_code 7 (.aload_n 0) 1 8 := ⟨by decide +kernel, rfl⟩
theorem d_M_done_8 : At prog_8_method_18_code 8 (.getfield 59) 3 11 := ⟨by decide +kernel, rfl⟩
theorem d_M_done_11 : At prog_8_method_18_code 11 (.iload_n 1) 1 12 := ⟨by decide +kernel, rfl⟩
theorem d_M_done_12 : At prog_8_method_18_code 12 (.iload_n 3) 1 13 := ⟨by decide +kernel, rfl⟩
theorem d_M_done_13 : At prog_8_method_18_code 13 (.iastore) 1 14 := ⟨by decide +kernel, rfl⟩
theorem d_M_done_14 : At prog_8_method_18_code 14 (.aload_n 0) 1 15 := ⟨by decide +kernel, rfl⟩
theorem d_M_done_15 : At prog_8_method_18_code 15 (.getfield 62) 3 18 := ⟨by decide +kernel, rfl⟩
theorem d_M_done_18 : At prog_8_method_18_code 18 (.iload_n 1) 1 19 := ⟨by decide +kernel, rfl⟩
theorem d_M_done_19 : At prog_8_method_18_code 19 (.aload_n 0) 1 20 := ⟨by decide +kernel, rfl⟩
theorem d_M_done_20 : At prog_8_method_18_code 20 (.iload_n 2) 1 21 := ⟨by decide +kernel, rfl⟩
theorem d_M_done_21 : At prog_8_method_18_code 21 (.iload_n 3) 1 22 := ⟨by decide +kernel, rfl⟩
theorem d_M_done_22 : At prog_8_method_18_code 22 (.invokevirtual 121) 3 25 := ⟨by decide +kernel, rfl⟩
theorem d_M_done_25 : At prog_8_method_18_code 25 (.iastore) 1 26 := ⟨by decide +kernel, rfl⟩
theorem d_M_done_26 : At prog_8_method_18_code 26 (.return_) 1 27 := ⟨by decide +kernel, rfl⟩
theorem d_M_valueAt_0 : At prog_8_method_10_code 0 (.iload_n 2) 1 1 := ⟨by decide +kernel, rfl⟩
theorem d_M_valueAt_1 : AtC prog_8_method_10_code 1 (.ifCond .ne) 8 4 := ⟨7, by decide +kernel, by decide, rfl⟩
theorem d_M_valueAt_4 : At prog_8_method_10_code 4 (.iconst 0) 1 5 := ⟨by decide +kernel, rfl⟩
theorem d_M_valueAt_5 : AtC prog_8_method_10_code 5 .goto 20 8 := ⟨15, by decide +kernel, by decide, rfl⟩
theorem d_M_valueAt_8 : At prog_8_method_10_code 8 (.aload_n 0) 1 9 := ⟨by decide +kernel, rfl⟩
theorem d_M_valueAt_9 : At prog_8_method_10_code 9 (.getfield 35) 3 12 := ⟨by decide +kernel, rfl⟩
theorem d_M_valueAt_12 : At prog_8_method_10_code 12 (.sipush 128) 3 15 := ⟨by decide +kernel, rfl⟩
theorem d_M_valueAt_15 : At prog_8_method_10_code 15 (.iload_n 1) 1 16 := ⟨by decide +kernel, rfl⟩
theorem d_M_valueAt_16 : At prog_8_method_10_code 16 (.imul) 1 17 := ⟨by decide +kernel, rfl⟩
theorem d_M_valueAt_17 : At prog_8_method_10_code 17 (.iload_n 2) 1 18 := ⟨by decide +kernel, rfl⟩
theorem d_M_valueAt_18 : At prog_8_method_10_code 18 (.iadd) 1 19 := ⟨by decide +kernel, rfl⟩
theorem d_M_valueAt_19 : At prog_8_method_10_code 19 (.iaload) 1 20 := ⟨by decide +kernel, rfl⟩
theorem d_M_valueAt_20 : At prog_8_method_10_code 20 (.ireturn) 1 21 := ⟨by decide +kernel, rfl⟩
theorem d_M_tailOf_0 : At prog_8_method_6_code 0 (.iconst (-1)) 1 1 := ⟨by decide +kernel, rfl⟩
theorem d_M_tailOf_1 : At prog_8_method_6_code 1 (.istore_n 2) 1 2 := ⟨by decide +kernel, rfl⟩
theorem d_M_tailOf_2 : At prog_8_method_6_code 2 (.iconst 0) 1 3 := ⟨by decide +kernel, rfl⟩
theorem d_M_tailOf_3 : At prog_8_method_6_code 3 (.istore_n 3) 1 4 := ⟨by decide +kernel, rfl⟩
theorem d_M_tailOf_4 : At prog_8_method_6_code 4 (.iload_n 3) 1 5 := ⟨by decide +kernel, rfl⟩
theorem d_M_tailOf_5 : At prog_8_method_6_code 5 (.bipush 6) 2 7 := ⟨by decide +kernel, rfl⟩
theorem d_M_tailOf_7 : AtC prog_8_method_6_code 7 (.if_icmp .ge) 31 10 := ⟨24, by decide +kernel, by decide, rfl⟩
theorem d_M_tailOf_10 : At prog_8_method_6_code 10 (.aload_n 0) 1 11 := ⟨by decide +kernel, rfl⟩
theorem d_M_tailOf_11 : At prog_8_method_6_code 11 (.iload_n 1) 1 12 := ⟨by decide +kernel, rfl⟩
theorem d_M_tailOf_12 : At prog_8_method_6_code 12 (.iload_n 3) 1 13 := ⟨by decide +kernel, rfl⟩
theorem d_M_tailOf_13 : At prog_8_method_6_code 13 (.invokevirtual 90) 3 16 := ⟨by decide +kernel, rfl⟩
theorem d_M_tailOf_16 : AtC prog_8_method_6_code 16 (.ifCond .eq) 23 19 := ⟨7, by decide +kernel, by decide, rfl⟩
theorem d_M_tailOf_19 : At prog_8_method_6_code 19 (.iload_n 3) 1 20 := ⟨by decide +kernel, rfl⟩
theorem d_M_tailOf_20 : AtC prog_8_method_6_code 20 .goto 24 23 := ⟨4, by decide +kernel, by decide, rfl⟩
theorem d_M_tailOf_23 : At prog_8_method_6_code 23 (.iload_n 2) 1 24 := ⟨by decide +kernel, rfl⟩
theorem d_M_tailOf_24 : At prog_8_method_6_code 24 (.istore_n 2) 1 25 := ⟨by decide +kernel, rfl⟩
theorem d_M_tailOf_25 : At prog_8_method_6_code 25 (.iinc 3 1) 3 28 := ⟨by decide +kernel, rfl⟩
theorem d_M_tailOf_28 : AtC prog_8_method_6_code 28 .goto 4 31 := ⟨-24, by decide +kernel, by decide, rfl⟩
theorem d_M_tailOf_31 : At prog_8_method_6_code 31 (.iload_n 2) 1 32 := ⟨by decide +kernel, rfl⟩
theorem d_M_tailOf_32 : At prog_8_method_6_code 32 (.ireturn) 1 33 := ⟨by decide +kernel, rfl⟩
theorem d_M_retry_0 : At prog_8_method_26_code 0 (.iload_n 1) 1 1 := ⟨by decide +kernel, rfl⟩
theorem d_M_retry_1 : At prog_8_method_26_code 1 (.iconst 2) 1 2 := ⟨by decide +kernel, rfl⟩
theorem d_M_retry_2 : At prog_8_method_26_code 2 (.invokestatic 94) 3 5 := ⟨by decide +kernel, rfl⟩
theorem d_M_retry_5 : AtC prog_8_method_26_code 5 (.ifCond .eq) 10 8 := ⟨5, by decide +kernel, by decide, rfl⟩
theorem d_M_retry_8 : At prog_8_method_26_code 8 (.iconst (-1)) 1 9 := ⟨by decide +kernel, rfl⟩
theorem d_M_retry_9 : At prog_8_method_26_code 9 (.ireturn) 1 10 := ⟨by decide +kernel, rfl⟩
theorem d_M_retry_10 : At prog_8_method_26_code 10 (.aload_n 0) 1 11 := ⟨by decide +kernel, rfl⟩
theorem d_M_retry_11 : At prog_8_method_26_code 11 (.getfield 44) 3 14 := ⟨by decide +kernel, rfl⟩
theorem d_M_retry_14 : At prog_8_method_26_code 14 (.iload_n 1) 1 15 := ⟨by decide +kernel, rfl⟩
theorem d_M_retry_15 : At prog_8_method_26_code 15 (.iaload) 1 16 := ⟨by decide +kernel, rfl⟩
theorem d_M_retry_16 : AtC prog_8_method_26_code 16 (.ifCond .eq) 29 19 := ⟨13, by decide +kernel, by decide, rfl⟩
theorem d_M_retry_19 : At prog_8_method_26_code 19 (.aload_n 0) 1 20 := ⟨by decide +kernel, rfl⟩
theorem d_M_retry_20 : At prog_8_method_26_code 20 (.getfield 44) 3 23 := ⟨by decide +kernel, rfl⟩
theorem d_M_retry_23 : At prog_8_method_26_code 23 (.iload_n 1) 1 24 := ⟨by decide +kernel, rfl⟩
theorem d_M_retry_24 : At prog_8_method_26_code 24 (.iaload) 1 25 := ⟨by decide +kernel, rfl⟩
theorem d_M_retry_25 : At prog_8_method_26_code 25 (.iconst 4) 1 26 := ⟨by decide +kernel, rfl⟩
theorem d_M_retry_26 : AtC prog_8_method_26_code 26 (.if_icmp .ne) 32 29 := ⟨6, by decide +kernel, by decide, rfl⟩
theorem d_M_retry_29 : At prog_8_method_26_code 29 (.bipush (-3)) 2 31 := ⟨by decide +kernel, rfl⟩
theorem d_M_retry_31 : At prog_8_method_26_code 31 (.ireturn) 1 32 := ⟨by decide +kernel, rfl⟩
theorem d_M_retry_32 : At prog_8_method_26_code 32 (.aload_n 0) 1 33 := ⟨by decide +kernel, rfl⟩
theorem d_M_retry_33 : At prog_8_method_26_code 33 (.getfield 44) 3 36 := ⟨by decide +kernel, rfl⟩
theorem d_M_retry_36 : At prog_8_method_26_code 36 (.iload_n 1) 1 37 := ⟨by decide +kernel, rfl⟩
theorem d_M_retry_37 : At prog_8_method_26_code 37 (.iaload) 1 38 := ⟨by decide +kernel, rfl⟩
theorem d_M_retry_38 : At prog_8_method_26_code 38 (.iconst 3) 1 39 := ⟨by decide +kernel, rfl⟩
theorem d_M_retry_39 : AtC prog_8_method_26_code 39 (.if_icmp .ge) 48 42 := ⟨9, by decide +kernel, by decide, rfl⟩
theorem d_M_retry_42 : At prog_8_method_26_code 42 (.aload_n 0) 1 43 := ⟨by decide +kernel, rfl⟩
theorem d_M_retry_43 : At prog_8_method_26_code 43 (.iload_n 1) 1 44 := ⟨by decide +kernel, rfl⟩
theorem d_M_retry_44 : At prog_8_method_26_code 44 (.invokevirtual 144) 3 47 := ⟨by decide +kernel, rfl⟩
theorem d_M_retry_47 : At prog_8_method_26_code 47 (.ireturn) 1 48 := ⟨by decide +kernel, rfl⟩
theorem d_M_retry_48 : At prog_8_method_26_code 48 (.aload_n 0) 1 49 := ⟨by decide +kernel, rfl⟩
theorem d_M_retry_49 : At prog_8_method_26_code 49 (.getfield 7) 3 52 := ⟨by decide +kernel, rfl⟩
theorem d_M_retry_52 : At prog_8_method_26_code 52 (.aload_n 0) 1 53 := ⟨by decide +kernel, rfl⟩
theorem d_M_retry_53 : At prog_8_method_26_code 53 (.getfield 56) 3 56 := ⟨by decide +kernel, rfl⟩
theorem d_M_retry_56 : At prog_8_method_26_code 56 (.iload_n 1) 1 57 := ⟨by decide +kernel, rfl⟩
theorem d_M_retry_57 : At prog_8_method_26_code 57 (.iaload) 1 58 := ⟨by decide +kernel, rfl⟩
theorem d_M_retry_58 : At prog_8_method_26_code 58 (.baload) 1 59 := ⟨by decide +kernel, rfl⟩
theorem d_M_retry_59 : AtC prog_8_method_26_code 59 (.ifCond .eq) 65 62 := ⟨6, by decide +kernel, by decide, rfl⟩
theorem d_M_retry_62 : At prog_8_method_26_code 62 (.bipush (-2)) 2 64 := ⟨by decide +kernel, rfl⟩
theorem d_M_retry_64 : At prog_8_method_26_code 64 (.ireturn) 1 65 := ⟨by decide +kernel, rfl⟩
theorem d_M_retry_65 : At prog_8_method_26_code 65 (.iload_n 2) 1 66 := ⟨by decide +kernel, rfl⟩
theorem d_M_retry_66 : At prog_8_method_26_code 66 (.iconst 5) 1 67 := ⟨by decide +kernel, rfl⟩
theorem d_M_retry_67 : At prog_8_method_26_code 67 (.invokestatic 94) 3 70 := ⟨by decide +kernel, rfl⟩
theorem d_M_retry_70 : AtC prog_8_method_26_code 70 (.ifCond .eq) 75 73 := ⟨5, by decide +kernel, by decide, rfl⟩
theorem d_M_retry_73 : At prog_8_method_26_code 73 (.iconst (-1)) 1 74 := ⟨by decide +kernel, rfl⟩
theorem d_M_retry_74 : At prog_8_method_26_code 74 (.ireturn) 1 75 := ⟨by decide +kernel, rfl⟩
theorem d_M_retry_75 : At prog_8_method_26_code 75 (.aload_n 0) 1 76 := ⟨by decide +kernel, rfl⟩
theorem d_M_retry_76 : At prog_8_method_26_code 76 (.iload_n 2) 1 77 := ⟨by decide +kernel, rfl⟩
theorem d_M_retry_77 : At prog_8_method_26_code 77 (.invokevirtual 147) 3 80 := ⟨by decide +kernel, rfl⟩
theorem d_M_retry_80 : AtC prog_8_method_26_code 80 (.ifCond .eq) 92 83 := ⟨12, by decide +kernel, by decide, rfl⟩
theorem d_M_retry_83 : At prog_8_method_26_code 83 (.aload_n 0) 1 84 := ⟨by decide +kernel, rfl⟩
theorem d_M_retry_84 : At prog_8_method_26_code 84 (.iload_n 1) 1 85 := ⟨by decide +kernel, rfl⟩
theorem d_M_retry_85 : At prog_8_method_26_code 85 (.iload_n 2) 1 86 := ⟨by decide +kernel, rfl⟩
theorem d_M_retry_86 : At prog_8_method_26_code 86 (.invokevirtual 151) 3 89 := ⟨by decide +kernel, rfl⟩
theorem d_M_retry_89 : AtC prog_8_method_26_code 89 .goto 93 92 := ⟨4, by decide +kernel, by decide, rfl⟩
theorem d_M_retry_92 : At prog_8_method_26_code 92 (.iconst 0) 1 93 := ⟨by decide +kernel, rfl⟩
theorem d_M_retry_93 : At prog_8_method_26_code 93 (.ireturn) 1 94 := ⟨by decide +kernel, rfl⟩
theorem d_M_status_0 : At prog_8_method_27_code 0 (.iload_n 1) 1 1 := ⟨by decide +kernel, rfl⟩
theorem d_M_status_1 : At prog_8_method_27_code 1 (.iconst 2) 1 2 := ⟨by decide +kernel, rfl⟩
theorem d_M_status_2 : At prog_8_method_27_code 2 (.invokestatic 94) 3 5 := ⟨by decide +kernel, rfl⟩
theorem d_M_status_5 : AtC prog_8_method_27_code 5 (.ifCond .eq) 12 8 := ⟨7, by decide +kernel, by decide, rfl⟩
theorem d_M_status_8 : At prog_8_method_27_code 8 (.iconst (-1)) 1 9 := ⟨by decide +kernel, rfl⟩
theorem d_M_status_9 : AtC prog_8_method_27_code 9 .goto 18 12 := ⟨9, by decide +kernel, by decide, rfl⟩
theorem d_M_status_12 : At prog_8_method_27_code 12 (.aload_n 0) 1 13 := ⟨by decide +kernel, rfl⟩
theorem d_M_status_13 : At prog_8_method_27_code 13 (.getfield 44) 3 16 := ⟨by decide +kernel, rfl⟩
theorem d_M_status_16 : At prog_8_method_27_code 16 (.iload_n 1) 1 17 := ⟨by decide +kernel, rfl⟩
theorem d_M_status_17 : At prog_8_method_27_code 17 (.iaload) 1 18 := ⟨by decide +kernel, rfl⟩
theorem d_M_status_18 : At prog_8_method_27_code 18 (.ireturn) 1 19 := ⟨by decide +kernel, rfl⟩
theorem d_M_number_0 : At prog_8_method_29_code 0 (.aload_n 0) 1 1 := ⟨by decide +kernel, rfl⟩
theorem d_M_number_1 : At prog_8_method_29_code 1 (.iload_n 1) 1 2 := ⟨by decide +kernel, rfl⟩
theorem d_M_number_2 : At prog_8_method_29_code 2 (.invokevirtual 154) 3 5 := ⟨by decide +kernel, rfl⟩
theorem d_M_number_5 : AtC prog_8_method_29_code 5 (.ifCond .eq) 17 8 := ⟨12, by decide +kernel, by decide, rfl⟩
theorem d_M_number_8 : At prog_8_method_29_code 8 (.aload_n 0) 1 9 := ⟨by decide +kernel, rfl⟩
theorem d_M_number_9 : At prog_8_method_29_code 9 (.getfield 59) 3 12 := ⟨by decide +kernel, rfl⟩
theorem d_M_number_12 : At prog_8_method_29_code 12 (.iload_n 1) 1 13 := ⟨by decide +kernel, rfl⟩
theorem d_M_number_13 : At prog_8_method_29_code 13 (.iaload) 1 14 := ⟨by decide +kernel, rfl⟩
theorem d_M_number_14 : AtC prog_8_method_29_code 14 .goto 18 17 := ⟨4, by decide +kernel, by decide, rfl⟩
theorem d_M_number_17 : At prog_8_method_29_code 17 (.iconst (-1)) 1 18 := ⟨by decide +kernel, rfl⟩
theorem d_M_number_18 : At prog_8_method_29_code 18 (.ireturn) 1 19 := ⟨by decide +kernel, rfl⟩
theorem d_M_isDone_0 : At prog_8_method_28_code 0 (.iload_n 1) 1 1 := ⟨by decide +kernel, rfl⟩
theorem d_M_isDone_1 : At prog_8_method_28_code 1 (.iconst 2) 1 2 := ⟨by decide +kernel, rfl⟩
theorem d_M_isDone_2 : At prog_8_method_28_code 2 (.invokestatic 94) 3 5 := ⟨by decide +kernel, rfl⟩
theorem d_M_isDone_5 : AtC prog_8_method_28_code 5 (.ifCond .ne) 32 8 := ⟨27, by decide +kernel, by decide, rfl⟩
theorem d_M_isDone_8 : At prog_8_method_28_code 8 (.aload_n 0) 1 9 := ⟨by decide +kernel, rfl⟩
theorem d_M_isDone_9 : At prog_8_method_28_code 9 (.getfield 44) 3 12 := ⟨by decide +kernel, rfl⟩
theorem d_M_isDone_12 : At prog_8_method_28_code 12 (.iload_n 1) 1 13 := ⟨by decide +kernel, rfl⟩
theorem d_M_isDone_13 : At prog_8_method_28_code 13 (.iaload) 1 14 := ⟨by decide +kernel, rfl⟩
theorem d_M_isDone_14 : At prog_8_method_28_code 14 (.iconst 2) 1 15 := ⟨by decide +kernel, rfl⟩
theorem d_M_isDone_15 : AtC prog_8_method_28_code 15 (.if_icmp .eq) 28 18 := ⟨13, by decide +kernel, by decide, rfl⟩
theorem d_M_isDone_18 : At prog_8_method_28_code 18 (.aload_n 0) 1 19 := ⟨by decide +kernel, rfl⟩
theorem d_M_isDone_19 : At prog_8_method_28_code 19 (.getfield 44) 3 22 := ⟨by decide +kernel, rfl⟩
theorem d_M_isDone_22 : At prog_8_method_28_code 22 (.iload_n 1) 1 23 := ⟨by decide +kernel, rfl⟩
theorem d_M_isDone_23 : At prog_8_method_28_code 23 (.iaload) 1 24 := ⟨by decide +kernel, rfl⟩
theorem d_M_isDone_24 : At prog_8_method_28_code 24 (.iconst 4) 1 25 := ⟨by decide +kernel, rfl⟩
theorem d_M_isDone_25 : AtC prog_8_method_28_code 25 (.if_icmp .ne) 32 28 := ⟨7, by decide +kernel, by decide, rfl⟩
theorem d_M_isDone_28 : At prog_8_method_28_code 28 (.iconst 1) 1 29 := ⟨by decide +kernel, rfl⟩
theorem d_M_isDone_29 : AtC prog_8_method_28_code 29 .goto 33 32 := ⟨4, by decide +kernel, by decide, rfl⟩
theorem d_M_isDone_32 : At prog_8_method_28_code 32 (.iconst 0) 1 33 := ⟨by decide +kernel, rfl⟩
theorem d_M_isDone_33 : At prog_8_method_28_code 33 (.ireturn) 1 34 := ⟨by decide +kernel, rfl⟩
theorem d_M_value_0 : At prog_8_method_30_code 0 (.aload_n 0) 1 1 := ⟨by decide +kernel, rfl⟩
theorem d_M_value_1 : At prog_8_method_30_code 1 (.iload_n 1) 1 2 := ⟨by decide +kernel, rfl⟩
theorem d_M_value_2 : At prog_8_method_30_code 2 (.invokevirtual 154) 3 5 := ⟨by decide +kernel, rfl⟩
theorem d_M_value_5 : AtC prog_8_method_30_code 5 (.ifCond .eq) 17 8 := ⟨12, by decide +kernel, by decide, rfl⟩
theorem d_M_value_8 : At prog_8_method_30_code 8 (.aload_n 0) 1 9 := ⟨by decide +kernel, rfl⟩
theorem d_M_value_9 : At prog_8_method_30_code 9 (.getfield 62) 3 12 := ⟨by decide +kernel, rfl⟩
theorem d_M_value_12 : At prog_8_method_30_code 12 (.iload_n 1) 1 13 := ⟨by decide +kernel, rfl⟩
theorem d_M_value_13 : At prog_8_method_30_code 13 (.iaload) 1 14 := ⟨by decide +kernel, rfl⟩
theorem d_M_value_14 : AtC prog_8_method_30_code 14 .goto 18 17 := ⟨4, by decide +kernel, by decide, rfl⟩
theorem d_M_value_17 : At prog_8_method_30_code 17 (.iconst 0) 1 18 := ⟨by decide +kernel, rfl⟩
theorem d_M_value_18 : At prog_8_method_30_code 18 (.ireturn) 1 19 := ⟨by decide +kernel, rfl⟩
theorem d_M_deliver_0 : At prog_8_method_31_code 0 (.iload_n 1) 1 1 := ⟨by decide +kernel, rfl⟩
theorem d_M_deliver_1 : At prog_8_method_31_code 1 (.iconst 5) 1 2 := ⟨by decide +kernel, rfl⟩
theorem d_M_deliver_2 : At prog_8_method_31_code 2 (.invokestatic 94) 3 5 := ⟨by decide +kernel, rfl⟩
theorem d_M_deliver_5 : AtC prog_8_method_31_code 5 (.ifCond .ne) 16 8 := ⟨11, by decide +kernel, by decide, rfl⟩
theorem d_M_deliver_8 : At prog_8_method_31_code 8 (.iload_n 2) 1 9 := ⟨by decide +kernel, rfl⟩
theorem d_M_deliver_9 : At prog_8_method_31_code 9 (.iconst 5) 1 10 := ⟨by decide +kernel, rfl⟩
theorem d_M_deliver_10 : At prog_8_method_31_code 10 (.invokestatic 94) 3 13 := ⟨by decide +kernel, rfl⟩
theorem d_M_deliver_13 : AtC prog_8_method_31_code 13 (.ifCond .eq) 18 16 := ⟨5, by decide +kernel, by decide, rfl⟩
theorem d_M_deliver_16 : At prog_8_method_31_code 16 (.iconst (-1)) 1 17 := ⟨by decide +kernel, rfl⟩
theorem d_M_deliver_17 : At prog_8_method_31_code 17 (.ireturn) 1 18 := ⟨by decide +kernel, rfl⟩
theorem d_M_deliver_18 : At prog_8_method_31_code 18 (.aload_n 0) 1 19 := ⟨by decide +kernel, rfl⟩
theorem d_M_deliver_19 : At prog_8_method_31_code 19 (.iload_n 1) 1 20 := ⟨by decide +kernel, rfl⟩
theorem d_M_deliver_20 : At prog_8_method_31_code 20 (.iload_n 2) 1 21 := ⟨by decide +kernel, rfl⟩
theorem d_M_deliver_21 : At prog_8_method_31_code 21 (.invokevirtual 157) 3 24 := ⟨by decide +kernel, rfl⟩
theorem d_M_deliver_24 : At prog_8_method_31_code 24 (.istore_n 3) 1 25 := ⟨by decide +kernel, rfl⟩
theorem d_M_deliver_25 : At prog_8_method_31_code 25 (.iload_n 3) 1 26 := ⟨by decide +kernel, rfl⟩
theorem d_M_deliver_26 : AtC prog_8_method_31_code 26 (.ifCond .ge) 31 29 := ⟨5, by decide +kernel, by decide, rfl⟩
theorem d_M_deliver_29 : At prog_8_method_31_code 29 (.iconst 0) 1 30 := ⟨by decide +kernel, rfl⟩
theorem d_M_deliver_30 : At prog_8_method_31_code 30 (.ireturn) 1 31 := ⟨by decide +kernel, rfl⟩
theorem d_M_deliver_31 : At prog_8_method_31_code 31 (.aload_n 0) 1 32 := ⟨by decide +kernel, rfl⟩
theorem d_M_deliver_32 : At prog_8_method_31_code 32 (.getfield 74) 3 35 := ⟨by decide +kernel, rfl⟩
theorem d_M_deliver_35 : At prog_8_method_31_code 35 (.iload_n 3) 1 36 := ⟨by decide +kernel, rfl⟩
theorem d_M_deliver_36 : At prog_8_method_31_code 36 (.iaload) 1 37 := ⟨by decide +kernel, rfl⟩
theorem d_M_deliver_37 : At prog_8_method_31_code 37 (.aload_n 0) 1 38 := ⟨by decide +kernel, rfl⟩
theorem d_M_deliver_38 : At prog_8_method_31_code 38 (.getfield 16) 3 41 := ⟨by decide +kernel, rfl⟩
theorem d_M_deliver_41 : At prog_8_method_31_code 41 (.iload_n 2) 1 42 := ⟨by decide +kernel, rfl⟩
theorem d_M_deliver_42 : At prog_8_method_31_code 42 (.iaload) 1 43 := ⟨by decide +kernel, rfl⟩
theorem d_M_deliver_43 : AtC prog_8_method_31_code 43 (.if_icmp .ne) 50 46 := ⟨7, by decide +kernel, by decide, rfl⟩
theorem d_M_deliver_46 : At prog_8_method_31_code 46 (.iconst 1) 1 47 := ⟨by decide +kernel, rfl⟩
theorem d_M_deliver_47 : AtC prog_8_method_31_code 47 .goto 51 50 := ⟨4, by decide +kernel, by decide, rfl⟩
theorem d_M_deliver_50 : At prog_8_method_31_code 50 (.iconst 0) 1 51 := ⟨by decide +kernel, rfl⟩
theorem d_M_deliver_51 : At prog_8_method_31_code 51 (.istore 4) 2 53 := ⟨by decide +kernel, rfl⟩
theorem d_M_deliver_53 : At prog_8_method_31_code 53 (.aload_n 0) 1 54 := ⟨by decide +kernel, rfl⟩
theorem d_M_deliver_54 : At prog_8_method_31_code 54 (.getfield 74) 3 57 := ⟨by decide +kernel, rfl⟩
theorem d_M_deliver_57 : At prog_8_method_31_code 57 (.iload_n 3) 1 58 := ⟨by decide +kernel, rfl⟩
theorem d_M_deliver_58 : At prog_8_method_31_code 58 (.iaload) 1 59 := ⟨by decide +kernel, rfl⟩
theorem d_M_deliver_59 : At prog_8_method_31_code 59 (.aload_n 0) 1 60 := ⟨by decide +kernel, rfl⟩
theorem d_M_deliver_60 : At prog_8_method_31_code 60 (.getfield 16) 3 63 := ⟨by decide +kernel, rfl⟩
theorem d_M_deliver_63 : At prog_8_method_31_code 63 (.iload_n 2) 1 64 := ⟨by decide +kernel, rfl⟩
theorem d_M_deliver_64 : At prog_8_method_31_code 64 (.iaload) 1 65 := ⟨by decide +kernel, rfl⟩
theorem d_M_deliver_65 : AtC prog_8_method_31_code 65 (.if_icmp .gt) 92 68 := ⟨27, by decide +kernel, by decide, rfl⟩
theorem d_M_deliver_68 : At prog_8_method_31_code 68 (.iload 4) 2 70 := ⟨by decide +kernel, rfl⟩
theorem d_M_deliver_70 : AtC prog_8_method_31_code 70 (.ifCond .eq) 95 73 := ⟨25, by decide +kernel, by decide, rfl⟩
theorem d_M_deliver_73 : At prog_8_method_31_code 73 (.aload_n 0) 1 74 := ⟨by decide +kernel, rfl⟩
theorem d_M_deliver_74 : At prog_8_method_31_code 74 (.getfield 13) 3 77 := ⟨by decide +kernel, rfl⟩
theorem d_M_deliver_77 : At prog_8_method_31_code 77 (.iload_n 2) 1 78 := ⟨by decide +kernel, rfl⟩
theorem d_M_deliver_78 : At prog_8_method_31_code 78 (.baload) 1 79 := ⟨by decide +kernel, rfl⟩
theorem d_M_deliver_79 : AtC prog_8_method_31_code 79 (.ifCond .ne) 95 82 := ⟨16, by decide +kernel, by decide, rfl⟩
theorem d_M_deliver_82 : At prog_8_method_31_code 82 (.aload_n 0) 1 83 := ⟨by decide +kernel, rfl⟩
theorem d_M_deliver_83 : At prog_8_method_31_code 83 (.getfield 71) 3 86 := ⟨by decide +kernel, rfl⟩
theorem d_M_deliver_86 : At prog_8_method_31_code 86 (.iload_n 3) 1 87 := ⟨by decide +kernel, rfl⟩
theorem d_M_deliver_87 : At prog_8_method_31_code 87 (.iaload) 1 88 := ⟨by decide +kernel, rfl⟩
theorem d_M_deliver_88 : At prog_8_method_31_code 88 (.iconst 5) 1 89 := ⟨by decide +kernel, rfl⟩
theorem d_M_deliver_89 : AtC prog_8_method_31_code 89 (.if_icmp .eq) 95 92 := ⟨6, by decide +kernel, by decide, rfl⟩
theorem d_M_deliver_92 : At prog_8_method_31_code 92 (.bipush (-2)) 2 94 := ⟨by decide +kernel, rfl⟩
theorem d_M_deliver_94 : At prog_8_method_31_code 94 (.ireturn) 1 95 := ⟨by decide +kernel, rfl⟩
theorem d_M_deliver_95 : At prog_8_method_31_code 95 (.aload_n 0) 1 96 := ⟨by decide +kernel, rfl⟩
theorem d_M_deliver_96 : At prog_8_method_31_code 96 (.getfield 71) 3 99 := ⟨by decide +kernel, rfl⟩
theorem d_M_deliver_99 : At prog_8_method_31_code 99 (.iload_n 3) 1 100 := ⟨by decide +kernel, rfl⟩
theorem d_M_deliver_100 : At prog_8_method_31_code 100 (.iaload) 1 101 := ⟨by decide +kernel, rfl⟩
theorem d_M_deliver_101 : At prog_8_method_31_code 101 (.istore 5) 2 103 := ⟨by decide +kernel, rfl⟩
theorem d_M_deliver_103 : At prog_8_method_31_code 103 (.aload_n 0) 1 104 := ⟨by decide +kernel, rfl⟩
theorem d_M_deliver_104 : At prog_8_method_31_code 104 (.getfield 77) 3 107 := ⟨by decide +kernel, rfl⟩
theorem d_M_deliver_107 : At prog_8_method_31_code 107 (.iload_n 3) 1 108 := ⟨by decide +kernel, rfl⟩
theorem d_M_deliver_108 : At prog_8_method_31_code 108 (.iaload) 1 109 := ⟨by decide +kernel, rfl⟩
theorem d_M_deliver_109 : At prog_8_method_31_code 109 (.istore 6) 2 111 := ⟨by decide +kernel, rfl⟩
theorem d_M_deliver_111 : At prog_8_method_31_code 111 (.aload_n 0) 1 112 := ⟨by decide +kernel, rfl⟩
theorem d_M_deliver_112 : At prog_8_method_31_code 112 (.getfield 80) 3 115 := ⟨by decide +kernel, rfl⟩
theorem d_M_deliver_115 : At prog_8_method_31_code 115 (.iload_n 3) 1 116 := ⟨by decide +kernel, rfl⟩
theorem d_M_deliver_116 : At prog_8_method_31_code 116 (.iaload) 1 117 := ⟨by decide +kernel, rfl⟩
theorem d_M_deliver_117 : At prog_8_method_31_code 117 (.istore 7) 2 119 := ⟨by decide +kernel, rfl⟩
theorem d_M_deliver_119 : At prog_8_method_31_code 119 (.aload_n 0) 1 120 := ⟨by decide +kernel, rfl⟩
theorem d_M_deliver_120 : At prog_8_method_31_code 120 (.iload_n 3) 1 121 := ⟨by decide +kernel, rfl⟩
theorem d_M_deliver_121 : At prog_8_method_31_code 121 (.invokevirtual 100) 3 124 := ⟨by decide +kernel, rfl⟩
theorem d_M_deliver_124 : At prog_8_method_31_code 124 (.iload 4) 2 126 := ⟨by decide +kernel, rfl⟩
theorem d_M_deliver_126 : AtC prog_8_method_31_code 126 (.ifCond .eq) 153 129 := ⟨27, by decide +kernel, by decide, rfl⟩
theorem d_M_deliver_129 : At prog_8_method_31_code 129 (.aload_n 0) 1 130 := ⟨by decide +kernel, rfl⟩
theorem d_M_deliver_130 : At prog_8_method_31_code 130 (.getfield 13) 3 133 := ⟨by decide +kernel, rfl⟩
theorem d_M_deliver_133 : At prog_8_method_31_code 133 (.iload_n 2) 1 134 := ⟨by decide +kernel, rfl⟩
theorem d_M_deliver_134 : At prog_8_method_31_code 134 (.baload) 1 135 := ⟨by decide +kernel, rfl⟩
theorem d_M_deliver_135 : AtC prog_8_method_31_code 135 (.ifCond .eq) 153 138 := ⟨18, by decide +kernel, by decide, rfl⟩
theorem d_M_deliver_138 : At prog_8_method_31_code 138 (.aload_n 0) 1 139 := ⟨by decide +kernel, rfl⟩
theorem d_M_deliver_139 : At prog_8_method_31_code 139 (.iload_n 2) 1 140 := ⟨by decide +kernel, rfl⟩
theorem d_M_deliver_140 : At prog_8_method_31_code 140 (.iload_n 1) 1 141 := ⟨by decide +kernel, rfl⟩
theorem d_M_deliver_141 : At prog_8_method_31_code 141 (.iload 5) 2 143 := ⟨by decide +kernel, rfl⟩
theorem d_M_deliver_143 : At prog_8_method_31_code 143 (.iload 6) 2 145 := ⟨by decide +kernel, rfl⟩
theorem d_M_deliver_145 : At prog_8_method_31_code 145 (.iload 7) 2 147 := ⟨by decide +kernel, rfl⟩
theorem d_M_deliver_147 : At prog_8_method_31_code 147 (.invokevirtual 160) 3 150 := ⟨by decide +kernel, rfl⟩
theorem d_M_deliver_150 : AtC prog_8_method_31_code 150 .goto 168 153 := ⟨18, by decide +kernel, by decide, rfl⟩
theorem d_M_deliver_153 : At prog_8_method_31_code 153 (.iload 4) 2 155 := ⟨by decide +kernel, rfl⟩
theorem d_M_deliver_155 : AtC prog_8_method_31_code 155 (.ifCond .eq) 168 158 := ⟨13, by decide +kernel, by decide, rfl⟩
theorem d_M_deliver_158 : At prog_8_method_31_code 158 (.aload_n 0) 1 159 := ⟨by decide +kernel, rfl⟩
theorem d_M_deliver_159 : At prog_8_method_31_code 159 (.iload_n 2) 1 160 := ⟨by decide +kernel, rfl⟩
theorem d_M_deliver_160 : At prog_8_method_31_code 160 (.iload_n 1) 1 161 := ⟨by decide +kernel, rfl⟩
theorem d_M_deliver_161 : At prog_8_method_31_code 161 (.iload 6) 2 163 := ⟨by decide +kernel, rfl⟩
theorem d_M_deliver_163 : At prog_8_method_31_code 163 (.iload 7) 2 165 := ⟨by decide +kernel, rfl⟩
theorem d_M_deliver_165 : At prog_8_method_31_code 165 (.invokevirtual 163) 3 168 := ⟨by decide +kernel, rfl⟩
theorem d_M_deliver_168 : At prog_8_method_31_code 168 (.iload 5) 2 170 := ⟨by decide +kernel, rfl⟩
theorem d_M_deliver_170 : At prog_8_method_31_code 170 (.ireturn) 1 171 := ⟨by decide +kernel, rfl⟩
theorem d_M_first_0 : At prog_8_method_12_code 0 (.iconst 0) 1 1 := ⟨by decide +kernel, rfl⟩
theorem d_M_first_1 : At prog_8_method_12_code 1 (.istore_n 3) 1 2 := ⟨by decide +kernel, rfl⟩
theorem d_M_first_2 : At prog_8_method_12_code 2 (.iload_n 3) 1 3 := ⟨by decide +kernel, rfl⟩
theorem d_M_first_3 : At prog_8_method_12_code 3 (.aload_n 0) 1 4 := ⟨by decide +kernel, rfl⟩
theorem d_M_first_4 : At prog_8_method_12_code 4 (.getfield 97) 3 7 := ⟨by decide +kernel, rfl⟩
theorem d_M_first_7 : AtC prog_8_method_12_code 7 (.if_icmp .ge) 38 10 := ⟨31, by decide +kernel, by decide, rfl⟩
theorem d_M_first_10 : At prog_8_method_12_code 10 (.aload_n 0) 1 11 := ⟨by decide +kernel, rfl⟩
theorem d_M_first_11 : At prog_8_method_12_code 11 (.getfield 65) 3 14 := ⟨by decide +kernel, rfl⟩
theorem d_M_first_14 : At prog_8_method_12_code 14 (.iload_n 3) 1 15 := ⟨by decide +kernel, rfl⟩
theorem d_M_first_15 : At prog_8_method_12_code 15 (.iaload) 1 16 := ⟨by decide +kernel, rfl⟩
theorem d_M_first_16 : At prog_8_method_12_code 16 (.iload_n 1) 1 17 := ⟨by decide +kernel, rfl⟩
theorem d_M_first_17 : AtC prog_8_method_12_code 17 (.if_icmp .ne) 32 20 := ⟨15, by decide +kernel, by decide, rfl⟩
theorem d_M_first_20 : At prog_8_method_12_code 20 (.aload_n 0) 1 21 := ⟨by decide +kernel, rfl⟩
theorem d_M_first_21 : At prog_8_method_12_code 21 (.getfield 68) 3 24 := ⟨by decide +kernel, rfl⟩
theorem d_M_first_24 : At prog_8_method_12_code 24 (.iload_n 3) 1 25 := ⟨by decide +kernel, rfl⟩
theorem d_M_first_25 : At prog_8_method_12_code 25 (.iaload) 1 26 := ⟨by decide +kernel, rfl⟩
end
section
/-! decode rows -/
theorem d_M_first_26 : At prog_8_method_12_code 26 (.iload_n 2) 1 27 := ⟨by decide +kernel, rfl⟩
theorem d_M_first_27 : AtC prog_8_method_12_code 27 (.if_icmp .ne) 32 30 := ⟨5, by decide +kernel, by decide, rfl⟩
theorem d_M_first_30 : At prog_8_method_12_code 30 (.iload_n 3) 1 31 := ⟨by decide +kernel, rfl⟩
theorem d_M_first_31 : At prog_8_method_12_code 31 (.ireturn) 1 32 := ⟨by decide +kernel, rfl⟩
theorem d_M_first_32 : At prog_8_method_12_code 32 (.iinc 3 1) 3 35 := ⟨by decide +kernel, rfl⟩
theorem d_M_first_35 : AtC prog_8_method_12_code 35 .goto 2 38 := ⟨-33, by decide +kernel, by decide, rfl⟩
theorem d_M_first_38 : At prog_8_method_12_code 38 (.iconst (-1)) 1 39 := ⟨by decide +kernel, rfl⟩
theorem d_M_first_39 : At prog_8_method_12_code 39 (.ireturn) 1 40 := ⟨by decide +kernel, rfl⟩
theorem d_M_strike_0 : At prog_8_method_13_code 0 (.aload_n 0) 1 1 := ⟨by decide +kernel, rfl⟩
theorem d_M_strike_1 : At prog_8_method_13_code 1 (.dup) 1 2 := ⟨by decide +kernel, rfl⟩
theorem d_M_strike_2 : At prog_8_method_13_code 2 (.getfield 97) 3 5 := ⟨by decide +kernel, rfl⟩
theorem d_M_strike_5 : At prog_8_method_13_code 5 (.iconst 1) 1 6 := ⟨by decide +kernel, rfl⟩
theorem d_M_strike_6 : At prog_8_method_13_code 6 (.isub) 1 7 := ⟨by decide +kernel, rfl⟩
theorem d_M_strike_7 : At prog_8_method_13_code 7 (.putfield 97) 3 10 := ⟨by decide +kernel, rfl⟩
theorem d_M_strike_10 : At prog_8_method_13_code 10 (.iload_n 1) 1 11 := ⟨by decide +kernel, rfl⟩
theorem d_M_strike_11 : At prog_8_method_13_code 11 (.istore_n 2) 1 12 := ⟨by decide +kernel, rfl⟩
theorem d_M_strike_12 : At prog_8_method_13_code 12 (.iload_n 2) 1 13 := ⟨by decide +kernel, rfl⟩
theorem d_M_strike_13 : At prog_8_method_13_code 13 (.aload_n 0) 1 14 := ⟨by decide +kernel, rfl⟩
theorem d_M_strike_14 : At prog_8_method_13_code 14 (.getfield 97) 3 17 := ⟨by decide +kernel, rfl⟩
theorem d_M_strike_17 : AtC prog_8_method_13_code 17 (.if_icmp .ge) 110 20 := ⟨93, by decide +kernel, by decide, rfl⟩
theorem d_M_strike_20 : At prog_8_method_13_code 20 (.aload_n 0) 1 21 := ⟨by decide +kernel, rfl⟩
theorem d_M_strike_21 : At prog_8_method_13_code 21 (.getfield 65) 3 24 := ⟨by decide +kernel, rfl⟩
theorem d_M_strike_24 : At prog_8_method_13_code 24 (.iload_n 2) 1 25 := ⟨by decide +kernel, rfl⟩
theorem d_M_strike_25 : At prog_8_method_13_code 25 (.aload_n 0) 1 26 := ⟨by decide +kernel, rfl⟩
theorem d_M_strike_26 : At prog_8_method_13_code 26 (.getfield 65) 3 29 := ⟨by decide +kernel, rfl⟩
theorem d_M_strike_29 : At prog_8_method_13_code 29 (.iload_n 2) 1 30 := ⟨by decide +kernel, rfl⟩
theorem d_M_strike_30 : At prog_8_method_13_code 30 (.iconst 1) 1 31 := ⟨by decide +kernel, rfl⟩
theorem d_M_strike_31 : At prog_8_method_13_code 31 (.iadd) 1 32 := ⟨by decide +kernel, rfl⟩
theorem d_M_strike_32 : At prog_8_method_13_code 32 (.iaload) 1 33 := ⟨by decide +kernel, rfl⟩
theorem d_M_strike_33 : At prog_8_method_13_code 33 (.iastore) 1 34 := ⟨by decide +kernel, rfl⟩
theorem d_M_strike_34 : At prog_8_method_13_code 34 (.aload_n 0) 1 35 := ⟨by decide +kernel, rfl⟩
theorem d_M_strike_35 : At prog_8_method_13_code 35 (.getfield 68) 3 38 := ⟨by decide +kernel, rfl⟩
theorem d_M_strike_38 : At prog_8_method_13_code 38 (.iload_n 2) 1 39 := ⟨by decide +kernel, rfl⟩
theorem d_M_strike_39 : At prog_8_method_13_code 39 (.aload_n 0) 1 40 := ⟨by decide +kernel, rfl⟩
theorem d_M_strike_40 : At prog_8_method_13_code 40 (.getfield 68) 3 43 := ⟨by decide +kernel, rfl⟩
theorem d_M_strike_43 : At prog_8_method_13_code 43 (.iload_n 2) 1 44 := ⟨by decide +kernel, rfl⟩
theorem d_M_strike_44 : At prog_8_method_13_code 44 (.iconst 1) 1 45 := ⟨by decide +kernel, rfl⟩
theorem d_M_strike_45 : At prog_8_method_13_code 45 (.iadd) 1 46 := ⟨by decide +kernel, rfl⟩
theorem d_M_strike_46 : At prog_8_method_13_code 46 (.iaload) 1 47 := ⟨by decide +kernel, rfl⟩
theorem d_M_strike_47 : At prog_8_method_13_code 47 (.iastore) 1 48 := ⟨by decide +kernel, rfl⟩
theorem d_M_strike_48 : At prog_8_method_13_code 48 (.aload_n 0) 1 49 := ⟨by decide +kernel, rfl⟩
theorem d_M_strike_49 : At prog_8_method_13_code 49 (.getfield 71) 3 52 := ⟨by decide +kernel, rfl⟩
theorem d_M_strike_52 : At prog_8_method_13_code 52 (.iload_n 2) 1 53 := ⟨by decide +kernel, rfl⟩
theorem d_M_strike_53 : At prog_8_method_13_code 53 (.aload_n 0) 1 54 := ⟨by decide +kernel, rfl⟩
theorem d_M_strike_54 : At prog_8_method_13_code 54 (.getfield 71) 3 57 := ⟨by decide +kernel, rfl⟩
theorem d_M_strike_57 : At prog_8_method_13_code 57 (.iload_n 2) 1 58 := ⟨by decide +kernel, rfl⟩
theorem d_M_strike_58 : At prog_8_method_13_code 58 (.iconst 1) 1 59 := ⟨by decide +kernel, rfl⟩
theorem d_M_strike_59 : At prog_8_method_13_code 59 (.iadd) 1 60 := ⟨by decide +kernel, rfl⟩
theorem d_M_strike_60 : At prog_8_method_13_code 60 (.iaload) 1 61 := ⟨by decide +kernel, rfl⟩
theorem d_M_strike_61 : At prog_8_method_13_code 61 (.iastore) 1 62 := ⟨by decide +kernel, rfl⟩
theorem d_M_strike_62 : At prog_8_method_13_code 62 (.aload_n 0) 1 63 := ⟨by decide +kernel, rfl⟩
theorem d_M_strike_63 : At prog_8_method_13_code 63 (.getfield 74) 3 66 := ⟨by decide +kernel, rfl⟩
theorem d_M_strike_66 : At prog_8_method_13_code 66 (.iload_n 2) 1 67 := ⟨by decide +kernel, rfl⟩
theorem d_M_strike_67 : At prog_8_method_13_code 67 (.aload_n 0) 1 68 := ⟨by decide +kernel, rfl⟩
theorem d_M_strike_68 : At prog_8_method_13_code 68 (.getfield 74) 3 71 := ⟨by decide +kernel, rfl⟩
theorem d_M_strike_71 : At prog_8_method_13_code 71 (.iload_n 2) 1 72 := ⟨by decide +kernel, rfl⟩
theorem d_M_strike_72 : At prog_8_method_13_code 72 (.iconst 1) 1 73 := ⟨by decide +kernel, rfl⟩
theorem d_M_strike_73 : At prog_8_method_13_code 73 (.iadd) 1 74 := ⟨by decide +kernel, rfl⟩
theorem d_M_strike_74 : At prog_8_method_13_code 74 (.iaload) 1 75 := ⟨by decide +kernel, rfl⟩
theorem d_M_strike_75 : At prog_8_method_13_code 75 (.iastore) 1 76 := ⟨by decide +kernel, rfl⟩
theorem d_M_strike_76 : At prog_8_method_13_code 76 (.aload_n 0) 1 77 := ⟨by decide +kernel, rfl⟩
theorem d_M_strike_77 : At prog_8_method_13_code 77 (.getfield 77) 3 80 := ⟨by decide +kernel, rfl⟩
theorem d_M_strike_80 : At prog_8_method_13_code 80 (.iload_n 2) 1 81 := ⟨by decide +kernel, rfl⟩
theorem d_M_strike_81 : At prog_8_method_13_code 81 (.aload_n 0) 1 82 := ⟨by decide +kernel, rfl⟩
theorem d_M_strike_82 : At prog_8_method_13_code 82 (.getfield 77) 3 85 := ⟨by decide +kernel, rfl⟩
theorem d_M_strike_85 : At prog_8_method_13_code 85 (.iload_n 2) 1 86 := ⟨by decide +kernel, rfl⟩
theorem d_M_strike_86 : At prog_8_method_13_code 86 (.iconst 1) 1 87 := ⟨by decide +kernel, rfl⟩
theorem d_M_strike_87 : At prog_8_method_13_code 87 (.iadd) 1 88 := ⟨by decide +kernel, rfl⟩
theorem d_M_strike_88 : At prog_8_method_13_code 88 (.iaload) 1 89 := ⟨by decide +kernel, rfl⟩
theorem d_M_strike_89 : At prog_8_method_13_code 89 (.iastore) 1 90 := ⟨by decide +kernel, rfl⟩
theorem d_M_strike_90 : At prog_8_method_13_code 90 (.aload_n 0) 1 91 := ⟨by decide +kernel, rfl⟩
theorem d_M_strike_91 : At prog_8_method_13_code 91 (.getfield 80) 3 94 := ⟨by decide +kernel, rfl⟩
theorem d_M_strike_94 : At prog_8_method_13_code 94 (.iload_n 2) 1 95 := ⟨by decide +kernel, rfl⟩
theorem d_M_strike_95 : At prog_8_method_13_code 95 (.aload_n 0) 1 96 := ⟨by decide +kernel, rfl⟩
theorem d_M_strike_96 : At prog_8_method_13_code 96 (.getfield 80) 3 99 := ⟨by decide +kernel, rfl⟩
theorem d_M_strike_99 : At prog_8_method_13_code 99 (.iload_n 2) 1 100 := ⟨by decide +kernel, rfl⟩
theorem d_M_strike_100 : At prog_8_method_13_code 100 (.iconst 1) 1 101 := ⟨by decide +kernel, rfl⟩
theorem d_M_strike_101 : At prog_8_method_13_code 101 (.iadd) 1 102 := ⟨by decide +kernel, rfl⟩
theorem d_M_strike_102 : At prog_8_method_13_code 102 (.iaload) 1 103 := ⟨by decide +kernel, rfl⟩
theorem d_M_strike_103 : At prog_8_method_13_code 103 (.iastore) 1 104 := ⟨by decide +kernel, rfl⟩
theorem d_M_strike_104 : At prog_8_method_13_code 104 (.iinc 2 1) 3 107 := ⟨by decide +kernel, rfl⟩
theorem d_M_strike_107 : AtC prog_8_method_13_code 107 .goto 12 110 := ⟨-95, by decide +kernel, by decide, rfl⟩
theorem d_M_strike_110 : At prog_8_method_13_code 110 (.return_) 1 111 := ⟨by decide +kernel, rfl⟩
theorem d_M_act_0 : At prog_8_method_21_code 0 (.iload_n 3) 1 1 := ⟨by decide +kernel, rfl⟩
theorem d_M_act_1 : decode prog_8_method_21_code 1 = .ok (.tableswitch 109 1 4 #[31, 42, 78, 97], 31) := by decide +kernel
theorem d_M_act_32 : At prog_8_method_21_code 32 (.aload_n 0) 1 33 := ⟨by decide +kernel, rfl⟩
theorem d_M_act_33 : At prog_8_method_21_code 33 (.iload_n 1) 1 34 := ⟨by decide +kernel, rfl⟩
theorem d_M_act_34 : At prog_8_method_21_code 34 (.iload_n 2) 1 35 := ⟨by decide +kernel, rfl⟩
theorem d_M_act_35 : At prog_8_method_21_code 35 (.iload 4) 2 37 := ⟨by decide +kernel, rfl⟩
theorem d_M_act_37 : At prog_8_method_21_code 37 (.invokevirtual 138) 3 40 := ⟨by decide +kernel, rfl⟩
theorem d_M_act_40 : AtC prog_8_method_21_code 40 .goto 141 43 := ⟨101, by decide +kernel, by decide, rfl⟩
theorem d_M_act_43 : At prog_8_method_21_code 43 (.iload 4) 2 45 := ⟨by decide +kernel, rfl⟩
theorem d_M_act_45 : At prog_8_method_21_code 45 (.aload_n 0) 1 46 := ⟨by decide +kernel, rfl⟩
theorem d_M_act_46 : At prog_8_method_21_code 46 (.getfield 23) 3 49 := ⟨by decide +kernel, rfl⟩
theorem d_M_act_49 : At prog_8_method_21_code 49 (.iload_n 1) 1 50 := ⟨by decide +kernel, rfl⟩
theorem d_M_act_50 : At prog_8_method_21_code 50 (.iaload) 1 51 := ⟨by decide +kernel, rfl⟩
theorem d_M_act_51 : AtC prog_8_method_21_code 51 (.if_icmp .le) 141 54 := ⟨90, by decide +kernel, by decide, rfl⟩
theorem d_M_act_54 : At prog_8_method_21_code 54 (.aload_n 0) 1 55 := ⟨by decide +kernel, rfl⟩
theorem d_M_act_55 : At prog_8_method_21_code 55 (.getfield 23) 3 58 := ⟨by decide +kernel, rfl⟩
theorem d_M_act_58 : At prog_8_method_21_code 58 (.iload_n 1) 1 59 := ⟨by decide +kernel, rfl⟩
theorem d_M_act_59 : At prog_8_method_21_code 59 (.iload 4) 2 61 := ⟨by decide +kernel, rfl⟩
theorem d_M_act_61 : At prog_8_method_21_code 61 (.iastore) 1 62 := ⟨by decide +kernel, rfl⟩
theorem d_M_act_62 : At prog_8_method_21_code 62 (.aload_n 0) 1 63 := ⟨by decide +kernel, rfl⟩
theorem d_M_act_63 : At prog_8_method_21_code 63 (.iload_n 1) 1 64 := ⟨by decide +kernel, rfl⟩
theorem d_M_act_64 : At prog_8_method_21_code 64 (.aload_n 0) 1 65 := ⟨by decide +kernel, rfl⟩
theorem d_M_act_65 : At prog_8_method_21_code 65 (.iload_n 1) 1 66 := ⟨by decide +kernel, rfl⟩
theorem d_M_act_66 : At prog_8_method_21_code 66 (.invokevirtual 111) 3 69 := ⟨by decide +kernel, rfl⟩
theorem d_M_act_69 : At prog_8_method_21_code 69 (.iconst 2) 1 70 := ⟨by decide +kernel, rfl⟩
theorem d_M_act_70 : At prog_8_method_21_code 70 (.iload 4) 2 72 := ⟨by decide +kernel, rfl⟩
theorem d_M_act_72 : At prog_8_method_21_code 72 (.iconst 0) 1 73 := ⟨by decide +kernel, rfl⟩
theorem d_M_act_73 : At prog_8_method_21_code 73 (.invokevirtual 114) 3 76 := ⟨by decide +kernel, rfl⟩
theorem d_M_act_76 : AtC prog_8_method_21_code 76 .goto 141 79 := ⟨65, by decide +kernel, by decide, rfl⟩
theorem d_M_act_79 : At prog_8_method_21_code 79 (.aload_n 0) 1 80 := ⟨by decide +kernel, rfl⟩
theorem d_M_act_80 : At prog_8_method_21_code 80 (.iload_n 1) 1 81 := ⟨by decide +kernel, rfl⟩
theorem d_M_act_81 : At prog_8_method_21_code 81 (.iload_n 2) 1 82 := ⟨by decide +kernel, rfl⟩
theorem d_M_act_82 : At prog_8_method_21_code 82 (.iconst 4) 1 83 := ⟨by decide +kernel, rfl⟩
theorem d_M_act_83 : At prog_8_method_21_code 83 (.aload_n 0) 1 84 := ⟨by decide +kernel, rfl⟩
theorem d_M_act_84 : At prog_8_method_21_code 84 (.iload_n 1) 1 85 := ⟨by decide +kernel, rfl⟩
theorem d_M_act_85 : At prog_8_method_21_code 85 (.iload 4) 2 87 := ⟨by decide +kernel, rfl⟩
theorem d_M_act_87 : At prog_8_method_21_code 87 (.invokevirtual 128) 3 90 := ⟨by decide +kernel, rfl⟩
theorem d_M_act_90 : At prog_8_method_21_code 90 (.iload 5) 2 92 := ⟨by decide +kernel, rfl⟩
theorem d_M_act_92 : At prog_8_method_21_code 92 (.invokevirtual 114) 3 95 := ⟨by decide +kernel, rfl⟩
theorem d_M_act_95 : AtC prog_8_method_21_code 95 .goto 141 98 := ⟨46, by decide +kernel, by decide, rfl⟩
theorem d_M_act_98 : At prog_8_method_21_code 98 (.aload_n 0) 1 99 := ⟨by decide +kernel, rfl⟩
theorem d_M_act_99 : At prog_8_method_21_code 99 (.iload_n 1) 1 100 := ⟨by decide +kernel, rfl⟩
theorem d_M_act_100 : At prog_8_method_21_code 100 (.iload 4) 2 102 := ⟨by decide +kernel, rfl⟩
theorem d_M_act_102 : At prog_8_method_21_code 102 (.iload 5) 2 104 := ⟨by decide +kernel, rfl⟩
theorem d_M_act_104 : At prog_8_method_21_code 104 (.invokevirtual 141) 3 107 := ⟨by decide +kernel, rfl⟩
theorem d_M_act_107 : AtC prog_8_method_21_code 107 .goto 141 110 := ⟨34, by decide +kernel, by decide, rfl⟩
theorem d_M_act_110 : At prog_8_method_21_code 110 (.aload_n 0) 1 111 := ⟨by decide +kernel, rfl⟩
theorem d_M_act_111 : At prog_8_method_21_code 111 (.getfield 20) 3 114 := ⟨by decide +kernel, rfl⟩
theorem d_M_act_114 : At prog_8_method_21_code 114 (.iload_n 1) 1 115 := ⟨by decide +kernel, rfl⟩
theorem d_M_act_115 : At prog_8_method_21_code 115 (.iaload) 1 116 := ⟨by decide +kernel, rfl⟩
theorem d_M_act_116 : At prog_8_method_21_code 116 (.iconst 1) 1 117 := ⟨by decide +kernel, rfl⟩
theorem d_M_act_117 : At prog_8_method_21_code 117 (.iadd) 1 118 := ⟨by decide +kernel, rfl⟩
theorem d_M_act_118 : At prog_8_method_21_code 118 (.istore 6) 2 120 := ⟨by decide +kernel, rfl⟩
theorem d_M_act_120 : At prog_8_method_21_code 120 (.iload 6) 2 122 := ⟨by decide +kernel, rfl⟩
theorem d_M_act_122 : At prog_8_method_21_code 122 (.iload 4) 2 124 := ⟨by decide +kernel, rfl⟩
theorem d_M_act_124 : AtC prog_8_method_21_code 124 (.if_icmp .gt) 141 127 := ⟨17, by decide +kernel, by decide, rfl⟩
theorem d_M_act_127 : At prog_8_method_21_code 127 (.aload_n 0) 1 128 := ⟨by decide +kernel, rfl⟩
theorem d_M_act_128 : At prog_8_method_21_code 128 (.iload_n 1) 1 129 := ⟨by decide +kernel, rfl⟩
theorem d_M_act_129 : At prog_8_method_21_code 129 (.iload_n 2) 1 130 := ⟨by decide +kernel, rfl⟩
theorem d_M_act_130 : At prog_8_method_21_code 130 (.iload 6) 2 132 := ⟨by decide +kernel, rfl⟩
theorem d_M_act_132 : At prog_8_method_21_code 132 (.invokevirtual 138) 3 135 := ⟨by decide +kernel, rfl⟩
theorem d_M_act_135 : At prog_8_method_21_code 135 (.iinc 6 1) 3 138 := ⟨by decide +kernel, rfl⟩
theorem d_M_act_138 : AtC prog_8_method_21_code 138 .goto 120 141 := ⟨-18, by decide +kernel, by decide, rfl⟩
theorem d_M_act_141 : At prog_8_method_21_code 141 (.return_) 1 142 := ⟨by decide +kernel, rfl⟩
theorem d_M_takeFrom_0 : At prog_8_method_17_code 0 (.sipush 128) 3 3 := ⟨by decide +kernel, rfl⟩
theorem d_M_takeFrom_3 : At prog_8_method_17_code 3 (.iload_n 2) 1 4 := ⟨by decide +kernel, rfl⟩
theorem d_M_takeFrom_4 : At prog_8_method_17_code 4 (.imul) 1 5 := ⟨by decide +kernel, rfl⟩
theorem d_M_takeFrom_5 : At prog_8_method_17_code 5 (.iload_n 3) 1 6 := ⟨by decide +kernel, rfl⟩
theorem d_M_takeFrom_6 : At prog_8_method_17_code 6 (.iadd) 1 7 := ⟨by decide +kernel, rfl⟩
theorem d_M_takeFrom_7 : At prog_8_method_17_code 7 (.istore 4) 2 9 := ⟨by decide +kernel, rfl⟩
theorem d_M_takeFrom_9 : At prog_8_method_17_code 9 (.aload_n 0) 1 10 := ⟨by decide +kernel, rfl⟩
theorem d_M_takeFrom_10 : At prog_8_method_17_code 10 (.iload_n 1) 1 11 := ⟨by decide +kernel, rfl⟩
theorem d_M_takeFrom_11 : At prog_8_method_17_code 11 (.aload_n 0) 1 12 := ⟨by decide +kernel, rfl⟩
theorem d_M_takeFrom_12 : At prog_8_method_17_code 12 (.getfield 32) 3 15 := ⟨by decide +kernel, rfl⟩
theorem d_M_takeFrom_15 : At prog_8_method_17_code 15 (.iload 4) 2 17 := ⟨by decide +kernel, rfl⟩
theorem d_M_takeFrom_17 : At prog_8_method_17_code 17 (.iaload) 1 18 := ⟨by decide +kernel, rfl⟩
theorem d_M_takeFrom_18 : At prog_8_method_17_code 18 (.aload_n 0) 1 19 := ⟨by decide +kernel, rfl⟩
theorem d_M_takeFrom_19 : At prog_8_method_17_code 19 (.getfield 35) 3 22 := ⟨by decide +kernel, rfl⟩
theorem d_M_takeFrom_22 : At prog_8_method_17_code 22 (.iload 4) 2 24 := ⟨by decide +kernel, rfl⟩
theorem d_M_takeFrom_24 : At prog_8_method_17_code 24 (.iaload) 1 25 := ⟨by decide +kernel, rfl⟩
theorem d_M_takeFrom_25 : At prog_8_method_17_code 25 (.aload_n 0) 1 26 := ⟨by decide +kernel, rfl⟩
theorem d_M_takeFrom_26 : At prog_8_method_17_code 26 (.getfield 38) 3 29 := ⟨by decide +kernel, rfl⟩
theorem d_M_takeFrom_29 : At prog_8_method_17_code 29 (.iload 4) 2 31 := ⟨by decide +kernel, rfl⟩
theorem d_M_takeFrom_31 : At prog_8_method_17_code 31 (.iaload) 1 32 := ⟨by decide +kernel, rfl⟩
theorem d_M_takeFrom_32 : At prog_8_method_17_code 32 (.aload_n 0) 1 33 := ⟨by decide +kernel, rfl⟩
theorem d_M_takeFrom_33 : At prog_8_method_17_code 33 (.getfield 41) 3 36 := ⟨by decide +kernel, rfl⟩
theorem d_M_takeFrom_36 : At prog_8_method_17_code 36 (.iload 4) 2 38 := ⟨by decide +kernel, rfl⟩
theorem d_M_takeFrom_38 : At prog_8_method_17_code 38 (.iaload) 1 39 := ⟨by decide +kernel, rfl⟩
theorem d_M_takeFrom_39 : At prog_8_method_17_code 39 (.invokevirtual 118) 3 42 := ⟨by decide +kernel, rfl⟩
theorem d_M_takeFrom_42 : At prog_8_method_17_code 42 (.return_) 1 43 := ⟨by decide +kernel, rfl⟩
theorem d_M_answer_0 : At prog_8_method_22_code 0 (.iload_n 2) 1 1 := ⟨by decide +kernel, rfl⟩
theorem d_M_answer_1 : At prog_8_method_22_code 1 (.aload_n 0) 1 2 := ⟨by decide +kernel, rfl⟩
theorem d_M_answer_2 : At prog_8_method_22_code 2 (.getfield 23) 3 5 := ⟨by decide +kernel, rfl⟩
theorem d_M_answer_5 : At prog_8_method_22_code 5 (.iload_n 1) 1 6 := ⟨by decide +kernel, rfl⟩
theorem d_M_answer_6 : At prog_8_method_22_code 6 (.iaload) 1 7 := ⟨by decide +kernel, rfl⟩
theorem d_M_answer_7 : AtC prog_8_method_22_code 7 (.if_icmp .le) 45 10 := ⟨38, by decide +kernel, by decide, rfl⟩
theorem d_M_answer_10 : At prog_8_method_22_code 10 (.iload_n 2) 1 11 := ⟨by decide +kernel, rfl⟩
theorem d_M_answer_11 : At prog_8_method_22_code 11 (.aload_n 0) 1 12 := ⟨by decide +kernel, rfl⟩
theorem d_M_answer_12 : At prog_8_method_22_code 12 (.getfield 20) 3 15 := ⟨by decide +kernel, rfl⟩
theorem d_M_answer_15 : At prog_8_method_22_code 15 (.iload_n 1) 1 16 := ⟨by decide +kernel, rfl⟩
theorem d_M_answer_16 : At prog_8_method_22_code 16 (.iaload) 1 17 := ⟨by decide +kernel, rfl⟩
theorem d_M_answer_17 : AtC prog_8_method_22_code 17 (.if_icmp .gt) 45 20 := ⟨28, by decide +kernel, by decide, rfl⟩
theorem d_M_answer_20 : At prog_8_method_22_code 20 (.aload_n 0) 1 21 := ⟨by decide +kernel, rfl⟩
theorem d_M_answer_21 : At prog_8_method_22_code 21 (.getfield 32) 3 24 := ⟨by decide +kernel, rfl⟩
theorem d_M_answer_24 : At prog_8_method_22_code 24 (.sipush 128) 3 27 := ⟨by decide +kernel, rfl⟩
theorem d_M_answer_27 : At prog_8_method_22_code 27 (.iload_n 1) 1 28 := ⟨by decide +kernel, rfl⟩
theorem d_M_answer_28 : At prog_8_method_22_code 28 (.imul) 1 29 := ⟨by decide +kernel, rfl⟩
theorem d_M_answer_29 : At prog_8_method_22_code 29 (.iload_n 2) 1 30 := ⟨by decide +kernel, rfl⟩
theorem d_M_answer_30 : At prog_8_method_22_code 30 (.iadd) 1 31 := ⟨by decide +kernel, rfl⟩
theorem d_M_answer_31 : At prog_8_method_22_code 31 (.iaload) 1 32 := ⟨by decide +kernel, rfl⟩
theorem d_M_answer_32 : At prog_8_method_22_code 32 (.aload_n 0) 1 33 := ⟨by decide +kernel, rfl⟩
theorem d_M_answer_33 : At prog_8_method_22_code 33 (.getfield 50) 3 36 := ⟨by decide +kernel, rfl⟩
theorem d_M_answer_36 : At prog_8_method_22_code 36 (.iload_n 3) 1 37 := ⟨by decide +kernel, rfl⟩
theorem d_M_answer_37 : At prog_8_method_22_code 37 (.iaload) 1 38 := ⟨by decide +kernel, rfl⟩
theorem d_M_answer_38 : AtC prog_8_method_22_code 38 (.if_icmp .ne) 45 41 := ⟨7, by decide +kernel, by decide, rfl⟩
theorem d_M_answer_41 : At prog_8_method_22_code 41 (.iconst 1) 1 42 := ⟨by decide +kernel, rfl⟩
theorem d_M_answer_42 : AtC prog_8_method_22_code 42 .goto 46 45 := ⟨4, by decide +kernel, by decide, rfl⟩
theorem d_M_answer_45 : At prog_8_method_22_code 45 (.iconst 0) 1 46 := ⟨by decide +kernel, rfl⟩
theorem d_M_answer_46 : At prog_8_method_22_code 46 (.istore 4) 2 48 := ⟨by decide +kernel, rfl⟩
theorem d_M_answer_48 : At prog_8_method_22_code 48 (.aload_n 0) 1 49 := ⟨by decide +kernel, rfl⟩
theorem d_M_answer_49 : At prog_8_method_22_code 49 (.iload_n 3) 1 50 := ⟨by decide +kernel, rfl⟩
theorem d_M_answer_50 : At prog_8_method_22_code 50 (.iload_n 1) 1 51 := ⟨by decide +kernel, rfl⟩
theorem d_M_answer_51 : At prog_8_method_22_code 51 (.iload 4) 2 53 := ⟨by decide +kernel, rfl⟩
theorem d_M_answer_53 : AtC prog_8_method_22_code 53 (.ifCond .eq) 60 56 := ⟨7, by decide +kernel, by decide, rfl⟩
theorem d_M_answer_56 : At prog_8_method_22_code 56 (.iload_n 2) 1 57 := ⟨by decide +kernel, rfl⟩
theorem d_M_answer_57 : AtC prog_8_method_22_code 57 .goto 71 60 := ⟨14, by decide +kernel, by decide, rfl⟩
theorem d_M_answer_60 : At prog_8_method_22_code 60 (.aload_n 0) 1 61 := ⟨by decide +kernel, rfl⟩
theorem d_M_answer_61 : At prog_8_method_22_code 61 (.iload_n 1) 1 62 := ⟨by decide +kernel, rfl⟩
theorem d_M_answer_62 : At prog_8_method_22_code 62 (.aload_n 0) 1 63 := ⟨by decide +kernel, rfl⟩
theorem d_M_answer_63 : At prog_8_method_22_code 63 (.getfield 50) 3 66 := ⟨by decide +kernel, rfl⟩
theorem d_M_answer_66 : At prog_8_method_22_code 66 (.iload_n 3) 1 67 := ⟨by decide +kernel, rfl⟩
theorem d_M_answer_67 : At prog_8_method_22_code 67 (.iaload) 1 68 := ⟨by decide +kernel, rfl⟩
theorem d_M_answer_68 : At prog_8_method_22_code 68 (.invokevirtual 128) 3 71 := ⟨by decide +kernel, rfl⟩
theorem d_M_answer_71 : At prog_8_method_22_code 71 (.invokevirtual 131) 3 74 := ⟨by decide +kernel, rfl⟩
theorem d_M_answer_74 : At prog_8_method_22_code 74 (.return_) 1 75 := ⟨by decide +kernel, rfl⟩
theorem d_M_arrive_0 : At prog_8_method_23_code 0 (.iconst 1) 1 1 := ⟨by decide +kernel, rfl⟩
theorem d_M_arrive_1 : At prog_8_method_23_code 1 (.istore 5) 2 3 := ⟨by decide +kernel, rfl⟩
theorem d_M_arrive_3 : At prog_8_method_23_code 3 (.iload 5) 2 5 := ⟨by decide +kernel, rfl⟩
theorem d_M_arrive_5 : At prog_8_method_23_code 5 (.iload_n 3) 1 6 := ⟨by decide +kernel, rfl⟩
theorem d_M_arrive_6 : AtC prog_8_method_23_code 6 (.if_icmp .gt) 119 9 := ⟨113, by decide +kernel, by decide, rfl⟩
theorem d_M_arrive_9 : At prog_8_method_23_code 9 (.aload_n 0) 1 10 := ⟨by decide +kernel, rfl⟩
theorem d_M_arrive_10 : At prog_8_method_23_code 10 (.getfield 32) 3 13 := ⟨by decide +kernel, rfl⟩
theorem d_M_arrive_13 : At prog_8_method_23_code 13 (.sipush 128) 3 16 := ⟨by decide +kernel, rfl⟩
theorem d_M_arrive_16 : At prog_8_method_23_code 16 (.iload_n 1) 1 17 := ⟨by decide +kernel, rfl⟩
theorem d_M_arrive_17 : At prog_8_method_23_code 17 (.imul) 1 18 := ⟨by decide +kernel, rfl⟩
theorem d_M_arrive_18 : At prog_8_method_23_code 18 (.iload 5) 2 20 := ⟨by decide +kernel, rfl⟩
theorem d_M_arrive_20 : At prog_8_method_23_code 20 (.iadd) 1 21 := ⟨by decide +kernel, rfl⟩
theorem d_M_arrive_21 : At prog_8_method_23_code 21 (.aload_n 0) 1 22 := ⟨by decide +kernel, rfl⟩
theorem d_M_arrive_22 : At prog_8_method_23_code 22 (.getfield 32) 3 25 := ⟨by decide +kernel, rfl⟩
theorem d_M_arrive_25 : At prog_8_method_23_code 25 (.sipush 128) 3 28 := ⟨by decide +kernel, rfl⟩
theorem d_M_arrive_28 : At prog_8_method_23_code 28 (.iload_n 2) 1 29 := ⟨by decide +kernel, rfl⟩
theorem d_M_arrive_29 : At prog_8_method_23_code 29 (.imul) 1 30 := ⟨by decide +kernel, rfl⟩
theorem d_M_arrive_30 : At prog_8_method_23_code 30 (.iload 5) 2 32 := ⟨by decide +kernel, rfl⟩
theorem d_M_arrive_32 : At prog_8_method_23_code 32 (.iadd) 1 33 := ⟨by decide +kernel, rfl⟩
theorem d_M_arrive_33 : At prog_8_method_23_code 33 (.iaload) 1 34 := ⟨by decide +kernel, rfl⟩
theorem d_M_arrive_34 : At prog_8_method_23_code 34 (.iastore) 1 35 := ⟨by decide +kernel, rfl⟩
theorem d_M_arrive_35 : At prog_8_method_23_code 35 (.aload_n 0) 1 36 := ⟨by decide +kernel, rfl⟩
theorem d_M_arrive_36 : At prog_8_method_23_code 36 (.getfield 35) 3 39 := ⟨by decide +kernel, rfl⟩
theorem d_M_arrive_39 : At prog_8_method_23_code 39 (.sipush 128) 3 42 := ⟨by decide +kernel, rfl⟩
theorem d_M_arrive_42 : At prog_8_method_23_code 42 (.iload_n 1) 1 43 := ⟨by decide +kernel, rfl⟩
theorem d_M_arrive_43 : At prog_8_method_23_code 43 (.imul) 1 44 := ⟨by decide +kernel, rfl⟩
theorem d_M_arrive_44 : At prog_8_method_23_code 44 (.iload 5) 2 46 := ⟨by decide +kernel, rfl⟩
theorem d_M_arrive_46 : At prog_8_method_23_code 46 (.iadd) 1 47 := ⟨by decide +kernel, rfl⟩
theorem d_M_arrive_47 : At prog_8_method_23_code 47 (.aload_n 0) 1 48 := ⟨by decide +kernel, rfl⟩
theorem d_M_arrive_48 : At prog_8_method_23_code 48 (.getfield 35) 3 51 := ⟨by decide +kernel, rfl⟩
theorem d_M_arrive_51 : At prog_8_method_23_code 51 (.sipush 128) 3 54 := ⟨by decide +kernel, rfl⟩
theorem d_M_arrive_54 : At prog_8_method_23_code 54 (.iload_n 2) 1 55 := ⟨by decide +kernel, rfl⟩
theorem d_M_arrive_55 : At prog_8_method_23_code 55 (.imul) 1 56 := ⟨by decide +kernel, rfl⟩
theorem d_M_arrive_56 : At prog_8_method_23_code 56 (.iload 5) 2 58 := ⟨by decide +kernel, rfl⟩
theorem d_M_arrive_58 : At prog_8_method_23_code 58 (.iadd) 1 59 := ⟨by decide +kernel, rfl⟩
theorem d_M_arrive_59 : At prog_8_method_23_code 59 (.iaload) 1 60 := ⟨by decide +kernel, rfl⟩
theorem d_M_arrive_60 : At prog_8_method_23_code 60 (.iastore) 1 61 := ⟨by decide +kernel, rfl⟩
theorem d_M_arrive_61 : At prog_8_method_23_code 61 (.aload_n 0) 1 62 := ⟨by decide +kernel, rfl⟩
theorem d_M_arrive_62 : At prog_8_method_23_code 62 (.getfield 38) 3 65 := ⟨by decide +kernel, rfl⟩
theorem d_M_arrive_65 : At prog_8_method_23_code 65 (.sipush 128) 3 68 := ⟨by decide +kernel, rfl⟩
theorem d_M_arrive_68 : At prog_8_method_23_code 68 (.iload_n 1) 1 69 := ⟨by decide +kernel, rfl⟩
theorem d_M_arrive_69 : At prog_8_method_23_code 69 (.imul) 1 70 := ⟨by decide +kernel, rfl⟩
theorem d_M_arrive_70 : At prog_8_method_23_code 70 (.iload 5) 2 72 := ⟨by decide +kernel, rfl⟩
theorem d_M_arrive_72 : At prog_8_method_23_code 72 (.iadd) 1 73 := ⟨by decide +kernel, rfl⟩
theorem d_M_arrive_73 : At prog_8_method_23_code 73 (.aload_n 0) 1 74 := ⟨by decide +kernel, rfl⟩
theorem d_M_arrive_74 : At prog_8_method_23_code 74 (.getfield 38) 3 77 := ⟨by decide +kernel, rfl⟩
theorem d_M_arrive_77 : At prog_8_method_23_code 77 (.sipush 128) 3 80 := ⟨by decide +kernel, rfl⟩
theorem d_M_arrive_80 : At prog_8_method_23_code 80 (.iload_n 2) 1 81 := ⟨by decide +kernel, rfl⟩
theorem d_M_arrive_81 : At prog_8_method_23_code 81 (.imul) 1 82 := ⟨by decide +kernel, rfl⟩
theorem d_M_arrive_82 : At prog_8_method_23_code 82 (.iload 5) 2 84 := ⟨by decide +kernel, rfl⟩
theorem d_M_arrive_84 : At prog_8_method_23_code 84 (.iadd) 1 85 := ⟨by decide +kernel, rfl⟩
theorem d_M_arrive_85 : At prog_8_method_23_code 85 (.iaload) 1 86 := ⟨by decide +kernel, rfl⟩
theorem d_M_arrive_86 : At prog_8_method_23_code 86 (.iastore) 1 87 := ⟨by decide +kernel, rfl⟩
theorem d_M_arrive_87 : At prog_8_method_23_code 87 (.aload_n 0) 1 88 := ⟨by decide +kernel, rfl⟩
theorem d_M_arrive_88 : At prog_8_method_23_code 88 (.getfield 41) 3 91 := ⟨by decide +kernel, rfl⟩
theorem d_M_arrive_91 : At prog_8_method_23_code 91 (.sipush 128) 3 94 := ⟨by decide +kernel, rfl⟩
theorem d_M_arrive_94 : At prog_8_method_23_code 94 (.iload_n 1) 1 95 := ⟨by decide +kernel, rfl⟩
theorem d_M_arrive_95 : At prog_8_method_23_code 95 (.imul) 1 96 := ⟨by decide +kernel, rfl⟩
theorem d_M_arrive_96 : At prog_8_method_23_code 96 (.iload 5) 2 98 := ⟨by decide +kernel, rfl⟩
theorem d_M_arrive_98 : At prog_8_method_23_code 98 (.iadd) 1 99 := ⟨by decide +kernel, rfl⟩
theorem d_M_arrive_99 : At prog_8_method_23_code 99 (.aload_n 0) 1 100 := ⟨by decide +kernel, rfl⟩
theorem d_M_arrive_100 : At prog_8_method_23_code 100 (.getfield 41) 3 103 := ⟨by decide +kernel, rfl⟩
theorem d_M_arrive_103 : At prog_8_method_23_code 103 (.sipush 128) 3 106 := ⟨by decide +kernel, rfl⟩
theorem d_M_arrive_106 : At prog_8_method_23_code 106 (.iload_n 2) 1 107 := ⟨by decide +kernel, rfl⟩
theorem d_M_arrive_107 : At prog_8_method_23_code 107 (.imul) 1 108 := ⟨by decide +kernel, rfl⟩
theorem d_M_arrive_108 : At prog_8_method_23_code 108 (.iload 5) 2 110 := ⟨by decide +kernel, rfl⟩
theorem d_M_arrive_110 : At prog_8_method_23_code 110 (.iadd) 1 111 := ⟨by decide +kernel, rfl⟩
theorem d_M_arrive_111 : At prog_8_method_23_code 111 (.iaload) 1 112 := ⟨by decide +kernel, rfl⟩
theorem d_M_arrive_112 : At prog_8_method_23_code 112 (.iastore) 1 113 := ⟨by decide +kernel, rfl⟩
theorem d_M_arrive_113 : At prog_8_method_23_code 113 (.iinc 5 1) 3 116 := ⟨by decide +kernel, rfl⟩
theorem d_M_arrive_116 : AtC prog_8_method_23_code 116 .goto 3 119 := ⟨-113, by decide +kernel, by decide, rfl⟩
theorem d_M_arrive_119 : At prog_8_method_23_code 119 (.aload_n 0) 1 120 := ⟨by decide +kernel, rfl⟩
theorem d_M_arrive_120 : At prog_8_method_23_code 120 (.getfield 20) 3 123 := ⟨by decide +kernel, rfl⟩
theorem d_M_arrive_123 : At prog_8_method_23_code 123 (.iload_n 1) 1 124 := ⟨by decide +kernel, rfl⟩
theorem d_M_arrive_124 : At prog_8_method_23_code 124 (.iload_n 3) 1 125 := ⟨by decide +kernel, rfl⟩
theorem d_M_arrive_125 : At prog_8_method_23_code 125 (.iastore) 1 126 := ⟨by decide +kernel, rfl⟩
theorem d_M_arrive_126 : At prog_8_method_23_code 126 (.aload_n 0) 1 127 := ⟨by decide +kernel, rfl⟩
theorem d_M_arrive_127 : At prog_8_method_23_code 127 (.getfield 23) 3 130 := ⟨by decide +kernel, rfl⟩
theorem d_M_arrive_130 : At prog_8_method_23_code 130 (.iload_n 1) 1 131 := ⟨by decide +kernel, rfl⟩
theorem d_M_arrive_131 : At prog_8_method_23_code 131 (.iload 4) 2 133 := ⟨by decide +kernel, rfl⟩
theorem d_M_arrive_133 : At prog_8_method_23_code 133 (.iastore) 1 134 := ⟨by decide +kernel, rfl⟩
theorem d_M_arrive_134 : At prog_8_method_23_code 134 (.aload_n 0) 1 135 := ⟨by decide +kernel, rfl⟩
theorem d_M_arrive_135 : At prog_8_method_23_code 135 (.getfield 13) 3 138 := ⟨by decide +kernel, rfl⟩
theorem d_M_arrive_138 : At prog_8_method_23_code 138 (.iload_n 1) 1 139 := ⟨by decide +kernel, rfl⟩
theorem d_M_arrive_139 : At prog_8_method_23_code 139 (.iconst 1) 1 140 := ⟨by decide +kernel, rfl⟩
theorem d_M_arrive_140 : At prog_8_method_23_code 140 (.bastore) 1 141 := ⟨by decide +kernel, rfl⟩
theorem d_M_arrive_141 : At prog_8_method_23_code 141 (.aload_n 0) 1 142 := ⟨by decide +kernel, rfl⟩
theorem d_M_arrive_142 : At prog_8_method_23_code 142 (.iload_n 1) 1 143 := ⟨by decide +kernel, rfl⟩
theorem d_M_arrive_143 : At prog_8_method_23_code 143 (.invokevirtual 104) 3 146 := ⟨by decide +kernel, rfl⟩
theorem d_M_arrive_146 : AtC prog_8_method_23_code 146 (.ifCond .ge) 157 149 := ⟨11, by decide +kernel, by decide, rfl⟩
theorem d_M_arrive_149 : At prog_8_method_23_code 149 (.aload_n 0) 1 150 := ⟨by decide +kernel, rfl⟩
theorem d_M_arrive_150 : At prog_8_method_23_code 150 (.iload_n 1) 1 151 := ⟨by decide +kernel, rfl⟩
theorem d_M_arrive_151 : At prog_8_method_23_code 151 (.invokevirtual 108) 3 154 := ⟨by decide +kernel, rfl⟩
theorem d_M_arrive_154 : AtC prog_8_method_23_code 154 .goto 180 157 := ⟨26, by decide +kernel, by decide, rfl⟩
theorem d_M_arrive_157 : At prog_8_method_23_code 157 (.aload_n 0) 1 158 := ⟨by decide +kernel, rfl⟩
theorem d_M_arrive_158 : At prog_8_method_23_code 158 (.iload_n 1) 1 159 := ⟨by decide +kernel, rfl⟩
theorem d_M_arrive_159 : At prog_8_method_23_code 159 (.aload_n 0) 1 160 := ⟨by decide +kernel, rfl⟩
theorem d_M_arrive_160 : At prog_8_method_23_code 160 (.iload_n 1) 1 161 := ⟨by decide +kernel, rfl⟩
theorem d_M_arrive_161 : At prog_8_method_23_code 161 (.invokevirtual 104) 3 164 := ⟨by decide +kernel, rfl⟩
theorem d_M_arrive_164 : At prog_8_method_23_code 164 (.iconst 5) 1 165 := ⟨by decide +kernel, rfl⟩
theorem d_M_arrive_165 : At prog_8_method_23_code 165 (.aload_n 0) 1 166 := ⟨by decide +kernel, rfl⟩
theorem d_M_arrive_166 : At prog_8_method_23_code 166 (.getfield 20) 3 169 := ⟨by decide +kernel, rfl⟩
theorem d_M_arrive_169 : At prog_8_method_23_code 169 (.iload_n 1) 1 170 := ⟨by decide +kernel, rfl⟩
theorem d_M_arrive_170 : At prog_8_method_23_code 170 (.iaload) 1 171 := ⟨by decide +kernel, rfl⟩
theorem d_M_arrive_171 : At prog_8_method_23_code 171 (.aload_n 0) 1 172 := ⟨by decide +kernel, rfl⟩
theorem d_M_arrive_172 : At prog_8_method_23_code 172 (.getfield 23) 3 175 := ⟨by decide +kernel, rfl⟩
theorem d_M_arrive_175 : At prog_8_method_23_code 175 (.iload_n 1) 1 176 := ⟨by decide +kernel, rfl⟩
theorem d_M_arrive_176 : At prog_8_method_23_code 176 (.iaload) 1 177 := ⟨by decide +kernel, rfl⟩
theorem d_M_arrive_177 : At prog_8_method_23_code 177 (.invokevirtual 114) 3 180 := ⟨by decide +kernel, rfl⟩
theorem d_M_arrive_180 : At prog_8_method_23_code 180 (.aload_n 0) 1 181 := ⟨by decide +kernel, rfl⟩
theorem d_M_arrive_181 : At prog_8_method_23_code 181 (.iload_n 1) 1 182 := ⟨by decide +kernel, rfl⟩
theorem d_M_arrive_182 : At prog_8_method_23_code 182 (.aload_n 0) 1 183 := ⟨by decide +kernel, rfl⟩
theorem d_M_arrive_183 : At prog_8_method_23_code 183 (.iload_n 1) 1 184 := ⟨by decide +kernel, rfl⟩
theorem d_M_arrive_184 : At prog_8_method_23_code 184 (.invokevirtual 111) 3 187 := ⟨by decide +kernel, rfl⟩
theorem d_M_arrive_187 : At prog_8_method_23_code 187 (.iconst 2) 1 188 := ⟨by decide +kernel, rfl⟩
theorem d_M_arrive_188 : At prog_8_method_23_code 188 (.aload_n 0) 1 189 := ⟨by decide +kernel, rfl⟩
theorem d_M_arrive_189 : At prog_8_method_23_code 189 (.getfield 23) 3 192 := ⟨by decide +kernel, rfl⟩
theorem d_M_arrive_192 : At prog_8_method_23_code 192 (.iload_n 1) 1 193 := ⟨by decide +kernel, rfl⟩
theorem d_M_arrive_193 : At prog_8_method_23_code 193 (.iaload) 1 194 := ⟨by decide +kernel, rfl⟩
theorem d_M_arrive_194 : At prog_8_method_23_code 194 (.iconst 0) 1 195 := ⟨by decide +kernel, rfl⟩
theorem d_M_arrive_195 : At prog_8_method_23_code 195 (.invokevirtual 114) 3 198 := ⟨by decide +kernel, rfl⟩
theorem d_M_arrive_198 : At prog_8_method_23_code 198 (.return_) 1 199 := ⟨by decide +kernel, rfl⟩
theorem d_M_waiting_0 : At prog_8_method_32_code 0 (.iload_n 1) 1 1 := ⟨by decide +kernel, rfl⟩
theorem d_M_waiting_1 : At prog_8_method_32_code 1 (.iconst 5) 1 2 := ⟨by decide +kernel, rfl⟩
theorem d_M_waiting_2 : At prog_8_method_32_code 2 (.invokestatic 94) 3 5 := ⟨by decide +kernel, rfl⟩
theorem d_M_waiting_5 : AtC prog_8_method_32_code 5 (.ifCond .ne) 16 8 := ⟨11, by decide +kernel, by decide, rfl⟩
theorem d_M_waiting_8 : At prog_8_method_32_code 8 (.iload_n 2) 1 9 := ⟨by decide +kernel, rfl⟩
theorem d_M_waiting_9 : At prog_8_method_32_code 9 (.iconst 5) 1 10 := ⟨by decide +kernel, rfl⟩
theorem d_M_waiting_10 : At prog_8_method_32_code 10 (.invokestatic 94) 3 13 := ⟨by decide +kernel, rfl⟩
theorem d_M_waiting_13 : AtC prog_8_method_32_code 13 (.ifCond .eq) 18 16 := ⟨5, by decide +kernel, by decide, rfl⟩
theorem d_M_waiting_16 : At prog_8_method_32_code 16 (.iconst (-1)) 1 17 := ⟨by decide +kernel, rfl⟩
theorem d_M_waiting_17 : At prog_8_method_32_code 17 (.ireturn) 1 18 := ⟨by decide +kernel, rfl⟩
theorem d_M_waiting_18 : At prog_8_method_32_code 18 (.iconst 0) 1 19 := ⟨by decide +kernel, rfl⟩
theorem d_M_waiting_19 : At prog_8_method_32_code 19 (.istore_n 3) 1 20 := ⟨by decide +kernel, rfl⟩
theorem d_M_waiting_20 : At prog_8_method_32_code 20 (.iconst 0) 1 21 := ⟨by decide +kernel, rfl⟩
theorem d_M_waiting_21 : At prog_8_method_32_code 21 (.istore 4) 2 23 := ⟨by decide +kernel, rfl⟩
theorem d_M_waiting_23 : At prog_8_method_32_code 23 (.iload 4) 2 25 := ⟨by decide +kernel, rfl⟩
theorem d_M_waiting_25 : At prog_8_method_32_code 25 (.aload_n 0) 1 26 := ⟨by decide +kernel, rfl⟩
theorem d_M_waiting_26 : At prog_8_method_32_code 26 (.getfield 97) 3 29 := ⟨by decide +kernel, rfl⟩
theorem d_M_waiting_29 : AtC prog_8_method_32_code 29 (.if_icmp .ge) 68 32 := ⟨39, by decide +kernel, by decide, rfl⟩
theorem d_M_waiting_32 : At prog_8_method_32_code 32 (.aload_n 0) 1 33 := ⟨by decide +kernel, rfl⟩
theorem d_M_waiting_33 : At prog_8_method_32_code 33 (.getfield 65) 3 36 := ⟨by decide +kernel, rfl⟩
theorem d_M_waiting_36 : At prog_8_method_32_code 36 (.iload 4) 2 38 := ⟨by decide +kernel, rfl⟩
theorem d_M_waiting_38 : At prog_8_method_32_code 38 (.iaload) 1 39 := ⟨by decide +kernel, rfl⟩
theorem d_M_waiting_39 : At prog_8_method_32_code 39 (.iload_n 1) 1 40 := ⟨by decide +kernel, rfl⟩
theorem d_M_waiting_40 : AtC prog_8_method_32_code 40 (.if_icmp .ne) 60 43 := ⟨20, by decide +kernel, by decide, rfl⟩
theorem d_M_waiting_43 : At prog_8_method_32_code 43 (.aload_n 0) 1 44 := ⟨by decide +kernel, rfl⟩
theorem d_M_waiting_44 : At prog_8_method_32_code 44 (.getfield 68) 3 47 := ⟨by decide +kernel, rfl⟩
theorem d_M_waiting_47 : At prog_8_method_32_code 47 (.iload 4) 2 49 := ⟨by decide +kernel, rfl⟩
theorem d_M_waiting_49 : At prog_8_method_32_code 49 (.iaload) 1 50 := ⟨by decide +kernel, rfl⟩
theorem d_M_waiting_50 : At prog_8_method_32_code 50 (.iload_n 2) 1 51 := ⟨by decide +kernel, rfl⟩
theorem d_M_waiting_51 : AtC prog_8_method_32_code 51 (.if_icmp .ne) 60 54 := ⟨9, by decide +kernel, by decide, rfl⟩
theorem d_M_waiting_54 : At prog_8_method_32_code 54 (.iload_n 3) 1 55 := ⟨by decide +kernel, rfl⟩
theorem d_M_waiting_55 : At prog_8_method_32_code 55 (.iconst 1) 1 56 := ⟨by decide +kernel, rfl⟩
theorem d_M_waiting_56 : At prog_8_method_32_code 56 (.iadd) 1 57 := ⟨by decide +kernel, rfl⟩
theorem d_M_waiting_57 : AtC prog_8_method_32_code 57 .goto 61 60 := ⟨4, by decide +kernel, by decide, rfl⟩
theorem d_M_waiting_60 : At prog_8_method_32_code 60 (.iload_n 3) 1 61 := ⟨by decide +kernel, rfl⟩
theorem d_M_waiting_61 : At prog_8_method_32_code 61 (.istore_n 3) 1 62 := ⟨by decide +kernel, rfl⟩
theorem d_M_waiting_62 : At prog_8_method_32_code 62 (.iinc 4 1) 3 65 := ⟨by decide +kernel, rfl⟩
theorem d_M_waiting_65 : AtC prog_8_method_32_code 65 .goto 23 68 := ⟨-42, by decide +kernel, by decide, rfl⟩
theorem d_M_waiting_68 : At prog_8_method_32_code 68 (.iload_n 3) 1 69 := ⟨by decide +kernel, rfl⟩
theorem d_M_waiting_69 : At prog_8_method_32_code 69 (.ireturn) 1 70 := ⟨by decide +kernel, rfl⟩
theorem d_M_stop_0 : At prog_8_method_33_code 0 (.iload_n 1) 1 1 := ⟨by decide +kernel, rfl⟩
theorem d_M_stop_1 : At prog_8_method_33_code 1 (.iconst 5) 1 2 := ⟨by decide +kernel, rfl⟩
theorem d_M_stop_2 : At prog_8_method_33_code 2 (.invokestatic 94) 3 5 := ⟨by decide +kernel, rfl⟩
theorem d_M_stop_5 : AtC prog_8_method_33_code 5 (.ifCond .ne) 17 8 := ⟨12, by decide +kernel, by decide, rfl⟩
theorem d_M_stop_8 : At prog_8_method_33_code 8 (.aload_n 0) 1 9 := ⟨by decide +kernel, rfl⟩
theorem d_M_stop_9 : At prog_8_method_33_code 9 (.getfield 7) 3 12 := ⟨by decide +kernel, rfl⟩
theorem d_M_stop_12 : At prog_8_method_33_code 12 (.iload_n 1) 1 13 := ⟨by decide +kernel, rfl⟩
theorem d_M_stop_13 : At prog_8_method_33_code 13 (.baload) 1 14 := ⟨by decide +kernel, rfl⟩
theorem d_M_stop_14 : AtC prog_8_method_33_code 14 (.ifCond .ne) 19 17 := ⟨5, by decide +kernel, by decide, rfl⟩
theorem d_M_stop_17 : At prog_8_method_33_code 17 (.iconst 0) 1 18 := ⟨by decide +kernel, rfl⟩
theorem d_M_stop_18 : At prog_8_method_33_code 18 (.ireturn) 1 19 := ⟨by decide +kernel, rfl⟩
theorem d_M_stop_19 : At prog_8_method_33_code 19 (.iconst 0) 1 20 := ⟨by decide +kernel, rfl⟩
theorem d_M_stop_20 : At prog_8_method_33_code 20 (.istore_n 2) 1 21 := ⟨by decide +kernel, rfl⟩
theorem d_M_stop_21 : At prog_8_method_33_code 21 (.iconst 0) 1 22 := ⟨by decide +kernel, rfl⟩
theorem d_M_stop_22 : At prog_8_method_33_code 22 (.istore_n 3) 1 23 := ⟨by decide +kernel, rfl⟩
theorem d_M_stop_23 : At prog_8_method_33_code 23 (.iload_n 3) 1 24 := ⟨by decide +kernel, rfl⟩
theorem d_M_stop_24 : At prog_8_method_33_code 24 (.bipush 6) 2 26 := ⟨by decide +kernel, rfl⟩
theorem d_M_stop_26 : AtC prog_8_method_33_code 26 (.if_icmp .ge) 58 29 := ⟨32, by decide +kernel, by decide, rfl⟩
theorem d_M_stop_29 : At prog_8_method_33_code 29 (.iload_n 2) 1 30 := ⟨by decide +kernel, rfl⟩
theorem d_M_stop_30 : AtC prog_8_method_33_code 30 (.ifCond .ne) 46 33 := ⟨16, by decide +kernel, by decide, rfl⟩
theorem d_M_stop_33 : At prog_8_method_33_code 33 (.iload_n 3) 1 34 := ⟨by decide +kernel, rfl⟩
theorem d_M_stop_34 : At prog_8_method_33_code 34 (.iload_n 1) 1 35 := ⟨by decide +kernel, rfl⟩
theorem d_M_stop_35 : AtC prog_8_method_33_code 35 (.if_icmp .eq) 50 38 := ⟨15, by decide +kernel, by decide, rfl⟩
theorem d_M_stop_38 : At prog_8_method_33_code 38 (.aload_n 0) 1 39 := ⟨by decide +kernel, rfl⟩
theorem d_M_stop_39 : At prog_8_method_33_code 39 (.iload_n 3) 1 40 := ⟨by decide +kernel, rfl⟩
theorem d_M_stop_40 : At prog_8_method_33_code 40 (.invokevirtual 147) 3 43 := ⟨by decide +kernel, rfl⟩
theorem d_M_stop_43 : AtC prog_8_method_33_code 43 (.ifCond .eq) 50 46 := ⟨7, by decide +kernel, by decide, rfl⟩
theorem d_M_stop_46 : At prog_8_method_33_code 46 (.iconst 1) 1 47 := ⟨by decide +kernel, rfl⟩
theorem d_M_stop_47 : AtC prog_8_method_33_code 47 .goto 51 50 := ⟨4, by decide +kernel, by decide, rfl⟩
theorem d_M_stop_50 : At prog_8_method_33_code 50 (.iconst 0) 1 51 := ⟨by decide +kernel, rfl⟩
theorem d_M_stop_51 : At prog_8_method_33_code 51 (.istore_n 2) 1 52 := ⟨by decide +kernel, rfl⟩
theorem d_M_stop_52 : At prog_8_method_33_code 52 (.iinc 3 1) 3 55 := ⟨by decide +kernel, rfl⟩
theorem d_M_stop_55 : AtC prog_8_method_33_code 55 .goto 23 58 := ⟨-32, by decide +kernel, by decide, rfl⟩
theorem d_M_stop_58 : At prog_8_method_33_code 58 (.iload_n 2) 1 59 := ⟨by decide +kernel, rfl⟩
theorem d_M_stop_59 : AtC prog_8_method_33_code 59 (.ifCond .ne) 64 62 := ⟨5, by decide +kernel, by decide, rfl⟩
theorem d_M_stop_62 : At prog_8_method_33_code 62 (.iconst 0) 1 63 := ⟨by decide +kernel, rfl⟩
theorem d_M_stop_63 : At prog_8_method_33_code 63 (.ireturn) 1 64 := ⟨by decide +kernel, rfl⟩
theorem d_M_stop_64 : At prog_8_method_33_code 64 (.aload_n 0) 1 65 := ⟨by decide +kernel, rfl⟩
theorem d_M_stop_65 : At prog_8_method_33_code 65 (.getfield 7) 3 68 := ⟨by decide +kernel, rfl⟩
theorem d_M_stop_68 : At prog_8_method_33_code 68 (.iload_n 1) 1 69 := ⟨by decide +kernel, rfl⟩
theorem d_M_stop_69 : At prog_8_method_33_code 69 (.iconst 0) 1 70 := ⟨by decide +kernel, rfl⟩
theorem d_M_stop_70 : At prog_8_method_33_code 70 (.bastore) 1 71 := ⟨by decide +kernel, rfl⟩
theorem d_M_stop_71 : At prog_8_method_33_code 71 (.aload_n 0) 1 72 := ⟨by decide +kernel, rfl⟩
theorem d_M_stop_72 : At prog_8_method_33_code 72 (.iload_n 1) 1 73 := ⟨by decide +kernel, rfl⟩
theorem d_M_stop_73 : At prog_8_method_33_code 73 (.aload_n 0) 1 74 := ⟨by decide +kernel, rfl⟩
theorem d_M_stop_74 : At prog_8_method_33_code 74 (.getfield 87) 3 77 := ⟨by decide +kernel, rfl⟩
theorem d_M_stop_77 : At prog_8_method_33_code 77 (.iconst 1) 1 78 := ⟨by decide +kernel, rfl⟩
theorem d_M_stop_78 : At prog_8_method_33_code 78 (.iadd) 1 79 := ⟨by decide +kernel, rfl⟩
theorem d_M_stop_79 : At prog_8_method_33_code 79 (.invokevirtual 167) 3 82 := ⟨by decide +kernel, rfl⟩
theorem d_M_stop_82 : At prog_8_method_33_code 82 (.iconst 1) 1 83 := ⟨by decide +kernel, rfl⟩
theorem d_M_stop_83 : At prog_8_method_33_code 83 (.ireturn) 1 84 := ⟨by decide +kernel, rfl⟩
theorem d_M_lose_0 : At prog_8_method_14_code 0 (.aload_n 0) 1 1 := ⟨by decide +kernel, rfl⟩
theorem d_M_lose_1 : At prog_8_method_14_code 1 (.getfield 97) 3 4 := ⟨by decide +kernel, rfl⟩
theorem d_M_lose_4 : At prog_8_method_14_code 4 (.iconst 1) 1 5 := ⟨by decide +kernel, rfl⟩
theorem d_M_lose_5 : At prog_8_method_14_code 5 (.isub) 1 6 := ⟨by decide +kernel, rfl⟩
theorem d_M_lose_6 : At prog_8_method_14_code 6 (.istore_n 3) 1 7 := ⟨by decide +kernel, rfl⟩
theorem d_M_lose_7 : At prog_8_method_14_code 7 (.iload_n 3) 1 8 := ⟨by decide +kernel, rfl⟩
theorem d_M_lose_8 : AtC prog_8_method_14_code 8 (.ifCond .lt) 42 11 := ⟨34, by decide +kernel, by decide, rfl⟩
theorem d_M_lose_11 : At prog_8_method_14_code 11 (.aload_n 0) 1 12 := ⟨by decide +kernel, rfl⟩
theorem d_M_lose_12 : At prog_8_method_14_code 12 (.getfield 68) 3 15 := ⟨by decide +kernel, rfl⟩
theorem d_M_lose_15 : At prog_8_method_14_code 15 (.iload_n 3) 1 16 := ⟨by decide +kernel, rfl⟩
theorem d_M_lose_16 : At prog_8_method_14_code 16 (.iaload) 1 17 := ⟨by decide +kernel, rfl⟩
theorem d_M_lose_17 : At prog_8_method_14_code 17 (.iload_n 1) 1 18 := ⟨by decide +kernel, rfl⟩
theorem d_M_lose_18 : AtC prog_8_method_14_code 18 (.if_icmp .ne) 36 21 := ⟨18, by decide +kernel, by decide, rfl⟩
theorem d_M_lose_21 : At prog_8_method_14_code 21 (.aload_n 0) 1 22 := ⟨by decide +kernel, rfl⟩
theorem d_M_lose_22 : At prog_8_method_14_code 22 (.getfield 74) 3 25 := ⟨by decide +kernel, rfl⟩
theorem d_M_lose_25 : At prog_8_method_14_code 25 (.iload_n 3) 1 26 := ⟨by decide +kernel, rfl⟩
theorem d_M_lose_26 : At prog_8_method_14_code 26 (.iaload) 1 27 := ⟨by decide +kernel, rfl⟩
theorem d_M_lose_27 : At prog_8_method_14_code 27 (.iload_n 2) 1 28 := ⟨by decide +kernel, rfl⟩
theorem d_M_lose_28 : AtC prog_8_method_14_code 28 (.if_icmp .ge) 36 31 := ⟨8, by decide +kernel, by decide, rfl⟩
theorem d_M_lose_31 : At prog_8_method_14_code 31 (.aload_n 0) 1 32 := ⟨by decide +kernel, rfl⟩
theorem d_M_lose_32 : At prog_8_method_14_code 32 (.iload_n 3) 1 33 := ⟨by decide +kernel, rfl⟩
theorem d_M_lose_33 : At prog_8_method_14_code 33 (.invokevirtual 100) 3 36 := ⟨by decide +kernel, rfl⟩
theorem d_M_lose_36 : At prog_8_method_14_code 36 (.iinc 3 (-1)) 3 39 := ⟨by decide +kernel, rfl⟩
theorem d_M_lose_39 : AtC prog_8_method_14_code 39 .goto 7 42 := ⟨-32, by decide +kernel, by decide, rfl⟩
theorem d_M_lose_42 : At prog_8_method_14_code 42 (.return_) 1 43 := ⟨by decide +kernel, rfl⟩
theorem d_M_join_0 : At prog_8_method_34_code 0 (.aload_n 0) 1 1 := ⟨by decide +kernel, rfl⟩
theorem d_M_join_1 : At prog_8_method_34_code 1 (.getfield 83) 3 4 := ⟨by decide +kernel, rfl⟩
theorem d_M_join_4 : At prog_8_method_34_code 4 (.bipush 6) 2 6 := ⟨by decide +kernel, rfl⟩
theorem d_M_join_6 : AtC prog_8_method_34_code 6 (.if_icmp .ne) 11 9 := ⟨5, by decide +kernel, by decide, rfl⟩
theorem d_M_join_9 : At prog_8_method_34_code 9 (.iconst (-1)) 1 10 := ⟨by decide +kernel, rfl⟩
theorem d_M_join_10 : At prog_8_method_34_code 10 (.ireturn) 1 11 := ⟨by decide +kernel, rfl⟩
theorem d_M_join_11 : At prog_8_method_34_code 11 (.aload_n 0) 1 12 := ⟨by decide +kernel, rfl⟩
theorem d_M_join_12 : At prog_8_method_34_code 12 (.getfield 83) 3 15 := ⟨by decide +kernel, rfl⟩
theorem d_M_join_15 : At prog_8_method_34_code 15 (.istore_n 1) 1 16 := ⟨by decide +kernel, rfl⟩
theorem d_M_join_16 : At prog_8_method_34_code 16 (.aload_n 0) 1 17 := ⟨by decide +kernel, rfl⟩
theorem d_M_join_17 : At prog_8_method_34_code 17 (.dup) 1 18 := ⟨by decide +kernel, rfl⟩
theorem d_M_join_18 : At prog_8_method_34_code 18 (.getfield 83) 3 21 := ⟨by decide +kernel, rfl⟩
theorem d_M_join_21 : At prog_8_method_34_code 21 (.iconst 1) 1 22 := ⟨by decide +kernel, rfl⟩
theorem d_M_join_22 : At prog_8_method_34_code 22 (.iadd) 1 23 := ⟨by decide +kernel, rfl⟩
theorem d_M_join_23 : At prog_8_method_34_code 23 (.putfield 83) 3 26 := ⟨by decide +kernel, rfl⟩
theorem d_M_join_26 : At prog_8_method_34_code 26 (.aload_n 0) 1 27 := ⟨by decide +kernel, rfl⟩
theorem d_M_join_27 : At prog_8_method_34_code 27 (.dup) 1 28 := ⟨by decide +kernel, rfl⟩
theorem d_M_join_28 : At prog_8_method_34_code 28 (.getfield 87) 3 31 := ⟨by decide +kernel, rfl⟩
theorem d_M_join_31 : At prog_8_method_34_code 31 (.iconst 1) 1 32 := ⟨by decide +kernel, rfl⟩
theorem d_M_join_32 : At prog_8_method_34_code 32 (.iadd) 1 33 := ⟨by decide +kernel, rfl⟩
theorem d_M_join_33 : At prog_8_method_34_code 33 (.putfield 87) 3 36 := ⟨by decide +kernel, rfl⟩
theorem d_M_join_36 : At prog_8_method_34_code 36 (.aload_n 0) 1 37 := ⟨by decide +kernel, rfl⟩
theorem d_M_join_37 : At prog_8_method_34_code 37 (.getfield 29) 3 40 := ⟨by decide +kernel, rfl⟩
theorem d_M_join_40 : At prog_8_method_34_code 40 (.aload_n 0) 1 41 := ⟨by decide +kernel, rfl⟩
theorem d_M_join_41 : At prog_8_method_34_code 41 (.getfield 87) 3 44 := ⟨by decide +kernel, rfl⟩
theorem d_M_join_44 : At prog_8_method_34_code 44 (.aload_n 0) 1 45 := ⟨by decide +kernel, rfl⟩
theorem d_M_join_45 : At prog_8_method_34_code 45 (.getfield 29) 3 48 := ⟨by decide +kernel, rfl⟩
theorem d_M_join_48 : At prog_8_method_34_code 48 (.aload_n 0) 1 49 := ⟨by decide +kernel, rfl⟩
theorem d_M_join_49 : At prog_8_method_34_code 49 (.getfield 87) 3 52 := ⟨by decide +kernel, rfl⟩
theorem d_M_join_52 : At prog_8_method_34_code 52 (.iconst 1) 1 53 := ⟨by decide +kernel, rfl⟩
theorem d_M_join_53 : At prog_8_method_34_code 53 (.isub) 1 54 := ⟨by decide +kernel, rfl⟩
theorem d_M_join_54 : At prog_8_method_34_code 54 (.iaload) 1 55 := ⟨by decide +kernel, rfl⟩
theorem d_M_join_55 : At prog_8_method_34_code 55 (.iconst 1) 1 56 := ⟨by decide +kernel, rfl⟩
theorem d_M_join_56 : At prog_8_method_34_code 56 (.iload_n 1) 1 57 := ⟨by decide +kernel, rfl⟩
theorem d_M_join_57 : At prog_8_method_34_code 57 (.ishl) 1 58 := ⟨by decide +kernel, rfl⟩
theorem d_M_join_58 : At prog_8_method_34_code 58 (.ior) 1 59 := ⟨by decide +kernel, rfl⟩
theorem d_M_join_59 : At prog_8_method_34_code 59 (.iastore) 1 60 := ⟨by decide +kernel, rfl⟩
theorem d_M_join_60 : At prog_8_method_34_code 60 (.aload_n 0) 1 61 := ⟨by decide +kernel, rfl⟩
theorem d_M_join_61 : At prog_8_method_34_code 61 (.getfield 7) 3 64 := ⟨by decide +kernel, rfl⟩
theorem d_M_join_64 : At prog_8_method_34_code 64 (.iload_n 1) 1 65 := ⟨by decide +kernel, rfl⟩
theorem d_M_join_65 : At prog_8_method_34_code 65 (.iconst 1) 1 66 := ⟨by decide +kernel, rfl⟩
theorem d_M_join_66 : At prog_8_method_34_code 66 (.bastore) 1 67 := ⟨by decide +kernel, rfl⟩
theorem d_M_join_67 : At prog_8_method_34_code 67 (.aload_n 0) 1 68 := ⟨by decide +kernel, rfl⟩
theorem d_M_join_68 : At prog_8_method_34_code 68 (.getfield 16) 3 71 := ⟨by decide +kernel, rfl⟩
theorem d_M_join_71 : At prog_8_method_34_code 71 (.iload_n 1) 1 72 := ⟨by decide +kernel, rfl⟩
theorem d_M_join_72 : At prog_8_method_34_code 72 (.aload_n 0) 1 73 := ⟨by decide +kernel, rfl⟩
theorem d_M_join_73 : At prog_8_method_34_code 73 (.getfield 87) 3 76 := ⟨by decide +kernel, rfl⟩
theorem d_M_join_76 : At prog_8_method_34_code 76 (.iastore) 1 77 := ⟨by decide +kernel, rfl⟩
theorem d_M_join_77 : At prog_8_method_34_code 77 (.iload_n 1) 1 78 := ⟨by decide +kernel, rfl⟩
theorem d_M_join_78 : At prog_8_method_34_code 78 (.ireturn) 1 79 := ⟨by decide +kernel, rfl⟩
theorem d_M_tick_0 : At prog_8_method_35_code 0 (.iconst 0) 1 1 := ⟨by decide +kernel, rfl⟩
theorem d_M_tick_1 : At prog_8_method_35_code 1 (.istore_n 1) 1 2 := ⟨by decide +kernel, rfl⟩
theorem d_M_tick_2 : At prog_8_method_35_code 2 (.iconst 0) 1 3 := ⟨by decide +kernel, rfl⟩
theorem d_M_tick_3 : At prog_8_method_35_code 3 (.istore_n 2) 1 4 := ⟨by decide +kernel, rfl⟩
theorem d_M_tick_4 : At prog_8_method_35_code 4 (.iload_n 2) 1 5 := ⟨by decide +kernel, rfl⟩
theorem d_M_tick_5 : At prog_8_method_35_code 5 (.bipush 6) 2 7 := ⟨by decide +kernel, rfl⟩
theorem d_M_tick_7 : AtC prog_8_method_35_code 7 (.if_icmp .ge) 67 10 := ⟨60, by decide +kernel, by decide, rfl⟩
theorem d_M_tick_10 : At prog_8_method_35_code 10 (.aload_n 0) 1 11 := ⟨by decide +kernel, rfl⟩
theorem d_M_tick_11 : At prog_8_method_35_code 11 (.aload_n 0) 1 12 := ⟨by decide +kernel, rfl⟩
theorem d_M_tick_12 : At prog_8_method_35_code 12 (.getfield 87) 3 15 := ⟨by decide +kernel, rfl⟩
theorem d_M_tick_15 : At prog_8_method_35_code 15 (.iload_n 2) 1 16 := ⟨by decide +kernel, rfl⟩
theorem d_M_tick_16 : At prog_8_method_35_code 16 (.invokevirtual 90) 3 19 := ⟨by decide +kernel, rfl⟩
theorem d_M_tick_19 : AtC prog_8_method_35_code 19 (.ifCond .eq) 61 22 := ⟨42, by decide +kernel, by decide, rfl⟩
theorem d_M_tick_22 : At prog_8_method_35_code 22 (.aload_n 0) 1 23 := ⟨by decide +kernel, rfl⟩
theorem d_M_tick_23 : At prog_8_method_35_code 23 (.getfield 7) 3 26 := ⟨by decide +kernel, rfl⟩
theorem d_M_tick_26 : At prog_8_method_35_code 26 (.iload_n 2) 1 27 := ⟨by decide +kernel, rfl⟩
theorem d_M_tick_27 : At prog_8_method_35_code 27 (.baload) 1 28 := ⟨by decide +kernel, rfl⟩
theorem d_M_tick_28 : AtC prog_8_method_35_code 28 (.ifCond .ne) 61 31 := ⟨33, by decide +kernel, by decide, rfl⟩
theorem d_M_tick_31 : At prog_8_method_35_code 31 (.aload_n 0) 1 32 := ⟨by decide +kernel, rfl⟩
theorem d_M_tick_32 : At prog_8_method_35_code 32 (.getfield 26) 3 35 := ⟨by decide +kernel, rfl⟩
theorem d_M_tick_35 : At prog_8_method_35_code 35 (.iload_n 2) 1 36 := ⟨by decide +kernel, rfl⟩
theorem d_M_tick_36 : At prog_8_method_35_code 36 (.dup2) 1 37 := ⟨by decide +kernel, rfl⟩
theorem d_M_tick_37 : At prog_8_method_35_code 37 (.iaload) 1 38 := ⟨by decide +kernel, rfl⟩
theorem d_M_tick_38 : At prog_8_method_35_code 38 (.iconst 1) 1 39 := ⟨by decide +kernel, rfl⟩
theorem d_M_tick_39 : At prog_8_method_35_code 39 (.iadd) 1 40 := ⟨by decide +kernel, rfl⟩
theorem d_M_tick_40 : At prog_8_method_35_code 40 (.iastore) 1 41 := ⟨by decide +kernel, rfl⟩
theorem d_M_tick_41 : At prog_8_method_35_code 41 (.aload_n 0) 1 42 := ⟨by decide +kernel, rfl⟩
theorem d_M_tick_42 : At prog_8_method_35_code 42 (.getfield 26) 3 45 := ⟨by decide +kernel, rfl⟩
theorem d_M_tick_45 : At prog_8_method_35_code 45 (.iload_n 2) 1 46 := ⟨by decide +kernel, rfl⟩
theorem d_M_tick_46 : At prog_8_method_35_code 46 (.iaload) 1 47 := ⟨by decide +kernel, rfl⟩
theorem d_M_tick_47 : At prog_8_method_35_code 47 (.iconst 3) 1 48 := ⟨by decide +kernel, rfl⟩
theorem d_M_tick_48 : AtC prog_8_method_35_code 48 (.if_icmp .lt) 59 51 := ⟨11, by decide +kernel, by decide, rfl⟩
theorem d_M_tick_51 : At prog_8_method_35_code 51 (.iload_n 1) 1 52 := ⟨by decide +kernel, rfl⟩
theorem d_M_tick_52 : At prog_8_method_35_code 52 (.iconst 1) 1 53 := ⟨by decide +kernel, rfl⟩
theorem d_M_tick_53 : At prog_8_method_35_code 53 (.iload_n 2) 1 54 := ⟨by decide +kernel, rfl⟩
theorem d_M_tick_54 : At prog_8_method_35_code 54 (.ishl) 1 55 := ⟨by decide +kernel, rfl⟩
theorem d_M_tick_55 : At prog_8_method_35_code 55 (.ior) 1 56 := ⟨by decide +kernel, rfl⟩
theorem d_M_tick_56 : AtC prog_8_method_35_code 56 .goto 60 59 := ⟨4, by decide +kernel, by decide, rfl⟩
theorem d_M_tick_59 : At prog_8_method_35_code 59 (.iload_n 1) 1 60 := ⟨by decide +kernel, rfl⟩
theorem d_M_tick_60 : At prog_8_method_35_code 60 (.istore_n 1) 1 61 := ⟨by decide +kernel, rfl⟩
theorem d_M_tick_61 : At prog_8_method_35_code 61 (.iinc 2 1) 3 64 := ⟨by decide +kernel, rfl⟩
theorem d_M_tick_64 : AtC prog_8_method_35_code 64 .goto 4 67 := ⟨-60, by decide +kernel, by decide, rfl⟩
theorem d_M_tick_67 : At prog_8_method_35_code 67 (.iload_n 1) 1 68 := ⟨by decide +kernel, rfl⟩
theorem d_M_tick_68 : AtC prog_8_method_35_code 68 (.ifCond .eq) 105 71 := ⟨37, by decide +kernel, by decide, rfl⟩
theorem d_M_tick_71 : At prog_8_method_35_code 71 (.aload_n 0) 1 72 := ⟨by decide +kernel, rfl⟩
theorem d_M_tick_72 : At prog_8_method_35_code 72 (.dup) 1 73 := ⟨by decide +kernel, rfl⟩
theorem d_M_tick_73 : At prog_8_method_35_code 73 (.getfield 87) 3 76 := ⟨by decide +kernel, rfl⟩
theorem d_M_tick_76 : At prog_8_method_35_code 76 (.iconst 1) 1 77 := ⟨by decide +kernel, rfl⟩
theorem d_M_tick_77 : At prog_8_method_35_code 77 (.iadd) 1 78 := ⟨by decide +kernel, rfl⟩
theorem d_M_tick_78 : At prog_8_method_35_code 78 (.putfield 87) 3 81 := ⟨by decide +kernel, rfl⟩
theorem d_M_tick_81 : At prog_8_method_35_code 81 (.aload_n 0) 1 82 := ⟨by decide +kernel, rfl⟩
theorem d_M_tick_82 : At prog_8_method_35_code 82 (.getfield 29) 3 85 := ⟨by decide +kernel, rfl⟩
theorem d_M_tick_85 : At prog_8_method_35_code 85 (.aload_n 0) 1 86 := ⟨by decide +kernel, rfl⟩
theorem d_M_tick_86 : At prog_8_method_35_code 86 (.getfield 87) 3 89 := ⟨by decide +kernel, rfl⟩
theorem d_M_tick_89 : At prog_8_method_35_code 89 (.aload_n 0) 1 90 := ⟨by decide +kernel, rfl⟩
theorem d_M_tick_90 : At prog_8_method_35_code 90 (.getfield 29) 3 93 := ⟨by decide +kernel, rfl⟩
theorem d_M_tick_93 : At prog_8_method_35_code 93 (.aload_n 0) 1 94 := ⟨by decide +kernel, rfl⟩
theorem d_M_tick_94 : At prog_8_method_35_code 94 (.getfield 87) 3 97 := ⟨by decide +kernel, rfl⟩
theorem d_M_tick_97 : At prog_8_method_35_code 97 (.iconst 1) 1 98 := ⟨by decide +kernel, rfl⟩
theorem d_M_tick_98 : At prog_8_method_35_code 98 (.isub) 1 99 := ⟨by decide +kernel, rfl⟩
theorem d_M_tick_99 : At prog_8_method_35_code 99 (.iaload) 1 100 := ⟨by decide +kernel, rfl⟩
theorem d_M_tick_100 : At prog_8_method_35_code 100 (.iload_n 1) 1 101 := ⟨by decide +kernel, rfl⟩
theorem d_M_tick_101 : At prog_8_method_35_code 101 (.iconst (-1)) 1 102 := ⟨by decide +kernel, rfl⟩
theorem d_M_tick_102 : At prog_8_method_35_code 102 (.ixor) 1 103 := ⟨by decide +kernel, rfl⟩
theorem d_M_tick_103 : At prog_8_method_35_code 103 (.iand) 1 104 := ⟨by decide +kernel, rfl⟩
theorem d_M_tick_104 : At prog_8_method_35_code 104 (.iastore) 1 105 := ⟨by decide +kernel, rfl⟩
theorem d_M_tick_105 : At prog_8_method_35_code 105 (.aload_n 0) 1 106 := ⟨by decide +kernel, rfl⟩
theorem d_M_tick_106 : At prog_8_method_35_code 106 (.getfield 87) 3 109 := ⟨by decide +kernel, rfl⟩
theorem d_M_tick_109 : At prog_8_method_35_code 109 (.ireturn) 1 110 := ⟨by decide +kernel, rfl⟩
theorem d_M_adopt_0 : At prog_8_method_36_code 0 (.iload_n 1) 1 1 := ⟨by decide +kernel, rfl⟩
theorem d_M_adopt_1 : At prog_8_method_36_code 1 (.iconst 5) 1 2 := ⟨by decide +kernel, rfl⟩
theorem d_M_adopt_2 : At prog_8_method_36_code 2 (.invokestatic 94) 3 5 := ⟨by decide +kernel, rfl⟩
theorem d_M_adopt_5 : AtC prog_8_method_36_code 5 (.ifCond .ne) 30 8 := ⟨25, by decide +kernel, by decide, rfl⟩
theorem d_M_adopt_8 : At prog_8_method_36_code 8 (.aload_n 0) 1 9 := ⟨by decide +kernel, rfl⟩
theorem d_M_adopt_9 : At prog_8_method_36_code 9 (.getfield 7) 3 12 := ⟨by decide +kernel, rfl⟩
theorem d_M_adopt_12 : At prog_8_method_36_code 12 (.iload_n 1) 1 13 := ⟨by decide +kernel, rfl⟩
theorem d_M_adopt_13 : At prog_8_method_36_code 13 (.baload) 1 14 := ⟨by decide +kernel, rfl⟩
theorem d_M_adopt_14 : AtC prog_8_method_36_code 14 (.ifCond .eq) 30 17 := ⟨16, by decide +kernel, by decide, rfl⟩
theorem d_M_adopt_17 : At prog_8_method_36_code 17 (.aload_n 0) 1 18 := ⟨by decide +kernel, rfl⟩
theorem d_M_adopt_18 : At prog_8_method_36_code 18 (.getfield 16) 3 21 := ⟨by decide +kernel, rfl⟩
theorem d_M_adopt_21 : At prog_8_method_36_code 21 (.iload_n 1) 1 22 := ⟨by decide +kernel, rfl⟩
theorem d_M_adopt_22 : At prog_8_method_36_code 22 (.iaload) 1 23 := ⟨by decide +kernel, rfl⟩
theorem d_M_adopt_23 : At prog_8_method_36_code 23 (.aload_n 0) 1 24 := ⟨by decide +kernel, rfl⟩
theorem d_M_adopt_24 : At prog_8_method_36_code 24 (.getfield 87) 3 27 := ⟨by decide +kernel, rfl⟩
theorem d_M_adopt_27 : AtC prog_8_method_36_code 27 (.if_icmp .ne) 32 30 := ⟨5, by decide +kernel, by decide, rfl⟩
theorem d_M_adopt_30 : At prog_8_method_36_code 30 (.iconst 0) 1 31 := ⟨by decide +kernel, rfl⟩
theorem d_M_adopt_31 : At prog_8_method_36_code 31 (.ireturn) 1 32 := ⟨by decide +kernel, rfl⟩
theorem d_M_adopt_32 : At prog_8_method_36_code 32 (.aload_n 0) 1 33 := ⟨by decide +kernel, rfl⟩
theorem d_M_adopt_33 : At prog_8_method_36_code 33 (.getfield 16) 3 36 := ⟨by decide +kernel, rfl⟩
theorem d_M_adopt_36 : At prog_8_method_36_code 36 (.iload_n 1) 1 37 := ⟨by decide +kernel, rfl⟩
theorem d_M_adopt_37 : At prog_8_method_36_code 37 (.aload_n 0) 1 38 := ⟨by decide +kernel, rfl⟩
theorem d_M_adopt_38 : At prog_8_method_36_code 38 (.getfield 87) 3 41 := ⟨by decide +kernel, rfl⟩
theorem d_M_adopt_41 : At prog_8_method_36_code 41 (.iastore) 1 42 := ⟨by decide +kernel, rfl⟩
theorem d_M_adopt_42 : At prog_8_method_36_code 42 (.aload_n 0) 1 43 := ⟨by decide +kernel, rfl⟩
theorem d_M_adopt_43 : At prog_8_method_36_code 43 (.iload_n 1) 1 44 := ⟨by decide +kernel, rfl⟩
theorem d_M_adopt_44 : At prog_8_method_36_code 44 (.aload_n 0) 1 45 := ⟨by decide +kernel, rfl⟩
theorem d_M_adopt_45 : At prog_8_method_36_code 45 (.getfield 87) 3 48 := ⟨by decide +kernel, rfl⟩
theorem d_M_adopt_48 : At prog_8_method_36_code 48 (.invokevirtual 167) 3 51 := ⟨by decide +kernel, rfl⟩
theorem d_M_adopt_51 : At prog_8_method_36_code 51 (.aload_n 0) 1 52 := ⟨by decide +kernel, rfl⟩
theorem d_M_adopt_52 : At prog_8_method_36_code 52 (.getfield 13) 3 55 := ⟨by decide +kernel, rfl⟩
theorem d_M_adopt_55 : At prog_8_method_36_code 55 (.iload_n 1) 1 56 := ⟨by decide +kernel, rfl⟩
theorem d_M_adopt_56 : At prog_8_method_36_code 56 (.baload) 1 57 := ⟨by decide +kernel, rfl⟩
theorem d_M_adopt_57 : AtC prog_8_method_36_code 57 (.ifCond .ne) 62 60 := ⟨5, by decide +kernel, by decide, rfl⟩
theorem d_M_adopt_60 : At prog_8_method_36_code 60 (.iconst 1) 1 61 := ⟨by decide +kernel, rfl⟩
theorem d_M_adopt_61 : At prog_8_method_36_code 61 (.ireturn) 1 62 := ⟨by decide +kernel, rfl⟩
theorem d_M_adopt_62 : At prog_8_method_36_code 62 (.aload_n 0) 1 63 := ⟨by decide +kernel, rfl⟩
theorem d_M_adopt_63 : At prog_8_method_36_code 63 (.iload_n 1) 1 64 := ⟨by decide +kernel, rfl⟩
theorem d_M_adopt_64 : At prog_8_method_36_code 64 (.invokevirtual 104) 3 67 := ⟨by decide +kernel, rfl⟩
theorem d_M_adopt_67 : AtC prog_8_method_36_code 67 (.ifCond .ge) 78 70 := ⟨11, by decide +kernel, by decide, rfl⟩
theorem d_M_adopt_70 : At prog_8_method_36_code 70 (.aload_n 0) 1 71 := ⟨by decide +kernel, rfl⟩
theorem d_M_adopt_71 : At prog_8_method_36_code 71 (.iload_n 1) 1 72 := ⟨by decide +kernel, rfl⟩
theorem d_M_adopt_72 : At prog_8_method_36_code 72 (.invokevirtual 108) 3 75 := ⟨by decide +kernel, rfl⟩
theorem d_M_adopt_75 : AtC prog_8_method_36_code 75 .goto 101 78 := ⟨26, by decide +kernel, by decide, rfl⟩
theorem d_M_adopt_78 : At prog_8_method_36_code 78 (.aload_n 0) 1 79 := ⟨by decide +kernel, rfl⟩
theorem d_M_adopt_79 : At prog_8_method_36_code 79 (.iload_n 1) 1 80 := ⟨by decide +kernel, rfl⟩
theorem d_M_adopt_80 : At prog_8_method_36_code 80 (.aload_n 0) 1 81 := ⟨by decide +kernel, rfl⟩
theorem d_M_adopt_81 : At prog_8_method_36_code 81 (.iload_n 1) 1 82 := ⟨by decide +kernel, rfl⟩
theorem d_M_adopt_82 : At prog_8_method_36_code 82 (.invokevirtual 104) 3 85 := ⟨by decide +kernel, rfl⟩
theorem d_M_adopt_85 : At prog_8_method_36_code 85 (.iconst 5) 1 86 := ⟨by decide +kernel, rfl⟩
theorem d_M_adopt_86 : At prog_8_method_36_code 86 (.aload_n 0) 1 87 := ⟨by decide +kernel, rfl⟩
theorem d_M_adopt_87 : At prog_8_method_36_code 87 (.getfield 20) 3 90 := ⟨by decide +kernel, rfl⟩
theorem d_M_adopt_90 : At prog_8_method_36_code 90 (.iload_n 1) 1 91 := ⟨by decide +kernel, rfl⟩
theorem d_M_adopt_91 : At prog_8_method_36_code 91 (.iaload) 1 92 := ⟨by decide +kernel, rfl⟩
theorem d_M_adopt_92 : At prog_8_method_36_code 92 (.aload_n 0) 1 93 := ⟨by decide +kernel, rfl⟩
theorem d_M_adopt_93 : At prog_8_method_36_code 93 (.getfield 23) 3 96 := ⟨by decide +kernel, rfl⟩
theorem d_M_adopt_96 : At prog_8_method_36_code 96 (.iload_n 1) 1 97 := ⟨by decide +kernel, rfl⟩
theorem d_M_adopt_97 : At prog_8_method_36_code 97 (.iaload) 1 98 := ⟨by decide +kernel, rfl⟩
theorem d_M_adopt_98 : At prog_8_method_36_code 98 (.invokevirtual 114) 3 101 := ⟨by decide +kernel, rfl⟩
theorem d_M_adopt_101 : At prog_8_method_36_code 101 (.aload_n 0) 1 102 := ⟨by decide +kernel, rfl⟩
theorem d_M_adopt_102 : At prog_8_method_36_code 102 (.iload_n 1) 1 103 := ⟨by decide +kernel, rfl⟩
theorem d_M_adopt_103 : At prog_8_method_36_code 103 (.aload_n 0) 1 104 := ⟨by decide +kernel, rfl⟩
theorem d_M_adopt_104 : At prog_8_method_36_code 104 (.iload_n 1) 1 105 := ⟨by decide +kernel, rfl⟩
theorem d_M_adopt_105 : At prog_8_method_36_code 105 (.invokevirtual 111) 3 108 := ⟨by decide +kernel, rfl⟩
theorem d_M_adopt_108 : At prog_8_method_36_code 108 (.iconst 2) 1 109 := ⟨by decide +kernel, rfl⟩
theorem d_M_adopt_109 : At prog_8_method_36_code 109 (.aload_n 0) 1 110 := ⟨by decide +kernel, rfl⟩
theorem d_M_adopt_110 : At prog_8_method_36_code 110 (.getfield 23) 3 113 := ⟨by decide +kernel, rfl⟩
theorem d_M_adopt_113 : At prog_8_method_36_code 113 (.iload_n 1) 1 114 := ⟨by decide +kernel, rfl⟩
theorem d_M_adopt_114 : At prog_8_method_36_code 114 (.iaload) 1 115 := ⟨by decide +kernel, rfl⟩
theorem d_M_adopt_115 : At prog_8_method_36_code 115 (.iconst 0) 1 116 := ⟨by decide +kernel, rfl⟩
theorem d_M_adopt_116 : At prog_8_method_36_code 116 (.invokevirtual 114) 3 119 := ⟨by decide +kernel, rfl⟩
theorem d_M_adopt_119 : At prog_8_method_36_code 119 (.iconst 0) 1 120 := ⟨by decide +kernel, rfl⟩
theorem d_M_adopt_120 : At prog_8_method_36_code 120 (.istore_n 2) 1 121 := ⟨by decide +kernel, rfl⟩
theorem d_M_adopt_121 : At prog_8_method_36_code 121 (.iload_n 2) 1 122 := ⟨by decide +kernel, rfl⟩
theorem d_M_adopt_122 : At prog_8_method_36_code 122 (.iconst 3) 1 123 := ⟨by decide +kernel, rfl⟩
theorem d_M_adopt_123 : AtC prog_8_method_36_code 123 (.if_icmp .ge) 159 126 := ⟨36, by decide +kernel, by decide, rfl⟩
theorem d_M_adopt_126 : At prog_8_method_36_code 126 (.aload_n 0) 1 127 := ⟨by decide +kernel, rfl⟩
theorem d_M_adopt_127 : At prog_8_method_36_code 127 (.getfield 44) 3 130 := ⟨by decide +kernel, rfl⟩
theorem d_M_adopt_130 : At prog_8_method_36_code 130 (.iload_n 2) 1 131 := ⟨by decide +kernel, rfl⟩
theorem d_M_adopt_131 : At prog_8_method_36_code 131 (.iaload) 1 132 := ⟨by decide +kernel, rfl⟩
theorem d_M_adopt_132 : At prog_8_method_36_code 132 (.iconst 3) 1 133 := ⟨by decide +kernel, rfl⟩
theorem d_M_adopt_133 : AtC prog_8_method_36_code 133 (.if_icmp .ne) 153 136 := ⟨20, by decide +kernel, by decide, rfl⟩
theorem d_M_adopt_136 : At prog_8_method_36_code 136 (.aload_n 0) 1 137 := ⟨by decide +kernel, rfl⟩
theorem d_M_adopt_137 : At prog_8_method_36_code 137 (.getfield 56) 3 140 := ⟨by decide +kernel, rfl⟩
theorem d_M_adopt_140 : At prog_8_method_36_code 140 (.iload_n 2) 1 141 := ⟨by decide +kernel, rfl⟩
theorem d_M_adopt_141 : At prog_8_method_36_code 141 (.iaload) 1 142 := ⟨by decide +kernel, rfl⟩
theorem d_M_adopt_142 : At prog_8_method_36_code 142 (.iload_n 1) 1 143 := ⟨by decide +kernel, rfl⟩
theorem d_M_adopt_143 : AtC prog_8_method_36_code 143 (.if_icmp .ne) 153 146 := ⟨10, by decide +kernel, by decide, rfl⟩
theorem d_M_adopt_146 : At prog_8_method_36_code 146 (.aload_n 0) 1 147 := ⟨by decide +kernel, rfl⟩
theorem d_M_adopt_147 : At prog_8_method_36_code 147 (.iload_n 2) 1 148 := ⟨by decide +kernel, rfl⟩
theorem d_M_adopt_148 : At prog_8_method_36_code 148 (.iload_n 1) 1 149 := ⟨by decide +kernel, rfl⟩
theorem d_M_adopt_149 : At prog_8_method_36_code 149 (.invokevirtual 151) 3 152 := ⟨by decide +kernel, rfl⟩
theorem d_M_adopt_152 : At prog_8_method_36_code 152 (.istore_n 3) 1 153 := ⟨by decide +kernel, rfl⟩
theorem d_M_adopt_153 : At prog_8_method_36_code 153 (.iinc 2 1) 3 156 := ⟨by decide +kernel, rfl⟩
theorem d_M_adopt_156 : AtC prog_8_method_36_code 156 .goto 121 159 := ⟨-35, by decide +kernel, by decide, rfl⟩
theorem d_M_adopt_159 : At prog_8_method_36_code 159 (.iconst 1) 1 160 := ⟨by decide +kernel, rfl⟩
theorem d_M_adopt_160 : At prog_8_method_36_code 160 (.ireturn) 1 161 := ⟨by decide +kernel, rfl⟩
theorem d_M_member_0 : At prog_8_method_37_code 0 (.iload_n 1) 1 1 := ⟨by decide +kernel, rfl⟩
theorem d_M_member_1 : AtC prog_8_method_37_code 1 (.ifCond .ge) 6 4 := ⟨5, by decide +kernel, by decide, rfl⟩
theorem d_M_member_4 : At prog_8_method_37_code 4 (.iconst (-1)) 1 5 := ⟨by decide +kernel, rfl⟩
theorem d_M_member_5 : At prog_8_method_37_code 5 (.ireturn) 1 6 := ⟨by decide +kernel, rfl⟩
theorem d_M_member_6 : At prog_8_method_37_code 6 (.iload_n 1) 1 7 := ⟨by decide +kernel, rfl⟩
theorem d_M_member_7 : At prog_8_method_37_code 7 (.istore_n 2) 1 8 := ⟨by decide +kernel, rfl⟩
theorem d_M_member_8 : At prog_8_method_37_code 8 (.iconst 0) 1 9 := ⟨by decide +kernel, rfl⟩
theorem d_M_member_9 : At prog_8_method_37_code 9 (.istore_n 3) 1 10 := ⟨by decide +kernel, rfl⟩
theorem d_M_member_10 : At prog_8_method_37_code 10 (.iload_n 3) 1 11 := ⟨by decide +kernel, rfl⟩
theorem d_M_member_11 : At prog_8_method_37_code 11 (.bipush 6) 2 13 := ⟨by decide +kernel, rfl⟩
theorem d_M_member_13 : AtC prog_8_method_37_code 13 (.if_icmp .ge) 43 16 := ⟨30, by decide +kernel, by decide, rfl⟩
theorem d_M_member_16 : At prog_8_method_37_code 16 (.aload_n 0) 1 17 := ⟨by decide +kernel, rfl⟩
theorem d_M_member_17 : At prog_8_method_37_code 17 (.aload_n 0) 1 18 := ⟨by decide +kernel, rfl⟩
theorem d_M_member_18 : At prog_8_method_37_code 18 (.getfield 87) 3 21 := ⟨by decide +kernel, rfl⟩
theorem d_M_member_21 : At prog_8_method_37_code 21 (.iload_n 3) 1 22 := ⟨by decide +kernel, rfl⟩
theorem d_M_member_22 : At prog_8_method_37_code 22 (.invokevirtual 90) 3 25 := ⟨by decide +kernel, rfl⟩
theorem d_M_member_25 : AtC prog_8_method_37_code 25 (.ifCond .eq) 37 28 := ⟨12, by decide +kernel, by decide, rfl⟩
theorem d_M_member_28 : At prog_8_method_37_code 28 (.iload_n 2) 1 29 := ⟨by decide +kernel, rfl⟩
theorem d_M_member_29 : AtC prog_8_method_37_code 29 (.ifCond .ne) 34 32 := ⟨5, by decide +kernel, by decide, rfl⟩
theorem d_M_member_32 : At prog_8_method_37_code 32 (.iload_n 3) 1 33 := ⟨by decide +kernel, rfl⟩
theorem d_M_member_33 : At prog_8_method_37_code 33 (.ireturn) 1 34 := ⟨by decide +kernel, rfl⟩
theorem d_M_member_34 : At prog_8_method_37_code 34 (.iinc 2 (-1)) 3 37 := ⟨by decide +kernel, rfl⟩
theorem d_M_member_37 : At prog_8_method_37_code 37 (.iinc 3 1) 3 40 := ⟨by decide +kernel, rfl⟩
theorem d_M_member_40 : AtC prog_8_method_37_code 40 .goto 10 43 := ⟨-30, by decide +kernel, by decide, rfl⟩
theorem d_M_member_43 : At prog_8_method_37_code 43 (.iconst (-1)) 1 44 := ⟨by decide +kernel, rfl⟩
theorem d_M_member_44 : At prog_8_method_37_code 44 (.ireturn) 1 45 := ⟨by decide +kernel, rfl⟩
theorem d_M_epoch_0 : At prog_8_method_38_code 0 (.iload_n 1) 1 1 := ⟨by decide +kernel, rfl⟩
theorem d_M_epoch_1 : At prog_8_method_38_code 1 (.iconst 5) 1 2 := ⟨by decide +kernel, rfl⟩
theorem d_M_epoch_2 : At prog_8_method_38_code 2 (.invokestatic 94) 3 5 := ⟨by decide +kernel, rfl⟩
theorem d_M_epoch_5 : AtC prog_8_method_38_code 5 (.ifCond .ne) 17 8 := ⟨12, by decide +kernel, by decide, rfl⟩
theorem d_M_epoch_8 : At prog_8_method_38_code 8 (.aload_n 0) 1 9 := ⟨by decide +kernel, rfl⟩
theorem d_M_epoch_9 : At prog_8_method_38_code 9 (.getfield 7) 3 12 := ⟨by decide +kernel, rfl⟩
theorem d_M_epoch_12 : At prog_8_method_38_code 12 (.iload_n 1) 1 13 := ⟨by decide +kernel, rfl⟩
theorem d_M_epoch_13 : At prog_8_method_38_code 13 (.baload) 1 14 := ⟨by decide +kernel, rfl⟩
theorem d_M_epoch_14 : AtC prog_8_method_38_code 14 (.ifCond .ne) 21 17 := ⟨7, by decide +kernel, by decide, rfl⟩
theorem d_M_epoch_17 : At prog_8_method_38_code 17 (.iconst (-1)) 1 18 := ⟨by decide +kernel, rfl⟩
theorem d_M_epoch_18 : AtC prog_8_method_38_code 18 .goto 27 21 := ⟨9, by decide +kernel, by decide, rfl⟩
theorem d_M_epoch_21 : At prog_8_method_38_code 21 (.aload_n 0) 1 22 := ⟨by decide +kernel, rfl⟩
theorem d_M_epoch_22 : At prog_8_method_38_code 22 (.getfield 16) 3 25 := ⟨by decide +kernel, rfl⟩
theorem d_M_epoch_25 : At prog_8_method_38_code 25 (.iload_n 1) 1 26 := ⟨by decide +kernel, rfl⟩
theorem d_M_epoch_26 : At prog_8_method_38_code 26 (.iaload) 1 27 := ⟨by decide +kernel, rfl⟩
theorem d_M_epoch_27 : At prog_8_method_38_code 27 (.ireturn) 1 28 := ⟨by decide +kernel, rfl⟩
theorem d_M_length_0 : At prog_8_method_39_code 0 (.aload_n 0) 1 1 := ⟨by decide +kernel, rfl⟩
theorem d_M_length_1 : At prog_8_method_39_code 1 (.iload_n 1) 1 2 := ⟨by decide +kernel, rfl⟩
theorem d_M_length_2 : At prog_8_method_39_code 2 (.invokevirtual 147) 3 5 := ⟨by decide +kernel, rfl⟩
theorem d_M_length_5 : AtC prog_8_method_39_code 5 (.ifCond .eq) 17 8 := ⟨12, by decide +kernel, by decide, rfl⟩
theorem d_M_length_8 : At prog_8_method_39_code 8 (.aload_n 0) 1 9 := ⟨by decide +kernel, rfl⟩
theorem d_M_length_9 : At prog_8_method_39_code 9 (.getfield 20) 3 12 := ⟨by decide +kernel, rfl⟩
theorem d_M_length_12 : At prog_8_method_39_code 12 (.iload_n 1) 1 13 := ⟨by decide +kernel, rfl⟩
theorem d_M_length_13 : At prog_8_method_39_code 13 (.iaload) 1 14 := ⟨by decide +kernel, rfl⟩
theorem d_M_length_14 : AtC prog_8_method_39_code 14 .goto 18 17 := ⟨4, by decide +kernel, by decide, rfl⟩
theorem d_M_length_17 : At prog_8_method_39_code 17 (.iconst (-1)) 1 18 := ⟨by decide +kernel, rfl⟩
theorem d_M_length_18 : At prog_8_method_39_code 18 (.ireturn) 1 19 := ⟨by decide +kernel, rfl⟩
theorem d_M_settled_0 : At prog_8_method_40_code 0 (.aload_n 0) 1 1 := ⟨by decide +kernel, rfl⟩
theorem d_M_settled_1 : At prog_8_method_40_code 1 (.iload_n 1) 1 2 := ⟨by decide +kernel, rfl⟩
theorem d_M_settled_2 : At prog_8_method_40_code 2 (.invokevirtual 147) 3 5 := ⟨by decide +kernel, rfl⟩
theorem d_M_settled_5 : AtC prog_8_method_40_code 5 (.ifCond .eq) 17 8 := ⟨12, by decide +kernel, by decide, rfl⟩
theorem d_M_settled_8 : At prog_8_method_40_code 8 (.aload_n 0) 1 9 := ⟨by decide +kernel, rfl⟩
theorem d_M_settled_9 : At prog_8_method_40_code 9 (.getfield 23) 3 12 := ⟨by decide +kernel, rfl⟩
theorem d_M_settled_12 : At prog_8_method_40_code 12 (.iload_n 1) 1 13 := ⟨by decide +kernel, rfl⟩
theorem d_M_settled_13 : At prog_8_method_40_code 13 (.iaload) 1 14 := ⟨by decide +kernel, rfl⟩
theorem d_M_settled_14 : AtC prog_8_method_40_code 14 .goto 18 17 := ⟨4, by decide +kernel, by decide, rfl⟩
theorem d_M_settled_17 : At prog_8_method_40_code 17 (.iconst (-1)) 1 18 := ⟨by decide +kernel, rfl⟩
theorem d_M_settled_18 : At prog_8_method_40_code 18 (.ireturn) 1 19 := ⟨by decide +kernel, rfl⟩
theorem d_M_version_0 : At prog_8_method_41_code 0 (.aload_n 0) 1 1 := ⟨by decide +kernel, rfl⟩
theorem d_M_version_1 : At prog_8_method_41_code 1 (.iload_n 1) 1 2 := ⟨by decide +kernel, rfl⟩
theorem d_M_version_2 : At prog_8_method_41_code 2 (.invokevirtual 147) 3 5 := ⟨by decide +kernel, rfl⟩
theorem d_M_version_5 : AtC prog_8_method_41_code 5 (.ifCond .eq) 20 8 := ⟨15, by decide +kernel, by decide, rfl⟩
theorem d_M_version_8 : At prog_8_method_41_code 8 (.iload_n 2) 1 9 := ⟨by decide +kernel, rfl⟩
theorem d_M_version_9 : At prog_8_method_41_code 9 (.iconst 3) 1 10 := ⟨by decide +kernel, rfl⟩
theorem d_M_version_10 : At prog_8_method_41_code 10 (.invokestatic 94) 3 13 := ⟨by decide +kernel, rfl⟩
theorem d_M_version_13 : AtC prog_8_method_41_code 13 (.ifCond .ne) 20 16 := ⟨7, by decide +kernel, by decide, rfl⟩
theorem d_M_version_16 : At prog_8_method_41_code 16 (.iload_n 3) 1 17 := ⟨by decide +kernel, rfl⟩
theorem d_M_version_17 : AtC prog_8_method_41_code 17 (.ifCond .ge) 22 20 := ⟨5, by decide +kernel, by decide, rfl⟩
theorem d_M_version_20 : At prog_8_method_41_code 20 (.iconst (-1)) 1 21 := ⟨by decide +kernel, rfl⟩
theorem d_M_version_21 : At prog_8_method_41_code 21 (.ireturn) 1 22 := ⟨by decide +kernel, rfl⟩
theorem d_M_version_22 : At prog_8_method_41_code 22 (.aload_n 0) 1 23 := ⟨by decide +kernel, rfl⟩
theorem d_M_version_23 : At prog_8_method_41_code 23 (.iload_n 1) 1 24 := ⟨by decide +kernel, rfl⟩
theorem d_M_version_24 : At prog_8_method_41_code 24 (.iload_n 2) 1 25 := ⟨by decide +kernel, rfl⟩
theorem d_M_version_25 : At prog_8_method_41_code 25 (.invokevirtual 128) 3 28 := ⟨by decide +kernel, rfl⟩
theorem d_M_version_28 : At prog_8_method_41_code 28 (.istore 4) 2 30 := ⟨by decide +kernel, rfl⟩
theorem d_M_version_30 : At prog_8_method_41_code 30 (.iload_n 3) 1 31 := ⟨by decide +kernel, rfl⟩
theorem d_M_version_31 : At prog_8_method_41_code 31 (.istore 5) 2 33 := ⟨by decide +kernel, rfl⟩
theorem d_M_version_33 : At prog_8_method_41_code 33 (.aload_n 0) 1 34 := ⟨by decide +kernel, rfl⟩
theorem d_M_version_34 : At prog_8_method_41_code 34 (.getfield 23) 3 37 := ⟨by decide +kernel, rfl⟩
theorem d_M_version_37 : At prog_8_method_41_code 37 (.iload_n 1) 1 38 := ⟨by decide +kernel, rfl⟩
theorem d_M_version_38 : At prog_8_method_41_code 38 (.iaload) 1 39 := ⟨by decide +kernel, rfl⟩
theorem d_M_version_39 : At prog_8_method_41_code 39 (.iconst 1) 1 40 := ⟨by decide +kernel, rfl⟩
theorem d_M_version_40 : At prog_8_method_41_code 40 (.iadd) 1 41 := ⟨by decide +kernel, rfl⟩
theorem d_M_version_41 : At prog_8_method_41_code 41 (.istore 6) 2 43 := ⟨by decide +kernel, rfl⟩
theorem d_M_version_43 : At prog_8_method_41_code 43 (.iload 6) 2 45 := ⟨by decide +kernel, rfl⟩
theorem d_M_version_45 : At prog_8_method_41_code 45 (.aload_n 0) 1 46 := ⟨by decide +kernel, rfl⟩
theorem d_M_version_46 : At prog_8_method_41_code 46 (.getfield 20) 3 49 := ⟨by decide +kernel, rfl⟩
theorem d_M_version_49 : At prog_8_method_41_code 49 (.iload_n 1) 1 50 := ⟨by decide +kernel, rfl⟩
theorem d_M_version_50 : At prog_8_method_41_code 50 (.iaload) 1 51 := ⟨by decide +kernel, rfl⟩
theorem d_M_version_51 : AtC prog_8_method_41_code 51 (.if_icmp .gt) 89 54 := ⟨38, by decide +kernel, by decide, rfl⟩
theorem d_M_version_54 : At prog_8_method_41_code 54 (.iload 5) 2 56 := ⟨by decide +kernel, rfl⟩
theorem d_M_version_56 : AtC prog_8_method_41_code 56 (.ifCond .le) 89 59 := ⟨33, by decide +kernel, by decide, rfl⟩
theorem d_M_version_59 : At prog_8_method_41_code 59 (.aload_n 0) 1 60 := ⟨by decide +kernel, rfl⟩
theorem d_M_version_60 : At prog_8_method_41_code 60 (.getfield 32) 3 63 := ⟨by decide +kernel, rfl⟩
theorem d_M_version_63 : At prog_8_method_41_code 63 (.sipush 128) 3 66 := ⟨by decide +kernel, rfl⟩
theorem d_M_version_66 : At prog_8_method_41_code 66 (.iload_n 1) 1 67 := ⟨by decide +kernel, rfl⟩
theorem d_M_version_67 : At prog_8_method_41_code 67 (.imul) 1 68 := ⟨by decide +kernel, rfl⟩
theorem d_M_version_68 : At prog_8_method_41_code 68 (.iload 6) 2 70 := ⟨by decide +kernel, rfl⟩
theorem d_M_version_70 : At prog_8_method_41_code 70 (.iadd) 1 71 := ⟨by decide +kernel, rfl⟩
theorem d_M_version_71 : At prog_8_method_41_code 71 (.iaload) 1 72 := ⟨by decide +kernel, rfl⟩
theorem d_M_version_72 : At prog_8_method_41_code 72 (.iload_n 2) 1 73 := ⟨by decide +kernel, rfl⟩
theorem d_M_version_73 : AtC prog_8_method_41_code 73 (.if_icmp .ne) 83 76 := ⟨10, by decide +kernel, by decide, rfl⟩
theorem d_M_version_76 : At prog_8_method_41_code 76 (.iload 6) 2 78 := ⟨by decide +kernel, rfl⟩
theorem d_M_version_78 : At prog_8_method_41_code 78 (.istore 4) 2 80 := ⟨by decide +kernel, rfl⟩
theorem d_M_version_80 : At prog_8_method_41_code 80 (.iinc 5 (-1)) 3 83 := ⟨by decide +kernel, rfl⟩
theorem d_M_version_83 : At prog_8_method_41_code 83 (.iinc 6 1) 3 86 := ⟨by decide +kernel, rfl⟩
theorem d_M_version_86 : AtC prog_8_method_41_code 86 .goto 43 89 := ⟨-43, by decide +kernel, by decide, rfl⟩
theorem d_M_version_89 : At prog_8_method_41_code 89 (.iload 4) 2 91 := ⟨by decide +kernel, rfl⟩
theorem d_M_version_91 : At prog_8_method_41_code 91 (.ireturn) 1 92 := ⟨by decide +kernel, rfl⟩
theorem d_M_look_0 : At prog_8_method_42_code 0 (.aload_n 0) 1 1 := ⟨by decide +kernel, rfl⟩
theorem d_M_look_1 : At prog_8_method_42_code 1 (.iload_n 1) 1 2 := ⟨by decide +kernel, rfl⟩
theorem d_M_look_2 : At prog_8_method_42_code 2 (.iload_n 2) 1 3 := ⟨by decide +kernel, rfl⟩
theorem d_M_look_3 : At prog_8_method_42_code 3 (.iload_n 3) 1 4 := ⟨by decide +kernel, rfl⟩
theorem d_M_look_4 : At prog_8_method_42_code 4 (.invokevirtual 171) 3 7 := ⟨by decide +kernel, rfl⟩
theorem d_M_look_7 : At prog_8_method_42_code 7 (.istore 4) 2 9 := ⟨by decide +kernel, rfl⟩
theorem d_M_look_9 : At prog_8_method_42_code 9 (.iload 4) 2 11 := ⟨by decide +kernel, rfl⟩
theorem d_M_look_11 : AtC prog_8_method_42_code 11 (.ifCond .ge) 18 14 := ⟨7, by decide +kernel, by decide, rfl⟩
theorem d_M_look_14 : At prog_8_method_42_code 14 (.iconst 0) 1 15 := ⟨by decide +kernel, rfl⟩
theorem d_M_look_15 : AtC prog_8_method_42_code 15 .goto 25 18 := ⟨10, by decide +kernel, by decide, rfl⟩
theorem d_M_look_18 : At prog_8_method_42_code 18 (.aload_n 0) 1 19 := ⟨by decide +kernel, rfl⟩
theorem d_M_look_19 : At prog_8_method_42_code 19 (.iload_n 1) 1 20 := ⟨by decide +kernel, rfl⟩
theorem d_M_look_20 : At prog_8_method_42_code 20 (.iload 4) 2 22 := ⟨by decide +kernel, rfl⟩
theorem d_M_look_22 : At prog_8_method_42_code 22 (.invokevirtual 121) 3 25 := ⟨by decide +kernel, rfl⟩
theorem d_M_look_25 : At prog_8_method_42_code 25 (.ireturn) 1 26 := ⟨by decide +kernel, rfl⟩
end
section
/-! decode rows -/
theorem d_X_init_0 : At prog_1_method_1_code 0 (.aload_n 0) 1 1 := ⟨by decide +kernel, rfl⟩
theorem d_X_init_1 : At prog_1_method_1_code 1 (.invokespecial 1) 3 4 := ⟨by decide +kernel, rfl⟩
theorem d_X_init_4 : At prog_1_method_1_code 4 (.aload_n 0) 1 5 := ⟨by decide +kernel, rfl⟩
theorem d_X_init_5 : At prog_1_method_1_code 5 (.bipush 6) 2 7 := ⟨by decide +kernel, rfl⟩
theorem d_X_init_7 : At prog_1_method_1_code 7 (.anewarray 9) 3 10 := ⟨by decide +kernel, rfl⟩
theorem d_X_init_10 : At prog_1_method_1_code 10 (.putfield 11) 3 13 := ⟨by decide +kernel, rfl⟩
theorem d_X_init_13 : At prog_1_method_1_code 13 (.aload_n 0) 1 14 := ⟨by decide +kernel, rfl⟩
theorem d_X_init_14 : At prog_1_method_1_code 14 (.iconst 3) 1 15 := ⟨by decide +kernel, rfl⟩
theorem d_X_init_15 : At prog_1_method_1_code 15 (.anewarray 15) 3 18 := ⟨by decide +kernel, rfl⟩
theorem d_X_init_18 : At prog_1_method_1_code 18 (.putfield 17) 3 21 := ⟨by decide +kernel, rfl⟩
theorem d_X_init_21 : At prog_1_method_1_code 21 (.aload_n 0) 1 22 := ⟨by decide +kernel, rfl⟩
theorem d_X_init_22 : At prog_1_method_1_code 22 (.new 21) 3 25 := ⟨by decide +kernel, rfl⟩
theorem d_X_init_25 : At prog_1_method_1_code 25 (.dup) 1 26 := ⟨by decide +kernel, rfl⟩
theorem d_X_init_26 : At prog_1_method_1_code 26 (.invokespecial 23) 3 29 := ⟨by decide +kernel, rfl⟩
theorem d_X_init_29 : At prog_1_method_1_code 29 (.putfield 24) 3 32 := ⟨by decide +kernel, rfl⟩
theorem d_X_init_32 : At prog_1_method_1_code 32 (.iconst 1) 1 33 := ⟨by decide +kernel, rfl⟩
theorem d_X_init_33 : At prog_1_method_1_code 33 (.iconst 3) 1 34 := ⟨by decide +kernel, rfl⟩
theorem d_X_init_34 : At prog_1_method_1_code 34 (.iload_n 1) 1 35 := ⟨by decide +kernel, rfl⟩
theorem d_X_init_35 : At prog_1_method_1_code 35 (.invokestatic 28) 3 38 := ⟨by decide +kernel, rfl⟩
theorem d_X_init_38 : At prog_1_method_1_code 38 (.invokestatic 34) 3 41 := ⟨by decide +kernel, rfl⟩
theorem d_X_init_41 : At prog_1_method_1_code 41 (.istore_n 2) 1 42 := ⟨by decide +kernel, rfl⟩
theorem d_X_init_42 : At prog_1_method_1_code 42 (.iload_n 2) 1 43 := ⟨by decide +kernel, rfl⟩
theorem d_X_init_43 : At prog_1_method_1_code 43 (.newarray .int) 2 45 := ⟨by decide +kernel, rfl⟩
theorem d_X_init_45 : At prog_1_method_1_code 45 (.astore_n 3) 1 46 := ⟨by decide +kernel, rfl⟩
theorem d_X_init_46 : At prog_1_method_1_code 46 (.iconst 0) 1 47 := ⟨by decide +kernel, rfl⟩
theorem d_X_init_47 : At prog_1_method_1_code 47 (.istore 4) 2 49 := ⟨by decide +kernel, rfl⟩
theorem d_X_init_49 : At prog_1_method_1_code 49 (.iload 4) 2 51 := ⟨by decide +kernel, rfl⟩
theorem d_X_init_51 : At prog_1_method_1_code 51 (.iload_n 2) 1 52 := ⟨by decide +kernel, rfl⟩
theorem d_X_init_52 : AtC prog_1_method_1_code 52 (.if_icmp .ge) 67 55 := ⟨15, by decide +kernel, by decide, rfl⟩
theorem d_X_init_55 : At prog_1_method_1_code 55 (.aload_n 3) 1 56 := ⟨by decide +kernel, rfl⟩
theorem d_X_init_56 : At prog_1_method_1_code 56 (.iload 4) 2 58 := ⟨by decide +kernel, rfl⟩
theorem d_X_init_58 : At prog_1_method_1_code 58 (.iload 4) 2 60 := ⟨by decide +kernel, rfl⟩
theorem d_X_init_60 : At prog_1_method_1_code 60 (.iastore) 1 61 := ⟨by decide +kernel, rfl⟩
theorem d_X_init_61 : At prog_1_method_1_code 61 (.iinc 4 1) 3 64 := ⟨by decide +kernel, rfl⟩
theorem d_X_init_64 : AtC prog_1_method_1_code 64 .goto 49 67 := ⟨-15, by decide +kernel, by decide, rfl⟩
theorem d_X_init_67 : At prog_1_method_1_code 67 (.aload_n 0) 1 68 := ⟨by decide +kernel, rfl⟩
theorem d_X_init_68 : At prog_1_method_1_code 68 (.new 37) 3 71 := ⟨by decide +kernel, rfl⟩
theorem d_X_init_71 : At prog_1_method_1_code 71 (.dup) 1 72 := ⟨by decide +kernel, rfl⟩
theorem d_X_init_72 : At prog_1_method_1_code 72 (.iconst 1) 1 73 := ⟨by decide +kernel, rfl⟩
theorem d_X_init_73 : At prog_1_method_1_code 73 (.aload_n 3) 1 74 := ⟨by decide +kernel, rfl⟩
theorem d_X_init_74 : At prog_1_method_1_code 74 (.invokespecial 39) 3 77 := ⟨by decide +kernel, rfl⟩
theorem d_X_init_77 : At prog_1_method_1_code 77 (.putfield 42) 3 80 := ⟨by decide +kernel, rfl⟩
theorem d_X_init_80 : At prog_1_method_1_code 80 (.iconst 0) 1 81 := ⟨by decide +kernel, rfl⟩
theorem d_X_init_81 : At prog_1_method_1_code 81 (.istore 4) 2 83 := ⟨by decide +kernel, rfl⟩
theorem d_X_init_83 : At prog_1_method_1_code 83 (.iload 4) 2 85 := ⟨by decide +kernel, rfl⟩
theorem d_X_init_85 : At prog_1_method_1_code 85 (.iload_n 2) 1 86 := ⟨by decide +kernel, rfl⟩
theorem d_X_init_86 : AtC prog_1_method_1_code 86 (.if_icmp .ge) 116 89 := ⟨30, by decide +kernel, by decide, rfl⟩
theorem d_X_init_89 : At prog_1_method_1_code 89 (.aload_n 0) 1 90 := ⟨by decide +kernel, rfl⟩
theorem d_X_init_90 : At prog_1_method_1_code 90 (.getfield 11) 3 93 := ⟨by decide +kernel, rfl⟩
theorem d_X_init_93 : At prog_1_method_1_code 93 (.iload 4) 2 95 := ⟨by decide +kernel, rfl⟩
theorem d_X_init_95 : At prog_1_method_1_code 95 (.new 9) 3 98 := ⟨by decide +kernel, rfl⟩
theorem d_X_init_98 : At prog_1_method_1_code 98 (.dup) 1 99 := ⟨by decide +kernel, rfl⟩
theorem d_X_init_99 : At prog_1_method_1_code 99 (.iload 4) 2 101 := ⟨by decide +kernel, rfl⟩
theorem d_X_init_101 : At prog_1_method_1_code 101 (.aload_n 0) 1 102 := ⟨by decide +kernel, rfl⟩
theorem d_X_init_102 : At prog_1_method_1_code 102 (.getfield 42) 3 105 := ⟨by decide +kernel, rfl⟩
theorem d_X_init_105 : At prog_1_method_1_code 105 (.iconst 1) 1 106 := ⟨by decide +kernel, rfl⟩
theorem d_X_init_106 : At prog_1_method_1_code 106 (.invokespecial 46) 3 109 := ⟨by decide +kernel, rfl⟩
theorem d_X_init_109 : At prog_1_method_1_code 109 (.aastore) 1 110 := ⟨by decide +kernel, rfl⟩
theorem d_X_init_110 : At prog_1_method_1_code 110 (.iinc 4 1) 3 113 := ⟨by decide +kernel, rfl⟩
theorem d_X_init_113 : AtC prog_1_method_1_code 113 .goto 83 116 := ⟨-30, by decide +kernel, by decide, rfl⟩
theorem d_X_init_116 : At prog_1_method_1_code 116 (.aload_n 0) 1 117 := ⟨by decide +kernel, rfl⟩
theorem d_X_init_117 : At prog_1_method_1_code 117 (.iload_n 2) 1 118 := ⟨by decide +kernel, rfl⟩
theorem d_X_init_118 : At prog_1_method_1_code 118 (.putfield 49) 3 121 := ⟨by decide +kernel, rfl⟩
theorem d_X_init_121 : At prog_1_method_1_code 121 (.iconst 0) 1 122 := ⟨by decide +kernel, rfl⟩
theorem d_X_init_122 : At prog_1_method_1_code 122 (.istore 4) 2 124 := ⟨by decide +kernel, rfl⟩
theorem d_X_init_124 : At prog_1_method_1_code 124 (.iload 4) 2 126 := ⟨by decide +kernel, rfl⟩
theorem d_X_init_126 : At prog_1_method_1_code 126 (.iconst 3) 1 127 := ⟨by decide +kernel, rfl⟩
theorem d_X_init_127 : AtC prog_1_method_1_code 127 (.if_icmp .ge) 150 130 := ⟨23, by decide +kernel, by decide, rfl⟩
theorem d_X_init_130 : At prog_1_method_1_code 130 (.aload_n 0) 1 131 := ⟨by decide +kernel, rfl⟩
theorem d_X_init_131 : At prog_1_method_1_code 131 (.getfield 17) 3 134 := ⟨by decide +kernel, rfl⟩
theorem d_X_init_134 : At prog_1_method_1_code 134 (.iload 4) 2 136 := ⟨by decide +kernel, rfl⟩
theorem d_X_init_136 : At prog_1_method_1_code 136 (.new 15) 3 139 := ⟨by decide +kernel, rfl⟩
theorem d_X_init_139 : At prog_1_method_1_code 139 (.dup) 1 140 := ⟨by decide +kernel, rfl⟩
theorem d_X_init_140 : At prog_1_method_1_code 140 (.invokespecial 53) 3 143 := ⟨by decide +kernel, rfl⟩
theorem d_X_init_143 : At prog_1_method_1_code 143 (.aastore) 1 144 := ⟨by decide +kernel, rfl⟩
theorem d_X_init_144 : At prog_1_method_1_code 144 (.iinc 4 1) 3 147 := ⟨by decide +kernel, rfl⟩
theorem d_X_init_147 : AtC prog_1_method_1_code 147 .goto 124 150 := ⟨-23, by decide +kernel, by decide, rfl⟩
theorem d_X_init_150 : At prog_1_method_1_code 150 (.return_) 1 151 := ⟨by decide +kernel, rfl⟩
theorem d_Cf_init_0 : At prog_3_method_1_code 0 (.aload_n 0) 1 1 := ⟨by decide +kernel, rfl⟩
theorem d_Cf_init_1 : At prog_3_method_1_code 1 (.invokespecial 3) 3 4 := ⟨by decide +kernel, rfl⟩
theorem d_Cf_init_4 : At prog_3_method_1_code 4 (.aload_n 0) 1 5 := ⟨by decide +kernel, rfl⟩
theorem d_Cf_init_5 : At prog_3_method_1_code 5 (.iload_n 1) 1 6 := ⟨by decide +kernel, rfl⟩
theorem d_Cf_init_6 : At prog_3_method_1_code 6 (.putfield 9) 3 9 := ⟨by decide +kernel, rfl⟩
theorem d_Cf_init_9 : At prog_3_method_1_code 9 (.aload_n 0) 1 10 := ⟨by decide +kernel, rfl⟩
theorem d_Cf_init_10 : At prog_3_method_1_code 10 (.aload_n 2) 1 11 := ⟨by decide +kernel, rfl⟩
theorem d_Cf_init_11 : At prog_3_method_1_code 11 (.putfield 15) 3 14 := ⟨by decide +kernel, rfl⟩
theorem d_Cf_init_14 : At prog_3_method_1_code 14 (.return_) 1 15 := ⟨by decide +kernel, rfl⟩
theorem d_Nd_init_0 : At prog_5_method_1_code 0 (.aload_n 0) 1 1 := ⟨by decide +kernel, rfl⟩
theorem d_Nd_init_1 : At prog_5_method_1_code 1 (.invokespecial 3) 3 4 := ⟨by decide +kernel, rfl⟩
theorem d_Nd_init_4 : At prog_5_method_1_code 4 (.aload_n 0) 1 5 := ⟨by decide +kernel, rfl⟩
theorem d_Nd_init_5 : At prog_5_method_1_code 5 (.bipush 100) 2 7 := ⟨by decide +kernel, rfl⟩
theorem d_Nd_init_7 : At prog_5_method_1_code 7 (.anewarray 9) 3 10 := ⟨by decide +kernel, rfl⟩
theorem d_Nd_init_10 : At prog_5_method_1_code 10 (.putfield 11) 3 13 := ⟨by decide +kernel, rfl⟩
theorem d_Nd_init_13 : At prog_5_method_1_code 13 (.aload_n 0) 1 14 := ⟨by decide +kernel, rfl⟩
theorem d_Nd_init_14 : At prog_5_method_1_code 14 (.iconst 1) 1 15 := ⟨by decide +kernel, rfl⟩
theorem d_Nd_init_15 : At prog_5_method_1_code 15 (.putfield 17) 3 18 := ⟨by decide +kernel, rfl⟩
theorem d_Nd_init_18 : At prog_5_method_1_code 18 (.aload_n 0) 1 19 := ⟨by decide +kernel, rfl⟩
theorem d_Nd_init_19 : At prog_5_method_1_code 19 (.iload_n 1) 1 20 := ⟨by decide +kernel, rfl⟩
theorem d_Nd_init_20 : At prog_5_method_1_code 20 (.putfield 21) 3 23 := ⟨by decide +kernel, rfl⟩
theorem d_Nd_init_23 : At prog_5_method_1_code 23 (.aload_n 0) 1 24 := ⟨by decide +kernel, rfl⟩
theorem d_Nd_init_24 : At prog_5_method_1_code 24 (.aload_n 2) 1 25 := ⟨by decide +kernel, rfl⟩
theorem d_Nd_init_25 : At prog_5_method_1_code 25 (.putfield 25) 3 28 := ⟨by decide +kernel, rfl⟩
theorem d_Nd_init_28 : At prog_5_method_1_code 28 (.aload_n 0) 1 29 := ⟨by decide +kernel, rfl⟩
theorem d_Nd_init_29 : At prog_5_method_1_code 29 (.iload_n 3) 1 30 := ⟨by decide +kernel, rfl⟩
theorem d_Nd_init_30 : At prog_5_method_1_code 30 (.putfield 29) 3 33 := ⟨by decide +kernel, rfl⟩
theorem d_Nd_init_33 : At prog_5_method_1_code 33 (.return_) 1 34 := ⟨by decide +kernel, rfl⟩
theorem d_Cl_init_0 : At prog_2_method_1_code 0 (.aload_n 0) 1 1 := ⟨by decide +kernel, rfl⟩
theorem d_Cl_init_1 : At prog_2_method_1_code 1 (.invokespecial 3) 3 4 := ⟨by decide +kernel, rfl⟩
theorem d_Cl_init_4 : At prog_2_method_1_code 4 (.aload_n 0) 1 5 := ⟨by decide +kernel, rfl⟩
theorem d_Cl_init_5 : At prog_2_method_1_code 5 (.iconst 0) 1 6 := ⟨by decide +kernel, rfl⟩
theorem d_Cl_init_6 : At prog_2_method_1_code 6 (.putfield 9) 3 9 := ⟨by decide +kernel, rfl⟩
theorem d_Cl_init_9 : At prog_2_method_1_code 9 (.aload_n 0) 1 10 := ⟨by decide +kernel, rfl⟩
theorem d_Cl_init_10 : At prog_2_method_1_code 10 (.iconst (-1)) 1 11 := ⟨by decide +kernel, rfl⟩
theorem d_Cl_init_11 : At prog_2_method_1_code 11 (.putfield 15) 3 14 := ⟨by decide +kernel, rfl⟩
theorem d_Cl_init_14 : At prog_2_method_1_code 14 (.return_) 1 15 := ⟨by decide +kernel, rfl⟩
theorem d_X_put_0 : At prog_1_method_2_code 0 (.aload_n 0) 1 1 := ⟨by decide +kernel, rfl⟩
theorem d_X_put_1 : At prog_1_method_2_code 1 (.iload_n 1) 1 2 := ⟨by decide +kernel, rfl⟩
theorem d_X_put_2 : At prog_1_method_2_code 2 (.invokevirtual 54) 3 5 := ⟨by decide +kernel, rfl⟩
theorem d_X_put_5 : At prog_1_method_2_code 5 (.astore 4) 2 7 := ⟨by decide +kernel, rfl⟩
theorem d_X_put_7 : At prog_1_method_2_code 7 (.aload 4) 2 9 := ⟨by decide +kernel, rfl⟩
theorem d_X_put_9 : AtC prog_1_method_2_code 9 .ifnull 19 12 := ⟨10, by decide +kernel, by decide, rfl⟩
theorem d_X_put_12 : At prog_1_method_2_code 12 (.iload_n 2) 1 13 := ⟨by decide +kernel, rfl⟩
theorem d_X_put_13 : At prog_1_method_2_code 13 (.invokestatic 58) 3 16 := ⟨by decide +kernel, rfl⟩
theorem d_X_put_16 : AtC prog_1_method_2_code 16 (.ifCond .ne) 21 19 := ⟨5, by decide +kernel, by decide, rfl⟩
theorem d_X_put_19 : At prog_1_method_2_code 19 (.iconst (-1)) 1 20 := ⟨by decide +kernel, rfl⟩
theorem d_X_put_20 : At prog_1_method_2_code 20 (.ireturn) 1 21 := ⟨by decide +kernel, rfl⟩
theorem d_X_put_21 : At prog_1_method_2_code 21 (.aload 4) 2 23 := ⟨by decide +kernel, rfl⟩
theorem d_X_put_23 : At prog_1_method_2_code 23 (.invokevirtual 62) 3 26 := ⟨by decide +kernel, rfl⟩
theorem d_X_put_26 : AtC prog_1_method_2_code 26 (.ifCond .eq) 32 29 := ⟨6, by decide +kernel, by decide, rfl⟩
theorem d_X_put_29 : At prog_1_method_2_code 29 (.bipush (-2)) 2 31 := ⟨by decide +kernel, rfl⟩
theorem d_X_put_31 : At prog_1_method_2_code 31 (.ireturn) 1 32 := ⟨by decide +kernel, rfl⟩
theorem d_X_put_32 : At prog_1_method_2_code 32 (.aload 4) 2 34 := ⟨by decide +kernel, rfl⟩
theorem d_X_put_34 : At prog_1_method_2_code 34 (.iload_n 2) 1 35 := ⟨by decide +kernel, rfl⟩
theorem d_X_put_35 : At prog_1_method_2_code 35 (.iload_n 3) 1 36 := ⟨by decide +kernel, rfl⟩
theorem d_X_put_36 : At prog_1_method_2_code 36 (.invokevirtual 66) 3 39 := ⟨by decide +kernel, rfl⟩
theorem d_X_put_39 : At prog_1_method_2_code 39 (.aload_n 0) 1 40 := ⟨by decide +kernel, rfl⟩
theorem d_X_put_40 : At prog_1_method_2_code 40 (.iload_n 1) 1 41 := ⟨by decide +kernel, rfl⟩
theorem d_X_put_41 : At prog_1_method_2_code 41 (.aload 4) 2 43 := ⟨by decide +kernel, rfl⟩
theorem d_X_put_43 : At prog_1_method_2_code 43 (.invokevirtual 70) 3 46 := ⟨by decide +kernel, rfl⟩
theorem d_X_put_46 : At prog_1_method_2_code 46 (.ireturn) 1 47 := ⟨by decide +kernel, rfl⟩
theorem d_X_clientOf_0 : At prog_1_method_22_code 0 (.iload_n 1) 1 1 := ⟨by decide +kernel, rfl⟩
theorem d_X_clientOf_1 : AtC prog_1_method_22_code 1 (.ifCond .lt) 18 4 := ⟨17, by decide +kernel, by decide, rfl⟩
theorem d_X_clientOf_4 : At prog_1_method_22_code 4 (.iload_n 1) 1 5 := ⟨by decide +kernel, rfl⟩
theorem d_X_clientOf_5 : At prog_1_method_22_code 5 (.iconst 3) 1 6 := ⟨by decide +kernel, rfl⟩
theorem d_X_clientOf_6 : AtC prog_1_method_22_code 6 (.if_icmp .ge) 18 9 := ⟨12, by decide +kernel, by decide, rfl⟩
theorem d_X_clientOf_9 : At prog_1_method_22_code 9 (.aload_n 0) 1 10 := ⟨by decide +kernel, rfl⟩
theorem d_X_clientOf_10 : At prog_1_method_22_code 10 (.getfield 17) 3 13 := ⟨by decide +kernel, rfl⟩
theorem d_X_clientOf_13 : At prog_1_method_22_code 13 (.iload_n 1) 1 14 := ⟨by decide +kernel, rfl⟩
theorem d_X_clientOf_14 : At prog_1_method_22_code 14 (.aaload) 1 15 := ⟨by decide +kernel, rfl⟩
theorem d_X_clientOf_15 : AtC prog_1_method_22_code 15 .goto 19 18 := ⟨4, by decide +kernel, by decide, rfl⟩
theorem d_X_clientOf_18 : At prog_1_method_22_code 18 (.aconst_null) 1 19 := ⟨by decide +kernel, rfl⟩
theorem d_X_clientOf_19 : At prog_1_method_22_code 19 (.areturn) 1 20 := ⟨by decide +kernel, rfl⟩
theorem d_X_isKey_0 : At prog_1_method_21_code 0 (.iload_n 0) 1 1 := ⟨by decide +kernel, rfl⟩
theorem d_X_isKey_1 : AtC prog_1_method_21_code 1 (.ifCond .lt) 13 4 := ⟨12, by decide +kernel, by decide, rfl⟩
theorem d_X_isKey_4 : At prog_1_method_21_code 4 (.iload_n 0) 1 5 := ⟨by decide +kernel, rfl⟩
theorem d_X_isKey_5 : At prog_1_method_21_code 5 (.iconst 4) 1 6 := ⟨by decide +kernel, rfl⟩
theorem d_X_isKey_6 : AtC prog_1_method_21_code 6 (.if_icmp .ge) 13 9 := ⟨7, by decide +kernel, by decide, rfl⟩
theorem d_X_isKey_9 : At prog_1_method_21_code 9 (.iconst 1) 1 10 := ⟨by decide +kernel, rfl⟩
theorem d_X_isKey_10 : AtC prog_1_method_21_code 10 .goto 14 13 := ⟨4, by decide +kernel, by decide, rfl⟩
theorem d_X_isKey_13 : At prog_1_method_21_code 13 (.iconst 0) 1 14 := ⟨by decide +kernel, rfl⟩
theorem d_X_isKey_14 : At prog_1_method_21_code 14 (.ireturn) 1 15 := ⟨by decide +kernel, rfl⟩
theorem d_Cl_isUnderWay_0 : At prog_2_method_2_code 0 (.aload_n 0) 1 1 := ⟨by decide +kernel, rfl⟩
theorem d_Cl_isUnderWay_1 : At prog_2_method_2_code 1 (.getfield 9) 3 4 := ⟨by decide +kernel, rfl⟩
theorem d_Cl_isUnderWay_4 : At prog_2_method_2_code 4 (.iconst 1) 1 5 := ⟨by decide +kernel, rfl⟩
theorem d_Cl_isUnderWay_5 : AtC prog_2_method_2_code 5 (.if_icmp .eq) 16 8 := ⟨11, by decide +kernel, by decide, rfl⟩
theorem d_Cl_isUnderWay_8 : At prog_2_method_2_code 8 (.aload_n 0) 1 9 := ⟨by decide +kernel, rfl⟩
theorem d_Cl_isUnderWay_9 : At prog_2_method_2_code 9 (.getfield 9) 3 12 := ⟨by decide +kernel, rfl⟩
theorem d_Cl_isUnderWay_12 : At prog_2_method_2_code 12 (.iconst 3) 1 13 := ⟨by decide +kernel, rfl⟩
theorem d_Cl_isUnderWay_13 : AtC prog_2_method_2_code 13 (.if_icmp .ne) 20 16 := ⟨7, by decide +kernel, by decide, rfl⟩
theorem d_Cl_isUnderWay_16 : At prog_2_method_2_code 16 (.iconst 1) 1 17 := ⟨by decide +kernel, rfl⟩
theorem d_Cl_isUnderWay_17 : AtC prog_2_method_2_code 17 .goto 21 20 := ⟨4, by decide +kernel, by decide, rfl⟩
theorem d_Cl_isUnderWay_20 : At prog_2_method_2_code 20 (.iconst 0) 1 21 := ⟨by decide +kernel, rfl⟩
theorem d_Cl_isUnderWay_21 : At prog_2_method_2_code 21 (.ireturn) 1 22 := ⟨by decide +kernel, rfl⟩
theorem d_Cl_beginWrite_0 : At prog_2_method_5_code 0 (.aload_n 0) 1 1 := ⟨by decide +kernel, rfl⟩
theorem d_Cl_beginWrite_1 : At prog_2_method_5_code 1 (.iconst 1) 1 2 := ⟨by decide +kernel, rfl⟩
theorem d_Cl_beginWrite_2 : At prog_2_method_5_code 2 (.putfield 9) 3 5 := ⟨by decide +kernel, rfl⟩
theorem d_Cl_beginWrite_5 : At prog_2_method_5_code 5 (.aload_n 0) 1 6 := ⟨by decide +kernel, rfl⟩
theorem d_Cl_beginWrite_6 : At prog_2_method_5_code 6 (.dup) 1 7 := ⟨by decide +kernel, rfl⟩
theorem d_Cl_beginWrite_7 : At prog_2_method_5_code 7 (.getfield 18) 3 10 := ⟨by decide +kernel, rfl⟩
theorem d_Cl_beginWrite_10 : At prog_2_method_5_code 10 (.iconst 1) 1 11 := ⟨by decide +kernel, rfl⟩
theorem d_Cl_beginWrite_11 : At prog_2_method_5_code 11 (.iadd) 1 12 := ⟨by decide +kernel, rfl⟩
theorem d_Cl_beginWrite_12 : At prog_2_method_5_code 12 (.putfield 18) 3 15 := ⟨by decide +kernel, rfl⟩
theorem d_Cl_beginWrite_15 : At prog_2_method_5_code 15 (.aload_n 0) 1 16 := ⟨by decide +kernel, rfl⟩
theorem d_Cl_beginWrite_16 : At prog_2_method_5_code 16 (.iload_n 1) 1 17 := ⟨by decide +kernel, rfl⟩
theorem d_Cl_beginWrite_17 : At prog_2_method_5_code 17 (.putfield 21) 3 20 := ⟨by decide +kernel, rfl⟩
theorem d_Cl_beginWrite_20 : At prog_2_method_5_code 20 (.aload_n 0) 1 21 := ⟨by decide +kernel, rfl⟩
theorem d_Cl_beginWrite_21 : At prog_2_method_5_code 21 (.iload_n 2) 1 22 := ⟨by decide +kernel, rfl⟩
theorem d_Cl_beginWrite_22 : At prog_2_method_5_code 22 (.putfield 24) 3 25 := ⟨by decide +kernel, rfl⟩
theorem d_Cl_beginWrite_25 : At prog_2_method_5_code 25 (.return_) 1 26 := ⟨by decide +kernel, rfl⟩
theorem d_X_sendWrite_0 : At prog_1_method_29_code 0 (.aload_n 0) 1 1 := ⟨by decide +kernel, rfl⟩
theorem d_X_sendWrite_1 : At prog_1_method_29_code 1 (.aload_n 0) 1 2 := ⟨by decide +kernel, rfl⟩
theorem d_X_sendWrite_2 : At prog_1_method_29_code 2 (.getfield 42) 3 5 := ⟨by decide +kernel, rfl⟩
theorem d_X_sendWrite_5 : At prog_1_method_29_code 5 (.invokevirtual 203) 3 8 := ⟨by decide +kernel, rfl⟩
theorem d_X_sendWrite_8 : At prog_1_method_29_code 8 (.invokevirtual 95) 3 11 := ⟨by decide +kernel, rfl⟩
theorem d_X_sendWrite_11 : At prog_1_method_29_code 11 (.astore_n 3) 1 12 := ⟨by decide +kernel, rfl⟩
theorem d_X_sendWrite_12 : At prog_1_method_29_code 12 (.aload_n 3) 1 13 := ⟨by decide +kernel, rfl⟩
theorem d_X_sendWrite_13 : AtC prog_1_method_29_code 13 .ifnull 23 16 := ⟨10, by decide +kernel, by decide, rfl⟩
theorem d_X_sendWrite_16 : At prog_1_method_29_code 16 (.aload_n 3) 1 17 := ⟨by decide +kernel, rfl⟩
theorem d_X_sendWrite_17 : At prog_1_method_29_code 17 (.invokevirtual 206) 3 20 := ⟨by decide +kernel, rfl⟩
theorem d_X_sendWrite_20 : AtC prog_1_method_29_code 20 (.ifCond .ne) 25 23 := ⟨5, by decide +kernel, by decide, rfl⟩
theorem d_X_sendWrite_23 : At prog_1_method_29_code 23 (.iconst 0) 1 24 := ⟨by decide +kernel, rfl⟩
theorem d_X_sendWrite_24 : At prog_1_method_29_code 24 (.ireturn) 1 25 := ⟨by decide +kernel, rfl⟩
theorem d_X_sendWrite_25 : At prog_1_method_29_code 25 (.aload_n 3) 1 26 := ⟨by decide +kernel, rfl⟩
theorem d_X_sendWrite_26 : At prog_1_method_29_code 26 (.iload_n 1) 1 27 := ⟨by decide +kernel, rfl⟩
theorem d_X_sendWrite_27 : At prog_1_method_29_code 27 (.aload_n 2) 1 28 := ⟨by decide +kernel, rfl⟩
theorem d_X_sendWrite_28 : At prog_1_method_29_code 28 (.getfield 209) 3 31 := ⟨by decide +kernel, rfl⟩
theorem d_X_sendWrite_31 : At prog_1_method_29_code 31 (.invokevirtual 212) 3 34 := ⟨by decide +kernel, rfl⟩
theorem d_X_sendWrite_34 : At prog_1_method_29_code 34 (.istore 4) 2 36 := ⟨by decide +kernel, rfl⟩
theorem d_X_sendWrite_36 : At prog_1_method_29_code 36 (.iload 4) 2 38 := ⟨by decide +kernel, rfl⟩
theorem d_X_sendWrite_38 : At prog_1_method_29_code 38 (.iconst (-1)) 1 39 := ⟨by decide +kernel, rfl⟩
theorem d_X_sendWrite_39 : AtC prog_1_method_29_code 39 (.if_icmp .eq) 57 42 := ⟨18, by decide +kernel, by decide, rfl⟩
theorem d_X_sendWrite_42 : At prog_1_method_29_code 42 (.iload 4) 2 44 := ⟨by decide +kernel, rfl⟩
theorem d_X_sendWrite_44 : At prog_1_method_29_code 44 (.aload_n 3) 1 45 := ⟨by decide +kernel, rfl⟩
theorem d_X_sendWrite_45 : At prog_1_method_29_code 45 (.getfield 191) 3 48 := ⟨by decide +kernel, rfl⟩
theorem d_X_sendWrite_48 : AtC prog_1_method_29_code 48 (.if_icmp .gt) 55 51 := ⟨7, by decide +kernel, by decide, rfl⟩
theorem d_X_sendWrite_51 : At prog_1_method_29_code 51 (.iconst 4) 1 52 := ⟨by decide +kernel, rfl⟩
theorem d_X_sendWrite_52 : AtC prog_1_method_29_code 52 .goto 56 55 := ⟨4, by decide +kernel, by decide, rfl⟩
theorem d_X_sendWrite_55 : At prog_1_method_29_code 55 (.iconst 3) 1 56 := ⟨by decide +kernel, rfl⟩
theorem d_X_sendWrite_56 : At prog_1_method_29_code 56 (.ireturn) 1 57 := ⟨by decide +kernel, rfl⟩
theorem d_X_sendWrite_57 : At prog_1_method_29_code 57 (.aload_n 3) 1 58 := ⟨by decide +kernel, rfl⟩
theorem d_X_sendWrite_58 : At prog_1_method_29_code 58 (.invokevirtual 215) 3 61 := ⟨by decide +kernel, rfl⟩
theorem d_X_sendWrite_61 : AtC prog_1_method_29_code 61 (.ifCond .eq) 66 64 := ⟨5, by decide +kernel, by decide, rfl⟩
theorem d_X_sendWrite_64 : At prog_1_method_29_code 64 (.iconst 1) 1 65 := ⟨by decide +kernel, rfl⟩
theorem d_X_sendWrite_65 : At prog_1_method_29_code 65 (.ireturn) 1 66 := ⟨by decide +kernel, rfl⟩
theorem d_X_sendWrite_66 : At prog_1_method_29_code 66 (.aload_n 0) 1 67 := ⟨by decide +kernel, rfl⟩
theorem d_X_sendWrite_67 : At prog_1_method_29_code 67 (.aload_n 3) 1 68 := ⟨by decide +kernel, rfl⟩
theorem d_X_sendWrite_68 : At prog_1_method_29_code 68 (.new 218) 3 71 := ⟨by decide +kernel, rfl⟩
theorem d_X_sendWrite_71 : At prog_1_method_29_code 71 (.dup) 1 72 := ⟨by decide +kernel, rfl⟩
theorem d_X_sendWrite_72 : At prog_1_method_29_code 72 (.aload_n 2) 1 73 := ⟨by decide +kernel, rfl⟩
theorem d_X_sendWrite_73 : At prog_1_method_29_code 73 (.getfield 220) 3 76 := ⟨by decide +kernel, rfl⟩
theorem d_X_sendWrite_76 : At prog_1_method_29_code 76 (.aload_n 2) 1 77 := ⟨by decide +kernel, rfl⟩
theorem d_X_sendWrite_77 : At prog_1_method_29_code 77 (.getfield 223) 3 80 := ⟨by decide +kernel, rfl⟩
theorem d_X_sendWrite_80 : At prog_1_method_29_code 80 (.iload_n 1) 1 81 := ⟨by decide +kernel, rfl⟩
theorem d_X_sendWrite_81 : At prog_1_method_29_code 81 (.aload_n 2) 1 82 := ⟨by decide +kernel, rfl⟩
theorem d_X_sendWrite_82 : At prog_1_method_29_code 82 (.getfield 209) 3 85 := ⟨by decide +kernel, rfl⟩
theorem d_X_sendWrite_85 : At prog_1_method_29_code 85 (.invokespecial 226) 3 88 := ⟨by decide +kernel, rfl⟩
theorem d_X_sendWrite_88 : At prog_1_method_29_code 88 (.invokevirtual 229) 3 91 := ⟨by decide +kernel, rfl⟩
theorem d_X_sendWrite_91 : At prog_1_method_29_code 91 (.iconst 2) 1 92 := ⟨by decide +kernel, rfl⟩
theorem d_X_sendWrite_92 : At prog_1_method_29_code 92 (.ireturn) 1 93 := ⟨by decide +kernel, rfl⟩
theorem d_Cf_head_0 : At prog_3_method_3_code 0 (.aload_n 0) 1 1 := ⟨by decide +kernel, rfl⟩
theorem d_Cf_head_1 : At prog_3_method_3_code 1 (.iconst 0) 1 2 := ⟨by decide +kernel, rfl⟩
theorem d_Cf_head_2 : At prog_3_method_3_code 2 (.invokevirtual 19) 3 5 := ⟨by decide +kernel, rfl⟩
theorem d_Cf_head_5 : At prog_3_method_3_code 5 (.ireturn) 1 6 := ⟨by decide +kernel, rfl⟩
theorem d_Cf_memberAt_0 : At prog_3_method_2_code 0 (.iload_n 1) 1 1 := ⟨by decide +kernel, rfl⟩
theorem d_Cf_memberAt_1 : AtC prog_3_method_2_code 1 (.ifCond .lt) 22 4 := ⟨21, by decide +kernel, by decide, rfl⟩
theorem d_Cf_memberAt_4 : At prog_3_method_2_code 4 (.iload_n 1) 1 5 := ⟨by decide +kernel, rfl⟩
theorem d_Cf_memberAt_5 : At prog_3_method_2_code 5 (.aload_n 0) 1 6 := ⟨by decide +kernel, rfl⟩
theorem d_Cf_memberAt_6 : At prog_3_method_2_code 6 (.getfield 15) 3 9 := ⟨by decide +kernel, rfl⟩
theorem d_Cf_memberAt_9 : At prog_3_method_2_code 9 (.arraylength) 1 10 := ⟨by decide +kernel, rfl⟩
theorem d_Cf_memberAt_10 : AtC prog_3_method_2_code 10 (.if_icmp .ge) 22 13 := ⟨12, by decide +kernel, by decide, rfl⟩
theorem d_Cf_memberAt_13 : At prog_3_method_2_code 13 (.aload_n 0) 1 14 := ⟨by decide +kernel, rfl⟩
theorem d_Cf_memberAt_14 : At prog_3_method_2_code 14 (.getfield 15) 3 17 := ⟨by decide +kernel, rfl⟩
theorem d_Cf_memberAt_17 : At prog_3_method_2_code 17 (.iload_n 1) 1 18 := ⟨by decide +kernel, rfl⟩
theorem d_Cf_memberAt_18 : At prog_3_method_2_code 18 (.iaload) 1 19 := ⟨by decide +kernel, rfl⟩
theorem d_Cf_memberAt_19 : AtC prog_3_method_2_code 19 .goto 23 22 := ⟨4, by decide +kernel, by decide, rfl⟩
theorem d_Cf_memberAt_22 : At prog_3_method_2_code 22 (.iconst (-1)) 1 23 := ⟨by decide +kernel, rfl⟩
theorem d_Cf_memberAt_23 : At prog_3_method_2_code 23 (.ireturn) 1 24 := ⟨by decide +kernel, rfl⟩
theorem d_X_livingNode_0 : At prog_1_method_24_code 0 (.iload_n 1) 1 1 := ⟨by decide +kernel, rfl⟩
theorem d_X_livingNode_1 : AtC prog_1_method_24_code 1 (.ifCond .lt) 19 4 := ⟨18, by decide +kernel, by decide, rfl⟩
theorem d_X_livingNode_4 : At prog_1_method_24_code 4 (.iload_n 1) 1 5 := ⟨by decide +kernel, rfl⟩
theorem d_X_livingNode_5 : At prog_1_method_24_code 5 (.bipush 6) 2 7 := ⟨by decide +kernel, rfl⟩
theorem d_X_livingNode_7 : AtC prog_1_method_24_code 7 (.if_icmp .ge) 19 10 := ⟨12, by decide +kernel, by decide, rfl⟩
theorem d_X_livingNode_10 : At prog_1_method_24_code 10 (.aload_n 0) 1 11 := ⟨by decide +kernel, rfl⟩
theorem d_X_livingNode_11 : At prog_1_method_24_code 11 (.getfield 11) 3 14 := ⟨by decide +kernel, rfl⟩
theorem d_X_livingNode_14 : At prog_1_method_24_code 14 (.iload_n 1) 1 15 := ⟨by decide +kernel, rfl⟩
theorem d_X_livingNode_15 : At prog_1_method_24_code 15 (.aaload) 1 16 := ⟨by decide +kernel, rfl⟩
theorem d_X_livingNode_16 : AtC prog_1_method_24_code 16 .goto 20 19 := ⟨4, by decide +kernel, by decide, rfl⟩
theorem d_X_livingNode_19 : At prog_1_method_24_code 19 (.aconst_null) 1 20 := ⟨by decide +kernel, rfl⟩
theorem d_X_livingNode_20 : At prog_1_method_24_code 20 (.astore_n 2) 1 21 := ⟨by decide +kernel, rfl⟩
theorem d_X_livingNode_21 : At prog_1_method_24_code 21 (.aload_n 2) 1 22 := ⟨by decide +kernel, rfl⟩
theorem d_X_livingNode_22 : AtC prog_1_method_24_code 22 .ifnull 36 25 := ⟨14, by decide +kernel, by decide, rfl⟩
theorem d_X_livingNode_25 : At prog_1_method_24_code 25 (.aload_n 2) 1 26 := ⟨by decide +kernel, rfl⟩
theorem d_X_livingNode_26 : At prog_1_method_24_code 26 (.getfield 148) 3 29 := ⟨by decide +kernel, rfl⟩
theorem d_X_livingNode_29 : AtC prog_1_method_24_code 29 (.ifCond .eq) 36 32 := ⟨7, by decide +kernel, by decide, rfl⟩
theorem d_X_livingNode_32 : At prog_1_method_24_code 32 (.aload_n 2) 1 33 := ⟨by decide +kernel, rfl⟩
theorem d_X_livingNode_33 : AtC prog_1_method_24_code 33 .goto 37 36 := ⟨4, by decide +kernel, by decide, rfl⟩
theorem d_X_livingNode_36 : At prog_1_method_24_code 36 (.aconst_null) 1 37 := ⟨by decide +kernel, rfl⟩
theorem d_X_livingNode_37 : At prog_1_method_24_code 37 (.areturn) 1 38 := ⟨by decide +kernel, rfl⟩
theorem d_Nd_isHead_0 : At prog_5_method_2_code 0 (.aload_n 0) 1 1 := ⟨by decide +kernel, rfl⟩
theorem d_Nd_isHead_1 : At prog_5_method_2_code 1 (.getfield 25) 3 4 := ⟨by decide +kernel, rfl⟩
theorem d_Nd_isHead_4 : At prog_5_method_2_code 4 (.invokevirtual 32) 3 7 := ⟨by decide +kernel, rfl⟩
theorem d_Nd_isHead_7 : At prog_5_method_2_code 7 (.aload_n 0) 1 8 := ⟨by decide +kernel, rfl⟩
theorem d_Nd_isHead_8 : At prog_5_method_2_code 8 (.getfield 21) 3 11 := ⟨by decide +kernel, rfl⟩
theorem d_Nd_isHead_11 : AtC prog_5_method_2_code 11 (.if_icmp .ne) 18 14 := ⟨7, by decide +kernel, by decide, rfl⟩
theorem d_Nd_isHead_14 : At prog_5_method_2_code 14 (.iconst 1) 1 15 := ⟨by decide +kernel, rfl⟩
theorem d_Nd_isHead_15 : AtC prog_5_method_2_code 15 .goto 19 18 := ⟨4, by decide +kernel, by decide, rfl⟩
theorem d_Nd_isHead_18 : At prog_5_method_2_code 18 (.iconst 0) 1 19 := ⟨by decide +kernel, rfl⟩
theorem d_Nd_isHead_19 : At prog_5_method_2_code 19 (.ireturn) 1 20 := ⟨by decide +kernel, rfl⟩
theorem d_Nd_numberOf_0 : At prog_5_method_11_code 0 (.iconst 1) 1 1 := ⟨by decide +kernel, rfl⟩
theorem d_Nd_numberOf_1 : At prog_5_method_11_code 1 (.istore_n 3) 1 2 := ⟨by decide +kernel, rfl⟩
theorem d_Nd_numberOf_2 : At prog_5_method_11_code 2 (.iload_n 3) 1 3 := ⟨by decide +kernel, rfl⟩
theorem d_Nd_numberOf_3 : At prog_5_method_11_code 3 (.aload_n 0) 1 4 := ⟨by decide +kernel, rfl⟩
theorem d_Nd_numberOf_4 : At prog_5_method_11_code 4 (.getfield 45) 3 7 := ⟨by decide +kernel, rfl⟩
theorem d_Nd_numberOf_7 : AtC prog_5_method_11_code 7 (.if_icmp .gt) 48 10 := ⟨41, by decide +kernel, by decide, rfl⟩
theorem d_Nd_numberOf_10 : At prog_5_method_11_code 10 (.aload_n 0) 1 11 := ⟨by decide +kernel, rfl⟩
theorem d_Nd_numberOf_11 : At prog_5_method_11_code 11 (.iload_n 3) 1 12 := ⟨by decide +kernel, rfl⟩
theorem d_Nd_numberOf_12 : At prog_5_method_11_code 12 (.invokevirtual 51) 3 15 := ⟨by decide +kernel, rfl⟩
theorem d_Nd_numberOf_15 : At prog_5_method_11_code 15 (.astore 4) 2 17 := ⟨by decide +kernel, rfl⟩
theorem d_Nd_numberOf_17 : At prog_5_method_11_code 17 (.aload 4) 2 19 := ⟨by decide +kernel, rfl⟩
theorem d_Nd_numberOf_19 : AtC prog_5_method_11_code 19 .ifnull 42 22 := ⟨23, by decide +kernel, by decide, rfl⟩
theorem d_Nd_numberOf_22 : At prog_5_method_11_code 22 (.aload 4) 2 24 := ⟨by decide +kernel, rfl⟩
theorem d_Nd_numberOf_24 : At prog_5_method_11_code 24 (.getfield 61) 3 27 := ⟨by decide +kernel, rfl⟩
theorem d_Nd_numberOf_27 : At prog_5_method_11_code 27 (.iload_n 1) 1 28 := ⟨by decide +kernel, rfl⟩
theorem d_Nd_numberOf_28 : AtC prog_5_method_11_code 28 (.if_icmp .ne) 42 31 := ⟨14, by decide +kernel, by decide, rfl⟩
theorem d_Nd_numberOf_31 : At prog_5_method_11_code 31 (.aload 4) 2 33 := ⟨by decide +kernel, rfl⟩
theorem d_Nd_numberOf_33 : At prog_5_method_11_code 33 (.getfield 64) 3 36 := ⟨by decide +kernel, rfl⟩
theorem d_Nd_numberOf_36 : At prog_5_method_11_code 36 (.iload_n 2) 1 37 := ⟨by decide +kernel, rfl⟩
theorem d_Nd_numberOf_37 : AtC prog_5_method_11_code 37 (.if_icmp .ne) 42 40 := ⟨5, by decide +kernel, by decide, rfl⟩
theorem d_Nd_numberOf_40 : At prog_5_method_11_code 40 (.iload_n 3) 1 41 := ⟨by decide +kernel, rfl⟩
theorem d_Nd_numberOf_41 : At prog_5_method_11_code 41 (.ireturn) 1 42 := ⟨by decide +kernel, rfl⟩
theorem d_Nd_numberOf_42 : At prog_5_method_11_code 42 (.iinc 3 1) 3 45 := ⟨by decide +kernel, rfl⟩
theorem d_Nd_numberOf_45 : AtC prog_5_method_11_code 45 .goto 2 48 := ⟨-43, by decide +kernel, by decide, rfl⟩
theorem d_Nd_numberOf_48 : At prog_5_method_11_code 48 (.iconst (-1)) 1 49 := ⟨by decide +kernel, rfl⟩
theorem d_Nd_numberOf_49 : At prog_5_method_11_code 49 (.ireturn) 1 50 := ⟨by decide +kernel, rfl⟩
theorem d_Nd_updateAt_0 : At prog_5_method_8_code 0 (.iload_n 1) 1 1 := ⟨by decide +kernel, rfl⟩
theorem d_Nd_updateAt_1 : At prog_5_method_8_code 1 (.iconst 1) 1 2 := ⟨by decide +kernel, rfl⟩
theorem d_Nd_updateAt_2 : AtC prog_5_method_8_code 2 (.if_icmp .lt) 24 5 := ⟨22, by decide +kernel, by decide, rfl⟩
theorem d_Nd_updateAt_5 : At prog_5_method_8_code 5 (.iload_n 1) 1 6 := ⟨by decide +kernel, rfl⟩
theorem d_Nd_updateAt_6 : At prog_5_method_8_code 6 (.aload_n 0) 1 7 := ⟨by decide +kernel, rfl⟩
theorem d_Nd_updateAt_7 : At prog_5_method_8_code 7 (.getfield 45) 3 10 := ⟨by decide +kernel, rfl⟩
theorem d_Nd_updateAt_10 : AtC prog_5_method_8_code 10 (.if_icmp .gt) 24 13 := ⟨14, by decide +kernel, by decide, rfl⟩
theorem d_Nd_updateAt_13 : At prog_5_method_8_code 13 (.aload_n 0) 1 14 := ⟨by decide +kernel, rfl⟩
theorem d_Nd_updateAt_14 : At prog_5_method_8_code 14 (.getfield 11) 3 17 := ⟨by decide +kernel, rfl⟩
theorem d_Nd_updateAt_17 : At prog_5_method_8_code 17 (.iload_n 1) 1 18 := ⟨by decide +kernel, rfl⟩
theorem d_Nd_updateAt_18 : At prog_5_method_8_code 18 (.iconst 1) 1 19 := ⟨by decide +kernel, rfl⟩
theorem d_Nd_updateAt_19 : At prog_5_method_8_code 19 (.isub) 1 20 := ⟨by decide +kernel, rfl⟩
theorem d_Nd_updateAt_20 : At prog_5_method_8_code 20 (.aaload) 1 21 := ⟨by decide +kernel, rfl⟩
theorem d_Nd_updateAt_21 : AtC prog_5_method_8_code 21 .goto 25 24 := ⟨4, by decide +kernel, by decide, rfl⟩
theorem d_Nd_updateAt_24 : At prog_5_method_8_code 24 (.aconst_null) 1 25 := ⟨by decide +kernel, rfl⟩
theorem d_Nd_updateAt_25 : At prog_5_method_8_code 25 (.areturn) 1 26 := ⟨by decide +kernel, rfl⟩
theorem d_Nd_isFull_0 : At prog_5_method_6_code 0 (.aload_n 0) 1 1 := ⟨by decide +kernel, rfl⟩
theorem d_Nd_isFull_1 : At prog_5_method_6_code 1 (.getfield 45) 3 4 := ⟨by decide +kernel, rfl⟩
theorem d_Nd_isFull_4 : At prog_5_method_6_code 4 (.aload_n 0) 1 5 := ⟨by decide +kernel, rfl⟩
theorem d_Nd_isFull_5 : At prog_5_method_6_code 5 (.getfield 48) 3 8 := ⟨by decide +kernel, rfl⟩
theorem d_Nd_isFull_8 : At prog_5_method_6_code 8 (.isub) 1 9 := ⟨by decide +kernel, rfl⟩
theorem d_Nd_isFull_9 : At prog_5_method_6_code 9 (.bipush 8) 2 11 := ⟨by decide +kernel, rfl⟩
theorem d_Nd_isFull_11 : AtC prog_5_method_6_code 11 (.if_icmp .ge) 23 14 := ⟨12, by decide +kernel, by decide, rfl⟩
theorem d_Nd_isFull_14 : At prog_5_method_6_code 14 (.aload_n 0) 1 15 := ⟨by decide +kernel, rfl⟩
theorem d_Nd_isFull_15 : At prog_5_method_6_code 15 (.getfield 45) 3 18 := ⟨by decide +kernel, rfl⟩
theorem d_Nd_isFull_18 : At prog_5_method_6_code 18 (.bipush 100) 2 20 := ⟨by decide +kernel, rfl⟩
theorem d_Nd_isFull_20 : AtC prog_5_method_6_code 20 (.if_icmp .lt) 27 23 := ⟨7, by decide +kernel, by decide, rfl⟩
theorem d_Nd_isFull_23 : At prog_5_method_6_code 23 (.iconst 1) 1 24 := ⟨by decide +kernel, rfl⟩
theorem d_Nd_isFull_24 : AtC prog_5_method_6_code 24 .goto 28 27 := ⟨4, by decide +kernel, by decide, rfl⟩
theorem d_Nd_isFull_27 : At prog_5_method_6_code 27 (.iconst 0) 1 28 := ⟨by decide +kernel, rfl⟩
theorem d_Nd_isFull_28 : At prog_5_method_6_code 28 (.ireturn) 1 29 := ⟨by decide +kernel, rfl⟩
theorem d_Up_init_0 : At prog_6_method_1_code 0 (.aload_n 0) 1 1 := ⟨by decide +kernel, rfl⟩
theorem d_Up_init_1 : At prog_6_method_1_code 1 (.invokespecial 1) 3 4 := ⟨by decide +kernel, rfl⟩
theorem d_Up_init_4 : At prog_6_method_1_code 4 (.aload_n 0) 1 5 := ⟨by decide +kernel, rfl⟩
theorem d_Up_init_5 : At prog_6_method_1_code 5 (.iload_n 1) 1 6 := ⟨by decide +kernel, rfl⟩
theorem d_Up_init_6 : At prog_6_method_1_code 6 (.putfield 7) 3 9 := ⟨by decide +kernel, rfl⟩
theorem d_Up_init_9 : At prog_6_method_1_code 9 (.aload_n 0) 1 10 := ⟨by decide +kernel, rfl⟩
theorem d_Up_init_10 : At prog_6_method_1_code 10 (.iload_n 2) 1 11 := ⟨by decide +kernel, rfl⟩
theorem d_Up_init_11 : At prog_6_method_1_code 11 (.putfield 13) 3 14 := ⟨by decide +kernel, rfl⟩
theorem d_Up_init_14 : At prog_6_method_1_code 14 (.aload_n 0) 1 15 := ⟨by decide +kernel, rfl⟩
theorem d_Up_init_15 : At prog_6_method_1_code 15 (.iload_n 3) 1 16 := ⟨by decide +kernel, rfl⟩
theorem d_Up_init_16 : At prog_6_method_1_code 16 (.putfield 16) 3 19 := ⟨by decide +kernel, rfl⟩
theorem d_Up_init_19 : At prog_6_method_1_code 19 (.aload_n 0) 1 20 := ⟨by decide +kernel, rfl⟩
theorem d_Up_init_20 : At prog_6_method_1_code 20 (.iload 4) 2 22 := ⟨by decide +kernel, rfl⟩
theorem d_Up_init_22 : At prog_6_method_1_code 22 (.putfield 19) 3 25 := ⟨by decide +kernel, rfl⟩
theorem d_Up_init_25 : At prog_6_method_1_code 25 (.return_) 1 26 := ⟨by decide +kernel, rfl⟩
theorem d_X_take_0 : At prog_1_method_34_code 0 (.aload_n 1) 1 1 := ⟨by decide +kernel, rfl⟩
theorem d_X_take_1 : At prog_1_method_34_code 1 (.aload_n 2) 1 2 := ⟨by decide +kernel, rfl⟩
theorem d_X_take_2 : At prog_1_method_34_code 2 (.invokevirtual 285) 3 5 := ⟨by decide +kernel, rfl⟩
theorem d_X_take_5 : AtC prog_1_method_34_code 5 (.ifCond .ne) 9 8 := ⟨4, by decide +kernel, by decide, rfl⟩
theorem d_X_take_8 : At prog_1_method_34_code 8 (.return_) 1 9 := ⟨by decide +kernel, rfl⟩
theorem d_X_take_9 : At prog_1_method_34_code 9 (.aload_n 1) 1 10 := ⟨by decide +kernel, rfl⟩
theorem d_X_take_10 : At prog_1_method_34_code 10 (.invokevirtual 289) 3 13 := ⟨by decide +kernel, rfl⟩
theorem d_X_take_13 : AtC prog_1_method_34_code 13 (.ifCond .eq) 27 16 := ⟨14, by decide +kernel, by decide, rfl⟩
theorem d_X_take_16 : At prog_1_method_34_code 16 (.aload_n 0) 1 17 := ⟨by decide +kernel, rfl⟩
theorem d_X_take_17 : At prog_1_method_34_code 17 (.aload_n 1) 1 18 := ⟨by decide +kernel, rfl⟩
theorem d_X_take_18 : At prog_1_method_34_code 18 (.invokevirtual 292) 3 21 := ⟨by decide +kernel, rfl⟩
theorem d_X_take_21 : At prog_1_method_34_code 21 (.aload_n 0) 1 22 := ⟨by decide +kernel, rfl⟩
theorem d_X_take_22 : At prog_1_method_34_code 22 (.aload_n 1) 1 23 := ⟨by decide +kernel, rfl⟩
theorem d_X_take_23 : At prog_1_method_34_code 23 (.invokevirtual 295) 3 26 := ⟨by decide +kernel, rfl⟩
theorem d_X_take_26 : At prog_1_method_34_code 26 (.return_) 1 27 := ⟨by decide +kernel, rfl⟩
theorem d_X_take_27 : At prog_1_method_34_code 27 (.new 114) 3 30 := ⟨by decide +kernel, rfl⟩
theorem d_X_take_30 : At prog_1_method_34_code 30 (.dup) 1 31 := ⟨by decide +kernel, rfl⟩
theorem d_X_take_31 : At prog_1_method_34_code 31 (.iconst 1) 1 32 := ⟨by decide +kernel, rfl⟩
theorem d_X_take_32 : At prog_1_method_34_code 32 (.aload_n 1) 1 33 := ⟨by decide +kernel, rfl⟩
theorem d_X_take_33 : At prog_1_method_34_code 33 (.aload_n 1) 1 34 := ⟨by decide +kernel, rfl⟩
theorem d_X_take_34 : At prog_1_method_34_code 34 (.invokevirtual 298) 3 37 := ⟨by decide +kernel, rfl⟩
theorem d_X_take_37 : At prog_1_method_34_code 37 (.invokespecial 249) 3 40 := ⟨by decide +kernel, rfl⟩
theorem d_X_take_40 : At prog_1_method_34_code 40 (.astore_n 3) 1 41 := ⟨by decide +kernel, rfl⟩
theorem d_X_take_41 : At prog_1_method_34_code 41 (.aload_n 3) 1 42 := ⟨by decide +kernel, rfl⟩
theorem d_X_take_42 : At prog_1_method_34_code 42 (.aload_n 2) 1 43 := ⟨by decide +kernel, rfl⟩
theorem d_X_take_43 : At prog_1_method_34_code 43 (.putfield 267) 3 46 := ⟨by decide +kernel, rfl⟩
theorem d_X_take_46 : At prog_1_method_34_code 46 (.aload_n 0) 1 47 := ⟨by decide +kernel, rfl⟩
theorem d_X_take_47 : At prog_1_method_34_code 47 (.aload_n 3) 1 48 := ⟨by decide +kernel, rfl⟩
theorem d_X_take_48 : At prog_1_method_34_code 48 (.invokevirtual 256) 3 51 := ⟨by decide +kernel, rfl⟩
theorem d_X_take_51 : At prog_1_method_34_code 51 (.return_) 1 52 := ⟨by decide +kernel, rfl⟩
theorem d_Nd_hold_0 : At prog_5_method_7_code 0 (.aload_n 1) 1 1 := ⟨by decide +kernel, rfl⟩
theorem d_Nd_hold_1 : AtC prog_5_method_7_code 1 .ifnull 13 4 := ⟨12, by decide +kernel, by decide, rfl⟩
theorem d_Nd_hold_4 : At prog_5_method_7_code 4 (.aload_n 0) 1 5 := ⟨by decide +kernel, rfl⟩
theorem d_Nd_hold_5 : At prog_5_method_7_code 5 (.getfield 45) 3 8 := ⟨by decide +kernel, rfl⟩
theorem d_Nd_hold_8 : At prog_5_method_7_code 8 (.bipush 100) 2 10 := ⟨by decide +kernel, rfl⟩
theorem d_Nd_hold_10 : AtC prog_5_method_7_code 10 (.if_icmp .lt) 15 13 := ⟨5, by decide +kernel, by decide, rfl⟩
theorem d_Nd_hold_13 : At prog_5_method_7_code 13 (.iconst 0) 1 14 := ⟨by decide +kernel, rfl⟩
theorem d_Nd_hold_14 : At prog_5_method_7_code 14 (.ireturn) 1 15 := ⟨by decide +kernel, rfl⟩
theorem d_Nd_hold_15 : At prog_5_method_7_code 15 (.aload_n 0) 1 16 := ⟨by decide +kernel, rfl⟩
theorem d_Nd_hold_16 : At prog_5_method_7_code 16 (.getfield 11) 3 19 := ⟨by decide +kernel, rfl⟩
theorem d_Nd_hold_19 : At prog_5_method_7_code 19 (.aload_n 0) 1 20 := ⟨by decide +kernel, rfl⟩
theorem d_Nd_hold_20 : At prog_5_method_7_code 20 (.getfield 45) 3 23 := ⟨by decide +kernel, rfl⟩
theorem d_Nd_hold_23 : At prog_5_method_7_code 23 (.aload_n 1) 1 24 := ⟨by decide +kernel, rfl⟩
theorem d_Nd_hold_24 : At prog_5_method_7_code 24 (.aastore) 1 25 := ⟨by decide +kernel, rfl⟩
theorem d_Nd_hold_25 : At prog_5_method_7_code 25 (.aload_n 0) 1 26 := ⟨by decide +kernel, rfl⟩
theorem d_Nd_hold_26 : At prog_5_method_7_code 26 (.dup) 1 27 := ⟨by decide +kernel, rfl⟩
theorem d_Nd_hold_27 : At prog_5_method_7_code 27 (.getfield 45) 3 30 := ⟨by decide +kernel, rfl⟩
theorem d_Nd_hold_30 : At prog_5_method_7_code 30 (.iconst 1) 1 31 := ⟨by decide +kernel, rfl⟩
theorem d_Nd_hold_31 : At prog_5_method_7_code 31 (.iadd) 1 32 := ⟨by decide +kernel, rfl⟩
theorem d_Nd_hold_32 : At prog_5_method_7_code 32 (.putfield 45) 3 35 := ⟨by decide +kernel, rfl⟩
theorem d_Nd_hold_35 : At prog_5_method_7_code 35 (.iconst 1) 1 36 := ⟨by decide +kernel, rfl⟩
theorem d_Nd_hold_36 : At prog_5_method_7_code 36 (.ireturn) 1 37 := ⟨by decide +kernel, rfl⟩
theorem d_Nd_isTail_0 : At prog_5_method_3_code 0 (.aload_n 0) 1 1 := ⟨by decide +kernel, rfl⟩
theorem d_Nd_isTail_1 : At prog_5_method_3_code 1 (.getfield 25) 3 4 := ⟨by decide +kernel, rfl⟩
theorem d_Nd_isTail_4 : At prog_5_method_3_code 4 (.invokevirtual 38) 3 7 := ⟨by decide +kernel, rfl⟩
theorem d_Nd_isTail_7 : At prog_5_method_3_code 7 (.aload_n 0) 1 8 := ⟨by decide +kernel, rfl⟩
theorem d_Nd_isTail_8 : At prog_5_method_3_code 8 (.getfield 21) 3 11 := ⟨by decide +kernel, rfl⟩
theorem d_Nd_isTail_11 : AtC prog_5_method_3_code 11 (.if_icmp .ne) 18 14 := ⟨7, by decide +kernel, by decide, rfl⟩
theorem d_Nd_isTail_14 : At prog_5_method_3_code 14 (.iconst 1) 1 15 := ⟨by decide +kernel, rfl⟩
theorem d_Nd_isTail_15 : AtC prog_5_method_3_code 15 .goto 19 18 := ⟨4, by decide +kernel, by decide, rfl⟩
theorem d_Nd_isTail_18 : At prog_5_method_3_code 18 (.iconst 0) 1 19 := ⟨by decide +kernel, rfl⟩
theorem d_Nd_isTail_19 : At prog_5_method_3_code 19 (.ireturn) 1 20 := ⟨by decide +kernel, rfl⟩
theorem d_Cf_tail_0 : At prog_3_method_4_code 0 (.aload_n 0) 1 1 := ⟨by decide +kernel, rfl⟩
theorem d_Cf_tail_1 : At prog_3_method_4_code 1 (.aload_n 0) 1 2 := ⟨by decide +kernel, rfl⟩
theorem d_Cf_tail_2 : At prog_3_method_4_code 2 (.getfield 15) 3 5 := ⟨by decide +kernel, rfl⟩
theorem d_Cf_tail_5 : At prog_3_method_4_code 5 (.arraylength) 1 6 := ⟨by decide +kernel, rfl⟩
theorem d_Cf_tail_6 : At prog_3_method_4_code 6 (.iconst 1) 1 7 := ⟨by decide +kernel, rfl⟩
theorem d_Cf_tail_7 : At prog_3_method_4_code 7 (.isub) 1 8 := ⟨by decide +kernel, rfl⟩
theorem d_Cf_tail_8 : At prog_3_method_4_code 8 (.invokevirtual 19) 3 11 := ⟨by decide +kernel, rfl⟩
theorem d_Cf_tail_11 : At prog_3_method_4_code 11 (.ireturn) 1 12 := ⟨by decide +kernel, rfl⟩
theorem d_X_settleAll_0 : At prog_1_method_35_code 0 (.aload_n 1) 1 1 := ⟨by decide +kernel, rfl⟩
theorem d_X_settleAll_1 : At prog_1_method_35_code 1 (.getfield 191) 3 4 := ⟨by decide +kernel, rfl⟩
theorem d_X_settleAll_4 : At prog_1_method_35_code 4 (.iconst 1) 1 5 := ⟨by decide +kernel, rfl⟩
theorem d_X_settleAll_5 : At prog_1_method_35_code 5 (.iadd) 1 6 := ⟨by decide +kernel, rfl⟩
theorem d_X_settleAll_6 : At prog_1_method_35_code 6 (.istore_n 2) 1 7 := ⟨by decide +kernel, rfl⟩
theorem d_X_settleAll_7 : At prog_1_method_35_code 7 (.iload_n 2) 1 8 := ⟨by decide +kernel, rfl⟩
theorem d_X_settleAll_8 : At prog_1_method_35_code 8 (.aload_n 1) 1 9 := ⟨by decide +kernel, rfl⟩
theorem d_X_settleAll_9 : At prog_1_method_35_code 9 (.getfield 188) 3 12 := ⟨by decide +kernel, rfl⟩
theorem d_X_settleAll_12 : AtC prog_1_method_35_code 12 (.if_icmp .gt) 31 15 := ⟨19, by decide +kernel, by decide, rfl⟩
theorem d_X_settleAll_15 : At prog_1_method_35_code 15 (.aload_n 0) 1 16 := ⟨by decide +kernel, rfl⟩
theorem d_X_settleAll_16 : At prog_1_method_35_code 16 (.aload_n 1) 1 17 := ⟨by decide +kernel, rfl⟩
theorem d_X_settleAll_17 : At prog_1_method_35_code 17 (.iload_n 2) 1 18 := ⟨by decide +kernel, rfl⟩
theorem d_X_settleAll_18 : At prog_1_method_35_code 18 (.invokevirtual 301) 3 21 := ⟨by decide +kernel, rfl⟩
theorem d_X_settleAll_21 : At prog_1_method_35_code 21 (.iload_n 2) 1 22 := ⟨by decide +kernel, rfl⟩
theorem d_X_settleAll_22 : At prog_1_method_35_code 22 (.invokevirtual 305) 3 25 := ⟨by decide +kernel, rfl⟩
theorem d_X_settleAll_25 : At prog_1_method_35_code 25 (.iinc 2 1) 3 28 := ⟨by decide +kernel, rfl⟩
theorem d_X_settleAll_28 : AtC prog_1_method_35_code 28 .goto 7 31 := ⟨-21, by decide +kernel, by decide, rfl⟩
theorem d_X_settleAll_31 : At prog_1_method_35_code 31 (.aload_n 1) 1 32 := ⟨by decide +kernel, rfl⟩
theorem d_X_settleAll_32 : At prog_1_method_35_code 32 (.aload_n 1) 1 33 := ⟨by decide +kernel, rfl⟩
theorem d_X_settleAll_33 : At prog_1_method_35_code 33 (.getfield 188) 3 36 := ⟨by decide +kernel, rfl⟩
theorem d_X_settleAll_36 : At prog_1_method_35_code 36 (.putfield 191) 3 39 := ⟨by decide +kernel, rfl⟩
theorem d_X_settleAll_39 : At prog_1_method_35_code 39 (.return_) 1 40 := ⟨by decide +kernel, rfl⟩
theorem d_X_finishWrite_0 : At prog_1_method_36_code 0 (.aload_n 1) 1 1 := ⟨by decide +kernel, rfl⟩
theorem d_X_finishWrite_1 : AtC prog_1_method_36_code 1 .ifnonnull 8 4 := ⟨7, by decide +kernel, by decide, rfl⟩
theorem d_X_finishWrite_4 : At prog_1_method_36_code 4 (.aconst_null) 1 5 := ⟨by decide +kernel, rfl⟩
theorem d_X_finishWrite_5 : AtC prog_1_method_36_code 5 .goto 16 8 := ⟨11, by decide +kernel, by decide, rfl⟩
theorem d_X_finishWrite_8 : At prog_1_method_36_code 8 (.aload_n 0) 1 9 := ⟨by decide +kernel, rfl⟩
theorem d_X_finishWrite_9 : At prog_1_method_36_code 9 (.aload_n 1) 1 10 := ⟨by decide +kernel, rfl⟩
theorem d_X_finishWrite_10 : At prog_1_method_36_code 10 (.getfield 309) 3 13 := ⟨by decide +kernel, rfl⟩
theorem d_X_finishWrite_13 : At prog_1_method_36_code 13 (.invokevirtual 54) 3 16 := ⟨by decide +kernel, rfl⟩
theorem d_X_finishWrite_16 : At prog_1_method_36_code 16 (.astore_n 3) 1 17 := ⟨by decide +kernel, rfl⟩
theorem d_X_finishWrite_17 : At prog_1_method_36_code 17 (.aload_n 3) 1 18 := ⟨by decide +kernel, rfl⟩
theorem d_X_finishWrite_18 : AtC prog_1_method_36_code 18 .ifnull 50 21 := ⟨32, by decide +kernel, by decide, rfl⟩
theorem d_X_finishWrite_21 : At prog_1_method_36_code 21 (.aload_n 3) 1 22 := ⟨by decide +kernel, rfl⟩
theorem d_X_finishWrite_22 : At prog_1_method_36_code 22 (.getfield 89) 3 25 := ⟨by decide +kernel, rfl⟩
theorem d_X_finishWrite_25 : At prog_1_method_36_code 25 (.iconst 1) 1 26 := ⟨by decide +kernel, rfl⟩
theorem d_X_finishWrite_26 : AtC prog_1_method_36_code 26 (.if_icmp .ne) 50 29 := ⟨24, by decide +kernel, by decide, rfl⟩
theorem d_X_finishWrite_29 : At prog_1_method_36_code 29 (.aload_n 3) 1 30 := ⟨by decide +kernel, rfl⟩
theorem d_X_finishWrite_30 : At prog_1_method_36_code 30 (.getfield 209) 3 33 := ⟨by decide +kernel, rfl⟩
theorem d_X_finishWrite_33 : At prog_1_method_36_code 33 (.aload_n 1) 1 34 := ⟨by decide +kernel, rfl⟩
theorem d_X_finishWrite_34 : At prog_1_method_36_code 34 (.getfield 310) 3 37 := ⟨by decide +kernel, rfl⟩
theorem d_X_finishWrite_37 : AtC prog_1_method_36_code 37 (.if_icmp .ne) 50 40 := ⟨13, by decide +kernel, by decide, rfl⟩
theorem d_X_finishWrite_40 : At prog_1_method_36_code 40 (.aload_n 3) 1 41 := ⟨by decide +kernel, rfl⟩
theorem d_X_finishWrite_41 : At prog_1_method_36_code 41 (.iconst 2) 1 42 := ⟨by decide +kernel, rfl⟩
theorem d_X_finishWrite_42 : At prog_1_method_36_code 42 (.iload_n 2) 1 43 := ⟨by decide +kernel, rfl⟩
theorem d_X_finishWrite_43 : At prog_1_method_36_code 43 (.aload_n 1) 1 44 := ⟨by decide +kernel, rfl⟩
theorem d_X_finishWrite_44 : At prog_1_method_36_code 44 (.getfield 313) 3 47 := ⟨by decide +kernel, rfl⟩
theorem d_X_finishWrite_47 : At prog_1_method_36_code 47 (.invokevirtual 263) 3 50 := ⟨by decide +kernel, rfl⟩
theorem d_X_finishWrite_50 : At prog_1_method_36_code 50 (.return_) 1 51 := ⟨by decide +kernel, rfl⟩
theorem d_Cl_finish_0 : At prog_2_method_7_code 0 (.aload_n 0) 1 1 := ⟨by decide +kernel, rfl⟩
theorem d_Cl_finish_1 : At prog_2_method_7_code 1 (.iload_n 1) 1 2 := ⟨by decide +kernel, rfl⟩
theorem d_Cl_finish_2 : At prog_2_method_7_code 2 (.putfield 9) 3 5 := ⟨by decide +kernel, rfl⟩
theorem d_Cl_finish_5 : At prog_2_method_7_code 5 (.aload_n 0) 1 6 := ⟨by decide +kernel, rfl⟩
theorem d_Cl_finish_6 : At prog_2_method_7_code 6 (.iload_n 2) 1 7 := ⟨by decide +kernel, rfl⟩
theorem d_Cl_finish_7 : At prog_2_method_7_code 7 (.putfield 27) 3 10 := ⟨by decide +kernel, rfl⟩
theorem d_Cl_finish_10 : At prog_2_method_7_code 10 (.aload_n 0) 1 11 := ⟨by decide +kernel, rfl⟩
theorem d_Cl_finish_11 : At prog_2_method_7_code 11 (.iload_n 3) 1 12 := ⟨by decide +kernel, rfl⟩
theorem d_Cl_finish_12 : At prog_2_method_7_code 12 (.putfield 30) 3 15 := ⟨by decide +kernel, rfl⟩
theorem d_Cl_finish_15 : At prog_2_method_7_code 15 (.return_) 1 16 := ⟨by decide +kernel, rfl⟩
theorem d_X_sendAck_0 : At prog_1_method_43_code 0 (.new 114) 3 3 := ⟨by decide +kernel, rfl⟩
theorem d_X_sendAck_3 : At prog_1_method_43_code 3 (.dup) 1 4 := ⟨by decide +kernel, rfl⟩
theorem d_X_sendAck_4 : At prog_1_method_43_code 4 (.iconst 2) 1 5 := ⟨by decide +kernel, rfl⟩
theorem d_X_sendAck_5 : At prog_1_method_43_code 5 (.aload_n 1) 1 6 := ⟨by decide +kernel, rfl⟩
theorem d_X_sendAck_6 : At prog_1_method_43_code 6 (.aload_n 1) 1 7 := ⟨by decide +kernel, rfl⟩
theorem d_X_sendAck_7 : At prog_1_method_43_code 7 (.invokevirtual 326) 3 10 := ⟨by decide +kernel, rfl⟩
theorem d_X_sendAck_10 : At prog_1_method_43_code 10 (.invokespecial 249) 3 13 := ⟨by decide +kernel, rfl⟩
theorem d_X_sendAck_13 : At prog_1_method_43_code 13 (.astore_n 2) 1 14 := ⟨by decide +kernel, rfl⟩
theorem d_X_sendAck_14 : At prog_1_method_43_code 14 (.aload_n 2) 1 15 := ⟨by decide +kernel, rfl⟩
theorem d_X_sendAck_15 : At prog_1_method_43_code 15 (.aload_n 1) 1 16 := ⟨by decide +kernel, rfl⟩
theorem d_X_sendAck_16 : At prog_1_method_43_code 16 (.getfield 191) 3 19 := ⟨by decide +kernel, rfl⟩
theorem d_X_sendAck_19 : At prog_1_method_43_code 19 (.putfield 271) 3 22 := ⟨by decide +kernel, rfl⟩
theorem d_X_sendAck_22 : At prog_1_method_43_code 22 (.aload_n 0) 1 23 := ⟨by decide +kernel, rfl⟩
theorem d_X_sendAck_23 : At prog_1_method_43_code 23 (.aload_n 2) 1 24 := ⟨by decide +kernel, rfl⟩
theorem d_X_sendAck_24 : At prog_1_method_43_code 24 (.invokevirtual 256) 3 27 := ⟨by decide +kernel, rfl⟩
theorem d_X_sendAck_27 : At prog_1_method_43_code 27 (.return_) 1 28 := ⟨by decide +kernel, rfl⟩
theorem d_Nd_predecessor_0 : At prog_5_method_4_code 0 (.aload_n 0) 1 1 := ⟨by decide +kernel, rfl⟩
theorem d_Nd_predecessor_1 : At prog_5_method_4_code 1 (.getfield 25) 3 4 := ⟨by decide +kernel, rfl⟩
theorem d_Nd_predecessor_4 : At prog_5_method_4_code 4 (.aload_n 0) 1 5 := ⟨by decide +kernel, rfl⟩
theorem d_Nd_predecessor_5 : At prog_5_method_4_code 5 (.getfield 21) 3 8 := ⟨by decide +kernel, rfl⟩
theorem d_Nd_predecessor_8 : At prog_5_method_4_code 8 (.iconst (-1)) 1 9 := ⟨by decide +kernel, rfl⟩
theorem d_Nd_predecessor_9 : At prog_5_method_4_code 9 (.invokevirtual 41) 3 12 := ⟨by decide +kernel, rfl⟩
theorem d_Nd_predecessor_12 : At prog_5_method_4_code 12 (.ireturn) 1 13 := ⟨by decide +kernel, rfl⟩
theorem d_Cf_neighbour_0 : At prog_3_method_5_code 0 (.iconst 0) 1 1 := ⟨by decide +kernel, rfl⟩
theorem d_Cf_neighbour_1 : At prog_3_method_5_code 1 (.istore_n 3) 1 2 := ⟨by decide +kernel, rfl⟩
theorem d_Cf_neighbour_2 : At prog_3_method_5_code 2 (.iload_n 3) 1 3 := ⟨by decide +kernel, rfl⟩
theorem d_Cf_neighbour_3 : At prog_3_method_5_code 3 (.aload_n 0) 1 4 := ⟨by decide +kernel, rfl⟩
theorem d_Cf_neighbour_4 : At prog_3_method_5_code 4 (.getfield 15) 3 7 := ⟨by decide +kernel, rfl⟩
theorem d_Cf_neighbour_7 : At prog_3_method_5_code 7 (.arraylength) 1 8 := ⟨by decide +kernel, rfl⟩
theorem d_Cf_neighbour_8 : AtC prog_3_method_5_code 8 (.if_icmp .ge) 59 11 := ⟨51, by decide +kernel, by decide, rfl⟩
theorem d_Cf_neighbour_11 : At prog_3_method_5_code 11 (.aload_n 0) 1 12 := ⟨by decide +kernel, rfl⟩
theorem d_Cf_neighbour_12 : At prog_3_method_5_code 12 (.getfield 15) 3 15 := ⟨by decide +kernel, rfl⟩
theorem d_Cf_neighbour_15 : At prog_3_method_5_code 15 (.iload_n 3) 1 16 := ⟨by decide +kernel, rfl⟩
theorem d_Cf_neighbour_16 : At prog_3_method_5_code 16 (.iaload) 1 17 := ⟨by decide +kernel, rfl⟩
theorem d_Cf_neighbour_17 : At prog_3_method_5_code 17 (.iload_n 1) 1 18 := ⟨by decide +kernel, rfl⟩
theorem d_Cf_neighbour_18 : AtC prog_3_method_5_code 18 (.if_icmp .ne) 53 21 := ⟨35, by decide +kernel, by decide, rfl⟩
theorem d_Cf_neighbour_21 : At prog_3_method_5_code 21 (.iload_n 3) 1 22 := ⟨by decide +kernel, rfl⟩
theorem d_Cf_neighbour_22 : At prog_3_method_5_code 22 (.iload_n 2) 1 23 := ⟨by decide +kernel, rfl⟩
theorem d_Cf_neighbour_23 : At prog_3_method_5_code 23 (.iadd) 1 24 := ⟨by decide +kernel, rfl⟩
theorem d_Cf_neighbour_24 : At prog_3_method_5_code 24 (.istore 4) 2 26 := ⟨by decide +kernel, rfl⟩
theorem d_Cf_neighbour_26 : At prog_3_method_5_code 26 (.iload 4) 2 28 := ⟨by decide +kernel, rfl⟩
theorem d_Cf_neighbour_28 : AtC prog_3_method_5_code 28 (.ifCond .lt) 51 31 := ⟨23, by decide +kernel, by decide, rfl⟩
theorem d_Cf_neighbour_31 : At prog_3_method_5_code 31 (.iload 4) 2 33 := ⟨by decide +kernel, rfl⟩
theorem d_Cf_neighbour_33 : At prog_3_method_5_code 33 (.aload_n 0) 1 34 := ⟨by decide +kernel, rfl⟩
theorem d_Cf_neighbour_34 : At prog_3_method_5_code 34 (.getfield 15) 3 37 := ⟨by decide +kernel, rfl⟩
theorem d_Cf_neighbour_37 : At prog_3_method_5_code 37 (.arraylength) 1 38 := ⟨by decide +kernel, rfl⟩
theorem d_Cf_neighbour_38 : AtC prog_3_method_5_code 38 (.if_icmp .ge) 51 41 := ⟨13, by decide +kernel, by decide, rfl⟩
theorem d_Cf_neighbour_41 : At prog_3_method_5_code 41 (.aload_n 0) 1 42 := ⟨by decide +kernel, rfl⟩
theorem d_Cf_neighbour_42 : At prog_3_method_5_code 42 (.getfield 15) 3 45 := ⟨by decide +kernel, rfl⟩
theorem d_Cf_neighbour_45 : At prog_3_method_5_code 45 (.iload 4) 2 47 := ⟨by decide +kernel, rfl⟩
theorem d_Cf_neighbour_47 : At prog_3_method_5_code 47 (.iaload) 1 48 := ⟨by decide +kernel, rfl⟩
theorem d_Cf_neighbour_48 : AtC prog_3_method_5_code 48 .goto 52 51 := ⟨4, by decide +kernel, by decide, rfl⟩
theorem d_Cf_neighbour_51 : At prog_3_method_5_code 51 (.iconst (-1)) 1 52 := ⟨by decide +kernel, rfl⟩
theorem d_Cf_neighbour_52 : At prog_3_method_5_code 52 (.ireturn) 1 53 := ⟨by decide +kernel, rfl⟩
theorem d_Cf_neighbour_53 : At prog_3_method_5_code 53 (.iinc 3 1) 3 56 := ⟨by decide +kernel, rfl⟩
theorem d_Cf_neighbour_56 : AtC prog_3_method_5_code 56 .goto 2 59 := ⟨-54, by decide +kernel, by decide, rfl⟩
theorem d_Cf_neighbour_59 : At prog_3_method_5_code 59 (.iconst (-1)) 1 60 := ⟨by decide +kernel, rfl⟩
theorem d_Cf_neighbour_60 : At prog_3_method_5_code 60 (.ireturn) 1 61 := ⟨by decide +kernel, rfl⟩
theorem d_Mg_init_0 : At prog_4_method_1_code 0 (.aload_n 0) 1 1 := ⟨by decide +kernel, rfl⟩
theorem d_Mg_init_1 : At prog_4_method_1_code 1 (.invokespecial 1) 3 4 := ⟨by decide +kernel, rfl⟩
theorem d_Mg_init_4 : At prog_4_method_1_code 4 (.aload_n 0) 1 5 := ⟨by decide +kernel, rfl⟩
theorem d_Mg_init_5 : At prog_4_method_1_code 5 (.iload_n 1) 1 6 := ⟨by decide +kernel, rfl⟩
theorem d_Mg_init_6 : At prog_4_method_1_code 6 (.putfield 7) 3 9 := ⟨by decide +kernel, rfl⟩
theorem d_Mg_init_9 : At prog_4_method_1_code 9 (.aload_n 0) 1 10 := ⟨by decide +kernel, rfl⟩
theorem d_Mg_init_10 : At prog_4_method_1_code 10 (.aload_n 2) 1 11 := ⟨by decide +kernel, rfl⟩
theorem d_Mg_init_11 : At prog_4_method_1_code 11 (.getfield 13) 3 14 := ⟨by decide +kernel, rfl⟩
theorem d_Mg_init_14 : At prog_4_method_1_code 14 (.putfield 18) 3 17 := ⟨by decide +kernel, rfl⟩
theorem d_Mg_init_17 : At prog_4_method_1_code 17 (.aload_n 0) 1 18 := ⟨by decide +kernel, rfl⟩
theorem d_Mg_init_18 : At prog_4_method_1_code 18 (.iload_n 3) 1 19 := ⟨by decide +kernel, rfl⟩
theorem d_Mg_init_19 : At prog_4_method_1_code 19 (.putfield 21) 3 22 := ⟨by decide +kernel, rfl⟩
theorem d_Mg_init_22 : At prog_4_method_1_code 22 (.aload_n 0) 1 23 := ⟨by decide +kernel, rfl⟩
theorem d_Mg_init_23 : At prog_4_method_1_code 23 (.aload_n 2) 1 24 := ⟨by decide +kernel, rfl⟩
theorem d_Mg_init_24 : At prog_4_method_1_code 24 (.getfield 24) 3 27 := ⟨by decide +kernel, rfl⟩
theorem d_Mg_init_27 : At prog_4_method_1_code 27 (.getfield 28) 3 30 := ⟨by decide +kernel, rfl⟩
theorem d_Mg_init_30 : At prog_4_method_1_code 30 (.putfield 33) 3 33 := ⟨by decide +kernel, rfl⟩
theorem d_Mg_init_33 : At prog_4_method_1_code 33 (.return_) 1 34 := ⟨by decide +kernel, rfl⟩
theorem d_X_send_0 : At prog_1_method_44_code 0 (.aload_n 0) 1 1 := ⟨by decide +kernel, rfl⟩
theorem d_X_send_1 : At prog_1_method_44_code 1 (.aload_n 1) 1 2 := ⟨by decide +kernel, rfl⟩
theorem d_X_send_2 : At prog_1_method_44_code 2 (.getfield 329) 3 5 := ⟨by decide +kernel, rfl⟩
theorem d_X_send_5 : At prog_1_method_44_code 5 (.invokevirtual 95) 3 8 := ⟨by decide +kernel, rfl⟩
theorem d_X_send_8 : At prog_1_method_44_code 8 (.astore_n 2) 1 9 := ⟨by decide +kernel, rfl⟩
theorem d_X_send_9 : At prog_1_method_44_code 9 (.aload_n 2) 1 10 := ⟨by decide +kernel, rfl⟩
theorem d_X_send_10 : AtC prog_1_method_44_code 10 .ifnull 36 13 := ⟨26, by decide +kernel, by decide, rfl⟩
theorem d_X_send_13 : At prog_1_method_44_code 13 (.aload_n 2) 1 14 := ⟨by decide +kernel, rfl⟩
theorem d_X_send_14 : At prog_1_method_44_code 14 (.getfield 119) 3 17 := ⟨by decide +kernel, rfl⟩
theorem d_X_send_17 : At prog_1_method_44_code 17 (.getfield 122) 3 20 := ⟨by decide +kernel, rfl⟩
theorem d_X_send_20 : At prog_1_method_44_code 20 (.aload_n 1) 1 21 := ⟨by decide +kernel, rfl⟩
theorem d_X_send_21 : At prog_1_method_44_code 21 (.getfield 116) 3 24 := ⟨by decide +kernel, rfl⟩
theorem d_X_send_24 : AtC prog_1_method_44_code 24 (.if_icmp .gt) 36 27 := ⟨12, by decide +kernel, by decide, rfl⟩
theorem d_X_send_27 : At prog_1_method_44_code 27 (.aload_n 0) 1 28 := ⟨by decide +kernel, rfl⟩
theorem d_X_send_28 : At prog_1_method_44_code 28 (.getfield 24) 3 31 := ⟨by decide +kernel, rfl⟩
theorem d_X_send_31 : At prog_1_method_44_code 31 (.aload_n 1) 1 32 := ⟨by decide +kernel, rfl⟩
theorem d_X_send_32 : At prog_1_method_44_code 32 (.invokevirtual 332) 3 35 := ⟨by decide +kernel, rfl⟩
theorem d_X_send_35 : At prog_1_method_44_code 35 (.pop) 1 36 := ⟨by decide +kernel, rfl⟩
theorem d_X_send_36 : At prog_1_method_44_code 36 (.return_) 1 37 := ⟨by decide +kernel, rfl⟩
theorem d_Nd_successor_0 : At prog_5_method_5_code 0 (.aload_n 0) 1 1 := ⟨by decide +kernel, rfl⟩
theorem d_Nd_successor_1 : At prog_5_method_5_code 1 (.getfield 25) 3 4 := ⟨by decide +kernel, rfl⟩
theorem d_Nd_successor_4 : At prog_5_method_5_code 4 (.aload_n 0) 1 5 := ⟨by decide +kernel, rfl⟩
theorem d_Nd_successor_5 : At prog_5_method_5_code 5 (.getfield 21) 3 8 := ⟨by decide +kernel, rfl⟩
theorem d_Nd_successor_8 : At prog_5_method_5_code 8 (.iconst 1) 1 9 := ⟨by decide +kernel, rfl⟩
theorem d_Nd_successor_9 : At prog_5_method_5_code 9 (.invokevirtual 41) 3 12 := ⟨by decide +kernel, rfl⟩
theorem d_Nd_successor_12 : At prog_5_method_5_code 12 (.ireturn) 1 13 := ⟨by decide +kernel, rfl⟩
theorem d_X_get_0 : At prog_1_method_3_code 0 (.aload_n 0) 1 1 := ⟨by decide +kernel, rfl⟩
theorem d_X_get_1 : At prog_1_method_3_code 1 (.iload_n 1) 1 2 := ⟨by decide +kernel, rfl⟩
theorem d_X_get_2 : At prog_1_method_3_code 2 (.invokevirtual 54) 3 5 := ⟨by decide +kernel, rfl⟩
theorem d_X_get_5 : At prog_1_method_3_code 5 (.astore 4) 2 7 := ⟨by decide +kernel, rfl⟩
theorem d_X_get_7 : At prog_1_method_3_code 7 (.aload 4) 2 9 := ⟨by decide +kernel, rfl⟩
theorem d_X_get_9 : AtC prog_1_method_3_code 9 .ifnull 26 12 := ⟨17, by decide +kernel, by decide, rfl⟩
theorem d_X_get_12 : At prog_1_method_3_code 12 (.iload_n 3) 1 13 := ⟨by decide +kernel, rfl⟩
theorem d_X_get_13 : At prog_1_method_3_code 13 (.invokestatic 58) 3 16 := ⟨by decide +kernel, rfl⟩
theorem d_X_get_16 : AtC prog_1_method_3_code 16 (.ifCond .eq) 26 19 := ⟨10, by decide +kernel, by decide, rfl⟩
theorem d_X_get_19 : At prog_1_method_3_code 19 (.iload_n 2) 1 20 := ⟨by decide +kernel, rfl⟩
theorem d_X_get_20 : At prog_1_method_3_code 20 (.invokestatic 74) 3 23 := ⟨by decide +kernel, rfl⟩
theorem d_X_get_23 : AtC prog_1_method_3_code 23 (.ifCond .ne) 28 26 := ⟨5, by decide +kernel, by decide, rfl⟩
theorem d_X_get_26 : At prog_1_method_3_code 26 (.iconst (-1)) 1 27 := ⟨by decide +kernel, rfl⟩
theorem d_X_get_27 : At prog_1_method_3_code 27 (.ireturn) 1 28 := ⟨by decide +kernel, rfl⟩
theorem d_X_get_28 : At prog_1_method_3_code 28 (.aload 4) 2 30 := ⟨by decide +kernel, rfl⟩
theorem d_X_get_30 : At prog_1_method_3_code 30 (.invokevirtual 62) 3 33 := ⟨by decide +kernel, rfl⟩
theorem d_X_get_33 : AtC prog_1_method_3_code 33 (.ifCond .eq) 39 36 := ⟨6, by decide +kernel, by decide, rfl⟩
theorem d_X_get_36 : At prog_1_method_3_code 36 (.bipush (-2)) 2 38 := ⟨by decide +kernel, rfl⟩
theorem d_X_get_38 : At prog_1_method_3_code 38 (.ireturn) 1 39 := ⟨by decide +kernel, rfl⟩
theorem d_X_get_39 : At prog_1_method_3_code 39 (.aload_n 0) 1 40 := ⟨by decide +kernel, rfl⟩
theorem d_X_get_40 : At prog_1_method_3_code 40 (.iload_n 2) 1 41 := ⟨by decide +kernel, rfl⟩
theorem d_X_get_41 : At prog_1_method_3_code 41 (.invokevirtual 77) 3 44 := ⟨by decide +kernel, rfl⟩
theorem d_X_get_44 : At prog_1_method_3_code 44 (.astore 5) 2 46 := ⟨by decide +kernel, rfl⟩
theorem d_X_get_46 : At prog_1_method_3_code 46 (.aload 5) 2 48 := ⟨by decide +kernel, rfl⟩
theorem d_X_get_48 : AtC prog_1_method_3_code 48 .ifnonnull 53 51 := ⟨5, by decide +kernel, by decide, rfl⟩
theorem d_X_get_51 : At prog_1_method_3_code 51 (.iconst 0) 1 52 := ⟨by decide +kernel, rfl⟩
theorem d_X_get_52 : At prog_1_method_3_code 52 (.ireturn) 1 53 := ⟨by decide +kernel, rfl⟩
theorem d_X_get_53 : At prog_1_method_3_code 53 (.aload 4) 2 55 := ⟨by decide +kernel, rfl⟩
theorem d_X_get_55 : At prog_1_method_3_code 55 (.iload_n 3) 1 56 := ⟨by decide +kernel, rfl⟩
theorem d_X_get_56 : At prog_1_method_3_code 56 (.invokevirtual 81) 3 59 := ⟨by decide +kernel, rfl⟩
theorem d_X_get_59 : At prog_1_method_3_code 59 (.aload_n 0) 1 60 := ⟨by decide +kernel, rfl⟩
theorem d_X_get_60 : At prog_1_method_3_code 60 (.iload_n 1) 1 61 := ⟨by decide +kernel, rfl⟩
theorem d_X_get_61 : At prog_1_method_3_code 61 (.aload 4) 2 63 := ⟨by decide +kernel, rfl⟩
theorem d_X_get_63 : At prog_1_method_3_code 63 (.aload 5) 2 65 := ⟨by decide +kernel, rfl⟩
theorem d_X_get_65 : At prog_1_method_3_code 65 (.invokevirtual 85) 3 68 := ⟨by decide +kernel, rfl⟩
theorem d_X_get_68 : At prog_1_method_3_code 68 (.ireturn) 1 69 := ⟨by decide +kernel, rfl⟩
theorem d_X_isNodeNumber_0 : At prog_1_method_20_code 0 (.iload_n 0) 1 1 := ⟨by decide +kernel, rfl⟩
theorem d_X_isNodeNumber_1 : AtC prog_1_method_20_code 1 (.ifCond .lt) 14 4 := ⟨13, by decide +kernel, by decide, rfl⟩
theorem d_X_isNodeNumber_4 : At prog_1_method_20_code 4 (.iload_n 0) 1 5 := ⟨by decide +kernel, rfl⟩
theorem d_X_isNodeNumber_5 : At prog_1_method_20_code 5 (.bipush 6) 2 7 := ⟨by decide +kernel, rfl⟩
theorem d_X_isNodeNumber_7 : AtC prog_1_method_20_code 7 (.if_icmp .ge) 14 10 := ⟨7, by decide +kernel, by decide, rfl⟩
theorem d_X_isNodeNumber_10 : At prog_1_method_20_code 10 (.iconst 1) 1 11 := ⟨by decide +kernel, rfl⟩
theorem d_X_isNodeNumber_11 : AtC prog_1_method_20_code 11 .goto 15 14 := ⟨4, by decide +kernel, by decide, rfl⟩
theorem d_X_isNodeNumber_14 : At prog_1_method_20_code 14 (.iconst 0) 1 15 := ⟨by decide +kernel, rfl⟩
theorem d_X_isNodeNumber_15 : At prog_1_method_20_code 15 (.ireturn) 1 16 := ⟨by decide +kernel, rfl⟩
theorem d_X_readyNode_0 : At prog_1_method_25_code 0 (.aload_n 0) 1 1 := ⟨by decide +kernel, rfl⟩
theorem d_X_readyNode_1 : At prog_1_method_25_code 1 (.iload_n 1) 1 2 := ⟨by decide +kernel, rfl⟩
theorem d_X_readyNode_2 : At prog_1_method_25_code 2 (.invokevirtual 95) 3 5 := ⟨by decide +kernel, rfl⟩
theorem d_X_readyNode_5 : At prog_1_method_25_code 5 (.astore_n 2) 1 6 := ⟨by decide +kernel, rfl⟩
theorem d_X_readyNode_6 : At prog_1_method_25_code 6 (.aload_n 2) 1 7 := ⟨by decide +kernel, rfl⟩
theorem d_X_readyNode_7 : AtC prog_1_method_25_code 7 .ifnull 21 10 := ⟨14, by decide +kernel, by decide, rfl⟩
theorem d_X_readyNode_10 : At prog_1_method_25_code 10 (.aload_n 2) 1 11 := ⟨by decide +kernel, rfl⟩
theorem d_X_readyNode_11 : At prog_1_method_25_code 11 (.getfield 123) 3 14 := ⟨by decide +kernel, rfl⟩
theorem d_X_readyNode_14 : AtC prog_1_method_25_code 14 (.ifCond .eq) 21 17 := ⟨7, by decide +kernel, by decide, rfl⟩
theorem d_X_readyNode_17 : At prog_1_method_25_code 17 (.aload_n 2) 1 18 := ⟨by decide +kernel, rfl⟩
theorem d_X_readyNode_18 : AtC prog_1_method_25_code 18 .goto 22 21 := ⟨4, by decide +kernel, by decide, rfl⟩
theorem d_X_readyNode_21 : At prog_1_method_25_code 21 (.aconst_null) 1 22 := ⟨by decide +kernel, rfl⟩
theorem d_X_readyNode_22 : At prog_1_method_25_code 22 (.areturn) 1 23 := ⟨by decide +kernel, rfl⟩
theorem d_Cl_beginRead_0 : At prog_2_method_6_code 0 (.aload_n 0) 1 1 := ⟨by decide +kernel, rfl⟩
theorem d_Cl_beginRead_1 : At prog_2_method_6_code 1 (.iconst 3) 1 2 := ⟨by decide +kernel, rfl⟩
theorem d_Cl_beginRead_2 : At prog_2_method_6_code 2 (.putfield 9) 3 5 := ⟨by decide +kernel, rfl⟩
theorem d_Cl_beginRead_5 : At prog_2_method_6_code 5 (.aload_n 0) 1 6 := ⟨by decide +kernel, rfl⟩
theorem d_Cl_beginRead_6 : At prog_2_method_6_code 6 (.iconst (-1)) 1 7 := ⟨by decide +kernel, rfl⟩
theorem d_Cl_beginRead_7 : At prog_2_method_6_code 7 (.putfield 15) 3 10 := ⟨by decide +kernel, rfl⟩
theorem d_Cl_beginRead_10 : At prog_2_method_6_code 10 (.aload_n 0) 1 11 := ⟨by decide +kernel, rfl⟩
theorem d_Cl_beginRead_11 : At prog_2_method_6_code 11 (.iload_n 1) 1 12 := ⟨by decide +kernel, rfl⟩
theorem d_Cl_beginRead_12 : At prog_2_method_6_code 12 (.putfield 21) 3 15 := ⟨by decide +kernel, rfl⟩
theorem d_Cl_beginRead_15 : At prog_2_method_6_code 15 (.return_) 1 16 := ⟨by decide +kernel, rfl⟩
theorem d_X_serve_0 : At prog_1_method_30_code 0 (.aload_n 3) 1 1 := ⟨by decide +kernel, rfl⟩
theorem d_X_serve_1 : At prog_1_method_30_code 1 (.aload_n 2) 1 2 := ⟨by decide +kernel, rfl⟩
theorem d_X_serve_2 : At prog_1_method_30_code 2 (.getfield 220) 3 5 := ⟨by decide +kernel, rfl⟩
theorem d_X_serve_5 : At prog_1_method_30_code 5 (.invokevirtual 233) 3 8 := ⟨by decide +kernel, rfl⟩
theorem d_X_serve_8 : AtC prog_1_method_30_code 8 (.ifCond .eq) 26 11 := ⟨18, by decide +kernel, by decide, rfl⟩
theorem d_X_serve_11 : At prog_1_method_30_code 11 (.aload_n 2) 1 12 := ⟨by decide +kernel, rfl⟩
theorem d_X_serve_12 : At prog_1_method_30_code 12 (.aload_n 3) 1 13 := ⟨by decide +kernel, rfl⟩
theorem d_X_serve_13 : At prog_1_method_30_code 13 (.aload_n 3) 1 14 := ⟨by decide +kernel, rfl⟩
theorem d_X_serve_14 : At prog_1_method_30_code 14 (.aload_n 2) 1 15 := ⟨by decide +kernel, rfl⟩
theorem d_X_serve_15 : At prog_1_method_30_code 15 (.getfield 220) 3 18 := ⟨by decide +kernel, rfl⟩
theorem d_X_serve_18 : At prog_1_method_30_code 18 (.invokevirtual 236) 3 21 := ⟨by decide +kernel, rfl⟩
theorem d_X_serve_21 : At prog_1_method_30_code 21 (.invokestatic 239) 3 24 := ⟨by decide +kernel, rfl⟩
theorem d_X_serve_24 : At prog_1_method_30_code 24 (.iconst 5) 1 25 := ⟨by decide +kernel, rfl⟩
theorem d_X_serve_25 : At prog_1_method_30_code 25 (.ireturn) 1 26 := ⟨by decide +kernel, rfl⟩
theorem d_X_serve_26 : At prog_1_method_30_code 26 (.aload_n 2) 1 27 := ⟨by decide +kernel, rfl⟩
theorem d_X_serve_27 : At prog_1_method_30_code 27 (.aload_n 3) 1 28 := ⟨by decide +kernel, rfl⟩
theorem d_X_serve_28 : At prog_1_method_30_code 28 (.getfield 243) 3 31 := ⟨by decide +kernel, rfl⟩
theorem d_X_serve_31 : At prog_1_method_30_code 31 (.putfield 92) 3 34 := ⟨by decide +kernel, rfl⟩
theorem d_X_serve_34 : At prog_1_method_30_code 34 (.new 114) 3 37 := ⟨by decide +kernel, rfl⟩
theorem d_X_serve_37 : At prog_1_method_30_code 37 (.dup) 1 38 := ⟨by decide +kernel, rfl⟩
theorem d_X_serve_38 : At prog_1_method_30_code 38 (.iconst 3) 1 39 := ⟨by decide +kernel, rfl⟩
theorem d_X_serve_39 : At prog_1_method_30_code 39 (.aload_n 3) 1 40 := ⟨by decide +kernel, rfl⟩
theorem d_X_serve_40 : At prog_1_method_30_code 40 (.aload_n 3) 1 41 := ⟨by decide +kernel, rfl⟩
theorem d_X_serve_41 : At prog_1_method_30_code 41 (.getfield 119) 3 44 := ⟨by decide +kernel, rfl⟩
theorem d_X_serve_44 : At prog_1_method_30_code 44 (.invokevirtual 246) 3 47 := ⟨by decide +kernel, rfl⟩
theorem d_X_serve_47 : At prog_1_method_30_code 47 (.invokespecial 249) 3 50 := ⟨by decide +kernel, rfl⟩
theorem d_X_serve_50 : At prog_1_method_30_code 50 (.astore 4) 2 52 := ⟨by decide +kernel, rfl⟩
theorem d_X_serve_52 : At prog_1_method_30_code 52 (.aload 4) 2 54 := ⟨by decide +kernel, rfl⟩
theorem d_X_serve_54 : At prog_1_method_30_code 54 (.aload_n 2) 1 55 := ⟨by decide +kernel, rfl⟩
theorem d_X_serve_55 : At prog_1_method_30_code 55 (.getfield 220) 3 58 := ⟨by decide +kernel, rfl⟩
theorem d_X_serve_58 : At prog_1_method_30_code 58 (.putfield 252) 3 61 := ⟨by decide +kernel, rfl⟩
theorem d_X_serve_61 : At prog_1_method_30_code 61 (.aload 4) 2 63 := ⟨by decide +kernel, rfl⟩
theorem d_X_serve_63 : At prog_1_method_30_code 63 (.iload_n 1) 1 64 := ⟨by decide +kernel, rfl⟩
theorem d_X_serve_64 : At prog_1_method_30_code 64 (.putfield 253) 3 67 := ⟨by decide +kernel, rfl⟩
theorem d_X_serve_67 : At prog_1_method_30_code 67 (.aload_n 0) 1 68 := ⟨by decide +kernel, rfl⟩
theorem d_X_serve_68 : At prog_1_method_30_code 68 (.aload 4) 2 70 := ⟨by decide +kernel, rfl⟩
theorem d_X_serve_70 : At prog_1_method_30_code 70 (.invokevirtual 256) 3 73 := ⟨by decide +kernel, rfl⟩
theorem d_X_serve_73 : At prog_1_method_30_code 73 (.bipush 6) 2 75 := ⟨by decide +kernel, rfl⟩
theorem d_X_serve_75 : At prog_1_method_30_code 75 (.ireturn) 1 76 := ⟨by decide +kernel, rfl⟩
theorem d_Nd_isClean_0 : At prog_5_method_14_code 0 (.aload_n 0) 1 1 := ⟨by decide +kernel, rfl⟩
theorem d_Nd_isClean_1 : At prog_5_method_14_code 1 (.getfield 48) 3 4 := ⟨by decide +kernel, rfl⟩
theorem d_Nd_isClean_4 : At prog_5_method_14_code 4 (.iconst 1) 1 5 := ⟨by decide +kernel, rfl⟩
theorem d_Nd_isClean_5 : At prog_5_method_14_code 5 (.iadd) 1 6 := ⟨by decide +kernel, rfl⟩
theorem d_Nd_isClean_6 : At prog_5_method_14_code 6 (.istore_n 2) 1 7 := ⟨by decide +kernel, rfl⟩
theorem d_Nd_isClean_7 : At prog_5_method_14_code 7 (.iload_n 2) 1 8 := ⟨by decide +kernel, rfl⟩
theorem d_Nd_isClean_8 : At prog_5_method_14_code 8 (.aload_n 0) 1 9 := ⟨by decide +kernel, rfl⟩
theorem d_Nd_isClean_9 : At prog_5_method_14_code 9 (.getfield 45) 3 12 := ⟨by decide +kernel, rfl⟩
theorem d_Nd_isClean_12 : AtC prog_5_method_14_code 12 (.if_icmp .gt) 32 15 := ⟨20, by decide +kernel, by decide, rfl⟩
theorem d_Nd_isClean_15 : At prog_5_method_14_code 15 (.aload_n 0) 1 16 := ⟨by decide +kernel, rfl⟩
theorem d_Nd_isClean_16 : At prog_5_method_14_code 16 (.iload_n 2) 1 17 := ⟨by decide +kernel, rfl⟩
theorem d_Nd_isClean_17 : At prog_5_method_14_code 17 (.iload_n 1) 1 18 := ⟨by decide +kernel, rfl⟩
theorem d_Nd_isClean_18 : At prog_5_method_14_code 18 (.invokevirtual 67) 3 21 := ⟨by decide +kernel, rfl⟩
theorem d_Nd_isClean_21 : AtC prog_5_method_14_code 21 (.ifCond .eq) 26 24 := ⟨5, by decide +kernel, by decide, rfl⟩
theorem d_Nd_isClean_24 : At prog_5_method_14_code 24 (.iconst 0) 1 25 := ⟨by decide +kernel, rfl⟩
theorem d_Nd_isClean_25 : At prog_5_method_14_code 25 (.ireturn) 1 26 := ⟨by decide +kernel, rfl⟩
theorem d_Nd_isClean_26 : At prog_5_method_14_code 26 (.iinc 2 1) 3 29 := ⟨by decide +kernel, rfl⟩
theorem d_Nd_isClean_29 : AtC prog_5_method_14_code 29 .goto 7 32 := ⟨-22, by decide +kernel, by decide, rfl⟩
theorem d_Nd_isClean_32 : At prog_5_method_14_code 32 (.iconst 1) 1 33 := ⟨by decide +kernel, rfl⟩
theorem d_Nd_isClean_33 : At prog_5_method_14_code 33 (.ireturn) 1 34 := ⟨by decide +kernel, rfl⟩
theorem d_Nd_isOfKey_0 : At prog_5_method_10_code 0 (.aload_n 0) 1 1 := ⟨by decide +kernel, rfl⟩
theorem d_Nd_isOfKey_1 : At prog_5_method_10_code 1 (.iload_n 1) 1 2 := ⟨by decide +kernel, rfl⟩
theorem d_Nd_isOfKey_2 : At prog_5_method_10_code 2 (.invokevirtual 51) 3 5 := ⟨by decide +kernel, rfl⟩
theorem d_Nd_isOfKey_5 : At prog_5_method_10_code 5 (.astore_n 3) 1 6 := ⟨by decide +kernel, rfl⟩
theorem d_Nd_isOfKey_6 : At prog_5_method_10_code 6 (.aload_n 3) 1 7 := ⟨by decide +kernel, rfl⟩
theorem d_Nd_isOfKey_7 : AtC prog_5_method_10_code 7 .ifnull 22 10 := ⟨15, by decide +kernel, by decide, rfl⟩
theorem d_Nd_isOfKey_10 : At prog_5_method_10_code 10 (.aload_n 3) 1 11 := ⟨by decide +kernel, rfl⟩
theorem d_Nd_isOfKey_11 : At prog_5_method_10_code 11 (.getfield 58) 3 14 := ⟨by decide +kernel, rfl⟩
theorem d_Nd_isOfKey_14 : At prog_5_method_10_code 14 (.iload_n 2) 1 15 := ⟨by decide +kernel, rfl⟩
theorem d_Nd_isOfKey_15 : AtC prog_5_method_10_code 15 (.if_icmp .ne) 22 18 := ⟨7, by decide +kernel, by decide, rfl⟩
theorem d_Nd_isOfKey_18 : At prog_5_method_10_code 18 (.iconst 1) 1 19 := ⟨by decide +kernel, rfl⟩
theorem d_Nd_isOfKey_19 : AtC prog_5_method_10_code 19 .goto 23 22 := ⟨4, by decide +kernel, by decide, rfl⟩
theorem d_Nd_isOfKey_22 : At prog_5_method_10_code 22 (.iconst 0) 1 23 := ⟨by decide +kernel, rfl⟩
theorem d_Nd_isOfKey_23 : At prog_5_method_10_code 23 (.ireturn) 1 24 := ⟨by decide +kernel, rfl⟩
theorem d_Nd_cleanVersion_0 : At prog_5_method_12_code 0 (.aload_n 0) 1 1 := ⟨by decide +kernel, rfl⟩
theorem d_Nd_cleanVersion_1 : At prog_5_method_12_code 1 (.getfield 48) 3 4 := ⟨by decide +kernel, rfl⟩
theorem d_Nd_cleanVersion_4 : At prog_5_method_12_code 4 (.istore_n 2) 1 5 := ⟨by decide +kernel, rfl⟩
theorem d_Nd_cleanVersion_5 : At prog_5_method_12_code 5 (.iload_n 2) 1 6 := ⟨by decide +kernel, rfl⟩
theorem d_Nd_cleanVersion_6 : At prog_5_method_12_code 6 (.iconst 1) 1 7 := ⟨by decide +kernel, rfl⟩
theorem d_Nd_cleanVersion_7 : AtC prog_5_method_12_code 7 (.if_icmp .lt) 27 10 := ⟨20, by decide +kernel, by decide, rfl⟩
theorem d_Nd_cleanVersion_10 : At prog_5_method_12_code 10 (.aload_n 0) 1 11 := ⟨by decide +kernel, rfl⟩
theorem d_Nd_cleanVersion_11 : At prog_5_method_12_code 11 (.iload_n 2) 1 12 := ⟨by decide +kernel, rfl⟩
theorem d_Nd_cleanVersion_12 : At prog_5_method_12_code 12 (.iload_n 1) 1 13 := ⟨by decide +kernel, rfl⟩
theorem d_Nd_cleanVersion_13 : At prog_5_method_12_code 13 (.invokevirtual 67) 3 16 := ⟨by decide +kernel, rfl⟩
theorem d_Nd_cleanVersion_16 : AtC prog_5_method_12_code 16 (.ifCond .eq) 21 19 := ⟨5, by decide +kernel, by decide, rfl⟩
theorem d_Nd_cleanVersion_19 : At prog_5_method_12_code 19 (.iload_n 2) 1 20 := ⟨by decide +kernel, rfl⟩
theorem d_Nd_cleanVersion_20 : At prog_5_method_12_code 20 (.ireturn) 1 21 := ⟨by decide +kernel, rfl⟩
theorem d_Nd_cleanVersion_21 : At prog_5_method_12_code 21 (.iinc 2 (-1)) 3 24 := ⟨by decide +kernel, rfl⟩
theorem d_Nd_cleanVersion_24 : AtC prog_5_method_12_code 24 .goto 5 27 := ⟨-19, by decide +kernel, by decide, rfl⟩
theorem d_Nd_cleanVersion_27 : At prog_5_method_12_code 27 (.iconst 0) 1 28 := ⟨by decide +kernel, rfl⟩
theorem d_Nd_cleanVersion_28 : At prog_5_method_12_code 28 (.ireturn) 1 29 := ⟨by decide +kernel, rfl⟩
theorem d_X_finishRead_0 : At prog_1_method_32_code 0 (.aload_n 0) 1 1 := ⟨by decide +kernel, rfl⟩
theorem d_X_finishRead_1 : At prog_1_method_32_code 1 (.iconst 4) 1 2 := ⟨by decide +kernel, rfl⟩
theorem d_X_finishRead_2 : At prog_1_method_32_code 2 (.iload_n 2) 1 3 := ⟨by decide +kernel, rfl⟩
theorem d_X_finishRead_3 : At prog_1_method_32_code 3 (.aload_n 1) 1 4 := ⟨by decide +kernel, rfl⟩
theorem d_X_finishRead_4 : At prog_1_method_32_code 4 (.iload_n 2) 1 5 := ⟨by decide +kernel, rfl⟩
theorem d_X_finishRead_5 : At prog_1_method_32_code 5 (.invokevirtual 197) 3 8 := ⟨by decide +kernel, rfl⟩
theorem d_X_finishRead_8 : At prog_1_method_32_code 8 (.invokevirtual 263) 3 11 := ⟨by decide +kernel, rfl⟩
theorem d_X_finishRead_11 : At prog_1_method_32_code 11 (.return_) 1 12 := ⟨by decide +kernel, rfl⟩
theorem d_Nd_valueOf_0 : At prog_5_method_9_code 0 (.aload_n 0) 1 1 := ⟨by decide +kernel, rfl⟩
theorem d_Nd_valueOf_1 : At prog_5_method_9_code 1 (.iload_n 1) 1 2 := ⟨by decide +kernel, rfl⟩
theorem d_Nd_valueOf_2 : At prog_5_method_9_code 2 (.invokevirtual 51) 3 5 := ⟨by decide +kernel, rfl⟩
theorem d_Nd_valueOf_5 : At prog_5_method_9_code 5 (.astore_n 2) 1 6 := ⟨by decide +kernel, rfl⟩
theorem d_Nd_valueOf_6 : At prog_5_method_9_code 6 (.aload_n 2) 1 7 := ⟨by decide +kernel, rfl⟩
theorem d_Nd_valueOf_7 : AtC prog_5_method_9_code 7 .ifnonnull 14 10 := ⟨7, by decide +kernel, by decide, rfl⟩
theorem d_Nd_valueOf_10 : At prog_5_method_9_code 10 (.iconst 0) 1 11 := ⟨by decide +kernel, rfl⟩
theorem d_Nd_valueOf_11 : AtC prog_5_method_9_code 11 .goto 18 14 := ⟨7, by decide +kernel, by decide, rfl⟩
theorem d_Nd_valueOf_14 : At prog_5_method_9_code 14 (.aload_n 2) 1 15 := ⟨by decide +kernel, rfl⟩
theorem d_Nd_valueOf_15 : At prog_5_method_9_code 15 (.getfield 55) 3 18 := ⟨by decide +kernel, rfl⟩
theorem d_Nd_valueOf_18 : At prog_5_method_9_code 18 (.ireturn) 1 19 := ⟨by decide +kernel, rfl⟩
theorem d_X_retry_0 : At prog_1_method_4_code 0 (.aload_n 0) 1 1 := ⟨by decide +kernel, rfl⟩
theorem d_X_retry_1 : At prog_1_method_4_code 1 (.iload_n 1) 1 2 := ⟨by decide +kernel, rfl⟩
theorem d_X_retry_2 : At prog_1_method_4_code 2 (.invokevirtual 54) 3 5 := ⟨by decide +kernel, rfl⟩
theorem d_X_retry_5 : At prog_1_method_4_code 5 (.astore_n 3) 1 6 := ⟨by decide +kernel, rfl⟩
theorem d_X_retry_6 : At prog_1_method_4_code 6 (.aload_n 3) 1 7 := ⟨by decide +kernel, rfl⟩
theorem d_X_retry_7 : AtC prog_1_method_4_code 7 .ifnonnull 12 10 := ⟨5, by decide +kernel, by decide, rfl⟩
theorem d_X_retry_10 : At prog_1_method_4_code 10 (.iconst (-1)) 1 11 := ⟨by decide +kernel, rfl⟩
theorem d_X_retry_11 : At prog_1_method_4_code 11 (.ireturn) 1 12 := ⟨by decide +kernel, rfl⟩
theorem d_X_retry_12 : At prog_1_method_4_code 12 (.aload_n 3) 1 13 := ⟨by decide +kernel, rfl⟩
theorem d_X_retry_13 : At prog_1_method_4_code 13 (.getfield 89) 3 16 := ⟨by decide +kernel, rfl⟩
theorem d_X_retry_16 : AtC prog_1_method_4_code 16 (.ifCond .eq) 27 19 := ⟨11, by decide +kernel, by decide, rfl⟩
theorem d_X_retry_19 : At prog_1_method_4_code 19 (.aload_n 3) 1 20 := ⟨by decide +kernel, rfl⟩
theorem d_X_retry_20 : At prog_1_method_4_code 20 (.getfield 89) 3 23 := ⟨by decide +kernel, rfl⟩
theorem d_X_retry_23 : At prog_1_method_4_code 23 (.iconst 4) 1 24 := ⟨by decide +kernel, rfl⟩
theorem d_X_retry_24 : AtC prog_1_method_4_code 24 (.if_icmp .ne) 30 27 := ⟨6, by decide +kernel, by decide, rfl⟩
theorem d_X_retry_27 : At prog_1_method_4_code 27 (.bipush (-3)) 2 29 := ⟨by decide +kernel, rfl⟩
theorem d_X_retry_29 : At prog_1_method_4_code 29 (.ireturn) 1 30 := ⟨by decide +kernel, rfl⟩
theorem d_X_retry_30 : At prog_1_method_4_code 30 (.aload_n 3) 1 31 := ⟨by decide +kernel, rfl⟩
theorem d_X_retry_31 : At prog_1_method_4_code 31 (.getfield 89) 3 34 := ⟨by decide +kernel, rfl⟩
theorem d_X_retry_34 : At prog_1_method_4_code 34 (.iconst 3) 1 35 := ⟨by decide +kernel, rfl⟩
theorem d_X_retry_35 : AtC prog_1_method_4_code 35 (.if_icmp .eq) 45 38 := ⟨10, by decide +kernel, by decide, rfl⟩
theorem d_X_retry_38 : At prog_1_method_4_code 38 (.aload_n 0) 1 39 := ⟨by decide +kernel, rfl⟩
theorem d_X_retry_39 : At prog_1_method_4_code 39 (.iload_n 1) 1 40 := ⟨by decide +kernel, rfl⟩
theorem d_X_retry_40 : At prog_1_method_4_code 40 (.aload_n 3) 1 41 := ⟨by decide +kernel, rfl⟩
theorem d_X_retry_41 : At prog_1_method_4_code 41 (.invokevirtual 70) 3 44 := ⟨by decide +kernel, rfl⟩
theorem d_X_retry_44 : At prog_1_method_4_code 44 (.ireturn) 1 45 := ⟨by decide +kernel, rfl⟩
theorem d_X_retry_45 : At prog_1_method_4_code 45 (.aload_n 0) 1 46 := ⟨by decide +kernel, rfl⟩
theorem d_X_retry_46 : At prog_1_method_4_code 46 (.aload_n 3) 1 47 := ⟨by decide +kernel, rfl⟩
theorem d_X_retry_47 : At prog_1_method_4_code 47 (.getfield 92) 3 50 := ⟨by decide +kernel, rfl⟩
theorem d_X_retry_50 : At prog_1_method_4_code 50 (.invokevirtual 95) 3 53 := ⟨by decide +kernel, rfl⟩
theorem d_X_retry_53 : AtC prog_1_method_4_code 53 .ifnull 59 56 := ⟨6, by decide +kernel, by decide, rfl⟩
theorem d_X_retry_56 : At prog_1_method_4_code 56 (.bipush (-2)) 2 58 := ⟨by decide +kernel, rfl⟩
theorem d_X_retry_58 : At prog_1_method_4_code 58 (.ireturn) 1 59 := ⟨by decide +kernel, rfl⟩
theorem d_X_retry_59 : At prog_1_method_4_code 59 (.iload_n 2) 1 60 := ⟨by decide +kernel, rfl⟩
theorem d_X_retry_60 : At prog_1_method_4_code 60 (.invokestatic 74) 3 63 := ⟨by decide +kernel, rfl⟩
theorem d_X_retry_63 : AtC prog_1_method_4_code 63 (.ifCond .ne) 68 66 := ⟨5, by decide +kernel, by decide, rfl⟩
theorem d_X_retry_66 : At prog_1_method_4_code 66 (.iconst (-1)) 1 67 := ⟨by decide +kernel, rfl⟩
theorem d_X_retry_67 : At prog_1_method_4_code 67 (.ireturn) 1 68 := ⟨by decide +kernel, rfl⟩
theorem d_X_retry_68 : At prog_1_method_4_code 68 (.aload_n 0) 1 69 := ⟨by decide +kernel, rfl⟩
theorem d_X_retry_69 : At prog_1_method_4_code 69 (.iload_n 2) 1 70 := ⟨by decide +kernel, rfl⟩
theorem d_X_retry_70 : At prog_1_method_4_code 70 (.invokevirtual 77) 3 73 := ⟨by decide +kernel, rfl⟩
theorem d_X_retry_73 : At prog_1_method_4_code 73 (.astore 4) 2 75 := ⟨by decide +kernel, rfl⟩
theorem d_X_retry_75 : At prog_1_method_4_code 75 (.aload 4) 2 77 := ⟨by decide +kernel, rfl⟩
theorem d_X_retry_77 : AtC prog_1_method_4_code 77 .ifnonnull 84 80 := ⟨7, by decide +kernel, by decide, rfl⟩
theorem d_X_retry_80 : At prog_1_method_4_code 80 (.iconst 0) 1 81 := ⟨by decide +kernel, rfl⟩
theorem d_X_retry_81 : AtC prog_1_method_4_code 81 .goto 92 84 := ⟨11, by decide +kernel, by decide, rfl⟩
theorem d_X_retry_84 : At prog_1_method_4_code 84 (.aload_n 0) 1 85 := ⟨by decide +kernel, rfl⟩
theorem d_X_retry_85 : At prog_1_method_4_code 85 (.iload_n 1) 1 86 := ⟨by decide +kernel, rfl⟩
theorem d_X_retry_86 : At prog_1_method_4_code 86 (.aload_n 3) 1 87 := ⟨by decide +kernel, rfl⟩
theorem d_X_retry_87 : At prog_1_method_4_code 87 (.aload 4) 2 89 := ⟨by decide +kernel, rfl⟩
theorem d_X_retry_89 : At prog_1_method_4_code 89 (.invokevirtual 85) 3 92 := ⟨by decide +kernel, rfl⟩
theorem d_X_retry_92 : At prog_1_method_4_code 92 (.ireturn) 1 93 := ⟨by decide +kernel, rfl⟩
theorem d_X_status_0 : At prog_1_method_5_code 0 (.aload_n 0) 1 1 := ⟨by decide +kernel, rfl⟩
theorem d_X_status_1 : At prog_1_method_5_code 1 (.iload_n 1) 1 2 := ⟨by decide +kernel, rfl⟩
theorem d_X_status_2 : At prog_1_method_5_code 2 (.invokevirtual 54) 3 5 := ⟨by decide +kernel, rfl⟩
theorem d_X_status_5 : At prog_1_method_5_code 5 (.astore_n 2) 1 6 := ⟨by decide +kernel, rfl⟩
theorem d_X_status_6 : At prog_1_method_5_code 6 (.aload_n 2) 1 7 := ⟨by decide +kernel, rfl⟩
theorem d_X_status_7 : AtC prog_1_method_5_code 7 .ifnonnull 14 10 := ⟨7, by decide +kernel, by decide, rfl⟩
theorem d_X_status_10 : At prog_1_method_5_code 10 (.iconst (-1)) 1 11 := ⟨by decide +kernel, rfl⟩
theorem d_X_status_11 : AtC prog_1_method_5_code 11 .goto 18 14 := ⟨7, by decide +kernel, by decide, rfl⟩
theorem d_X_status_14 : At prog_1_method_5_code 14 (.aload_n 2) 1 15 := ⟨by decide +kernel, rfl⟩
theorem d_X_status_15 : At prog_1_method_5_code 15 (.getfield 89) 3 18 := ⟨by decide +kernel, rfl⟩
theorem d_X_status_18 : At prog_1_method_5_code 18 (.ireturn) 1 19 := ⟨by decide +kernel, rfl⟩
theorem d_X_number_0 : At prog_1_method_6_code 0 (.aload_n 0) 1 1 := ⟨by decide +kernel, rfl⟩
theorem d_X_number_1 : At prog_1_method_6_code 1 (.iload_n 1) 1 2 := ⟨by decide +kernel, rfl⟩
theorem d_X_number_2 : At prog_1_method_6_code 2 (.invokevirtual 54) 3 5 := ⟨by decide +kernel, rfl⟩
theorem d_X_number_5 : At prog_1_method_6_code 5 (.astore_n 2) 1 6 := ⟨by decide +kernel, rfl⟩
theorem d_X_number_6 : At prog_1_method_6_code 6 (.aload_n 2) 1 7 := ⟨by decide +kernel, rfl⟩
theorem d_X_number_7 : AtC prog_1_method_6_code 7 .ifnull 17 10 := ⟨10, by decide +kernel, by decide, rfl⟩
theorem d_X_number_10 : At prog_1_method_6_code 10 (.aload_n 2) 1 11 := ⟨by decide +kernel, rfl⟩
theorem d_X_number_11 : At prog_1_method_6_code 11 (.invokevirtual 98) 3 14 := ⟨by decide +kernel, rfl⟩
theorem d_X_number_14 : AtC prog_1_method_6_code 14 (.ifCond .ne) 21 17 := ⟨7, by decide +kernel, by decide, rfl⟩
theorem d_X_number_17 : At prog_1_method_6_code 17 (.iconst (-1)) 1 18 := ⟨by decide +kernel, rfl⟩
theorem d_X_number_18 : AtC prog_1_method_6_code 18 .goto 25 21 := ⟨7, by decide +kernel, by decide, rfl⟩
theorem d_X_number_21 : At prog_1_method_6_code 21 (.aload_n 2) 1 22 := ⟨by decide +kernel, rfl⟩
theorem d_X_number_22 : At prog_1_method_6_code 22 (.getfield 101) 3 25 := ⟨by decide +kernel, rfl⟩
theorem d_X_number_25 : At prog_1_method_6_code 25 (.ireturn) 1 26 := ⟨by decide +kernel, rfl⟩
theorem d_Cl_isDone_0 : At prog_2_method_3_code 0 (.aload_n 0) 1 1 := ⟨by decide +kernel, rfl⟩
theorem d_Cl_isDone_1 : At prog_2_method_3_code 1 (.getfield 9) 3 4 := ⟨by decide +kernel, rfl⟩
theorem d_Cl_isDone_4 : At prog_2_method_3_code 4 (.iconst 2) 1 5 := ⟨by decide +kernel, rfl⟩
theorem d_Cl_isDone_5 : AtC prog_2_method_3_code 5 (.if_icmp .eq) 16 8 := ⟨11, by decide +kernel, by decide, rfl⟩
theorem d_Cl_isDone_8 : At prog_2_method_3_code 8 (.aload_n 0) 1 9 := ⟨by decide +kernel, rfl⟩
theorem d_Cl_isDone_9 : At prog_2_method_3_code 9 (.getfield 9) 3 12 := ⟨by decide +kernel, rfl⟩
theorem d_Cl_isDone_12 : At prog_2_method_3_code 12 (.iconst 4) 1 13 := ⟨by decide +kernel, rfl⟩
theorem d_Cl_isDone_13 : AtC prog_2_method_3_code 13 (.if_icmp .ne) 20 16 := ⟨7, by decide +kernel, by decide, rfl⟩
theorem d_Cl_isDone_16 : At prog_2_method_3_code 16 (.iconst 1) 1 17 := ⟨by decide +kernel, rfl⟩
theorem d_Cl_isDone_17 : AtC prog_2_method_3_code 17 .goto 21 20 := ⟨4, by decide +kernel, by decide, rfl⟩
theorem d_Cl_isDone_20 : At prog_2_method_3_code 20 (.iconst 0) 1 21 := ⟨by decide +kernel, rfl⟩
theorem d_Cl_isDone_21 : At prog_2_method_3_code 21 (.ireturn) 1 22 := ⟨by decide +kernel, rfl⟩
theorem d_X_value_0 : At prog_1_method_7_code 0 (.aload_n 0) 1 1 := ⟨by decide +kernel, rfl⟩
theorem d_X_value_1 : At prog_1_method_7_code 1 (.iload_n 1) 1 2 := ⟨by decide +kernel, rfl⟩
theorem d_X_value_2 : At prog_1_method_7_code 2 (.invokevirtual 54) 3 5 := ⟨by decide +kernel, rfl⟩
theorem d_X_value_5 : At prog_1_method_7_code 5 (.astore_n 2) 1 6 := ⟨by decide +kernel, rfl⟩
theorem d_X_value_6 : At prog_1_method_7_code 6 (.aload_n 2) 1 7 := ⟨by decide +kernel, rfl⟩
theorem d_X_value_7 : AtC prog_1_method_7_code 7 .ifnull 17 10 := ⟨10, by decide +kernel, by decide, rfl⟩
theorem d_X_value_10 : At prog_1_method_7_code 10 (.aload_n 2) 1 11 := ⟨by decide +kernel, rfl⟩
theorem d_X_value_11 : At prog_1_method_7_code 11 (.invokevirtual 98) 3 14 := ⟨by decide +kernel, rfl⟩
theorem d_X_value_14 : AtC prog_1_method_7_code 14 (.ifCond .ne) 21 17 := ⟨7, by decide +kernel, by decide, rfl⟩
theorem d_X_value_17 : At prog_1_method_7_code 17 (.iconst 0) 1 18 := ⟨by decide +kernel, rfl⟩
theorem d_X_value_18 : AtC prog_1_method_7_code 18 .goto 25 21 := ⟨7, by decide +kernel, by decide, rfl⟩
theorem d_X_value_21 : At prog_1_method_7_code 21 (.aload_n 2) 1 22 := ⟨by decide +kernel, rfl⟩
theorem d_X_value_22 : At prog_1_method_7_code 22 (.getfield 104) 3 25 := ⟨by decide +kernel, rfl⟩
theorem d_X_value_25 : At prog_1_method_7_code 25 (.ireturn) 1 26 := ⟨by decide +kernel, rfl⟩
theorem d_X_deliver_0 : At prog_1_method_8_code 0 (.iload_n 1) 1 1 := ⟨by decide +kernel, rfl⟩
theorem d_X_deliver_1 : At prog_1_method_8_code 1 (.invokestatic 74) 3 4 := ⟨by decide +kernel, rfl⟩
theorem d_X_deliver_4 : AtC prog_1_method_8_code 4 (.ifCond .eq) 14 7 := ⟨10, by decide +kernel, by decide, rfl⟩
theorem d_X_deliver_7 : At prog_1_method_8_code 7 (.iload_n 2) 1 8 := ⟨by decide +kernel, rfl⟩
theorem d_X_deliver_8 : At prog_1_method_8_code 8 (.invokestatic 74) 3 11 := ⟨by decide +kernel, rfl⟩
theorem d_X_deliver_11 : AtC prog_1_method_8_code 11 (.ifCond .ne) 16 14 := ⟨5, by decide +kernel, by decide, rfl⟩
theorem d_X_deliver_14 : At prog_1_method_8_code 14 (.iconst (-1)) 1 15 := ⟨by decide +kernel, rfl⟩
theorem d_X_deliver_15 : At prog_1_method_8_code 15 (.ireturn) 1 16 := ⟨by decide +kernel, rfl⟩
theorem d_X_deliver_16 : At prog_1_method_8_code 16 (.aload_n 0) 1 17 := ⟨by decide +kernel, rfl⟩
theorem d_X_deliver_17 : At prog_1_method_8_code 17 (.iload_n 1) 1 18 := ⟨by decide +kernel, rfl⟩
theorem d_X_deliver_18 : At prog_1_method_8_code 18 (.iload_n 2) 1 19 := ⟨by decide +kernel, rfl⟩
theorem d_X_deliver_19 : At prog_1_method_8_code 19 (.invokevirtual 107) 3 22 := ⟨by decide +kernel, rfl⟩
theorem d_X_deliver_22 : At prog_1_method_8_code 22 (.istore_n 3) 1 23 := ⟨by decide +kernel, rfl⟩
theorem d_X_deliver_23 : At prog_1_method_8_code 23 (.aload_n 0) 1 24 := ⟨by decide +kernel, rfl⟩
theorem d_X_deliver_24 : At prog_1_method_8_code 24 (.iload_n 2) 1 25 := ⟨by decide +kernel, rfl⟩
theorem d_X_deliver_25 : At prog_1_method_8_code 25 (.invokevirtual 95) 3 28 := ⟨by decide +kernel, rfl⟩
theorem d_X_deliver_28 : At prog_1_method_8_code 28 (.astore 4) 2 30 := ⟨by decide +kernel, rfl⟩
theorem d_X_deliver_30 : At prog_1_method_8_code 30 (.iload_n 3) 1 31 := ⟨by decide +kernel, rfl⟩
theorem d_X_deliver_31 : At prog_1_method_8_code 31 (.iconst (-1)) 1 32 := ⟨by decide +kernel, rfl⟩
theorem d_X_deliver_32 : AtC prog_1_method_8_code 32 (.if_icmp .eq) 40 35 := ⟨8, by decide +kernel, by decide, rfl⟩
theorem d_X_deliver_35 : At prog_1_method_8_code 35 (.aload 4) 2 37 := ⟨by decide +kernel, rfl⟩
theorem d_X_deliver_37 : AtC prog_1_method_8_code 37 .ifnonnull 42 40 := ⟨5, by decide +kernel, by decide, rfl⟩
theorem d_X_deliver_40 : At prog_1_method_8_code 40 (.iconst 0) 1 41 := ⟨by decide +kernel, rfl⟩
theorem d_X_deliver_41 : At prog_1_method_8_code 41 (.ireturn) 1 42 := ⟨by decide +kernel, rfl⟩
theorem d_X_deliver_42 : At prog_1_method_8_code 42 (.aload_n 0) 1 43 := ⟨by decide +kernel, rfl⟩
theorem d_X_deliver_43 : At prog_1_method_8_code 43 (.getfield 24) 3 46 := ⟨by decide +kernel, rfl⟩
theorem d_X_deliver_46 : At prog_1_method_8_code 46 (.iload_n 3) 1 47 := ⟨by decide +kernel, rfl⟩
theorem d_X_deliver_47 : At prog_1_method_8_code 47 (.invokevirtual 110) 3 50 := ⟨by decide +kernel, rfl⟩
theorem d_X_deliver_50 : At prog_1_method_8_code 50 (.checkcast 114) 3 53 := ⟨by decide +kernel, rfl⟩
theorem d_X_deliver_53 : At prog_1_method_8_code 53 (.astore 5) 2 55 := ⟨by decide +kernel, rfl⟩
theorem d_X_deliver_55 : At prog_1_method_8_code 55 (.aload 5) 2 57 := ⟨by decide +kernel, rfl⟩
theorem d_X_deliver_57 : At prog_1_method_8_code 57 (.getfield 116) 3 60 := ⟨by decide +kernel, rfl⟩
theorem d_X_deliver_60 : At prog_1_method_8_code 60 (.aload 4) 2 62 := ⟨by decide +kernel, rfl⟩
theorem d_X_deliver_62 : At prog_1_method_8_code 62 (.getfield 119) 3 65 := ⟨by decide +kernel, rfl⟩
theorem d_X_deliver_65 : At prog_1_method_8_code 65 (.getfield 122) 3 68 := ⟨by decide +kernel, rfl⟩
theorem d_X_deliver_68 : AtC prog_1_method_8_code 68 (.if_icmp .gt) 88 71 := ⟨20, by decide +kernel, by decide, rfl⟩
theorem d_X_deliver_71 : At prog_1_method_8_code 71 (.aload 4) 2 73 := ⟨by decide +kernel, rfl⟩
theorem d_X_deliver_73 : At prog_1_method_8_code 73 (.getfield 123) 3 76 := ⟨by decide +kernel, rfl⟩
theorem d_X_deliver_76 : AtC prog_1_method_8_code 76 (.ifCond .ne) 91 79 := ⟨15, by decide +kernel, by decide, rfl⟩
theorem d_X_deliver_79 : At prog_1_method_8_code 79 (.aload 5) 2 81 := ⟨by decide +kernel, rfl⟩
theorem d_X_deliver_81 : At prog_1_method_8_code 81 (.getfield 127) 3 84 := ⟨by decide +kernel, rfl⟩
theorem d_X_deliver_84 : At prog_1_method_8_code 84 (.iconst 5) 1 85 := ⟨by decide +kernel, rfl⟩
theorem d_X_deliver_85 : AtC prog_1_method_8_code 85 (.if_icmp .eq) 91 88 := ⟨6, by decide +kernel, by decide, rfl⟩
theorem d_X_deliver_88 : At prog_1_method_8_code 88 (.bipush (-2)) 2 90 := ⟨by decide +kernel, rfl⟩
theorem d_X_deliver_90 : At prog_1_method_8_code 90 (.ireturn) 1 91 := ⟨by decide +kernel, rfl⟩
theorem d_X_deliver_91 : At prog_1_method_8_code 91 (.aload_n 0) 1 92 := ⟨by decide +kernel, rfl⟩
theorem d_X_deliver_92 : At prog_1_method_8_code 92 (.getfield 24) 3 95 := ⟨by decide +kernel, rfl⟩
theorem d_X_deliver_95 : At prog_1_method_8_code 95 (.iload_n 3) 1 96 := ⟨by decide +kernel, rfl⟩
theorem d_X_deliver_96 : At prog_1_method_8_code 96 (.invokevirtual 130) 3 99 := ⟨by decide +kernel, rfl⟩
theorem d_X_deliver_99 : At prog_1_method_8_code 99 (.pop) 1 100 := ⟨by decide +kernel, rfl⟩
theorem d_X_deliver_100 : At prog_1_method_8_code 100 (.aload_n 0) 1 101 := ⟨by decide +kernel, rfl⟩
theorem d_X_deliver_101 : At prog_1_method_8_code 101 (.aload 4) 2 103 := ⟨by decide +kernel, rfl⟩
theorem d_X_deliver_103 : At prog_1_method_8_code 103 (.aload 5) 2 105 := ⟨by decide +kernel, rfl⟩
theorem d_X_deliver_105 : At prog_1_method_8_code 105 (.invokevirtual 133) 3 108 := ⟨by decide +kernel, rfl⟩
theorem d_X_deliver_108 : At prog_1_method_8_code 108 (.aload 5) 2 110 := ⟨by decide +kernel, rfl⟩
theorem d_X_deliver_110 : At prog_1_method_8_code 110 (.getfield 127) 3 113 := ⟨by decide +kernel, rfl⟩
theorem d_X_deliver_113 : At prog_1_method_8_code 113 (.ireturn) 1 114 := ⟨by decide +kernel, rfl⟩
theorem d_X_firstOnLink_0 : At prog_1_method_45_code 0 (.iconst 0) 1 1 := ⟨by decide +kernel, rfl⟩
theorem d_X_firstOnLink_1 : At prog_1_method_45_code 1 (.istore_n 3) 1 2 := ⟨by decide +kernel, rfl⟩
theorem d_X_firstOnLink_2 : At prog_1_method_45_code 2 (.iload_n 3) 1 3 := ⟨by decide +kernel, rfl⟩
theorem d_X_firstOnLink_3 : At prog_1_method_45_code 3 (.aload_n 0) 1 4 := ⟨by decide +kernel, rfl⟩
theorem d_X_firstOnLink_4 : At prog_1_method_45_code 4 (.getfield 24) 3 7 := ⟨by decide +kernel, rfl⟩
theorem d_X_firstOnLink_7 : At prog_1_method_45_code 7 (.invokevirtual 137) 3 10 := ⟨by decide +kernel, rfl⟩
theorem d_X_firstOnLink_10 : AtC prog_1_method_45_code 10 (.if_icmp .ge) 40 13 := ⟨30, by decide +kernel, by decide, rfl⟩
theorem d_X_firstOnLink_13 : At prog_1_method_45_code 13 (.aload_n 0) 1 14 := ⟨by decide +kernel, rfl⟩
theorem d_X_firstOnLink_14 : At prog_1_method_45_code 14 (.getfield 24) 3 17 := ⟨by decide +kernel, rfl⟩
theorem d_X_firstOnLink_17 : At prog_1_method_45_code 17 (.iload_n 3) 1 18 := ⟨by decide +kernel, rfl⟩
theorem d_X_firstOnLink_18 : At prog_1_method_45_code 18 (.invokevirtual 110) 3 21 := ⟨by decide +kernel, rfl⟩
theorem d_X_firstOnLink_21 : At prog_1_method_45_code 21 (.checkcast 114) 3 24 := ⟨by decide +kernel, rfl⟩
theorem d_X_firstOnLink_24 : At prog_1_method_45_code 24 (.iload_n 1) 1 25 := ⟨by decide +kernel, rfl⟩
theorem d_X_firstOnLink_25 : At prog_1_method_45_code 25 (.iload_n 2) 1 26 := ⟨by decide +kernel, rfl⟩
theorem d_X_firstOnLink_26 : At prog_1_method_45_code 26 (.invokevirtual 141) 3 29 := ⟨by decide +kernel, rfl⟩
theorem d_X_firstOnLink_29 : AtC prog_1_method_45_code 29 (.ifCond .eq) 34 32 := ⟨5, by decide +kernel, by decide, rfl⟩
theorem d_X_firstOnLink_32 : At prog_1_method_45_code 32 (.iload_n 3) 1 33 := ⟨by decide +kernel, rfl⟩
theorem d_X_firstOnLink_33 : At prog_1_method_45_code 33 (.ireturn) 1 34 := ⟨by decide +kernel, rfl⟩
theorem d_X_firstOnLink_34 : At prog_1_method_45_code 34 (.iinc 3 1) 3 37 := ⟨by decide +kernel, rfl⟩
theorem d_X_firstOnLink_37 : AtC prog_1_method_45_code 37 .goto 2 40 := ⟨-35, by decide +kernel, by decide, rfl⟩
theorem d_X_firstOnLink_40 : At prog_1_method_45_code 40 (.iconst (-1)) 1 41 := ⟨by decide +kernel, rfl⟩
theorem d_X_firstOnLink_41 : At prog_1_method_45_code 41 (.ireturn) 1 42 := ⟨by decide +kernel, rfl⟩
theorem d_Mg_isOnLink_0 : At prog_4_method_2_code 0 (.aload_n 0) 1 1 := ⟨by decide +kernel, rfl⟩
theorem d_Mg_isOnLink_1 : At prog_4_method_2_code 1 (.getfield 18) 3 4 := ⟨by decide +kernel, rfl⟩
theorem d_Mg_isOnLink_4 : At prog_4_method_2_code 4 (.iload_n 1) 1 5 := ⟨by decide +kernel, rfl⟩
theorem d_Mg_isOnLink_5 : AtC prog_4_method_2_code 5 (.if_icmp .ne) 20 8 := ⟨15, by decide +kernel, by decide, rfl⟩
theorem d_Mg_isOnLink_8 : At prog_4_method_2_code 8 (.aload_n 0) 1 9 := ⟨by decide +kernel, rfl⟩
theorem d_Mg_isOnLink_9 : At prog_4_method_2_code 9 (.getfield 21) 3 12 := ⟨by decide +kernel, rfl⟩
theorem d_Mg_isOnLink_12 : At prog_4_method_2_code 12 (.iload_n 2) 1 13 := ⟨by decide +kernel, rfl⟩
theorem d_Mg_isOnLink_13 : AtC prog_4_method_2_code 13 (.if_icmp .ne) 20 16 := ⟨7, by decide +kernel, by decide, rfl⟩
theorem d_Mg_isOnLink_16 : At prog_4_method_2_code 16 (.iconst 1) 1 17 := ⟨by decide +kernel, rfl⟩
theorem d_Mg_isOnLink_17 : AtC prog_4_method_2_code 17 .goto 21 20 := ⟨4, by decide +kernel, by decide, rfl⟩
theorem d_Mg_isOnLink_20 : At prog_4_method_2_code 20 (.iconst 0) 1 21 := ⟨by decide +kernel, rfl⟩
theorem d_Mg_isOnLink_21 : At prog_4_method_2_code 21 (.ireturn) 1 22 := ⟨by decide +kernel, rfl⟩
theorem d_X_receive_0 : At prog_1_method_33_code 0 (.aload_n 2) 1 1 := ⟨by decide +kernel, rfl⟩
theorem d_X_receive_1 : At prog_1_method_33_code 1 (.getfield 127) 3 4 := ⟨by decide +kernel, rfl⟩
theorem d_X_receive_4 : decode prog_1_method_33_code 4 = .ok (.tableswitch 74 1 4 #[32, 44, 56, 65], 32) := by decide +kernel
theorem d_X_receive_36 : At prog_1_method_33_code 36 (.aload_n 0) 1 37 := ⟨by decide +kernel, rfl⟩
theorem d_X_receive_37 : At prog_1_method_33_code 37 (.aload_n 1) 1 38 := ⟨by decide +kernel, rfl⟩
theorem d_X_receive_38 : At prog_1_method_33_code 38 (.aload_n 2) 1 39 := ⟨by decide +kernel, rfl⟩
theorem d_X_receive_39 : At prog_1_method_33_code 39 (.getfield 267) 3 42 := ⟨by decide +kernel, rfl⟩
theorem d_X_receive_42 : At prog_1_method_33_code 42 (.invokevirtual 229) 3 45 := ⟨by decide +kernel, rfl⟩
theorem d_X_receive_45 : AtC prog_1_method_33_code 45 .goto 84 48 := ⟨39, by decide +kernel, by decide, rfl⟩
theorem d_X_receive_48 : At prog_1_method_33_code 48 (.aload_n 0) 1 49 := ⟨by decide +kernel, rfl⟩
theorem d_X_receive_49 : At prog_1_method_33_code 49 (.aload_n 1) 1 50 := ⟨by decide +kernel, rfl⟩
theorem d_X_receive_50 : At prog_1_method_33_code 50 (.aload_n 2) 1 51 := ⟨by decide +kernel, rfl⟩
theorem d_X_receive_51 : At prog_1_method_33_code 51 (.getfield 271) 3 54 := ⟨by decide +kernel, rfl⟩
theorem d_X_receive_54 : At prog_1_method_33_code 54 (.invokevirtual 272) 3 57 := ⟨by decide +kernel, rfl⟩
theorem d_X_receive_57 : AtC prog_1_method_33_code 57 .goto 84 60 := ⟨27, by decide +kernel, by decide, rfl⟩
theorem d_X_receive_60 : At prog_1_method_33_code 60 (.aload_n 0) 1 61 := ⟨by decide +kernel, rfl⟩
theorem d_X_receive_61 : At prog_1_method_33_code 61 (.aload_n 1) 1 62 := ⟨by decide +kernel, rfl⟩
theorem d_X_receive_62 : At prog_1_method_33_code 62 (.aload_n 2) 1 63 := ⟨by decide +kernel, rfl⟩
theorem d_X_receive_63 : At prog_1_method_33_code 63 (.invokevirtual 276) 3 66 := ⟨by decide +kernel, rfl⟩
theorem d_X_receive_66 : AtC prog_1_method_33_code 66 .goto 84 69 := ⟨18, by decide +kernel, by decide, rfl⟩
theorem d_X_receive_69 : At prog_1_method_33_code 69 (.aload_n 0) 1 70 := ⟨by decide +kernel, rfl⟩
theorem d_X_receive_70 : At prog_1_method_33_code 70 (.aload_n 1) 1 71 := ⟨by decide +kernel, rfl⟩
theorem d_X_receive_71 : At prog_1_method_33_code 71 (.aload_n 2) 1 72 := ⟨by decide +kernel, rfl⟩
theorem d_X_receive_72 : At prog_1_method_33_code 72 (.invokevirtual 279) 3 75 := ⟨by decide +kernel, rfl⟩
theorem d_X_receive_75 : AtC prog_1_method_33_code 75 .goto 84 78 := ⟨9, by decide +kernel, by decide, rfl⟩
theorem d_X_receive_78 : At prog_1_method_33_code 78 (.aload_n 0) 1 79 := ⟨by decide +kernel, rfl⟩
theorem d_X_receive_79 : At prog_1_method_33_code 79 (.aload_n 1) 1 80 := ⟨by decide +kernel, rfl⟩
theorem d_X_receive_80 : At prog_1_method_33_code 80 (.aload_n 2) 1 81 := ⟨by decide +kernel, rfl⟩
theorem d_X_receive_81 : At prog_1_method_33_code 81 (.invokevirtual 282) 3 84 := ⟨by decide +kernel, rfl⟩
theorem d_X_receive_84 : At prog_1_method_33_code 84 (.return_) 1 85 := ⟨by decide +kernel, rfl⟩
theorem d_X_settleUpTo_0 : At prog_1_method_37_code 0 (.iload_n 2) 1 1 := ⟨by decide +kernel, rfl⟩
theorem d_X_settleUpTo_1 : At prog_1_method_37_code 1 (.aload_n 1) 1 2 := ⟨by decide +kernel, rfl⟩
theorem d_X_settleUpTo_2 : At prog_1_method_37_code 2 (.getfield 191) 3 5 := ⟨by decide +kernel, rfl⟩
theorem d_X_settleUpTo_5 : AtC prog_1_method_37_code 5 (.if_icmp .le) 18 8 := ⟨13, by decide +kernel, by decide, rfl⟩
theorem d_X_settleUpTo_8 : At prog_1_method_37_code 8 (.aload_n 1) 1 9 := ⟨by decide +kernel, rfl⟩
theorem d_X_settleUpTo_9 : At prog_1_method_37_code 9 (.iload_n 2) 1 10 := ⟨by decide +kernel, rfl⟩
theorem d_X_settleUpTo_10 : At prog_1_method_37_code 10 (.putfield 191) 3 13 := ⟨by decide +kernel, rfl⟩
theorem d_X_settleUpTo_13 : At prog_1_method_37_code 13 (.aload_n 0) 1 14 := ⟨by decide +kernel, rfl⟩
end
section
/-! decode rows -/
theorem d_X_settleUpTo_14 : At prog_1_method_37_code 14 (.aload_n 1) 1 15 := ⟨by decide +kernel, rfl⟩
theorem d_X_settleUpTo_15 : At prog_1_method_37_code 15 (.invokevirtual 295) 3 18 := ⟨by decide +kernel, rfl⟩
theorem d_X_settleUpTo_18 : At prog_1_method_37_code 18 (.return_) 1 19 := ⟨by decide +kernel, rfl⟩
theorem d_X_answer_0 : At prog_1_method_38_code 0 (.new 114) 3 3 := ⟨by decide +kernel, rfl⟩
theorem d_X_answer_3 : At prog_1_method_38_code 3 (.dup) 1 4 := ⟨by decide +kernel, rfl⟩
theorem d_X_answer_4 : At prog_1_method_38_code 4 (.iconst 4) 1 5 := ⟨by decide +kernel, rfl⟩
theorem d_X_answer_5 : At prog_1_method_38_code 5 (.aload_n 1) 1 6 := ⟨by decide +kernel, rfl⟩
theorem d_X_answer_6 : At prog_1_method_38_code 6 (.aload_n 2) 1 7 := ⟨by decide +kernel, rfl⟩
theorem d_X_answer_7 : At prog_1_method_38_code 7 (.getfield 316) 3 10 := ⟨by decide +kernel, rfl⟩
theorem d_X_answer_10 : At prog_1_method_38_code 10 (.invokespecial 249) 3 13 := ⟨by decide +kernel, rfl⟩
theorem d_X_answer_13 : At prog_1_method_38_code 13 (.astore_n 3) 1 14 := ⟨by decide +kernel, rfl⟩
theorem d_X_answer_14 : At prog_1_method_38_code 14 (.aload_n 3) 1 15 := ⟨by decide +kernel, rfl⟩
theorem d_X_answer_15 : At prog_1_method_38_code 15 (.aload_n 2) 1 16 := ⟨by decide +kernel, rfl⟩
theorem d_X_answer_16 : At prog_1_method_38_code 16 (.getfield 253) 3 19 := ⟨by decide +kernel, rfl⟩
theorem d_X_answer_19 : At prog_1_method_38_code 19 (.putfield 253) 3 22 := ⟨by decide +kernel, rfl⟩
theorem d_X_answer_22 : At prog_1_method_38_code 22 (.aload_n 3) 1 23 := ⟨by decide +kernel, rfl⟩
theorem d_X_answer_23 : At prog_1_method_38_code 23 (.aload_n 1) 1 24 := ⟨by decide +kernel, rfl⟩
theorem d_X_answer_24 : At prog_1_method_38_code 24 (.aload_n 2) 1 25 := ⟨by decide +kernel, rfl⟩
theorem d_X_answer_25 : At prog_1_method_38_code 25 (.getfield 252) 3 28 := ⟨by decide +kernel, rfl⟩
theorem d_X_answer_28 : At prog_1_method_38_code 28 (.invokevirtual 236) 3 31 := ⟨by decide +kernel, rfl⟩
theorem d_X_answer_31 : At prog_1_method_38_code 31 (.putfield 271) 3 34 := ⟨by decide +kernel, rfl⟩
theorem d_X_answer_34 : At prog_1_method_38_code 34 (.aload_n 0) 1 35 := ⟨by decide +kernel, rfl⟩
theorem d_X_answer_35 : At prog_1_method_38_code 35 (.aload_n 3) 1 36 := ⟨by decide +kernel, rfl⟩
theorem d_X_answer_36 : At prog_1_method_38_code 36 (.invokevirtual 256) 3 39 := ⟨by decide +kernel, rfl⟩
theorem d_X_answer_39 : At prog_1_method_38_code 39 (.return_) 1 40 := ⟨by decide +kernel, rfl⟩
theorem d_X_useAnswer_0 : At prog_1_method_39_code 0 (.aload_n 0) 1 1 := ⟨by decide +kernel, rfl⟩
theorem d_X_useAnswer_1 : At prog_1_method_39_code 1 (.aload_n 2) 1 2 := ⟨by decide +kernel, rfl⟩
theorem d_X_useAnswer_2 : At prog_1_method_39_code 2 (.getfield 253) 3 5 := ⟨by decide +kernel, rfl⟩
theorem d_X_useAnswer_5 : At prog_1_method_39_code 5 (.invokevirtual 54) 3 8 := ⟨by decide +kernel, rfl⟩
theorem d_X_useAnswer_8 : At prog_1_method_39_code 8 (.astore_n 3) 1 9 := ⟨by decide +kernel, rfl⟩
theorem d_X_useAnswer_9 : At prog_1_method_39_code 9 (.aload_n 3) 1 10 := ⟨by decide +kernel, rfl⟩
theorem d_X_useAnswer_10 : AtC prog_1_method_39_code 10 .ifnull 24 13 := ⟨14, by decide +kernel, by decide, rfl⟩
theorem d_X_useAnswer_13 : At prog_1_method_39_code 13 (.aload_n 3) 1 14 := ⟨by decide +kernel, rfl⟩
theorem d_X_useAnswer_14 : At prog_1_method_39_code 14 (.aload_n 1) 1 15 := ⟨by decide +kernel, rfl⟩
theorem d_X_useAnswer_15 : At prog_1_method_39_code 15 (.getfield 243) 3 18 := ⟨by decide +kernel, rfl⟩
theorem d_X_useAnswer_18 : At prog_1_method_39_code 18 (.invokevirtual 260) 3 21 := ⟨by decide +kernel, rfl⟩
theorem d_X_useAnswer_21 : AtC prog_1_method_39_code 21 (.ifCond .ne) 25 24 := ⟨4, by decide +kernel, by decide, rfl⟩
theorem d_X_useAnswer_24 : At prog_1_method_39_code 24 (.return_) 1 25 := ⟨by decide +kernel, rfl⟩
theorem d_X_useAnswer_25 : At prog_1_method_39_code 25 (.aload_n 1) 1 26 := ⟨by decide +kernel, rfl⟩
theorem d_X_useAnswer_26 : At prog_1_method_39_code 26 (.aload_n 3) 1 27 := ⟨by decide +kernel, rfl⟩
theorem d_X_useAnswer_27 : At prog_1_method_39_code 27 (.getfield 220) 3 30 := ⟨by decide +kernel, rfl⟩
theorem d_X_useAnswer_30 : At prog_1_method_39_code 30 (.aload_n 2) 1 31 := ⟨by decide +kernel, rfl⟩
theorem d_X_useAnswer_31 : At prog_1_method_39_code 31 (.getfield 271) 3 34 := ⟨by decide +kernel, rfl⟩
theorem d_X_useAnswer_34 : At prog_1_method_39_code 34 (.invokevirtual 319) 3 37 := ⟨by decide +kernel, rfl⟩
theorem d_X_useAnswer_37 : At prog_1_method_39_code 37 (.istore 4) 2 39 := ⟨by decide +kernel, rfl⟩
theorem d_X_useAnswer_39 : At prog_1_method_39_code 39 (.aload_n 3) 1 40 := ⟨by decide +kernel, rfl⟩
theorem d_X_useAnswer_40 : At prog_1_method_39_code 40 (.aload_n 1) 1 41 := ⟨by decide +kernel, rfl⟩
theorem d_X_useAnswer_41 : At prog_1_method_39_code 41 (.iload 4) 2 43 := ⟨by decide +kernel, rfl⟩
theorem d_X_useAnswer_43 : AtC prog_1_method_39_code 43 (.ifCond .eq) 53 46 := ⟨10, by decide +kernel, by decide, rfl⟩
theorem d_X_useAnswer_46 : At prog_1_method_39_code 46 (.aload_n 2) 1 47 := ⟨by decide +kernel, rfl⟩
theorem d_X_useAnswer_47 : At prog_1_method_39_code 47 (.getfield 271) 3 50 := ⟨by decide +kernel, rfl⟩
theorem d_X_useAnswer_50 : AtC prog_1_method_39_code 50 .goto 61 53 := ⟨11, by decide +kernel, by decide, rfl⟩
theorem d_X_useAnswer_53 : At prog_1_method_39_code 53 (.aload_n 1) 1 54 := ⟨by decide +kernel, rfl⟩
theorem d_X_useAnswer_54 : At prog_1_method_39_code 54 (.aload_n 3) 1 55 := ⟨by decide +kernel, rfl⟩
theorem d_X_useAnswer_55 : At prog_1_method_39_code 55 (.getfield 220) 3 58 := ⟨by decide +kernel, rfl⟩
theorem d_X_useAnswer_58 : At prog_1_method_39_code 58 (.invokevirtual 236) 3 61 := ⟨by decide +kernel, rfl⟩
theorem d_X_useAnswer_61 : At prog_1_method_39_code 61 (.invokestatic 239) 3 64 := ⟨by decide +kernel, rfl⟩
theorem d_X_useAnswer_64 : At prog_1_method_39_code 64 (.return_) 1 65 := ⟨by decide +kernel, rfl⟩
theorem d_Cl_isReadingAt_0 : At prog_2_method_4_code 0 (.aload_n 0) 1 1 := ⟨by decide +kernel, rfl⟩
theorem d_Cl_isReadingAt_1 : At prog_2_method_4_code 1 (.getfield 9) 3 4 := ⟨by decide +kernel, rfl⟩
theorem d_Cl_isReadingAt_4 : At prog_2_method_4_code 4 (.iconst 3) 1 5 := ⟨by decide +kernel, rfl⟩
theorem d_Cl_isReadingAt_5 : AtC prog_2_method_4_code 5 (.if_icmp .ne) 20 8 := ⟨15, by decide +kernel, by decide, rfl⟩
theorem d_Cl_isReadingAt_8 : At prog_2_method_4_code 8 (.aload_n 0) 1 9 := ⟨by decide +kernel, rfl⟩
theorem d_Cl_isReadingAt_9 : At prog_2_method_4_code 9 (.getfield 15) 3 12 := ⟨by decide +kernel, rfl⟩
theorem d_Cl_isReadingAt_12 : At prog_2_method_4_code 12 (.iload_n 1) 1 13 := ⟨by decide +kernel, rfl⟩
theorem d_Cl_isReadingAt_13 : AtC prog_2_method_4_code 13 (.if_icmp .ne) 20 16 := ⟨7, by decide +kernel, by decide, rfl⟩
theorem d_Cl_isReadingAt_16 : At prog_2_method_4_code 16 (.iconst 1) 1 17 := ⟨by decide +kernel, rfl⟩
theorem d_Cl_isReadingAt_17 : AtC prog_2_method_4_code 17 .goto 21 20 := ⟨4, by decide +kernel, by decide, rfl⟩
theorem d_Cl_isReadingAt_20 : At prog_2_method_4_code 20 (.iconst 0) 1 21 := ⟨by decide +kernel, rfl⟩
theorem d_Cl_isReadingAt_21 : At prog_2_method_4_code 21 (.ireturn) 1 22 := ⟨by decide +kernel, rfl⟩
theorem d_Nd_hasVersion_0 : At prog_5_method_15_code 0 (.iload_n 2) 1 1 := ⟨by decide +kernel, rfl⟩
theorem d_Nd_hasVersion_1 : At prog_5_method_15_code 1 (.aload_n 0) 1 2 := ⟨by decide +kernel, rfl⟩
theorem d_Nd_hasVersion_2 : At prog_5_method_15_code 2 (.iload_n 1) 1 3 := ⟨by decide +kernel, rfl⟩
theorem d_Nd_hasVersion_3 : At prog_5_method_15_code 3 (.invokevirtual 71) 3 6 := ⟨by decide +kernel, rfl⟩
theorem d_Nd_hasVersion_6 : AtC prog_5_method_15_code 6 (.if_icmp .eq) 26 9 := ⟨20, by decide +kernel, by decide, rfl⟩
theorem d_Nd_hasVersion_9 : At prog_5_method_15_code 9 (.iload_n 2) 1 10 := ⟨by decide +kernel, rfl⟩
theorem d_Nd_hasVersion_10 : At prog_5_method_15_code 10 (.aload_n 0) 1 11 := ⟨by decide +kernel, rfl⟩
theorem d_Nd_hasVersion_11 : At prog_5_method_15_code 11 (.getfield 48) 3 14 := ⟨by decide +kernel, rfl⟩
theorem d_Nd_hasVersion_14 : AtC prog_5_method_15_code 14 (.if_icmp .le) 30 17 := ⟨16, by decide +kernel, by decide, rfl⟩
theorem d_Nd_hasVersion_17 : At prog_5_method_15_code 17 (.aload_n 0) 1 18 := ⟨by decide +kernel, rfl⟩
theorem d_Nd_hasVersion_18 : At prog_5_method_15_code 18 (.iload_n 2) 1 19 := ⟨by decide +kernel, rfl⟩
theorem d_Nd_hasVersion_19 : At prog_5_method_15_code 19 (.iload_n 1) 1 20 := ⟨by decide +kernel, rfl⟩
theorem d_Nd_hasVersion_20 : At prog_5_method_15_code 20 (.invokevirtual 67) 3 23 := ⟨by decide +kernel, rfl⟩
theorem d_Nd_hasVersion_23 : AtC prog_5_method_15_code 23 (.ifCond .eq) 30 26 := ⟨7, by decide +kernel, by decide, rfl⟩
theorem d_Nd_hasVersion_26 : At prog_5_method_15_code 26 (.iconst 1) 1 27 := ⟨by decide +kernel, rfl⟩
theorem d_Nd_hasVersion_27 : AtC prog_5_method_15_code 27 .goto 31 30 := ⟨4, by decide +kernel, by decide, rfl⟩
theorem d_Nd_hasVersion_30 : At prog_5_method_15_code 30 (.iconst 0) 1 31 := ⟨by decide +kernel, rfl⟩
theorem d_Nd_hasVersion_31 : At prog_5_method_15_code 31 (.ireturn) 1 32 := ⟨by decide +kernel, rfl⟩
theorem d_X_receiveCopy_0 : At prog_1_method_40_code 0 (.aload_n 0) 1 1 := ⟨by decide +kernel, rfl⟩
theorem d_X_receiveCopy_1 : At prog_1_method_40_code 1 (.aload_n 2) 1 2 := ⟨by decide +kernel, rfl⟩
theorem d_X_receiveCopy_2 : At prog_1_method_40_code 2 (.getfield 316) 3 5 := ⟨by decide +kernel, rfl⟩
theorem d_X_receiveCopy_5 : At prog_1_method_40_code 5 (.invokevirtual 200) 3 8 := ⟨by decide +kernel, rfl⟩
theorem d_X_receiveCopy_8 : At prog_1_method_40_code 8 (.astore_n 3) 1 9 := ⟨by decide +kernel, rfl⟩
theorem d_X_receiveCopy_9 : At prog_1_method_40_code 9 (.aload_n 3) 1 10 := ⟨by decide +kernel, rfl⟩
theorem d_X_receiveCopy_10 : AtC prog_1_method_40_code 10 .ifnonnull 14 13 := ⟨4, by decide +kernel, by decide, rfl⟩
theorem d_X_receiveCopy_13 : At prog_1_method_40_code 13 (.return_) 1 14 := ⟨by decide +kernel, rfl⟩
theorem d_X_receiveCopy_14 : At prog_1_method_40_code 14 (.aload_n 1) 1 15 := ⟨by decide +kernel, rfl⟩
theorem d_X_receiveCopy_15 : At prog_1_method_40_code 15 (.getfield 123) 3 18 := ⟨by decide +kernel, rfl⟩
theorem d_X_receiveCopy_18 : AtC prog_1_method_40_code 18 (.ifCond .eq) 56 21 := ⟨38, by decide +kernel, by decide, rfl⟩
theorem d_X_receiveCopy_21 : At prog_1_method_40_code 21 (.aload_n 1) 1 22 := ⟨by decide +kernel, rfl⟩
theorem d_X_receiveCopy_22 : At prog_1_method_40_code 22 (.getfield 188) 3 25 := ⟨by decide +kernel, rfl⟩
theorem d_X_receiveCopy_25 : At prog_1_method_40_code 25 (.iconst 1) 1 26 := ⟨by decide +kernel, rfl⟩
theorem d_X_receiveCopy_26 : At prog_1_method_40_code 26 (.iadd) 1 27 := ⟨by decide +kernel, rfl⟩
theorem d_X_receiveCopy_27 : At prog_1_method_40_code 27 (.istore 4) 2 29 := ⟨by decide +kernel, rfl⟩
theorem d_X_receiveCopy_29 : At prog_1_method_40_code 29 (.iload 4) 2 31 := ⟨by decide +kernel, rfl⟩
theorem d_X_receiveCopy_31 : At prog_1_method_40_code 31 (.aload_n 2) 1 32 := ⟨by decide +kernel, rfl⟩
theorem d_X_receiveCopy_32 : At prog_1_method_40_code 32 (.getfield 271) 3 35 := ⟨by decide +kernel, rfl⟩
theorem d_X_receiveCopy_35 : AtC prog_1_method_40_code 35 (.if_icmp .gt) 55 38 := ⟨20, by decide +kernel, by decide, rfl⟩
theorem d_X_receiveCopy_38 : At prog_1_method_40_code 38 (.aload_n 0) 1 39 := ⟨by decide +kernel, rfl⟩
theorem d_X_receiveCopy_39 : At prog_1_method_40_code 39 (.aload_n 1) 1 40 := ⟨by decide +kernel, rfl⟩
theorem d_X_receiveCopy_40 : At prog_1_method_40_code 40 (.aload_n 3) 1 41 := ⟨by decide +kernel, rfl⟩
theorem d_X_receiveCopy_41 : At prog_1_method_40_code 41 (.iload 4) 2 43 := ⟨by decide +kernel, rfl⟩
theorem d_X_receiveCopy_43 : At prog_1_method_40_code 43 (.invokevirtual 301) 3 46 := ⟨by decide +kernel, rfl⟩
theorem d_X_receiveCopy_46 : At prog_1_method_40_code 46 (.invokevirtual 229) 3 49 := ⟨by decide +kernel, rfl⟩
theorem d_X_receiveCopy_49 : At prog_1_method_40_code 49 (.iinc 4 1) 3 52 := ⟨by decide +kernel, rfl⟩
theorem d_X_receiveCopy_52 : AtC prog_1_method_40_code 52 .goto 29 55 := ⟨-23, by decide +kernel, by decide, rfl⟩
theorem d_X_receiveCopy_55 : At prog_1_method_40_code 55 (.return_) 1 56 := ⟨by decide +kernel, rfl⟩
theorem d_X_receiveCopy_56 : At prog_1_method_40_code 56 (.aload_n 1) 1 57 := ⟨by decide +kernel, rfl⟩
theorem d_X_receiveCopy_57 : At prog_1_method_40_code 57 (.getfield 188) 3 60 := ⟨by decide +kernel, rfl⟩
theorem d_X_receiveCopy_60 : At prog_1_method_40_code 60 (.iconst 1) 1 61 := ⟨by decide +kernel, rfl⟩
theorem d_X_receiveCopy_61 : At prog_1_method_40_code 61 (.iadd) 1 62 := ⟨by decide +kernel, rfl⟩
theorem d_X_receiveCopy_62 : At prog_1_method_40_code 62 (.istore 4) 2 64 := ⟨by decide +kernel, rfl⟩
theorem d_X_receiveCopy_64 : At prog_1_method_40_code 64 (.iload 4) 2 66 := ⟨by decide +kernel, rfl⟩
theorem d_X_receiveCopy_66 : At prog_1_method_40_code 66 (.aload_n 2) 1 67 := ⟨by decide +kernel, rfl⟩
theorem d_X_receiveCopy_67 : At prog_1_method_40_code 67 (.getfield 271) 3 70 := ⟨by decide +kernel, rfl⟩
theorem d_X_receiveCopy_70 : AtC prog_1_method_40_code 70 (.if_icmp .gt) 90 73 := ⟨20, by decide +kernel, by decide, rfl⟩
theorem d_X_receiveCopy_73 : At prog_1_method_40_code 73 (.aload_n 1) 1 74 := ⟨by decide +kernel, rfl⟩
theorem d_X_receiveCopy_74 : At prog_1_method_40_code 74 (.aload_n 3) 1 75 := ⟨by decide +kernel, rfl⟩
theorem d_X_receiveCopy_75 : At prog_1_method_40_code 75 (.iload 4) 2 77 := ⟨by decide +kernel, rfl⟩
theorem d_X_receiveCopy_77 : At prog_1_method_40_code 77 (.invokevirtual 301) 3 80 := ⟨by decide +kernel, rfl⟩
theorem d_X_receiveCopy_80 : At prog_1_method_40_code 80 (.invokevirtual 285) 3 83 := ⟨by decide +kernel, rfl⟩
theorem d_X_receiveCopy_83 : At prog_1_method_40_code 83 (.pop) 1 84 := ⟨by decide +kernel, rfl⟩
theorem d_X_receiveCopy_84 : At prog_1_method_40_code 84 (.iinc 4 1) 3 87 := ⟨by decide +kernel, rfl⟩
theorem d_X_receiveCopy_87 : AtC prog_1_method_40_code 87 .goto 64 90 := ⟨-23, by decide +kernel, by decide, rfl⟩
theorem d_X_receiveCopy_90 : At prog_1_method_40_code 90 (.aload_n 1) 1 91 := ⟨by decide +kernel, rfl⟩
theorem d_X_receiveCopy_91 : At prog_1_method_40_code 91 (.aload_n 2) 1 92 := ⟨by decide +kernel, rfl⟩
theorem d_X_receiveCopy_92 : At prog_1_method_40_code 92 (.getfield 322) 3 95 := ⟨by decide +kernel, rfl⟩
theorem d_X_receiveCopy_95 : At prog_1_method_40_code 95 (.putfield 191) 3 98 := ⟨by decide +kernel, rfl⟩
theorem d_X_receiveCopy_98 : At prog_1_method_40_code 98 (.aload_n 1) 1 99 := ⟨by decide +kernel, rfl⟩
theorem d_X_receiveCopy_99 : At prog_1_method_40_code 99 (.iconst 1) 1 100 := ⟨by decide +kernel, rfl⟩
theorem d_X_receiveCopy_100 : At prog_1_method_40_code 100 (.putfield 123) 3 103 := ⟨by decide +kernel, rfl⟩
theorem d_X_receiveCopy_103 : At prog_1_method_40_code 103 (.aload_n 0) 1 104 := ⟨by decide +kernel, rfl⟩
theorem d_X_receiveCopy_104 : At prog_1_method_40_code 104 (.aload_n 1) 1 105 := ⟨by decide +kernel, rfl⟩
theorem d_X_receiveCopy_105 : At prog_1_method_40_code 105 (.invokevirtual 177) 3 108 := ⟨by decide +kernel, rfl⟩
theorem d_X_receiveCopy_108 : At prog_1_method_40_code 108 (.return_) 1 109 := ⟨by decide +kernel, rfl⟩
theorem d_X_madeNode_0 : At prog_1_method_23_code 0 (.iload_n 1) 1 1 := ⟨by decide +kernel, rfl⟩
theorem d_X_madeNode_1 : At prog_1_method_23_code 1 (.invokestatic 74) 3 4 := ⟨by decide +kernel, rfl⟩
theorem d_X_madeNode_4 : AtC prog_1_method_23_code 4 (.ifCond .eq) 16 7 := ⟨12, by decide +kernel, by decide, rfl⟩
theorem d_X_madeNode_7 : At prog_1_method_23_code 7 (.aload_n 0) 1 8 := ⟨by decide +kernel, rfl⟩
theorem d_X_madeNode_8 : At prog_1_method_23_code 8 (.getfield 11) 3 11 := ⟨by decide +kernel, rfl⟩
theorem d_X_madeNode_11 : At prog_1_method_23_code 11 (.iload_n 1) 1 12 := ⟨by decide +kernel, rfl⟩
theorem d_X_madeNode_12 : At prog_1_method_23_code 12 (.aaload) 1 13 := ⟨by decide +kernel, rfl⟩
theorem d_X_madeNode_13 : AtC prog_1_method_23_code 13 .goto 17 16 := ⟨4, by decide +kernel, by decide, rfl⟩
theorem d_X_madeNode_16 : At prog_1_method_23_code 16 (.aconst_null) 1 17 := ⟨by decide +kernel, rfl⟩
theorem d_X_madeNode_17 : At prog_1_method_23_code 17 (.areturn) 1 18 := ⟨by decide +kernel, rfl⟩
theorem d_X_tellNeighbours_0 : At prog_1_method_41_code 0 (.aload_n 1) 1 1 := ⟨by decide +kernel, rfl⟩
theorem d_X_tellNeighbours_1 : At prog_1_method_41_code 1 (.invokevirtual 289) 3 4 := ⟨by decide +kernel, rfl⟩
theorem d_X_tellNeighbours_4 : AtC prog_1_method_41_code 4 (.ifCond .eq) 15 7 := ⟨11, by decide +kernel, by decide, rfl⟩
theorem d_X_tellNeighbours_7 : At prog_1_method_41_code 7 (.aload_n 0) 1 8 := ⟨by decide +kernel, rfl⟩
theorem d_X_tellNeighbours_8 : At prog_1_method_41_code 8 (.aload_n 1) 1 9 := ⟨by decide +kernel, rfl⟩
theorem d_X_tellNeighbours_9 : At prog_1_method_41_code 9 (.invokevirtual 292) 3 12 := ⟨by decide +kernel, rfl⟩
theorem d_X_tellNeighbours_12 : AtC prog_1_method_41_code 12 .goto 20 15 := ⟨8, by decide +kernel, by decide, rfl⟩
theorem d_X_tellNeighbours_15 : At prog_1_method_41_code 15 (.aload_n 0) 1 16 := ⟨by decide +kernel, rfl⟩
theorem d_X_tellNeighbours_16 : At prog_1_method_41_code 16 (.aload_n 1) 1 17 := ⟨by decide +kernel, rfl⟩
theorem d_X_tellNeighbours_17 : At prog_1_method_41_code 17 (.invokevirtual 323) 3 20 := ⟨by decide +kernel, rfl⟩
theorem d_X_tellNeighbours_20 : At prog_1_method_41_code 20 (.aload_n 0) 1 21 := ⟨by decide +kernel, rfl⟩
theorem d_X_tellNeighbours_21 : At prog_1_method_41_code 21 (.aload_n 1) 1 22 := ⟨by decide +kernel, rfl⟩
theorem d_X_tellNeighbours_22 : At prog_1_method_41_code 22 (.invokevirtual 295) 3 25 := ⟨by decide +kernel, rfl⟩
theorem d_X_tellNeighbours_25 : At prog_1_method_41_code 25 (.return_) 1 26 := ⟨by decide +kernel, rfl⟩
theorem d_X_sendCopy_0 : At prog_1_method_42_code 0 (.new 114) 3 3 := ⟨by decide +kernel, rfl⟩
theorem d_X_sendCopy_3 : At prog_1_method_42_code 3 (.dup) 1 4 := ⟨by decide +kernel, rfl⟩
theorem d_X_sendCopy_4 : At prog_1_method_42_code 4 (.iconst 5) 1 5 := ⟨by decide +kernel, rfl⟩
theorem d_X_sendCopy_5 : At prog_1_method_42_code 5 (.aload_n 1) 1 6 := ⟨by decide +kernel, rfl⟩
theorem d_X_sendCopy_6 : At prog_1_method_42_code 6 (.aload_n 1) 1 7 := ⟨by decide +kernel, rfl⟩
theorem d_X_sendCopy_7 : At prog_1_method_42_code 7 (.invokevirtual 298) 3 10 := ⟨by decide +kernel, rfl⟩
theorem d_X_sendCopy_10 : At prog_1_method_42_code 10 (.invokespecial 249) 3 13 := ⟨by decide +kernel, rfl⟩
theorem d_X_sendCopy_13 : At prog_1_method_42_code 13 (.astore_n 2) 1 14 := ⟨by decide +kernel, rfl⟩
theorem d_X_sendCopy_14 : At prog_1_method_42_code 14 (.aload_n 2) 1 15 := ⟨by decide +kernel, rfl⟩
theorem d_X_sendCopy_15 : At prog_1_method_42_code 15 (.aload_n 1) 1 16 := ⟨by decide +kernel, rfl⟩
theorem d_X_sendCopy_16 : At prog_1_method_42_code 16 (.getfield 188) 3 19 := ⟨by decide +kernel, rfl⟩
theorem d_X_sendCopy_19 : At prog_1_method_42_code 19 (.putfield 271) 3 22 := ⟨by decide +kernel, rfl⟩
theorem d_X_sendCopy_22 : At prog_1_method_42_code 22 (.aload_n 2) 1 23 := ⟨by decide +kernel, rfl⟩
theorem d_X_sendCopy_23 : At prog_1_method_42_code 23 (.aload_n 1) 1 24 := ⟨by decide +kernel, rfl⟩
theorem d_X_sendCopy_24 : At prog_1_method_42_code 24 (.getfield 191) 3 27 := ⟨by decide +kernel, rfl⟩
theorem d_X_sendCopy_27 : At prog_1_method_42_code 27 (.putfield 322) 3 30 := ⟨by decide +kernel, rfl⟩
theorem d_X_sendCopy_30 : At prog_1_method_42_code 30 (.aload_n 0) 1 31 := ⟨by decide +kernel, rfl⟩
theorem d_X_sendCopy_31 : At prog_1_method_42_code 31 (.aload_n 2) 1 32 := ⟨by decide +kernel, rfl⟩
theorem d_X_sendCopy_32 : At prog_1_method_42_code 32 (.invokevirtual 256) 3 35 := ⟨by decide +kernel, rfl⟩
theorem d_X_sendCopy_35 : At prog_1_method_42_code 35 (.return_) 1 36 := ⟨by decide +kernel, rfl⟩
theorem d_X_waiting_0 : At prog_1_method_9_code 0 (.iload_n 1) 1 1 := ⟨by decide +kernel, rfl⟩
theorem d_X_waiting_1 : At prog_1_method_9_code 1 (.invokestatic 74) 3 4 := ⟨by decide +kernel, rfl⟩
theorem d_X_waiting_4 : AtC prog_1_method_9_code 4 (.ifCond .eq) 14 7 := ⟨10, by decide +kernel, by decide, rfl⟩
theorem d_X_waiting_7 : At prog_1_method_9_code 7 (.iload_n 2) 1 8 := ⟨by decide +kernel, rfl⟩
theorem d_X_waiting_8 : At prog_1_method_9_code 8 (.invokestatic 74) 3 11 := ⟨by decide +kernel, rfl⟩
theorem d_X_waiting_11 : AtC prog_1_method_9_code 11 (.ifCond .ne) 16 14 := ⟨5, by decide +kernel, by decide, rfl⟩
theorem d_X_waiting_14 : At prog_1_method_9_code 14 (.iconst (-1)) 1 15 := ⟨by decide +kernel, rfl⟩
theorem d_X_waiting_15 : At prog_1_method_9_code 15 (.ireturn) 1 16 := ⟨by decide +kernel, rfl⟩
theorem d_X_waiting_16 : At prog_1_method_9_code 16 (.iconst 0) 1 17 := ⟨by decide +kernel, rfl⟩
theorem d_X_waiting_17 : At prog_1_method_9_code 17 (.istore_n 3) 1 18 := ⟨by decide +kernel, rfl⟩
theorem d_X_waiting_18 : At prog_1_method_9_code 18 (.iconst 0) 1 19 := ⟨by decide +kernel, rfl⟩
theorem d_X_waiting_19 : At prog_1_method_9_code 19 (.istore 4) 2 21 := ⟨by decide +kernel, rfl⟩
theorem d_X_waiting_21 : At prog_1_method_9_code 21 (.iload 4) 2 23 := ⟨by decide +kernel, rfl⟩
theorem d_X_waiting_23 : At prog_1_method_9_code 23 (.aload_n 0) 1 24 := ⟨by decide +kernel, rfl⟩
theorem d_X_waiting_24 : At prog_1_method_9_code 24 (.getfield 24) 3 27 := ⟨by decide +kernel, rfl⟩
theorem d_X_waiting_27 : At prog_1_method_9_code 27 (.invokevirtual 137) 3 30 := ⟨by decide +kernel, rfl⟩
theorem d_X_waiting_30 : AtC prog_1_method_9_code 30 (.if_icmp .ge) 62 33 := ⟨32, by decide +kernel, by decide, rfl⟩
theorem d_X_waiting_33 : At prog_1_method_9_code 33 (.aload_n 0) 1 34 := ⟨by decide +kernel, rfl⟩
theorem d_X_waiting_34 : At prog_1_method_9_code 34 (.getfield 24) 3 37 := ⟨by decide +kernel, rfl⟩
theorem d_X_waiting_37 : At prog_1_method_9_code 37 (.iload 4) 2 39 := ⟨by decide +kernel, rfl⟩
theorem d_X_waiting_39 : At prog_1_method_9_code 39 (.invokevirtual 110) 3 42 := ⟨by decide +kernel, rfl⟩
theorem d_X_waiting_42 : At prog_1_method_9_code 42 (.checkcast 114) 3 45 := ⟨by decide +kernel, rfl⟩
theorem d_X_waiting_45 : At prog_1_method_9_code 45 (.iload_n 1) 1 46 := ⟨by decide +kernel, rfl⟩
theorem d_X_waiting_46 : At prog_1_method_9_code 46 (.iload_n 2) 1 47 := ⟨by decide +kernel, rfl⟩
theorem d_X_waiting_47 : At prog_1_method_9_code 47 (.invokevirtual 141) 3 50 := ⟨by decide +kernel, rfl⟩
theorem d_X_waiting_50 : AtC prog_1_method_9_code 50 (.ifCond .eq) 56 53 := ⟨6, by decide +kernel, by decide, rfl⟩
theorem d_X_waiting_53 : At prog_1_method_9_code 53 (.iinc 3 1) 3 56 := ⟨by decide +kernel, rfl⟩
theorem d_X_waiting_56 : At prog_1_method_9_code 56 (.iinc 4 1) 3 59 := ⟨by decide +kernel, rfl⟩
theorem d_X_waiting_59 : AtC prog_1_method_9_code 59 .goto 21 62 := ⟨-38, by decide +kernel, by decide, rfl⟩
theorem d_X_waiting_62 : At prog_1_method_9_code 62 (.iload_n 3) 1 63 := ⟨by decide +kernel, rfl⟩
theorem d_X_waiting_63 : At prog_1_method_9_code 63 (.ireturn) 1 64 := ⟨by decide +kernel, rfl⟩
theorem d_X_stop_0 : At prog_1_method_10_code 0 (.aload_n 0) 1 1 := ⟨by decide +kernel, rfl⟩
theorem d_X_stop_1 : At prog_1_method_10_code 1 (.iload_n 1) 1 2 := ⟨by decide +kernel, rfl⟩
theorem d_X_stop_2 : At prog_1_method_10_code 2 (.invokevirtual 95) 3 5 := ⟨by decide +kernel, rfl⟩
theorem d_X_stop_5 : At prog_1_method_10_code 5 (.astore_n 2) 1 6 := ⟨by decide +kernel, rfl⟩
theorem d_X_stop_6 : At prog_1_method_10_code 6 (.aload_n 2) 1 7 := ⟨by decide +kernel, rfl⟩
theorem d_X_stop_7 : AtC prog_1_method_10_code 7 .ifnull 18 10 := ⟨11, by decide +kernel, by decide, rfl⟩
theorem d_X_stop_10 : At prog_1_method_10_code 10 (.aload_n 0) 1 11 := ⟨by decide +kernel, rfl⟩
theorem d_X_stop_11 : At prog_1_method_10_code 11 (.iload_n 1) 1 12 := ⟨by decide +kernel, rfl⟩
theorem d_X_stop_12 : At prog_1_method_10_code 12 (.invokevirtual 145) 3 15 := ⟨by decide +kernel, rfl⟩
theorem d_X_stop_15 : AtC prog_1_method_10_code 15 (.ifCond .ne) 20 18 := ⟨5, by decide +kernel, by decide, rfl⟩
theorem d_X_stop_18 : At prog_1_method_10_code 18 (.iconst 0) 1 19 := ⟨by decide +kernel, rfl⟩
theorem d_X_stop_19 : At prog_1_method_10_code 19 (.ireturn) 1 20 := ⟨by decide +kernel, rfl⟩
theorem d_X_stop_20 : At prog_1_method_10_code 20 (.aload_n 2) 1 21 := ⟨by decide +kernel, rfl⟩
theorem d_X_stop_21 : At prog_1_method_10_code 21 (.iconst 0) 1 22 := ⟨by decide +kernel, rfl⟩
theorem d_X_stop_22 : At prog_1_method_10_code 22 (.putfield 148) 3 25 := ⟨by decide +kernel, rfl⟩
theorem d_X_stop_25 : At prog_1_method_10_code 25 (.aload_n 2) 1 26 := ⟨by decide +kernel, rfl⟩
theorem d_X_stop_26 : At prog_1_method_10_code 26 (.aload_n 0) 1 27 := ⟨by decide +kernel, rfl⟩
theorem d_X_stop_27 : At prog_1_method_10_code 27 (.getfield 151) 3 30 := ⟨by decide +kernel, rfl⟩
theorem d_X_stop_30 : At prog_1_method_10_code 30 (.putfield 154) 3 33 := ⟨by decide +kernel, rfl⟩
theorem d_X_stop_33 : At prog_1_method_10_code 33 (.aload_n 0) 1 34 := ⟨by decide +kernel, rfl⟩
theorem d_X_stop_34 : At prog_1_method_10_code 34 (.iload_n 1) 1 35 := ⟨by decide +kernel, rfl⟩
theorem d_X_stop_35 : At prog_1_method_10_code 35 (.ldc 159) 2 37 := ⟨by decide +kernel, rfl⟩
theorem d_X_stop_37 : At prog_1_method_10_code 37 (.invokevirtual 160) 3 40 := ⟨by decide +kernel, rfl⟩
theorem d_X_stop_40 : At prog_1_method_10_code 40 (.iconst 1) 1 41 := ⟨by decide +kernel, rfl⟩
theorem d_X_stop_41 : At prog_1_method_10_code 41 (.ireturn) 1 42 := ⟨by decide +kernel, rfl⟩
theorem d_X_hasOtherReadyNode_0 : At prog_1_method_26_code 0 (.iconst 0) 1 1 := ⟨by decide +kernel, rfl⟩
theorem d_X_hasOtherReadyNode_1 : At prog_1_method_26_code 1 (.istore_n 2) 1 2 := ⟨by decide +kernel, rfl⟩
theorem d_X_hasOtherReadyNode_2 : At prog_1_method_26_code 2 (.iload_n 2) 1 3 := ⟨by decide +kernel, rfl⟩
theorem d_X_hasOtherReadyNode_3 : At prog_1_method_26_code 3 (.bipush 6) 2 5 := ⟨by decide +kernel, rfl⟩
theorem d_X_hasOtherReadyNode_5 : AtC prog_1_method_26_code 5 (.if_icmp .ge) 29 8 := ⟨24, by decide +kernel, by decide, rfl⟩
theorem d_X_hasOtherReadyNode_8 : At prog_1_method_26_code 8 (.iload_n 2) 1 9 := ⟨by decide +kernel, rfl⟩
theorem d_X_hasOtherReadyNode_9 : At prog_1_method_26_code 9 (.iload_n 1) 1 10 := ⟨by decide +kernel, rfl⟩
theorem d_X_hasOtherReadyNode_10 : AtC prog_1_method_26_code 10 (.if_icmp .eq) 23 13 := ⟨13, by decide +kernel, by decide, rfl⟩
theorem d_X_hasOtherReadyNode_13 : At prog_1_method_26_code 13 (.aload_n 0) 1 14 := ⟨by decide +kernel, rfl⟩
theorem d_X_hasOtherReadyNode_14 : At prog_1_method_26_code 14 (.iload_n 2) 1 15 := ⟨by decide +kernel, rfl⟩
theorem d_X_hasOtherReadyNode_15 : At prog_1_method_26_code 15 (.invokevirtual 77) 3 18 := ⟨by decide +kernel, rfl⟩
theorem d_X_hasOtherReadyNode_18 : AtC prog_1_method_26_code 18 .ifnull 23 21 := ⟨5, by decide +kernel, by decide, rfl⟩
theorem d_X_hasOtherReadyNode_21 : At prog_1_method_26_code 21 (.iconst 1) 1 22 := ⟨by decide +kernel, rfl⟩
theorem d_X_hasOtherReadyNode_22 : At prog_1_method_26_code 22 (.ireturn) 1 23 := ⟨by decide +kernel, rfl⟩
theorem d_X_hasOtherReadyNode_23 : At prog_1_method_26_code 23 (.iinc 2 1) 3 26 := ⟨by decide +kernel, rfl⟩
theorem d_X_hasOtherReadyNode_26 : AtC prog_1_method_26_code 26 .goto 2 29 := ⟨-24, by decide +kernel, by decide, rfl⟩
theorem d_X_hasOtherReadyNode_29 : At prog_1_method_26_code 29 (.iconst 0) 1 30 := ⟨by decide +kernel, rfl⟩
theorem d_X_hasOtherReadyNode_30 : At prog_1_method_26_code 30 (.ireturn) 1 31 := ⟨by decide +kernel, rfl⟩
theorem d_X_loseMessagesTo_0 : At prog_1_method_46_code 0 (.aload_n 0) 1 1 := ⟨by decide +kernel, rfl⟩
theorem d_X_loseMessagesTo_1 : At prog_1_method_46_code 1 (.getfield 24) 3 4 := ⟨by decide +kernel, rfl⟩
theorem d_X_loseMessagesTo_4 : At prog_1_method_46_code 4 (.invokevirtual 137) 3 7 := ⟨by decide +kernel, rfl⟩
theorem d_X_loseMessagesTo_7 : At prog_1_method_46_code 7 (.iconst 1) 1 8 := ⟨by decide +kernel, rfl⟩
theorem d_X_loseMessagesTo_8 : At prog_1_method_46_code 8 (.isub) 1 9 := ⟨by decide +kernel, rfl⟩
theorem d_X_loseMessagesTo_9 : At prog_1_method_46_code 9 (.istore_n 3) 1 10 := ⟨by decide +kernel, rfl⟩
theorem d_X_loseMessagesTo_10 : At prog_1_method_46_code 10 (.iload_n 3) 1 11 := ⟨by decide +kernel, rfl⟩
theorem d_X_loseMessagesTo_11 : AtC prog_1_method_46_code 11 (.ifCond .lt) 60 14 := ⟨49, by decide +kernel, by decide, rfl⟩
theorem d_X_loseMessagesTo_14 : At prog_1_method_46_code 14 (.aload_n 0) 1 15 := ⟨by decide +kernel, rfl⟩
theorem d_X_loseMessagesTo_15 : At prog_1_method_46_code 15 (.getfield 24) 3 18 := ⟨by decide +kernel, rfl⟩
theorem d_X_loseMessagesTo_18 : At prog_1_method_46_code 18 (.iload_n 3) 1 19 := ⟨by decide +kernel, rfl⟩
theorem d_X_loseMessagesTo_19 : At prog_1_method_46_code 19 (.invokevirtual 110) 3 22 := ⟨by decide +kernel, rfl⟩
theorem d_X_loseMessagesTo_22 : At prog_1_method_46_code 22 (.checkcast 114) 3 25 := ⟨by decide +kernel, rfl⟩
theorem d_X_loseMessagesTo_25 : At prog_1_method_46_code 25 (.astore 4) 2 27 := ⟨by decide +kernel, rfl⟩
theorem d_X_loseMessagesTo_27 : At prog_1_method_46_code 27 (.aload 4) 2 29 := ⟨by decide +kernel, rfl⟩
theorem d_X_loseMessagesTo_29 : At prog_1_method_46_code 29 (.getfield 329) 3 32 := ⟨by decide +kernel, rfl⟩
theorem d_X_loseMessagesTo_32 : At prog_1_method_46_code 32 (.iload_n 1) 1 33 := ⟨by decide +kernel, rfl⟩
theorem d_X_loseMessagesTo_33 : AtC prog_1_method_46_code 33 (.if_icmp .ne) 54 36 := ⟨21, by decide +kernel, by decide, rfl⟩
theorem d_X_loseMessagesTo_36 : At prog_1_method_46_code 36 (.aload 4) 2 38 := ⟨by decide +kernel, rfl⟩
theorem d_X_loseMessagesTo_38 : At prog_1_method_46_code 38 (.getfield 116) 3 41 := ⟨by decide +kernel, rfl⟩
theorem d_X_loseMessagesTo_41 : At prog_1_method_46_code 41 (.iload_n 2) 1 42 := ⟨by decide +kernel, rfl⟩
theorem d_X_loseMessagesTo_42 : AtC prog_1_method_46_code 42 (.if_icmp .ge) 54 45 := ⟨12, by decide +kernel, by decide, rfl⟩
theorem d_X_loseMessagesTo_45 : At prog_1_method_46_code 45 (.aload_n 0) 1 46 := ⟨by decide +kernel, rfl⟩
theorem d_X_loseMessagesTo_46 : At prog_1_method_46_code 46 (.getfield 24) 3 49 := ⟨by decide +kernel, rfl⟩
theorem d_X_loseMessagesTo_49 : At prog_1_method_46_code 49 (.iload_n 3) 1 50 := ⟨by decide +kernel, rfl⟩
theorem d_X_loseMessagesTo_50 : At prog_1_method_46_code 50 (.invokevirtual 130) 3 53 := ⟨by decide +kernel, rfl⟩
theorem d_X_loseMessagesTo_53 : At prog_1_method_46_code 53 (.pop) 1 54 := ⟨by decide +kernel, rfl⟩
theorem d_X_loseMessagesTo_54 : At prog_1_method_46_code 54 (.iinc 3 (-1)) 3 57 := ⟨by decide +kernel, rfl⟩
theorem d_X_loseMessagesTo_57 : AtC prog_1_method_46_code 57 .goto 10 60 := ⟨-47, by decide +kernel, by decide, rfl⟩
theorem d_X_loseMessagesTo_60 : At prog_1_method_46_code 60 (.return_) 1 61 := ⟨by decide +kernel, rfl⟩
theorem d_X_join_0 : At prog_1_method_11_code 0 (.aload_n 0) 1 1 := ⟨by decide +kernel, rfl⟩
theorem d_X_join_1 : At prog_1_method_11_code 1 (.getfield 49) 3 4 := ⟨by decide +kernel, rfl⟩
theorem d_X_join_4 : At prog_1_method_11_code 4 (.bipush 6) 2 6 := ⟨by decide +kernel, rfl⟩
theorem d_X_join_6 : AtC prog_1_method_11_code 6 (.if_icmp .lt) 11 9 := ⟨5, by decide +kernel, by decide, rfl⟩
theorem d_X_join_9 : At prog_1_method_11_code 9 (.iconst (-1)) 1 10 := ⟨by decide +kernel, rfl⟩
theorem d_X_join_10 : At prog_1_method_11_code 10 (.ireturn) 1 11 := ⟨by decide +kernel, rfl⟩
theorem d_X_join_11 : At prog_1_method_11_code 11 (.aload_n 0) 1 12 := ⟨by decide +kernel, rfl⟩
theorem d_X_join_12 : At prog_1_method_11_code 12 (.getfield 49) 3 15 := ⟨by decide +kernel, rfl⟩
theorem d_X_join_15 : At prog_1_method_11_code 15 (.istore_n 1) 1 16 := ⟨by decide +kernel, rfl⟩
theorem d_X_join_16 : At prog_1_method_11_code 16 (.aload_n 0) 1 17 := ⟨by decide +kernel, rfl⟩
theorem d_X_join_17 : At prog_1_method_11_code 17 (.aload_n 0) 1 18 := ⟨by decide +kernel, rfl⟩
theorem d_X_join_18 : At prog_1_method_11_code 18 (.getfield 42) 3 21 := ⟨by decide +kernel, rfl⟩
theorem d_X_join_21 : At prog_1_method_11_code 21 (.iload_n 1) 1 22 := ⟨by decide +kernel, rfl⟩
theorem d_X_join_22 : At prog_1_method_11_code 22 (.invokevirtual 163) 3 25 := ⟨by decide +kernel, rfl⟩
theorem d_X_join_25 : At prog_1_method_11_code 25 (.putfield 42) 3 28 := ⟨by decide +kernel, rfl⟩
theorem d_X_join_28 : At prog_1_method_11_code 28 (.aload_n 0) 1 29 := ⟨by decide +kernel, rfl⟩
theorem d_X_join_29 : At prog_1_method_11_code 29 (.getfield 11) 3 32 := ⟨by decide +kernel, rfl⟩
theorem d_X_join_32 : At prog_1_method_11_code 32 (.iload_n 1) 1 33 := ⟨by decide +kernel, rfl⟩
theorem d_X_join_33 : At prog_1_method_11_code 33 (.new 9) 3 36 := ⟨by decide +kernel, rfl⟩
theorem d_X_join_36 : At prog_1_method_11_code 36 (.dup) 1 37 := ⟨by decide +kernel, rfl⟩
theorem d_X_join_37 : At prog_1_method_11_code 37 (.iload_n 1) 1 38 := ⟨by decide +kernel, rfl⟩
theorem d_X_join_38 : At prog_1_method_11_code 38 (.aload_n 0) 1 39 := ⟨by decide +kernel, rfl⟩
theorem d_X_join_39 : At prog_1_method_11_code 39 (.getfield 42) 3 42 := ⟨by decide +kernel, rfl⟩
theorem d_X_join_42 : At prog_1_method_11_code 42 (.iconst 0) 1 43 := ⟨by decide +kernel, rfl⟩
theorem d_X_join_43 : At prog_1_method_11_code 43 (.invokespecial 46) 3 46 := ⟨by decide +kernel, rfl⟩
theorem d_X_join_46 : At prog_1_method_11_code 46 (.aastore) 1 47 := ⟨by decide +kernel, rfl⟩
theorem d_X_join_47 : At prog_1_method_11_code 47 (.aload_n 0) 1 48 := ⟨by decide +kernel, rfl⟩
theorem d_X_join_48 : At prog_1_method_11_code 48 (.dup) 1 49 := ⟨by decide +kernel, rfl⟩
theorem d_X_join_49 : At prog_1_method_11_code 49 (.getfield 49) 3 52 := ⟨by decide +kernel, rfl⟩
theorem d_X_join_52 : At prog_1_method_11_code 52 (.iconst 1) 1 53 := ⟨by decide +kernel, rfl⟩
theorem d_X_join_53 : At prog_1_method_11_code 53 (.iadd) 1 54 := ⟨by decide +kernel, rfl⟩
theorem d_X_join_54 : At prog_1_method_11_code 54 (.putfield 49) 3 57 := ⟨by decide +kernel, rfl⟩
theorem d_X_join_57 : At prog_1_method_11_code 57 (.iload_n 1) 1 58 := ⟨by decide +kernel, rfl⟩
theorem d_X_join_58 : At prog_1_method_11_code 58 (.ireturn) 1 59 := ⟨by decide +kernel, rfl⟩
theorem d_Cf_with_0 : At prog_3_method_6_code 0 (.aload_n 0) 1 1 := ⟨by decide +kernel, rfl⟩
theorem d_Cf_with_1 : At prog_3_method_6_code 1 (.getfield 15) 3 4 := ⟨by decide +kernel, rfl⟩
theorem d_Cf_with_4 : At prog_3_method_6_code 4 (.arraylength) 1 5 := ⟨by decide +kernel, rfl⟩
theorem d_Cf_with_5 : At prog_3_method_6_code 5 (.iconst 1) 1 6 := ⟨by decide +kernel, rfl⟩
theorem d_Cf_with_6 : At prog_3_method_6_code 6 (.iadd) 1 7 := ⟨by decide +kernel, rfl⟩
theorem d_Cf_with_7 : At prog_3_method_6_code 7 (.newarray .int) 2 9 := ⟨by decide +kernel, rfl⟩
theorem d_Cf_with_9 : At prog_3_method_6_code 9 (.astore_n 2) 1 10 := ⟨by decide +kernel, rfl⟩
theorem d_Cf_with_10 : At prog_3_method_6_code 10 (.aload_n 0) 1 11 := ⟨by decide +kernel, rfl⟩
theorem d_Cf_with_11 : At prog_3_method_6_code 11 (.getfield 15) 3 14 := ⟨by decide +kernel, rfl⟩
theorem d_Cf_with_14 : At prog_3_method_6_code 14 (.iconst 0) 1 15 := ⟨by decide +kernel, rfl⟩
theorem d_Cf_with_15 : At prog_3_method_6_code 15 (.aload_n 2) 1 16 := ⟨by decide +kernel, rfl⟩
theorem d_Cf_with_16 : At prog_3_method_6_code 16 (.iconst 0) 1 17 := ⟨by decide +kernel, rfl⟩
theorem d_Cf_with_17 : At prog_3_method_6_code 17 (.aload_n 0) 1 18 := ⟨by decide +kernel, rfl⟩
theorem d_Cf_with_18 : At prog_3_method_6_code 18 (.getfield 15) 3 21 := ⟨by decide +kernel, rfl⟩
theorem d_Cf_with_21 : At prog_3_method_6_code 21 (.arraylength) 1 22 := ⟨by decide +kernel, rfl⟩
theorem d_Cf_with_22 : At prog_3_method_6_code 22 (.invokestatic 23) 3 25 := ⟨by decide +kernel, rfl⟩
theorem d_Cf_with_25 : At prog_3_method_6_code 25 (.aload_n 2) 1 26 := ⟨by decide +kernel, rfl⟩
theorem d_Cf_with_26 : At prog_3_method_6_code 26 (.aload_n 0) 1 27 := ⟨by decide +kernel, rfl⟩
theorem d_Cf_with_27 : At prog_3_method_6_code 27 (.getfield 15) 3 30 := ⟨by decide +kernel, rfl⟩
theorem d_Cf_with_30 : At prog_3_method_6_code 30 (.arraylength) 1 31 := ⟨by decide +kernel, rfl⟩
theorem d_Cf_with_31 : At prog_3_method_6_code 31 (.iload_n 1) 1 32 := ⟨by decide +kernel, rfl⟩
theorem d_Cf_with_32 : At prog_3_method_6_code 32 (.iastore) 1 33 := ⟨by decide +kernel, rfl⟩
theorem d_Cf_with_33 : At prog_3_method_6_code 33 (.new 10) 3 36 := ⟨by decide +kernel, rfl⟩
theorem d_Cf_with_36 : At prog_3_method_6_code 36 (.dup) 1 37 := ⟨by decide +kernel, rfl⟩
theorem d_Cf_with_37 : At prog_3_method_6_code 37 (.aload_n 0) 1 38 := ⟨by decide +kernel, rfl⟩
theorem d_Cf_with_38 : At prog_3_method_6_code 38 (.getfield 9) 3 41 := ⟨by decide +kernel, rfl⟩
theorem d_Cf_with_41 : At prog_3_method_6_code 41 (.iconst 1) 1 42 := ⟨by decide +kernel, rfl⟩
theorem d_Cf_with_42 : At prog_3_method_6_code 42 (.iadd) 1 43 := ⟨by decide +kernel, rfl⟩
theorem d_Cf_with_43 : At prog_3_method_6_code 43 (.aload_n 2) 1 44 := ⟨by decide +kernel, rfl⟩
theorem d_Cf_with_44 : At prog_3_method_6_code 44 (.invokespecial 29) 3 47 := ⟨by decide +kernel, rfl⟩
theorem d_Cf_with_47 : At prog_3_method_6_code 47 (.areturn) 1 48 := ⟨by decide +kernel, rfl⟩
theorem d_X_tick_0 : At prog_1_method_12_code 0 (.aload_n 0) 1 1 := ⟨by decide +kernel, rfl⟩
theorem d_X_tick_1 : At prog_1_method_12_code 1 (.dup) 1 2 := ⟨by decide +kernel, rfl⟩
theorem d_X_tick_2 : At prog_1_method_12_code 2 (.getfield 151) 3 5 := ⟨by decide +kernel, rfl⟩
theorem d_X_tick_5 : At prog_1_method_12_code 5 (.iconst 1) 1 6 := ⟨by decide +kernel, rfl⟩
theorem d_X_tick_6 : At prog_1_method_12_code 6 (.iadd) 1 7 := ⟨by decide +kernel, rfl⟩
theorem d_X_tick_7 : At prog_1_method_12_code 7 (.putfield 151) 3 10 := ⟨by decide +kernel, rfl⟩
theorem d_X_tick_10 : At prog_1_method_12_code 10 (.iconst 0) 1 11 := ⟨by decide +kernel, rfl⟩
theorem d_X_tick_11 : At prog_1_method_12_code 11 (.istore_n 1) 1 12 := ⟨by decide +kernel, rfl⟩
theorem d_X_tick_12 : At prog_1_method_12_code 12 (.iconst 0) 1 13 := ⟨by decide +kernel, rfl⟩
theorem d_X_tick_13 : At prog_1_method_12_code 13 (.istore_n 2) 1 14 := ⟨by decide +kernel, rfl⟩
theorem d_X_tick_14 : At prog_1_method_12_code 14 (.iload_n 2) 1 15 := ⟨by decide +kernel, rfl⟩
theorem d_X_tick_15 : At prog_1_method_12_code 15 (.aload_n 0) 1 16 := ⟨by decide +kernel, rfl⟩
theorem d_X_tick_16 : At prog_1_method_12_code 16 (.getfield 42) 3 19 := ⟨by decide +kernel, rfl⟩
theorem d_X_tick_19 : At prog_1_method_12_code 19 (.getfield 167) 3 22 := ⟨by decide +kernel, rfl⟩
theorem d_X_tick_22 : At prog_1_method_12_code 22 (.arraylength) 1 23 := ⟨by decide +kernel, rfl⟩
theorem d_X_tick_23 : AtC prog_1_method_12_code 23 (.if_icmp .ge) 51 26 := ⟨28, by decide +kernel, by decide, rfl⟩
theorem d_X_tick_26 : At prog_1_method_12_code 26 (.aload_n 0) 1 27 := ⟨by decide +kernel, rfl⟩
theorem d_X_tick_27 : At prog_1_method_12_code 27 (.aload_n 0) 1 28 := ⟨by decide +kernel, rfl⟩
theorem d_X_tick_28 : At prog_1_method_12_code 28 (.getfield 42) 3 31 := ⟨by decide +kernel, rfl⟩
theorem d_X_tick_31 : At prog_1_method_12_code 31 (.getfield 167) 3 34 := ⟨by decide +kernel, rfl⟩
theorem d_X_tick_34 : At prog_1_method_12_code 34 (.iload_n 2) 1 35 := ⟨by decide +kernel, rfl⟩
theorem d_X_tick_35 : At prog_1_method_12_code 35 (.iaload) 1 36 := ⟨by decide +kernel, rfl⟩
theorem d_X_tick_36 : At prog_1_method_12_code 36 (.invokevirtual 171) 3 39 := ⟨by decide +kernel, rfl⟩
theorem d_X_tick_39 : AtC prog_1_method_12_code 39 (.ifCond .eq) 45 42 := ⟨6, by decide +kernel, by decide, rfl⟩
theorem d_X_tick_42 : At prog_1_method_12_code 42 (.iinc 1 1) 3 45 := ⟨by decide +kernel, rfl⟩
theorem d_X_tick_45 : At prog_1_method_12_code 45 (.iinc 2 1) 3 48 := ⟨by decide +kernel, rfl⟩
theorem d_X_tick_48 : AtC prog_1_method_12_code 48 .goto 14 51 := ⟨-34, by decide +kernel, by decide, rfl⟩
theorem d_X_tick_51 : At prog_1_method_12_code 51 (.iload_n 1) 1 52 := ⟨by decide +kernel, rfl⟩
theorem d_X_tick_52 : AtC prog_1_method_12_code 52 (.ifCond .le) 64 55 := ⟨12, by decide +kernel, by decide, rfl⟩
theorem d_X_tick_55 : At prog_1_method_12_code 55 (.aload_n 0) 1 56 := ⟨by decide +kernel, rfl⟩
theorem d_X_tick_56 : At prog_1_method_12_code 56 (.aload_n 0) 1 57 := ⟨by decide +kernel, rfl⟩
theorem d_X_tick_57 : At prog_1_method_12_code 57 (.iload_n 1) 1 58 := ⟨by decide +kernel, rfl⟩
theorem d_X_tick_58 : At prog_1_method_12_code 58 (.invokevirtual 174) 3 61 := ⟨by decide +kernel, rfl⟩
theorem d_X_tick_61 : At prog_1_method_12_code 61 (.putfield 42) 3 64 := ⟨by decide +kernel, rfl⟩
theorem d_X_tick_64 : At prog_1_method_12_code 64 (.aload_n 0) 1 65 := ⟨by decide +kernel, rfl⟩
theorem d_X_tick_65 : At prog_1_method_12_code 65 (.getfield 42) 3 68 := ⟨by decide +kernel, rfl⟩
theorem d_X_tick_68 : At prog_1_method_12_code 68 (.getfield 122) 3 71 := ⟨by decide +kernel, rfl⟩
theorem d_X_tick_71 : At prog_1_method_12_code 71 (.ireturn) 1 72 := ⟨by decide +kernel, rfl⟩
theorem d_X_isLongSilent_0 : At prog_1_method_27_code 0 (.aload_n 0) 1 1 := ⟨by decide +kernel, rfl⟩
theorem d_X_isLongSilent_1 : At prog_1_method_27_code 1 (.iload_n 1) 1 2 := ⟨by decide +kernel, rfl⟩
theorem d_X_isLongSilent_2 : At prog_1_method_27_code 2 (.invokevirtual 200) 3 5 := ⟨by decide +kernel, rfl⟩
theorem d_X_isLongSilent_5 : At prog_1_method_27_code 5 (.astore_n 2) 1 6 := ⟨by decide +kernel, rfl⟩
theorem d_X_isLongSilent_6 : At prog_1_method_27_code 6 (.aload_n 2) 1 7 := ⟨by decide +kernel, rfl⟩
theorem d_X_isLongSilent_7 : AtC prog_1_method_27_code 7 .ifnull 34 10 := ⟨27, by decide +kernel, by decide, rfl⟩
theorem d_X_isLongSilent_10 : At prog_1_method_27_code 10 (.aload_n 2) 1 11 := ⟨by decide +kernel, rfl⟩
theorem d_X_isLongSilent_11 : At prog_1_method_27_code 11 (.getfield 148) 3 14 := ⟨by decide +kernel, rfl⟩
theorem d_X_isLongSilent_14 : AtC prog_1_method_27_code 14 (.ifCond .ne) 34 17 := ⟨20, by decide +kernel, by decide, rfl⟩
theorem d_X_isLongSilent_17 : At prog_1_method_27_code 17 (.aload_n 0) 1 18 := ⟨by decide +kernel, rfl⟩
theorem d_X_isLongSilent_18 : At prog_1_method_27_code 18 (.getfield 151) 3 21 := ⟨by decide +kernel, rfl⟩
theorem d_X_isLongSilent_21 : At prog_1_method_27_code 21 (.aload_n 2) 1 22 := ⟨by decide +kernel, rfl⟩
theorem d_X_isLongSilent_22 : At prog_1_method_27_code 22 (.getfield 154) 3 25 := ⟨by decide +kernel, rfl⟩
theorem d_X_isLongSilent_25 : At prog_1_method_27_code 25 (.isub) 1 26 := ⟨by decide +kernel, rfl⟩
theorem d_X_isLongSilent_26 : At prog_1_method_27_code 26 (.iconst 3) 1 27 := ⟨by decide +kernel, rfl⟩
theorem d_X_isLongSilent_27 : AtC prog_1_method_27_code 27 (.if_icmp .lt) 34 30 := ⟨7, by decide +kernel, by decide, rfl⟩
theorem d_X_isLongSilent_30 : At prog_1_method_27_code 30 (.iconst 1) 1 31 := ⟨by decide +kernel, rfl⟩
theorem d_X_isLongSilent_31 : AtC prog_1_method_27_code 31 .goto 35 34 := ⟨4, by decide +kernel, by decide, rfl⟩
theorem d_X_isLongSilent_34 : At prog_1_method_27_code 34 (.iconst 0) 1 35 := ⟨by decide +kernel, rfl⟩
theorem d_X_isLongSilent_35 : At prog_1_method_27_code 35 (.ireturn) 1 36 := ⟨by decide +kernel, rfl⟩
theorem d_X_withoutSilent_0 : At prog_1_method_28_code 0 (.aload_n 0) 1 1 := ⟨by decide +kernel, rfl⟩
theorem d_X_withoutSilent_1 : At prog_1_method_28_code 1 (.getfield 42) 3 4 := ⟨by decide +kernel, rfl⟩
theorem d_X_withoutSilent_4 : At prog_1_method_28_code 4 (.getfield 167) 3 7 := ⟨by decide +kernel, rfl⟩
theorem d_X_withoutSilent_7 : At prog_1_method_28_code 7 (.astore_n 2) 1 8 := ⟨by decide +kernel, rfl⟩
theorem d_X_withoutSilent_8 : At prog_1_method_28_code 8 (.iconst 0) 1 9 := ⟨by decide +kernel, rfl⟩
theorem d_X_withoutSilent_9 : At prog_1_method_28_code 9 (.aload_n 2) 1 10 := ⟨by decide +kernel, rfl⟩
theorem d_X_withoutSilent_10 : At prog_1_method_28_code 10 (.arraylength) 1 11 := ⟨by decide +kernel, rfl⟩
theorem d_X_withoutSilent_11 : At prog_1_method_28_code 11 (.iload_n 1) 1 12 := ⟨by decide +kernel, rfl⟩
theorem d_X_withoutSilent_12 : At prog_1_method_28_code 12 (.isub) 1 13 := ⟨by decide +kernel, rfl⟩
theorem d_X_withoutSilent_13 : At prog_1_method_28_code 13 (.invokestatic 34) 3 16 := ⟨by decide +kernel, rfl⟩
theorem d_X_withoutSilent_16 : At prog_1_method_28_code 16 (.newarray .int) 2 18 := ⟨by decide +kernel, rfl⟩
theorem d_X_withoutSilent_18 : At prog_1_method_28_code 18 (.astore_n 3) 1 19 := ⟨by decide +kernel, rfl⟩
theorem d_X_withoutSilent_19 : At prog_1_method_28_code 19 (.iconst 0) 1 20 := ⟨by decide +kernel, rfl⟩
theorem d_X_withoutSilent_20 : At prog_1_method_28_code 20 (.istore 4) 2 22 := ⟨by decide +kernel, rfl⟩
theorem d_X_withoutSilent_22 : At prog_1_method_28_code 22 (.iconst 0) 1 23 := ⟨by decide +kernel, rfl⟩
theorem d_X_withoutSilent_23 : At prog_1_method_28_code 23 (.istore 5) 2 25 := ⟨by decide +kernel, rfl⟩
theorem d_X_withoutSilent_25 : At prog_1_method_28_code 25 (.iload 5) 2 27 := ⟨by decide +kernel, rfl⟩
theorem d_X_withoutSilent_27 : At prog_1_method_28_code 27 (.aload_n 2) 1 28 := ⟨by decide +kernel, rfl⟩
theorem d_X_withoutSilent_28 : At prog_1_method_28_code 28 (.arraylength) 1 29 := ⟨by decide +kernel, rfl⟩
theorem d_X_withoutSilent_29 : AtC prog_1_method_28_code 29 (.if_icmp .ge) 67 32 := ⟨38, by decide +kernel, by decide, rfl⟩
theorem d_X_withoutSilent_32 : At prog_1_method_28_code 32 (.iload 4) 2 34 := ⟨by decide +kernel, rfl⟩
theorem d_X_withoutSilent_34 : At prog_1_method_28_code 34 (.aload_n 3) 1 35 := ⟨by decide +kernel, rfl⟩
theorem d_X_withoutSilent_35 : At prog_1_method_28_code 35 (.arraylength) 1 36 := ⟨by decide +kernel, rfl⟩
theorem d_X_withoutSilent_36 : AtC prog_1_method_28_code 36 (.if_icmp .ge) 67 39 := ⟨31, by decide +kernel, by decide, rfl⟩
theorem d_X_withoutSilent_39 : At prog_1_method_28_code 39 (.aload_n 0) 1 40 := ⟨by decide +kernel, rfl⟩
theorem d_X_withoutSilent_40 : At prog_1_method_28_code 40 (.aload_n 2) 1 41 := ⟨by decide +kernel, rfl⟩
theorem d_X_withoutSilent_41 : At prog_1_method_28_code 41 (.iload 5) 2 43 := ⟨by decide +kernel, rfl⟩
theorem d_X_withoutSilent_43 : At prog_1_method_28_code 43 (.iaload) 1 44 := ⟨by decide +kernel, rfl⟩
theorem d_X_withoutSilent_44 : At prog_1_method_28_code 44 (.invokevirtual 171) 3 47 := ⟨by decide +kernel, rfl⟩
theorem d_X_withoutSilent_47 : AtC prog_1_method_28_code 47 (.ifCond .ne) 61 50 := ⟨14, by decide +kernel, by decide, rfl⟩
theorem d_X_withoutSilent_50 : At prog_1_method_28_code 50 (.aload_n 3) 1 51 := ⟨by decide +kernel, rfl⟩
theorem d_X_withoutSilent_51 : At prog_1_method_28_code 51 (.iload 4) 2 53 := ⟨by decide +kernel, rfl⟩
theorem d_X_withoutSilent_53 : At prog_1_method_28_code 53 (.aload_n 2) 1 54 := ⟨by decide +kernel, rfl⟩
theorem d_X_withoutSilent_54 : At prog_1_method_28_code 54 (.iload 5) 2 56 := ⟨by decide +kernel, rfl⟩
theorem d_X_withoutSilent_56 : At prog_1_method_28_code 56 (.iaload) 1 57 := ⟨by decide +kernel, rfl⟩
theorem d_X_withoutSilent_57 : At prog_1_method_28_code 57 (.iastore) 1 58 := ⟨by decide +kernel, rfl⟩
theorem d_X_withoutSilent_58 : At prog_1_method_28_code 58 (.iinc 4 1) 3 61 := ⟨by decide +kernel, rfl⟩
theorem d_X_withoutSilent_61 : At prog_1_method_28_code 61 (.iinc 5 1) 3 64 := ⟨by decide +kernel, rfl⟩
theorem d_X_withoutSilent_64 : AtC prog_1_method_28_code 64 .goto 25 67 := ⟨-39, by decide +kernel, by decide, rfl⟩
theorem d_X_withoutSilent_67 : At prog_1_method_28_code 67 (.new 37) 3 70 := ⟨by decide +kernel, rfl⟩
theorem d_X_withoutSilent_70 : At prog_1_method_28_code 70 (.dup) 1 71 := ⟨by decide +kernel, rfl⟩
theorem d_X_withoutSilent_71 : At prog_1_method_28_code 71 (.aload_n 0) 1 72 := ⟨by decide +kernel, rfl⟩
theorem d_X_withoutSilent_72 : At prog_1_method_28_code 72 (.getfield 42) 3 75 := ⟨by decide +kernel, rfl⟩
theorem d_X_withoutSilent_75 : At prog_1_method_28_code 75 (.getfield 122) 3 78 := ⟨by decide +kernel, rfl⟩
theorem d_X_withoutSilent_78 : At prog_1_method_28_code 78 (.iconst 1) 1 79 := ⟨by decide +kernel, rfl⟩
theorem d_X_withoutSilent_79 : At prog_1_method_28_code 79 (.iadd) 1 80 := ⟨by decide +kernel, rfl⟩
theorem d_X_withoutSilent_80 : At prog_1_method_28_code 80 (.aload_n 3) 1 81 := ⟨by decide +kernel, rfl⟩
theorem d_X_withoutSilent_81 : At prog_1_method_28_code 81 (.invokespecial 39) 3 84 := ⟨by decide +kernel, rfl⟩
theorem d_X_withoutSilent_84 : At prog_1_method_28_code 84 (.areturn) 1 85 := ⟨by decide +kernel, rfl⟩
theorem d_X_adopt_0 : At prog_1_method_13_code 0 (.aload_n 0) 1 1 := ⟨by decide +kernel, rfl⟩
theorem d_X_adopt_1 : At prog_1_method_13_code 1 (.iload_n 1) 1 2 := ⟨by decide +kernel, rfl⟩
theorem d_X_adopt_2 : At prog_1_method_13_code 2 (.invokevirtual 95) 3 5 := ⟨by decide +kernel, rfl⟩
theorem d_X_adopt_5 : At prog_1_method_13_code 5 (.astore_n 2) 1 6 := ⟨by decide +kernel, rfl⟩
theorem d_X_adopt_6 : At prog_1_method_13_code 6 (.aload_n 2) 1 7 := ⟨by decide +kernel, rfl⟩
theorem d_X_adopt_7 : AtC prog_1_method_13_code 7 .ifnull 27 10 := ⟨20, by decide +kernel, by decide, rfl⟩
theorem d_X_adopt_10 : At prog_1_method_13_code 10 (.aload_n 2) 1 11 := ⟨by decide +kernel, rfl⟩
theorem d_X_adopt_11 : At prog_1_method_13_code 11 (.getfield 119) 3 14 := ⟨by decide +kernel, rfl⟩
theorem d_X_adopt_14 : At prog_1_method_13_code 14 (.getfield 122) 3 17 := ⟨by decide +kernel, rfl⟩
theorem d_X_adopt_17 : At prog_1_method_13_code 17 (.aload_n 0) 1 18 := ⟨by decide +kernel, rfl⟩
theorem d_X_adopt_18 : At prog_1_method_13_code 18 (.getfield 42) 3 21 := ⟨by decide +kernel, rfl⟩
theorem d_X_adopt_21 : At prog_1_method_13_code 21 (.getfield 122) 3 24 := ⟨by decide +kernel, rfl⟩
theorem d_X_adopt_24 : AtC prog_1_method_13_code 24 (.if_icmp .ne) 29 27 := ⟨5, by decide +kernel, by decide, rfl⟩
theorem d_X_adopt_27 : At prog_1_method_13_code 27 (.iconst 0) 1 28 := ⟨by decide +kernel, rfl⟩
theorem d_X_adopt_28 : At prog_1_method_13_code 28 (.ireturn) 1 29 := ⟨by decide +kernel, rfl⟩
theorem d_X_adopt_29 : At prog_1_method_13_code 29 (.aload_n 2) 1 30 := ⟨by decide +kernel, rfl⟩
theorem d_X_adopt_30 : At prog_1_method_13_code 30 (.aload_n 0) 1 31 := ⟨by decide +kernel, rfl⟩
theorem d_X_adopt_31 : At prog_1_method_13_code 31 (.getfield 42) 3 34 := ⟨by decide +kernel, rfl⟩
theorem d_X_adopt_34 : At prog_1_method_13_code 34 (.putfield 119) 3 37 := ⟨by decide +kernel, rfl⟩
theorem d_X_adopt_37 : At prog_1_method_13_code 37 (.aload_n 0) 1 38 := ⟨by decide +kernel, rfl⟩
theorem d_X_adopt_38 : At prog_1_method_13_code 38 (.iload_n 1) 1 39 := ⟨by decide +kernel, rfl⟩
theorem d_X_adopt_39 : At prog_1_method_13_code 39 (.aload_n 0) 1 40 := ⟨by decide +kernel, rfl⟩
theorem d_X_adopt_40 : At prog_1_method_13_code 40 (.getfield 42) 3 43 := ⟨by decide +kernel, rfl⟩
theorem d_X_adopt_43 : At prog_1_method_13_code 43 (.getfield 122) 3 46 := ⟨by decide +kernel, rfl⟩
theorem d_X_adopt_46 : At prog_1_method_13_code 46 (.invokevirtual 160) 3 49 := ⟨by decide +kernel, rfl⟩
theorem d_X_adopt_49 : At prog_1_method_13_code 49 (.aload_n 2) 1 50 := ⟨by decide +kernel, rfl⟩
theorem d_X_adopt_50 : At prog_1_method_13_code 50 (.getfield 123) 3 53 := ⟨by decide +kernel, rfl⟩
theorem d_X_adopt_53 : AtC prog_1_method_13_code 53 (.ifCond .eq) 66 56 := ⟨13, by decide +kernel, by decide, rfl⟩
theorem d_X_adopt_56 : At prog_1_method_13_code 56 (.aload_n 0) 1 57 := ⟨by decide +kernel, rfl⟩
theorem d_X_adopt_57 : At prog_1_method_13_code 57 (.aload_n 2) 1 58 := ⟨by decide +kernel, rfl⟩
theorem d_X_adopt_58 : At prog_1_method_13_code 58 (.invokevirtual 177) 3 61 := ⟨by decide +kernel, rfl⟩
theorem d_X_adopt_61 : At prog_1_method_13_code 61 (.aload_n 0) 1 62 := ⟨by decide +kernel, rfl⟩
theorem d_X_adopt_62 : At prog_1_method_13_code 62 (.aload_n 2) 1 63 := ⟨by decide +kernel, rfl⟩
theorem d_X_adopt_63 : At prog_1_method_13_code 63 (.invokevirtual 181) 3 66 := ⟨by decide +kernel, rfl⟩
theorem d_X_adopt_66 : At prog_1_method_13_code 66 (.iconst 1) 1 67 := ⟨by decide +kernel, rfl⟩
theorem d_X_adopt_67 : At prog_1_method_13_code 67 (.ireturn) 1 68 := ⟨by decide +kernel, rfl⟩
theorem d_X_serveWaitingReads_0 : At prog_1_method_31_code 0 (.iconst 0) 1 1 := ⟨by decide +kernel, rfl⟩
theorem d_X_serveWaitingReads_1 : At prog_1_method_31_code 1 (.istore_n 2) 1 2 := ⟨by decide +kernel, rfl⟩
theorem d_X_serveWaitingReads_2 : At prog_1_method_31_code 2 (.iload_n 2) 1 3 := ⟨by decide +kernel, rfl⟩
theorem d_X_serveWaitingReads_3 : At prog_1_method_31_code 3 (.iconst 3) 1 4 := ⟨by decide +kernel, rfl⟩
theorem d_X_serveWaitingReads_4 : AtC prog_1_method_31_code 4 (.if_icmp .ge) 42 7 := ⟨38, by decide +kernel, by decide, rfl⟩
theorem d_X_serveWaitingReads_7 : At prog_1_method_31_code 7 (.aload_n 0) 1 8 := ⟨by decide +kernel, rfl⟩
theorem d_X_serveWaitingReads_8 : At prog_1_method_31_code 8 (.getfield 17) 3 11 := ⟨by decide +kernel, rfl⟩
theorem d_X_serveWaitingReads_11 : At prog_1_method_31_code 11 (.iload_n 2) 1 12 := ⟨by decide +kernel, rfl⟩
theorem d_X_serveWaitingReads_12 : At prog_1_method_31_code 12 (.aaload) 1 13 := ⟨by decide +kernel, rfl⟩
theorem d_X_serveWaitingReads_13 : At prog_1_method_31_code 13 (.aload_n 1) 1 14 := ⟨by decide +kernel, rfl⟩
theorem d_X_serveWaitingReads_14 : At prog_1_method_31_code 14 (.getfield 243) 3 17 := ⟨by decide +kernel, rfl⟩
theorem d_X_serveWaitingReads_17 : At prog_1_method_31_code 17 (.invokevirtual 260) 3 20 := ⟨by decide +kernel, rfl⟩
theorem d_X_serveWaitingReads_20 : AtC prog_1_method_31_code 20 (.ifCond .eq) 36 23 := ⟨16, by decide +kernel, by decide, rfl⟩
theorem d_X_serveWaitingReads_23 : At prog_1_method_31_code 23 (.aload_n 0) 1 24 := ⟨by decide +kernel, rfl⟩
theorem d_X_serveWaitingReads_24 : At prog_1_method_31_code 24 (.iload_n 2) 1 25 := ⟨by decide +kernel, rfl⟩
theorem d_X_serveWaitingReads_25 : At prog_1_method_31_code 25 (.aload_n 0) 1 26 := ⟨by decide +kernel, rfl⟩
theorem d_X_serveWaitingReads_26 : At prog_1_method_31_code 26 (.getfield 17) 3 29 := ⟨by decide +kernel, rfl⟩
theorem d_X_serveWaitingReads_29 : At prog_1_method_31_code 29 (.iload_n 2) 1 30 := ⟨by decide +kernel, rfl⟩
theorem d_X_serveWaitingReads_30 : At prog_1_method_31_code 30 (.aaload) 1 31 := ⟨by decide +kernel, rfl⟩
theorem d_X_serveWaitingReads_31 : At prog_1_method_31_code 31 (.aload_n 1) 1 32 := ⟨by decide +kernel, rfl⟩
theorem d_X_serveWaitingReads_32 : At prog_1_method_31_code 32 (.invokevirtual 85) 3 35 := ⟨by decide +kernel, rfl⟩
theorem d_X_serveWaitingReads_35 : At prog_1_method_31_code 35 (.pop) 1 36 := ⟨by decide +kernel, rfl⟩
theorem d_X_serveWaitingReads_36 : At prog_1_method_31_code 36 (.iinc 2 1) 3 39 := ⟨by decide +kernel, rfl⟩
theorem d_X_serveWaitingReads_39 : AtC prog_1_method_31_code 39 .goto 2 42 := ⟨-37, by decide +kernel, by decide, rfl⟩
theorem d_X_serveWaitingReads_42 : At prog_1_method_31_code 42 (.return_) 1 43 := ⟨by decide +kernel, rfl⟩
theorem d_X_member_0 : At prog_1_method_14_code 0 (.aload_n 0) 1 1 := ⟨by decide +kernel, rfl⟩
theorem d_X_member_1 : At prog_1_method_14_code 1 (.getfield 42) 3 4 := ⟨by decide +kernel, rfl⟩
theorem d_X_member_4 : At prog_1_method_14_code 4 (.iload_n 1) 1 5 := ⟨by decide +kernel, rfl⟩
theorem d_X_member_5 : At prog_1_method_14_code 5 (.invokevirtual 184) 3 8 := ⟨by decide +kernel, rfl⟩
theorem d_X_member_8 : At prog_1_method_14_code 8 (.ireturn) 1 9 := ⟨by decide +kernel, rfl⟩
theorem d_X_epoch_0 : At prog_1_method_15_code 0 (.aload_n 0) 1 1 := ⟨by decide +kernel, rfl⟩
theorem d_X_epoch_1 : At prog_1_method_15_code 1 (.iload_n 1) 1 2 := ⟨by decide +kernel, rfl⟩
theorem d_X_epoch_2 : At prog_1_method_15_code 2 (.invokevirtual 95) 3 5 := ⟨by decide +kernel, rfl⟩
theorem d_X_epoch_5 : At prog_1_method_15_code 5 (.astore_n 2) 1 6 := ⟨by decide +kernel, rfl⟩
theorem d_X_epoch_6 : At prog_1_method_15_code 6 (.aload_n 2) 1 7 := ⟨by decide +kernel, rfl⟩
theorem d_X_epoch_7 : AtC prog_1_method_15_code 7 .ifnonnull 14 10 := ⟨7, by decide +kernel, by decide, rfl⟩
theorem d_X_epoch_10 : At prog_1_method_15_code 10 (.iconst (-1)) 1 11 := ⟨by decide +kernel, rfl⟩
theorem d_X_epoch_11 : AtC prog_1_method_15_code 11 .goto 21 14 := ⟨10, by decide +kernel, by decide, rfl⟩
theorem d_X_epoch_14 : At prog_1_method_15_code 14 (.aload_n 2) 1 15 := ⟨by decide +kernel, rfl⟩
theorem d_X_epoch_15 : At prog_1_method_15_code 15 (.getfield 119) 3 18 := ⟨by decide +kernel, rfl⟩
theorem d_X_epoch_18 : At prog_1_method_15_code 18 (.getfield 122) 3 21 := ⟨by decide +kernel, rfl⟩
theorem d_X_epoch_21 : At prog_1_method_15_code 21 (.ireturn) 1 22 := ⟨by decide +kernel, rfl⟩
theorem d_X_length_0 : At prog_1_method_16_code 0 (.aload_n 0) 1 1 := ⟨by decide +kernel, rfl⟩
theorem d_X_length_1 : At prog_1_method_16_code 1 (.iload_n 1) 1 2 := ⟨by decide +kernel, rfl⟩
theorem d_X_length_2 : At prog_1_method_16_code 2 (.invokevirtual 77) 3 5 := ⟨by decide +kernel, rfl⟩
theorem d_X_length_5 : At prog_1_method_16_code 5 (.astore_n 2) 1 6 := ⟨by decide +kernel, rfl⟩
theorem d_X_length_6 : At prog_1_method_16_code 6 (.aload_n 2) 1 7 := ⟨by decide +kernel, rfl⟩
theorem d_X_length_7 : AtC prog_1_method_16_code 7 .ifnonnull 14 10 := ⟨7, by decide +kernel, by decide, rfl⟩
theorem d_X_length_10 : At prog_1_method_16_code 10 (.iconst (-1)) 1 11 := ⟨by decide +kernel, rfl⟩
theorem d_X_length_11 : AtC prog_1_method_16_code 11 .goto 18 14 := ⟨7, by decide +kernel, by decide, rfl⟩
theorem d_X_length_14 : At prog_1_method_16_code 14 (.aload_n 2) 1 15 := ⟨by decide +kernel, rfl⟩
theorem d_X_length_15 : At prog_1_method_16_code 15 (.getfield 188) 3 18 := ⟨by decide +kernel, rfl⟩
theorem d_X_length_18 : At prog_1_method_16_code 18 (.ireturn) 1 19 := ⟨by decide +kernel, rfl⟩
theorem d_X_settled_0 : At prog_1_method_17_code 0 (.aload_n 0) 1 1 := ⟨by decide +kernel, rfl⟩
theorem d_X_settled_1 : At prog_1_method_17_code 1 (.iload_n 1) 1 2 := ⟨by decide +kernel, rfl⟩
theorem d_X_settled_2 : At prog_1_method_17_code 2 (.invokevirtual 77) 3 5 := ⟨by decide +kernel, rfl⟩
theorem d_X_settled_5 : At prog_1_method_17_code 5 (.astore_n 2) 1 6 := ⟨by decide +kernel, rfl⟩
theorem d_X_settled_6 : At prog_1_method_17_code 6 (.aload_n 2) 1 7 := ⟨by decide +kernel, rfl⟩
theorem d_X_settled_7 : AtC prog_1_method_17_code 7 .ifnonnull 14 10 := ⟨7, by decide +kernel, by decide, rfl⟩
theorem d_X_settled_10 : At prog_1_method_17_code 10 (.iconst (-1)) 1 11 := ⟨by decide +kernel, rfl⟩
theorem d_X_settled_11 : AtC prog_1_method_17_code 11 .goto 18 14 := ⟨7, by decide +kernel, by decide, rfl⟩
theorem d_X_settled_14 : At prog_1_method_17_code 14 (.aload_n 2) 1 15 := ⟨by decide +kernel, rfl⟩
theorem d_X_settled_15 : At prog_1_method_17_code 15 (.getfield 191) 3 18 := ⟨by decide +kernel, rfl⟩
theorem d_X_settled_18 : At prog_1_method_17_code 18 (.ireturn) 1 19 := ⟨by decide +kernel, rfl⟩
theorem d_X_version_0 : At prog_1_method_18_code 0 (.aload_n 0) 1 1 := ⟨by decide +kernel, rfl⟩
theorem d_X_version_1 : At prog_1_method_18_code 1 (.iload_n 1) 1 2 := ⟨by decide +kernel, rfl⟩
theorem d_X_version_2 : At prog_1_method_18_code 2 (.invokevirtual 77) 3 5 := ⟨by decide +kernel, rfl⟩
theorem d_X_version_5 : At prog_1_method_18_code 5 (.astore 4) 2 7 := ⟨by decide +kernel, rfl⟩
theorem d_X_version_7 : At prog_1_method_18_code 7 (.aload 4) 2 9 := ⟨by decide +kernel, rfl⟩
theorem d_X_version_9 : AtC prog_1_method_18_code 9 .ifnull 23 12 := ⟨14, by decide +kernel, by decide, rfl⟩
theorem d_X_version_12 : At prog_1_method_18_code 12 (.iload_n 2) 1 13 := ⟨by decide +kernel, rfl⟩
theorem d_X_version_13 : At prog_1_method_18_code 13 (.invokestatic 58) 3 16 := ⟨by decide +kernel, rfl⟩
theorem d_X_version_16 : AtC prog_1_method_18_code 16 (.ifCond .eq) 23 19 := ⟨7, by decide +kernel, by decide, rfl⟩
theorem d_X_version_19 : At prog_1_method_18_code 19 (.iload_n 3) 1 20 := ⟨by decide +kernel, rfl⟩
theorem d_X_version_20 : AtC prog_1_method_18_code 20 (.ifCond .ge) 27 23 := ⟨7, by decide +kernel, by decide, rfl⟩
theorem d_X_version_23 : At prog_1_method_18_code 23 (.iconst (-1)) 1 24 := ⟨by decide +kernel, rfl⟩
theorem d_X_version_24 : AtC prog_1_method_18_code 24 .goto 34 27 := ⟨10, by decide +kernel, by decide, rfl⟩
theorem d_X_version_27 : At prog_1_method_18_code 27 (.aload 4) 2 29 := ⟨by decide +kernel, rfl⟩
theorem d_X_version_29 : At prog_1_method_18_code 29 (.iload_n 2) 1 30 := ⟨by decide +kernel, rfl⟩
theorem d_X_version_30 : At prog_1_method_18_code 30 (.iload_n 3) 1 31 := ⟨by decide +kernel, rfl⟩
theorem d_X_version_31 : At prog_1_method_18_code 31 (.invokevirtual 194) 3 34 := ⟨by decide +kernel, rfl⟩
theorem d_X_version_34 : At prog_1_method_18_code 34 (.ireturn) 1 35 := ⟨by decide +kernel, rfl⟩
theorem d_Nd_versionAt_0 : At prog_5_method_13_code 0 (.aload_n 0) 1 1 := ⟨by decide +kernel, rfl⟩
theorem d_Nd_versionAt_1 : At prog_5_method_13_code 1 (.iload_n 1) 1 2 := ⟨by decide +kernel, rfl⟩
theorem d_Nd_versionAt_2 : At prog_5_method_13_code 2 (.invokevirtual 71) 3 5 := ⟨by decide +kernel, rfl⟩
theorem d_Nd_versionAt_5 : At prog_5_method_13_code 5 (.istore_n 3) 1 6 := ⟨by decide +kernel, rfl⟩
theorem d_Nd_versionAt_6 : At prog_5_method_13_code 6 (.iconst 0) 1 7 := ⟨by decide +kernel, rfl⟩
theorem d_Nd_versionAt_7 : At prog_5_method_13_code 7 (.istore 4) 2 9 := ⟨by decide +kernel, rfl⟩
theorem d_Nd_versionAt_9 : At prog_5_method_13_code 9 (.aload_n 0) 1 10 := ⟨by decide +kernel, rfl⟩
theorem d_Nd_versionAt_10 : At prog_5_method_13_code 10 (.getfield 48) 3 13 := ⟨by decide +kernel, rfl⟩
theorem d_Nd_versionAt_13 : At prog_5_method_13_code 13 (.iconst 1) 1 14 := ⟨by decide +kernel, rfl⟩
theorem d_Nd_versionAt_14 : At prog_5_method_13_code 14 (.iadd) 1 15 := ⟨by decide +kernel, rfl⟩
theorem d_Nd_versionAt_15 : At prog_5_method_13_code 15 (.istore 5) 2 17 := ⟨by decide +kernel, rfl⟩
theorem d_Nd_versionAt_17 : At prog_5_method_13_code 17 (.iload 5) 2 19 := ⟨by decide +kernel, rfl⟩
theorem d_Nd_versionAt_19 : At prog_5_method_13_code 19 (.aload_n 0) 1 20 := ⟨by decide +kernel, rfl⟩
theorem d_Nd_versionAt_20 : At prog_5_method_13_code 20 (.getfield 45) 3 23 := ⟨by decide +kernel, rfl⟩
theorem d_Nd_versionAt_23 : AtC prog_5_method_13_code 23 (.if_icmp .gt) 54 26 := ⟨31, by decide +kernel, by decide, rfl⟩
theorem d_Nd_versionAt_26 : At prog_5_method_13_code 26 (.iload 4) 2 28 := ⟨by decide +kernel, rfl⟩
theorem d_Nd_versionAt_28 : At prog_5_method_13_code 28 (.iload_n 2) 1 29 := ⟨by decide +kernel, rfl⟩
theorem d_Nd_versionAt_29 : AtC prog_5_method_13_code 29 (.if_icmp .ge) 54 32 := ⟨25, by decide +kernel, by decide, rfl⟩
theorem d_Nd_versionAt_32 : At prog_5_method_13_code 32 (.aload_n 0) 1 33 := ⟨by decide +kernel, rfl⟩
theorem d_Nd_versionAt_33 : At prog_5_method_13_code 33 (.iload 5) 2 35 := ⟨by decide +kernel, rfl⟩
theorem d_Nd_versionAt_35 : At prog_5_method_13_code 35 (.iload_n 1) 1 36 := ⟨by decide +kernel, rfl⟩
theorem d_Nd_versionAt_36 : At prog_5_method_13_code 36 (.invokevirtual 67) 3 39 := ⟨by decide +kernel, rfl⟩
theorem d_Nd_versionAt_39 : AtC prog_5_method_13_code 39 (.ifCond .eq) 48 42 := ⟨9, by decide +kernel, by decide, rfl⟩
theorem d_Nd_versionAt_42 : At prog_5_method_13_code 42 (.iload 5) 2 44 := ⟨by decide +kernel, rfl⟩
theorem d_Nd_versionAt_44 : At prog_5_method_13_code 44 (.istore_n 3) 1 45 := ⟨by decide +kernel, rfl⟩
theorem d_Nd_versionAt_45 : At prog_5_method_13_code 45 (.iinc 4 1) 3 48 := ⟨by decide +kernel, rfl⟩
theorem d_Nd_versionAt_48 : At prog_5_method_13_code 48 (.iinc 5 1) 3 51 := ⟨by decide +kernel, rfl⟩
theorem d_Nd_versionAt_51 : AtC prog_5_method_13_code 51 .goto 17 54 := ⟨-34, by decide +kernel, by decide, rfl⟩
theorem d_Nd_versionAt_54 : At prog_5_method_13_code 54 (.iload_n 3) 1 55 := ⟨by decide +kernel, rfl⟩
theorem d_Nd_versionAt_55 : At prog_5_method_13_code 55 (.ireturn) 1 56 := ⟨by decide +kernel, rfl⟩
theorem d_X_look_0 : At prog_1_method_19_code 0 (.aload_n 0) 1 1 := ⟨by decide +kernel, rfl⟩
theorem d_X_look_1 : At prog_1_method_19_code 1 (.iload_n 1) 1 2 := ⟨by decide +kernel, rfl⟩
theorem d_X_look_2 : At prog_1_method_19_code 2 (.invokevirtual 77) 3 5 := ⟨by decide +kernel, rfl⟩
theorem d_X_look_5 : At prog_1_method_19_code 5 (.astore 4) 2 7 := ⟨by decide +kernel, rfl⟩
theorem d_X_look_7 : At prog_1_method_19_code 7 (.aload 4) 2 9 := ⟨by decide +kernel, rfl⟩
theorem d_X_look_9 : AtC prog_1_method_19_code 9 .ifnull 23 12 := ⟨14, by decide +kernel, by decide, rfl⟩
theorem d_X_look_12 : At prog_1_method_19_code 12 (.iload_n 2) 1 13 := ⟨by decide +kernel, rfl⟩
theorem d_X_look_13 : At prog_1_method_19_code 13 (.invokestatic 58) 3 16 := ⟨by decide +kernel, rfl⟩
theorem d_X_look_16 : AtC prog_1_method_19_code 16 (.ifCond .eq) 23 19 := ⟨7, by decide +kernel, by decide, rfl⟩
theorem d_X_look_19 : At prog_1_method_19_code 19 (.iload_n 3) 1 20 := ⟨by decide +kernel, rfl⟩
theorem d_X_look_20 : AtC prog_1_method_19_code 20 (.ifCond .ge) 27 23 := ⟨7, by decide +kernel, by decide, rfl⟩
theorem d_X_look_23 : At prog_1_method_19_code 23 (.iconst 0) 1 24 := ⟨by decide +kernel, rfl⟩
theorem d_X_look_24 : AtC prog_1_method_19_code 24 .goto 39 27 := ⟨15, by decide +kernel, by decide, rfl⟩
theorem d_X_look_27 : At prog_1_method_19_code 27 (.aload 4) 2 29 := ⟨by decide +kernel, rfl⟩
theorem d_X_look_29 : At prog_1_method_19_code 29 (.aload 4) 2 31 := ⟨by decide +kernel, rfl⟩
theorem d_X_look_31 : At prog_1_method_19_code 31 (.iload_n 2) 1 32 := ⟨by decide +kernel, rfl⟩
theorem d_X_look_32 : At prog_1_method_19_code 32 (.iload_n 3) 1 33 := ⟨by decide +kernel, rfl⟩
theorem d_X_look_33 : At prog_1_method_19_code 33 (.invokevirtual 194) 3 36 := ⟨by decide +kernel, rfl⟩
theorem d_X_look_36 : At prog_1_method_19_code 36 (.invokevirtual 197) 3 39 := ⟨by decide +kernel, rfl⟩
theorem d_X_look_39 : At prog_1_method_19_code 39 (.ireturn) 1 40 := ⟨by decide +kernel, rfl⟩
end
section
/-! decode rows -/
theorem d_AL_init_0 : At prog_16_method_2_code 0 (.aload_n 0) 1 1 := ⟨by decide +kernel, rfl⟩
theorem d_AL_init_1 : At prog_16_method_2_code 1 (.invokespecial 1) 3 4 := ⟨by decide +kernel, rfl⟩
theorem d_AL_init_4 : At prog_16_method_2_code 4 (.aload_n 0) 1 5 := ⟨by decide +kernel, rfl⟩
theorem d_AL_init_5 : At prog_16_method_2_code 5 (.getstatic 39) 3 8 := ⟨by decide +kernel, rfl⟩
theorem d_AL_init_8 : At prog_16_method_2_code 8 (.putfield 9) 3 11 := ⟨by decide +kernel, rfl⟩
theorem d_AL_init_11 : At prog_16_method_2_code 11 (.return_) 1 12 := ⟨by decide +kernel, rfl⟩
theorem d_AbL_init_0 : At prog_15_method_1_code 0 (.aload_n 0) 1 1 := ⟨by decide +kernel, rfl⟩
theorem d_AbL_init_1 : At prog_15_method_1_code 1 (.invokespecial 1) 3 4 := ⟨by decide +kernel, rfl⟩
theorem d_AbL_init_4 : At prog_15_method_1_code 4 (.aload_n 0) 1 5 := ⟨by decide +kernel, rfl⟩
theorem d_AbL_init_5 : At prog_15_method_1_code 5 (.iconst 0) 1 6 := ⟨by decide +kernel, rfl⟩
theorem d_AbL_init_6 : At prog_15_method_1_code 6 (.putfield 7) 3 9 := ⟨by decide +kernel, rfl⟩
theorem d_AbL_init_9 : At prog_15_method_1_code 9 (.return_) 1 10 := ⟨by decide +kernel, rfl⟩
theorem d_AbC_init_0 : At prog_14_method_1_code 0 (.aload_n 0) 1 1 := ⟨by decide +kernel, rfl⟩
theorem d_AbC_init_1 : At prog_14_method_1_code 1 (.invokespecial 1) 3 4 := ⟨by decide +kernel, rfl⟩
theorem d_AbC_init_4 : At prog_14_method_1_code 4 (.return_) 1 5 := ⟨by decide +kernel, rfl⟩
theorem d_Ma_min_0 : At prog_12_method_69_code 0 (.iload_n 0) 1 1 := ⟨by decide +kernel, rfl⟩
theorem d_Ma_min_1 : At prog_12_method_69_code 1 (.iload_n 1) 1 2 := ⟨by decide +kernel, rfl⟩
theorem d_Ma_min_2 : AtC prog_12_method_69_code 2 (.if_icmp .gt) 9 5 := ⟨7, by decide +kernel, by decide, rfl⟩
theorem d_Ma_min_5 : At prog_12_method_69_code 5 (.iload_n 0) 1 6 := ⟨by decide +kernel, rfl⟩
theorem d_Ma_min_6 : AtC prog_12_method_69_code 6 .goto 10 9 := ⟨4, by decide +kernel, by decide, rfl⟩
theorem d_Ma_min_9 : At prog_12_method_69_code 9 (.iload_n 1) 1 10 := ⟨by decide +kernel, rfl⟩
theorem d_Ma_min_10 : At prog_12_method_69_code 10 (.ireturn) 1 11 := ⟨by decide +kernel, rfl⟩
theorem d_Ma_max_0 : At prog_12_method_65_code 0 (.iload_n 0) 1 1 := ⟨by decide +kernel, rfl⟩
theorem d_Ma_max_1 : At prog_12_method_65_code 1 (.iload_n 1) 1 2 := ⟨by decide +kernel, rfl⟩
theorem d_Ma_max_2 : AtC prog_12_method_65_code 2 (.if_icmp .lt) 9 5 := ⟨7, by decide +kernel, by decide, rfl⟩
theorem d_Ma_max_5 : At prog_12_method_65_code 5 (.iload_n 0) 1 6 := ⟨by decide +kernel, rfl⟩
theorem d_Ma_max_6 : AtC prog_12_method_65_code 6 .goto 10 9 := ⟨4, by decide +kernel, by decide, rfl⟩
theorem d_Ma_max_9 : At prog_12_method_65_code 9 (.iload_n 1) 1 10 := ⟨by decide +kernel, rfl⟩
theorem d_Ma_max_10 : At prog_12_method_65_code 10 (.ireturn) 1 11 := ⟨by decide +kernel, rfl⟩
theorem d_AL_add_0_0 : At prog_16_method_25_code 0 (.aload_n 0) 1 1 := ⟨by decide +kernel, rfl⟩
theorem d_AL_add_0_1 : At prog_16_method_25_code 1 (.dup) 1 2 := ⟨by decide +kernel, rfl⟩
theorem d_AL_add_0_2 : At prog_16_method_25_code 2 (.getfield 63) 3 5 := ⟨by decide +kernel, rfl⟩
theorem d_AL_add_0_5 : At prog_16_method_25_code 5 (.iconst 1) 1 6 := ⟨by decide +kernel, rfl⟩
theorem d_AL_add_0_6 : At prog_16_method_25_code 6 (.iadd) 1 7 := ⟨by decide +kernel, rfl⟩
theorem d_AL_add_0_7 : At prog_16_method_25_code 7 (.putfield 63) 3 10 := ⟨by decide +kernel, rfl⟩
theorem d_AL_add_0_10 : At prog_16_method_25_code 10 (.aload_n 0) 1 11 := ⟨by decide +kernel, rfl⟩
theorem d_AL_add_0_11 : At prog_16_method_25_code 11 (.aload_n 1) 1 12 := ⟨by decide +kernel, rfl⟩
theorem d_AL_add_0_12 : At prog_16_method_25_code 12 (.aload_n 0) 1 13 := ⟨by decide +kernel, rfl⟩
theorem d_AL_add_0_13 : At prog_16_method_25_code 13 (.getfield 9) 3 16 := ⟨by decide +kernel, rfl⟩
theorem d_AL_add_0_16 : At prog_16_method_25_code 16 (.aload_n 0) 1 17 := ⟨by decide +kernel, rfl⟩
theorem d_AL_add_0_17 : At prog_16_method_25_code 17 (.getfield 48) 3 20 := ⟨by decide +kernel, rfl⟩
theorem d_AL_add_0_20 : At prog_16_method_25_code 20 (.invokevirtual 131) 3 23 := ⟨by decide +kernel, rfl⟩
theorem d_AL_add_0_23 : At prog_16_method_25_code 23 (.iconst 1) 1 24 := ⟨by decide +kernel, rfl⟩
theorem d_AL_add_0_24 : At prog_16_method_25_code 24 (.ireturn) 1 25 := ⟨by decide +kernel, rfl⟩
theorem d_AL_add_1_0 : At prog_16_method_24_code 0 (.iload_n 3) 1 1 := ⟨by decide +kernel, rfl⟩
theorem d_AL_add_1_1 : At prog_16_method_24_code 1 (.aload_n 2) 1 2 := ⟨by decide +kernel, rfl⟩
theorem d_AL_add_1_2 : At prog_16_method_24_code 2 (.arraylength) 1 3 := ⟨by decide +kernel, rfl⟩
theorem d_AL_add_1_3 : AtC prog_16_method_24_code 3 (.if_icmp .ne) 11 6 := ⟨8, by decide +kernel, by decide, rfl⟩
theorem d_AL_add_1_6 : At prog_16_method_24_code 6 (.aload_n 0) 1 7 := ⟨by decide +kernel, rfl⟩
theorem d_AL_add_1_7 : At prog_16_method_24_code 7 (.invokevirtual 129) 3 10 := ⟨by decide +kernel, rfl⟩
theorem d_AL_add_1_10 : At prog_16_method_24_code 10 (.astore_n 2) 1 11 := ⟨by decide +kernel, rfl⟩
theorem d_AL_add_1_11 : At prog_16_method_24_code 11 (.aload_n 2) 1 12 := ⟨by decide +kernel, rfl⟩
theorem d_AL_add_1_12 : At prog_16_method_24_code 12 (.iload_n 3) 1 13 := ⟨by decide +kernel, rfl⟩
theorem d_AL_add_1_13 : At prog_16_method_24_code 13 (.aload_n 1) 1 14 := ⟨by decide +kernel, rfl⟩
theorem d_AL_add_1_14 : At prog_16_method_24_code 14 (.aastore) 1 15 := ⟨by decide +kernel, rfl⟩
theorem d_AL_add_1_15 : At prog_16_method_24_code 15 (.aload_n 0) 1 16 := ⟨by decide +kernel, rfl⟩
theorem d_AL_add_1_16 : At prog_16_method_24_code 16 (.iload_n 3) 1 17 := ⟨by decide +kernel, rfl⟩
theorem d_AL_add_1_17 : At prog_16_method_24_code 17 (.iconst 1) 1 18 := ⟨by decide +kernel, rfl⟩
theorem d_AL_add_1_18 : At prog_16_method_24_code 18 (.iadd) 1 19 := ⟨by decide +kernel, rfl⟩
theorem d_AL_add_1_19 : At prog_16_method_24_code 19 (.putfield 48) 3 22 := ⟨by decide +kernel, rfl⟩
theorem d_AL_add_1_22 : At prog_16_method_24_code 22 (.return_) 1 23 := ⟨by decide +kernel, rfl⟩
theorem d_AL_grow_0_0 : At prog_16_method_7_code 0 (.aload_n 0) 1 1 := ⟨by decide +kernel, rfl⟩
theorem d_AL_grow_0_1 : At prog_16_method_7_code 1 (.aload_n 0) 1 2 := ⟨by decide +kernel, rfl⟩
theorem d_AL_grow_0_2 : At prog_16_method_7_code 2 (.getfield 48) 3 5 := ⟨by decide +kernel, rfl⟩
theorem d_AL_grow_0_5 : At prog_16_method_7_code 5 (.iconst 1) 1 6 := ⟨by decide +kernel, rfl⟩
theorem d_AL_grow_0_6 : At prog_16_method_7_code 6 (.iadd) 1 7 := ⟨by decide +kernel, rfl⟩
theorem d_AL_grow_0_7 : At prog_16_method_7_code 7 (.invokevirtual 69) 3 10 := ⟨by decide +kernel, rfl⟩
theorem d_AL_grow_0_10 : At prog_16_method_7_code 10 (.areturn) 1 11 := ⟨by decide +kernel, rfl⟩
theorem d_AL_grow_1_0 : At prog_16_method_6_code 0 (.aload_n 0) 1 1 := ⟨by decide +kernel, rfl⟩
theorem d_AL_grow_1_1 : At prog_16_method_6_code 1 (.getfield 9) 3 4 := ⟨by decide +kernel, rfl⟩
theorem d_AL_grow_1_4 : At prog_16_method_6_code 4 (.arraylength) 1 5 := ⟨by decide +kernel, rfl⟩
theorem d_AL_grow_1_5 : At prog_16_method_6_code 5 (.istore_n 2) 1 6 := ⟨by decide +kernel, rfl⟩
theorem d_AL_grow_1_6 : At prog_16_method_6_code 6 (.iload_n 2) 1 7 := ⟨by decide +kernel, rfl⟩
theorem d_AL_grow_1_7 : AtC prog_16_method_6_code 7 (.ifCond .gt) 20 10 := ⟨13, by decide +kernel, by decide, rfl⟩
theorem d_AL_grow_1_10 : At prog_16_method_6_code 10 (.aload_n 0) 1 11 := ⟨by decide +kernel, rfl⟩
theorem d_AL_grow_1_11 : At prog_16_method_6_code 11 (.getfield 9) 3 14 := ⟨by decide +kernel, rfl⟩
theorem d_AL_grow_1_14 : At prog_16_method_6_code 14 (.getstatic 39) 3 17 := ⟨by decide +kernel, rfl⟩
theorem d_AL_grow_1_17 : AtC prog_16_method_6_code 17 (.if_acmp .eq) 45 20 := ⟨28, by decide +kernel, by decide, rfl⟩
theorem d_AL_grow_1_20 : At prog_16_method_6_code 20 (.iload_n 2) 1 21 := ⟨by decide +kernel, rfl⟩
theorem d_AL_grow_1_21 : At prog_16_method_6_code 21 (.iload_n 1) 1 22 := ⟨by decide +kernel, rfl⟩
theorem d_AL_grow_1_22 : At prog_16_method_6_code 22 (.iload_n 2) 1 23 := ⟨by decide +kernel, rfl⟩
theorem d_AL_grow_1_23 : At prog_16_method_6_code 23 (.isub) 1 24 := ⟨by decide +kernel, rfl⟩
theorem d_AL_grow_1_24 : At prog_16_method_6_code 24 (.iload_n 2) 1 25 := ⟨by decide +kernel, rfl⟩
theorem d_AL_grow_1_25 : At prog_16_method_6_code 25 (.iconst 1) 1 26 := ⟨by decide +kernel, rfl⟩
theorem d_AL_grow_1_26 : At prog_16_method_6_code 26 (.ishr) 1 27 := ⟨by decide +kernel, rfl⟩
theorem d_AL_grow_1_27 : At prog_16_method_6_code 27 (.invokestatic 73) 3 30 := ⟨by decide +kernel, rfl⟩
theorem d_AL_grow_1_30 : At prog_16_method_6_code 30 (.istore_n 3) 1 31 := ⟨by decide +kernel, rfl⟩
theorem d_AL_grow_1_31 : At prog_16_method_6_code 31 (.aload_n 0) 1 32 := ⟨by decide +kernel, rfl⟩
theorem d_AL_grow_1_32 : At prog_16_method_6_code 32 (.aload_n 0) 1 33 := ⟨by decide +kernel, rfl⟩
theorem d_AL_grow_1_33 : At prog_16_method_6_code 33 (.getfield 9) 3 36 := ⟨by decide +kernel, rfl⟩
theorem d_AL_grow_1_36 : At prog_16_method_6_code 36 (.iload_n 3) 1 37 := ⟨by decide +kernel, rfl⟩
theorem d_AL_grow_1_37 : At prog_16_method_6_code 37 (.invokestatic 66) 3 40 := ⟨by decide +kernel, rfl⟩
theorem d_AL_grow_1_40 : At prog_16_method_6_code 40 (.dup_x1) 1 41 := ⟨by decide +kernel, rfl⟩
theorem d_AL_grow_1_41 : At prog_16_method_6_code 41 (.putfield 9) 3 44 := ⟨by decide +kernel, rfl⟩
theorem d_AL_grow_1_44 : At prog_16_method_6_code 44 (.areturn) 1 45 := ⟨by decide +kernel, rfl⟩
theorem d_AL_grow_1_45 : At prog_16_method_6_code 45 (.aload_n 0) 1 46 := ⟨by decide +kernel, rfl⟩
theorem d_AL_grow_1_46 : At prog_16_method_6_code 46 (.bipush 10) 2 48 := ⟨by decide +kernel, rfl⟩
theorem d_AL_grow_1_48 : At prog_16_method_6_code 48 (.iload_n 1) 1 49 := ⟨by decide +kernel, rfl⟩
theorem d_AL_grow_1_49 : At prog_16_method_6_code 49 (.invokestatic 79) 3 52 := ⟨by decide +kernel, rfl⟩
theorem d_AL_grow_1_52 : At prog_16_method_6_code 52 (.anewarray 7) 3 55 := ⟨by decide +kernel, rfl⟩
theorem d_AL_grow_1_55 : At prog_16_method_6_code 55 (.dup_x1) 1 56 := ⟨by decide +kernel, rfl⟩
theorem d_AL_grow_1_56 : At prog_16_method_6_code 56 (.putfield 9) 3 59 := ⟨by decide +kernel, rfl⟩
theorem d_AL_grow_1_59 : At prog_16_method_6_code 59 (.areturn) 1 60 := ⟨by decide +kernel, rfl⟩
theorem d_ASu_newLength_0 : At prog_23_method_27_code 0 (.iload_n 0) 1 1 := ⟨by decide +kernel, rfl⟩
theorem d_ASu_newLength_1 : At prog_23_method_27_code 1 (.iload_n 1) 1 2 := ⟨by decide +kernel, rfl⟩
theorem d_ASu_newLength_2 : At prog_23_method_27_code 2 (.iload_n 2) 1 3 := ⟨by decide +kernel, rfl⟩
theorem d_ASu_newLength_3 : At prog_23_method_27_code 3 (.invokestatic 194) 3 6 := ⟨by decide +kernel, rfl⟩
theorem d_ASu_newLength_6 : At prog_23_method_27_code 6 (.iadd) 1 7 := ⟨by decide +kernel, rfl⟩
theorem d_ASu_newLength_7 : At prog_23_method_27_code 7 (.istore_n 3) 1 8 := ⟨by decide +kernel, rfl⟩
theorem d_ASu_newLength_8 : At prog_23_method_27_code 8 (.iconst 0) 1 9 := ⟨by decide +kernel, rfl⟩
theorem d_ASu_newLength_9 : At prog_23_method_27_code 9 (.iload_n 3) 1 10 := ⟨by decide +kernel, rfl⟩
theorem d_ASu_newLength_10 : AtC prog_23_method_27_code 10 (.if_icmp .ge) 21 13 := ⟨11, by decide +kernel, by decide, rfl⟩
theorem d_ASu_newLength_13 : At prog_23_method_27_code 13 (.iload_n 3) 1 14 := ⟨by decide +kernel, rfl⟩
theorem d_ASu_newLength_14 : At prog_23_method_27_code 14 (.ldc 200) 2 16 := ⟨by decide +kernel, rfl⟩
theorem d_ASu_newLength_16 : AtC prog_23_method_27_code 16 (.if_icmp .gt) 21 19 := ⟨5, by decide +kernel, by decide, rfl⟩
theorem d_ASu_newLength_19 : At prog_23_method_27_code 19 (.iload_n 3) 1 20 := ⟨by decide +kernel, rfl⟩
theorem d_ASu_newLength_20 : At prog_23_method_27_code 20 (.ireturn) 1 21 := ⟨by decide +kernel, rfl⟩
theorem d_ASu_newLength_21 : At prog_23_method_27_code 21 (.iload_n 0) 1 22 := ⟨by decide +kernel, rfl⟩
theorem d_ASu_newLength_22 : At prog_23_method_27_code 22 (.iload_n 1) 1 23 := ⟨by decide +kernel, rfl⟩
theorem d_ASu_newLength_23 : At prog_23_method_27_code 23 (.invokestatic 201) 3 26 := ⟨by decide +kernel, rfl⟩
theorem d_ASu_newLength_26 : At prog_23_method_27_code 26 (.ireturn) 1 27 := ⟨by decide +kernel, rfl⟩
theorem d_ASu_hugeLength_0 : At prog_23_method_28_code 0 (.iload_n 0) 1 1 := ⟨by decide +kernel, rfl⟩
theorem d_ASu_hugeLength_1 : At prog_23_method_28_code 1 (.iload_n 1) 1 2 := ⟨by decide +kernel, rfl⟩
theorem d_ASu_hugeLength_2 : At prog_23_method_28_code 2 (.iadd) 1 3 := ⟨by decide +kernel, rfl⟩
theorem d_ASu_hugeLength_3 : At prog_23_method_28_code 3 (.istore_n 2) 1 4 := ⟨by decide +kernel, rfl⟩
theorem d_ASu_hugeLength_4 : At prog_23_method_28_code 4 (.iload_n 2) 1 5 := ⟨by decide +kernel, rfl⟩
theorem d_ASu_hugeLength_5 : AtC prog_23_method_28_code 5 (.ifCond .ge) 49 8 := ⟨44, by decide +kernel, by decide, rfl⟩
theorem d_ASu_hugeLength_8 : At prog_23_method_28_code 8 (.new 204) 3 11 := ⟨by decide +kernel, rfl⟩
theorem d_ASu_hugeLength_11 : At prog_23_method_28_code 11 (.dup) 1 12 := ⟨by decide +kernel, rfl⟩
theorem d_ASu_hugeLength_12 : At prog_23_method_28_code 12 (.new 89) 3 15 := ⟨by decide +kernel, rfl⟩
theorem d_ASu_hugeLength_15 : At prog_23_method_28_code 15 (.dup) 1 16 := ⟨by decide +kernel, rfl⟩
theorem d_ASu_hugeLength_16 : At prog_23_method_28_code 16 (.invokespecial 91) 3 19 := ⟨by decide +kernel, rfl⟩
theorem d_ASu_hugeLength_19 : At prog_23_method_28_code 19 (.ldc 206) 2 21 := ⟨by decide +kernel, rfl⟩
theorem d_ASu_hugeLength_21 : At prog_23_method_28_code 21 (.invokevirtual 94) 3 24 := ⟨by decide +kernel, rfl⟩
theorem d_ASu_hugeLength_24 : At prog_23_method_28_code 24 (.iload_n 0) 1 25 := ⟨by decide +kernel, rfl⟩
theorem d_ASu_hugeLength_25 : At prog_23_method_28_code 25 (.invokevirtual 98) 3 28 := ⟨by decide +kernel, rfl⟩
theorem d_ASu_hugeLength_28 : At prog_23_method_28_code 28 (.ldc 208) 2 30 := ⟨by decide +kernel, rfl⟩
theorem d_ASu_hugeLength_30 : At prog_23_method_28_code 30 (.invokevirtual 94) 3 33 := ⟨by decide +kernel, rfl⟩
theorem d_ASu_hugeLength_33 : At prog_23_method_28_code 33 (.iload_n 1) 1 34 := ⟨by decide +kernel, rfl⟩
theorem d_ASu_hugeLength_34 : At prog_23_method_28_code 34 (.invokevirtual 98) 3 37 := ⟨by decide +kernel, rfl⟩
theorem d_ASu_hugeLength_37 : At prog_23_method_28_code 37 (.ldc 210) 2 39 := ⟨by decide +kernel, rfl⟩
theorem d_ASu_hugeLength_39 : At prog_23_method_28_code 39 (.invokevirtual 94) 3 42 := ⟨by decide +kernel, rfl⟩
theorem d_ASu_hugeLength_42 : At prog_23_method_28_code 42 (.invokevirtual 101) 3 45 := ⟨by decide +kernel, rfl⟩
theorem d_ASu_hugeLength_45 : At prog_23_method_28_code 45 (.invokespecial 212) 3 48 := ⟨by decide +kernel, rfl⟩
theorem d_ASu_hugeLength_48 : At prog_23_method_28_code 48 (.athrow) 1 49 := ⟨by decide +kernel, rfl⟩
theorem d_ASu_hugeLength_49 : At prog_23_method_28_code 49 (.iload_n 2) 1 50 := ⟨by decide +kernel, rfl⟩
theorem d_ASu_hugeLength_50 : At prog_23_method_28_code 50 (.ldc 200) 2 52 := ⟨by decide +kernel, rfl⟩
theorem d_ASu_hugeLength_52 : AtC prog_23_method_28_code 52 (.if_icmp .gt) 58 55 := ⟨6, by decide +kernel, by decide, rfl⟩
theorem d_ASu_hugeLength_55 : At prog_23_method_28_code 55 (.ldc 200) 2 57 := ⟨by decide +kernel, rfl⟩
theorem d_ASu_hugeLength_57 : At prog_23_method_28_code 57 (.ireturn) 1 58 := ⟨by decide +kernel, rfl⟩
theorem d_ASu_hugeLength_58 : At prog_23_method_28_code 58 (.iload_n 2) 1 59 := ⟨by decide +kernel, rfl⟩
theorem d_ASu_hugeLength_59 : At prog_23_method_28_code 59 (.ireturn) 1 60 := ⟨by decide +kernel, rfl⟩
theorem d_As_copyOf_0_0 : At prog_17_method_119_code 0 (.aload_n 0) 1 1 := ⟨by decide +kernel, rfl⟩
theorem d_As_copyOf_0_1 : At prog_17_method_119_code 1 (.iload_n 1) 1 2 := ⟨by decide +kernel, rfl⟩
theorem d_As_copyOf_0_2 : At prog_17_method_119_code 2 (.aload_n 0) 1 3 := ⟨by decide +kernel, rfl⟩
theorem d_As_copyOf_0_3 : At prog_17_method_119_code 3 (.invokevirtual 86) 3 6 := ⟨by decide +kernel, rfl⟩
theorem d_As_copyOf_0_6 : At prog_17_method_119_code 6 (.invokestatic 300) 3 9 := ⟨by decide +kernel, rfl⟩
theorem d_As_copyOf_0_9 : At prog_17_method_119_code 9 (.areturn) 1 10 := ⟨by decide +kernel, rfl⟩
theorem d_As_copyOf_1_0 : At prog_17_method_120_code 0 (.aload_n 2) 1 1 := ⟨by decide +kernel, rfl⟩
theorem d_As_copyOf_1_1 : At prog_17_method_120_code 1 (.ldc 110) 2 3 := ⟨by decide +kernel, rfl⟩
theorem d_As_copyOf_1_3 : AtC prog_17_method_120_code 3 (.if_acmp .ne) 13 6 := ⟨10, by decide +kernel, by decide, rfl⟩
theorem d_As_copyOf_1_6 : At prog_17_method_120_code 6 (.iload_n 1) 1 7 := ⟨by decide +kernel, rfl⟩
theorem d_As_copyOf_1_7 : At prog_17_method_120_code 7 (.anewarray 2) 3 10 := ⟨by decide +kernel, rfl⟩
theorem d_As_copyOf_1_10 : AtC prog_17_method_120_code 10 .goto 24 13 := ⟨14, by decide +kernel, by decide, rfl⟩
theorem d_As_copyOf_1_13 : At prog_17_method_120_code 13 (.aload_n 2) 1 14 := ⟨by decide +kernel, rfl⟩
theorem d_As_copyOf_1_14 : At prog_17_method_120_code 14 (.invokevirtual 90) 3 17 := ⟨by decide +kernel, rfl⟩
theorem d_As_copyOf_1_17 : At prog_17_method_120_code 17 (.iload_n 1) 1 18 := ⟨by decide +kernel, rfl⟩
theorem d_As_copyOf_1_18 : At prog_17_method_120_code 18 (.invokestatic 95) 3 21 := ⟨by decide +kernel, rfl⟩
theorem d_As_copyOf_1_21 : At prog_17_method_120_code 21 (.checkcast 110) 3 24 := ⟨by decide +kernel, rfl⟩
theorem d_As_copyOf_1_24 : At prog_17_method_120_code 24 (.astore_n 3) 1 25 := ⟨by decide +kernel, rfl⟩
theorem d_As_copyOf_1_25 : At prog_17_method_120_code 25 (.aload_n 0) 1 26 := ⟨by decide +kernel, rfl⟩
theorem d_As_copyOf_1_26 : At prog_17_method_120_code 26 (.iconst 0) 1 27 := ⟨by decide +kernel, rfl⟩
theorem d_As_copyOf_1_27 : At prog_17_method_120_code 27 (.aload_n 3) 1 28 := ⟨by decide +kernel, rfl⟩
theorem d_As_copyOf_1_28 : At prog_17_method_120_code 28 (.iconst 0) 1 29 := ⟨by decide +kernel, rfl⟩
theorem d_As_copyOf_1_29 : At prog_17_method_120_code 29 (.aload_n 0) 1 30 := ⟨by decide +kernel, rfl⟩
theorem d_As_copyOf_1_30 : At prog_17_method_120_code 30 (.arraylength) 1 31 := ⟨by decide +kernel, rfl⟩
theorem d_As_copyOf_1_31 : At prog_17_method_120_code 31 (.iload_n 1) 1 32 := ⟨by decide +kernel, rfl⟩
theorem d_As_copyOf_1_32 : At prog_17_method_120_code 32 (.invokestatic 304) 3 35 := ⟨by decide +kernel, rfl⟩
theorem d_As_copyOf_1_35 : At prog_17_method_120_code 35 (.invokestatic 150) 3 38 := ⟨by decide +kernel, rfl⟩
theorem d_As_copyOf_1_38 : At prog_17_method_120_code 38 (.aload_n 3) 1 39 := ⟨by decide +kernel, rfl⟩
theorem d_As_copyOf_1_39 : At prog_17_method_120_code 39 (.areturn) 1 40 := ⟨by decide +kernel, rfl⟩
theorem d_AL_size_0 : At prog_16_method_8_code 0 (.aload_n 0) 1 1 := ⟨by decide +kernel, rfl⟩
theorem d_AL_size_1 : At prog_16_method_8_code 1 (.getfield 48) 3 4 := ⟨by decide +kernel, rfl⟩
theorem d_AL_size_4 : At prog_16_method_8_code 4 (.ireturn) 1 5 := ⟨by decide +kernel, rfl⟩
theorem d_AL_get_0 : At prog_16_method_20_code 0 (.iload_n 1) 1 1 := ⟨by decide +kernel, rfl⟩
theorem d_AL_get_1 : At prog_16_method_20_code 1 (.aload_n 0) 1 2 := ⟨by decide +kernel, rfl⟩
theorem d_AL_get_2 : At prog_16_method_20_code 2 (.getfield 48) 3 5 := ⟨by decide +kernel, rfl⟩
theorem d_AL_get_5 : At prog_16_method_20_code 5 (.invokestatic 118) 3 8 := ⟨by decide +kernel, rfl⟩
theorem d_AL_get_8 : At prog_16_method_20_code 8 (.pop) 1 9 := ⟨by decide +kernel, rfl⟩
theorem d_AL_get_9 : At prog_16_method_20_code 9 (.aload_n 0) 1 10 := ⟨by decide +kernel, rfl⟩
theorem d_AL_get_10 : At prog_16_method_20_code 10 (.iload_n 1) 1 11 := ⟨by decide +kernel, rfl⟩
theorem d_AL_get_11 : At prog_16_method_20_code 11 (.invokevirtual 123) 3 14 := ⟨by decide +kernel, rfl⟩
theorem d_AL_get_14 : At prog_16_method_20_code 14 (.areturn) 1 15 := ⟨by decide +kernel, rfl⟩
theorem d_Ob_checkIndex_0 : At prog_20_method_17_code 0 (.iload_n 0) 1 1 := ⟨by decide +kernel, rfl⟩
theorem d_Ob_checkIndex_1 : At prog_20_method_17_code 1 (.iload_n 1) 1 2 := ⟨by decide +kernel, rfl⟩
theorem d_Ob_checkIndex_2 : At prog_20_method_17_code 2 (.aconst_null) 1 3 := ⟨by decide +kernel, rfl⟩
theorem d_Ob_checkIndex_3 : At prog_20_method_17_code 3 (.invokestatic 105) 3 6 := ⟨by decide +kernel, rfl⟩
theorem d_Ob_checkIndex_6 : At prog_20_method_17_code 6 (.ireturn) 1 7 := ⟨by decide +kernel, rfl⟩
theorem d_Pr_checkIndex_0 : At prog_24_method_11_code 0 (.iload_n 0) 1 1 := ⟨by decide +kernel, rfl⟩
theorem d_Pr_checkIndex_1 : AtC prog_24_method_11_code 1 (.ifCond .lt) 9 4 := ⟨8, by decide +kernel, by decide, rfl⟩
theorem d_Pr_checkIndex_4 : At prog_24_method_11_code 4 (.iload_n 0) 1 5 := ⟨by decide +kernel, rfl⟩
theorem d_Pr_checkIndex_5 : At prog_24_method_11_code 5 (.iload_n 1) 1 6 := ⟨by decide +kernel, rfl⟩
theorem d_Pr_checkIndex_6 : AtC prog_24_method_11_code 6 (.if_icmp .lt) 16 9 := ⟨10, by decide +kernel, by decide, rfl⟩
theorem d_Pr_checkIndex_9 : At prog_24_method_11_code 9 (.aload_n 2) 1 10 := ⟨by decide +kernel, rfl⟩
theorem d_Pr_checkIndex_10 : At prog_24_method_11_code 10 (.iload_n 0) 1 11 := ⟨by decide +kernel, rfl⟩
theorem d_Pr_checkIndex_11 : At prog_24_method_11_code 11 (.iload_n 1) 1 12 := ⟨by decide +kernel, rfl⟩
theorem d_Pr_checkIndex_12 : At prog_24_method_11_code 12 (.invokestatic 95) 3 15 := ⟨by decide +kernel, rfl⟩
theorem d_Pr_checkIndex_15 : At prog_24_method_11_code 15 (.athrow) 1 16 := ⟨by decide +kernel, rfl⟩
theorem d_Pr_checkIndex_16 : At prog_24_method_11_code 16 (.iload_n 0) 1 17 := ⟨by decide +kernel, rfl⟩
theorem d_Pr_checkIndex_17 : At prog_24_method_11_code 17 (.ireturn) 1 18 := ⟨by decide +kernel, rfl⟩
theorem d_AL_elementData_0 : At prog_16_method_18_code 0 (.aload_n 0) 1 1 := ⟨by decide +kernel, rfl⟩
theorem d_AL_elementData_1 : At prog_16_method_18_code 1 (.getfield 9) 3 4 := ⟨by decide +kernel, rfl⟩
theorem d_AL_elementData_4 : At prog_16_method_18_code 4 (.iload_n 1) 1 5 := ⟨by decide +kernel, rfl⟩
theorem d_AL_elementData_5 : At prog_16_method_18_code 5 (.aaload) 1 6 := ⟨by decide +kernel, rfl⟩
theorem d_AL_elementData_6 : At prog_16_method_18_code 6 (.areturn) 1 7 := ⟨by decide +kernel, rfl⟩
theorem d_AL_remove_0 : At prog_16_method_29_code 0 (.iload_n 1) 1 1 := ⟨by decide +kernel, rfl⟩
theorem d_AL_remove_1 : At prog_16_method_29_code 1 (.aload_n 0) 1 2 := ⟨by decide +kernel, rfl⟩
theorem d_AL_remove_2 : At prog_16_method_29_code 2 (.getfield 48) 3 5 := ⟨by decide +kernel, rfl⟩
theorem d_AL_remove_5 : At prog_16_method_29_code 5 (.invokestatic 118) 3 8 := ⟨by decide +kernel, rfl⟩
theorem d_AL_remove_8 : At prog_16_method_29_code 8 (.pop) 1 9 := ⟨by decide +kernel, rfl⟩
theorem d_AL_remove_9 : At prog_16_method_29_code 9 (.aload_n 0) 1 10 := ⟨by decide +kernel, rfl⟩
theorem d_AL_remove_10 : At prog_16_method_29_code 10 (.getfield 9) 3 13 := ⟨by decide +kernel, rfl⟩
theorem d_AL_remove_13 : At prog_16_method_29_code 13 (.astore_n 2) 1 14 := ⟨by decide +kernel, rfl⟩
theorem d_AL_remove_14 : At prog_16_method_29_code 14 (.aload_n 2) 1 15 := ⟨by decide +kernel, rfl⟩
theorem d_AL_remove_15 : At prog_16_method_29_code 15 (.iload_n 1) 1 16 := ⟨by decide +kernel, rfl⟩
theorem d_AL_remove_16 : At prog_16_method_29_code 16 (.aaload) 1 17 := ⟨by decide +kernel, rfl⟩
theorem d_AL_remove_17 : At prog_16_method_29_code 17 (.astore_n 3) 1 18 := ⟨by decide +kernel, rfl⟩
theorem d_AL_remove_18 : At prog_16_method_29_code 18 (.aload_n 0) 1 19 := ⟨by decide +kernel, rfl⟩
theorem d_AL_remove_19 : At prog_16_method_29_code 19 (.aload_n 2) 1 20 := ⟨by decide +kernel, rfl⟩
theorem d_AL_remove_20 : At prog_16_method_29_code 20 (.iload_n 1) 1 21 := ⟨by decide +kernel, rfl⟩
theorem d_AL_remove_21 : At prog_16_method_29_code 21 (.invokevirtual 144) 3 24 := ⟨by decide +kernel, rfl⟩
theorem d_AL_remove_24 : At prog_16_method_29_code 24 (.aload_n 3) 1 25 := ⟨by decide +kernel, rfl⟩
theorem d_AL_remove_25 : At prog_16_method_29_code 25 (.areturn) 1 26 := ⟨by decide +kernel, rfl⟩
theorem d_AL_fastRemove_0 : At prog_16_method_39_code 0 (.aload_n 0) 1 1 := ⟨by decide +kernel, rfl⟩
theorem d_AL_fastRemove_1 : At prog_16_method_39_code 1 (.dup) 1 2 := ⟨by decide +kernel, rfl⟩
theorem d_AL_fastRemove_2 : At prog_16_method_39_code 2 (.getfield 63) 3 5 := ⟨by decide +kernel, rfl⟩
theorem d_AL_fastRemove_5 : At prog_16_method_39_code 5 (.iconst 1) 1 6 := ⟨by decide +kernel, rfl⟩
theorem d_AL_fastRemove_6 : At prog_16_method_39_code 6 (.iadd) 1 7 := ⟨by decide +kernel, rfl⟩
theorem d_AL_fastRemove_7 : At prog_16_method_39_code 7 (.putfield 63) 3 10 := ⟨by decide +kernel, rfl⟩
theorem d_AL_fastRemove_10 : At prog_16_method_39_code 10 (.aload_n 0) 1 11 := ⟨by decide +kernel, rfl⟩
theorem d_AL_fastRemove_11 : At prog_16_method_39_code 11 (.getfield 48) 3 14 := ⟨by decide +kernel, rfl⟩
theorem d_AL_fastRemove_14 : At prog_16_method_39_code 14 (.iconst 1) 1 15 := ⟨by decide +kernel, rfl⟩
theorem d_AL_fastRemove_15 : At prog_16_method_39_code 15 (.isub) 1 16 := ⟨by decide +kernel, rfl⟩
theorem d_AL_fastRemove_16 : At prog_16_method_39_code 16 (.dup) 1 17 := ⟨by decide +kernel, rfl⟩
theorem d_AL_fastRemove_17 : At prog_16_method_39_code 17 (.istore_n 3) 1 18 := ⟨by decide +kernel, rfl⟩
theorem d_AL_fastRemove_18 : At prog_16_method_39_code 18 (.iload_n 2) 1 19 := ⟨by decide +kernel, rfl⟩
theorem d_AL_fastRemove_19 : AtC prog_16_method_39_code 19 (.if_icmp .le) 34 22 := ⟨15, by decide +kernel, by decide, rfl⟩
theorem d_AL_fastRemove_22 : At prog_16_method_39_code 22 (.aload_n 1) 1 23 := ⟨by decide +kernel, rfl⟩
theorem d_AL_fastRemove_23 : At prog_16_method_39_code 23 (.iload_n 2) 1 24 := ⟨by decide +kernel, rfl⟩
theorem d_AL_fastRemove_24 : At prog_16_method_39_code 24 (.iconst 1) 1 25 := ⟨by decide +kernel, rfl⟩
theorem d_AL_fastRemove_25 : At prog_16_method_39_code 25 (.iadd) 1 26 := ⟨by decide +kernel, rfl⟩
theorem d_AL_fastRemove_26 : At prog_16_method_39_code 26 (.aload_n 1) 1 27 := ⟨by decide +kernel, rfl⟩
theorem d_AL_fastRemove_27 : At prog_16_method_39_code 27 (.iload_n 2) 1 28 := ⟨by decide +kernel, rfl⟩
theorem d_AL_fastRemove_28 : At prog_16_method_39_code 28 (.iload_n 3) 1 29 := ⟨by decide +kernel, rfl⟩
theorem d_AL_fastRemove_29 : At prog_16_method_39_code 29 (.iload_n 2) 1 30 := ⟨by decide +kernel, rfl⟩
theorem d_AL_fastRemove_30 : At prog_16_method_39_code 30 (.isub) 1 31 := ⟨by decide +kernel, rfl⟩
theorem d_AL_fastRemove_31 : At prog_16_method_39_code 31 (.invokestatic 112) 3 34 := ⟨by decide +kernel, rfl⟩
theorem d_AL_fastRemove_34 : At prog_16_method_39_code 34 (.aload_n 1) 1 35 := ⟨by decide +kernel, rfl⟩
theorem d_AL_fastRemove_35 : At prog_16_method_39_code 35 (.aload_n 0) 1 36 := ⟨by decide +kernel, rfl⟩
theorem d_AL_fastRemove_36 : At prog_16_method_39_code 36 (.iload_n 3) 1 37 := ⟨by decide +kernel, rfl⟩
theorem d_AL_fastRemove_37 : At prog_16_method_39_code 37 (.dup_x1) 1 38 := ⟨by decide +kernel, rfl⟩
theorem d_AL_fastRemove_38 : At prog_16_method_39_code 38 (.putfield 48) 3 41 := ⟨by decide +kernel, rfl⟩
theorem d_AL_fastRemove_41 : At prog_16_method_39_code 41 (.aconst_null) 1 42 := ⟨by decide +kernel, rfl⟩
theorem d_AL_fastRemove_42 : At prog_16_method_39_code 42 (.aastore) 1 43 := ⟨by decide +kernel, rfl⟩
theorem d_AL_fastRemove_43 : At prog_16_method_39_code 43 (.return_) 1 44 := ⟨by decide +kernel, rfl⟩
end
section
/-! decode rows -/
theorem d_L_cell_0 : At method_2_code 0 (.iload_n 1) 1 1 := ⟨by decide +kernel, rfl⟩
theorem d_L_cell_1 : At method_2_code 1 (.aload_n 0) 1 2 := ⟨by decide +kernel, rfl⟩
theorem d_L_cell_2 : At method_2_code 2 (.arraylength) 1 3 := ⟨by decide +kernel, rfl⟩
theorem d_L_cell_3 : AtC method_2_code 3 (.if_icmp .ge) 12 6 := ⟨9, by decide +kernel, by decide, rfl⟩
theorem d_L_cell_6 : At method_2_code 6 (.aload_n 0) 1 7 := ⟨by decide +kernel, rfl⟩
theorem d_L_cell_7 : At method_2_code 7 (.iload_n 1) 1 8 := ⟨by decide +kernel, rfl⟩
theorem d_L_cell_8 : At method_2_code 8 (.iaload) 1 9 := ⟨by decide +kernel, rfl⟩
theorem d_L_cell_9 : AtC method_2_code 9 .goto 13 12 := ⟨4, by decide +kernel, by decide, rfl⟩
theorem d_L_cell_12 : At method_2_code 12 (.iconst 0) 1 13 := ⟨by decide +kernel, rfl⟩
theorem d_L_cell_13 : At method_2_code 13 (.ireturn) 1 14 := ⟨by decide +kernel, rfl⟩
theorem d_L_law_0 : At code 0 (.new 7) 3 3 := ⟨by decide +kernel, rfl⟩
theorem d_L_law_3 : At code 3 (.dup) 1 4 := ⟨by decide +kernel, rfl⟩
theorem d_L_law_4 : At code 4 (.aload_n 0) 1 5 := ⟨by decide +kernel, rfl⟩
theorem d_L_law_5 : At code 5 (.iconst 0) 1 6 := ⟨by decide +kernel, rfl⟩
theorem d_L_law_6 : At code 6 (.invokestatic 9) 3 9 := ⟨by decide +kernel, rfl⟩
theorem d_L_law_9 : At code 9 (.invokespecial 15) 3 12 := ⟨by decide +kernel, rfl⟩
theorem d_L_law_12 : At code 12 (.astore_n 1) 1 13 := ⟨by decide +kernel, rfl⟩
theorem d_L_law_13 : At code 13 (.new 18) 3 16 := ⟨by decide +kernel, rfl⟩
theorem d_L_law_16 : At code 16 (.dup) 1 17 := ⟨by decide +kernel, rfl⟩
theorem d_L_law_17 : At code 17 (.aload_n 0) 1 18 := ⟨by decide +kernel, rfl⟩
theorem d_L_law_18 : At code 18 (.iconst 0) 1 19 := ⟨by decide +kernel, rfl⟩
theorem d_L_law_19 : At code 19 (.invokestatic 9) 3 22 := ⟨by decide +kernel, rfl⟩
theorem d_L_law_22 : At code 22 (.invokespecial 20) 3 25 := ⟨by decide +kernel, rfl⟩
theorem d_L_law_25 : At code 25 (.astore_n 2) 1 26 := ⟨by decide +kernel, rfl⟩
theorem d_L_law_26 : At code 26 (.iconst 1) 1 27 := ⟨by decide +kernel, rfl⟩
theorem d_L_law_27 : At code 27 (.istore_n 3) 1 28 := ⟨by decide +kernel, rfl⟩
theorem d_L_law_28 : At code 28 (.iload_n 3) 1 29 := ⟨by decide +kernel, rfl⟩
theorem d_L_law_29 : At code 29 (.aload_n 0) 1 30 := ⟨by decide +kernel, rfl⟩
theorem d_L_law_30 : At code 30 (.arraylength) 1 31 := ⟨by decide +kernel, rfl⟩
theorem d_L_law_31 : At code 31 (.iconst 4) 1 32 := ⟨by decide +kernel, rfl⟩
theorem d_L_law_32 : At code 32 (.isub) 1 33 := ⟨by decide +kernel, rfl⟩
theorem d_L_law_33 : AtC code 33 (.if_icmp .gt) 638 36 := ⟨605, by decide +kernel, by decide, rfl⟩
theorem d_L_law_36 : At code 36 (.aload_n 0) 1 37 := ⟨by decide +kernel, rfl⟩
theorem d_L_law_37 : At code 37 (.iload_n 3) 1 38 := ⟨by decide +kernel, rfl⟩
theorem d_L_law_38 : At code 38 (.iaload) 1 39 := ⟨by decide +kernel, rfl⟩
theorem d_L_law_39 : At code 39 (.bipush 31) 2 41 := ⟨by decide +kernel, rfl⟩
theorem d_L_law_41 : At code 41 (.iand) 1 42 := ⟨by decide +kernel, rfl⟩
theorem d_L_law_42 : decode code 42 = .ok (.tableswitch 590 0 17 #[86, 129, 172, 205, 228, 251, 274, 307, 340, 363, 376, 389, 412, 435, 458, 481, 504, 547], 86) := by decide +kernel
theorem d_L_law_128 : At code 128 (.aload_n 1) 1 129 := ⟨by decide +kernel, rfl⟩
theorem d_L_law_129 : At code 129 (.aload_n 0) 1 130 := ⟨by decide +kernel, rfl⟩
theorem d_L_law_130 : At code 130 (.iload_n 3) 1 131 := ⟨by decide +kernel, rfl⟩
theorem d_L_law_131 : At code 131 (.iconst 1) 1 132 := ⟨by decide +kernel, rfl⟩
theorem d_L_law_132 : At code 132 (.iadd) 1 133 := ⟨by decide +kernel, rfl⟩
theorem d_L_law_133 : At code 133 (.iaload) 1 134 := ⟨by decide +kernel, rfl⟩
theorem d_L_law_134 : At code 134 (.aload_n 0) 1 135 := ⟨by decide +kernel, rfl⟩
theorem d_L_law_135 : At code 135 (.iload_n 3) 1 136 := ⟨by decide +kernel, rfl⟩
theorem d_L_law_136 : At code 136 (.iconst 2) 1 137 := ⟨by decide +kernel, rfl⟩
theorem d_L_law_137 : At code 137 (.iadd) 1 138 := ⟨by decide +kernel, rfl⟩
theorem d_L_law_138 : At code 138 (.iaload) 1 139 := ⟨by decide +kernel, rfl⟩
theorem d_L_law_139 : At code 139 (.aload_n 0) 1 140 := ⟨by decide +kernel, rfl⟩
theorem d_L_law_140 : At code 140 (.iload_n 3) 1 141 := ⟨by decide +kernel, rfl⟩
theorem d_L_law_141 : At code 141 (.iconst 3) 1 142 := ⟨by decide +kernel, rfl⟩
theorem d_L_law_142 : At code 142 (.iadd) 1 143 := ⟨by decide +kernel, rfl⟩
theorem d_L_law_143 : At code 143 (.iaload) 1 144 := ⟨by decide +kernel, rfl⟩
theorem d_L_law_144 : At code 144 (.invokevirtual 21) 3 147 := ⟨by decide +kernel, rfl⟩
theorem d_L_law_147 : At code 147 (.aload_n 2) 1 148 := ⟨by decide +kernel, rfl⟩
theorem d_L_law_148 : At code 148 (.aload_n 0) 1 149 := ⟨by decide +kernel, rfl⟩
theorem d_L_law_149 : At code 149 (.iload_n 3) 1 150 := ⟨by decide +kernel, rfl⟩
theorem d_L_law_150 : At code 150 (.iconst 1) 1 151 := ⟨by decide +kernel, rfl⟩
theorem d_L_law_151 : At code 151 (.iadd) 1 152 := ⟨by decide +kernel, rfl⟩
theorem d_L_law_152 : At code 152 (.iaload) 1 153 := ⟨by decide +kernel, rfl⟩
theorem d_L_law_153 : At code 153 (.aload_n 0) 1 154 := ⟨by decide +kernel, rfl⟩
theorem d_L_law_154 : At code 154 (.iload_n 3) 1 155 := ⟨by decide +kernel, rfl⟩
theorem d_L_law_155 : At code 155 (.iconst 2) 1 156 := ⟨by decide +kernel, rfl⟩
theorem d_L_law_156 : At code 156 (.iadd) 1 157 := ⟨by decide +kernel, rfl⟩
theorem d_L_law_157 : At code 157 (.iaload) 1 158 := ⟨by decide +kernel, rfl⟩
theorem d_L_law_158 : At code 158 (.aload_n 0) 1 159 := ⟨by decide +kernel, rfl⟩
theorem d_L_law_159 : At code 159 (.iload_n 3) 1 160 := ⟨by decide +kernel, rfl⟩
theorem d_L_law_160 : At code 160 (.iconst 3) 1 161 := ⟨by decide +kernel, rfl⟩
theorem d_L_law_161 : At code 161 (.iadd) 1 162 := ⟨by decide +kernel, rfl⟩
theorem d_L_law_162 : At code 162 (.iaload) 1 163 := ⟨by decide +kernel, rfl⟩
theorem d_L_law_163 : At code 163 (.invokevirtual 25) 3 166 := ⟨by decide +kernel, rfl⟩
theorem d_L_law_166 : AtC code 166 (.if_icmp .eq) 632 169 := ⟨466, by decide +kernel, by decide, rfl⟩
theorem d_L_law_169 : At code 169 (.iconst 0) 1 170 := ⟨by decide +kernel, rfl⟩
theorem d_L_law_170 : At code 170 (.ireturn) 1 171 := ⟨by decide +kernel, rfl⟩
theorem d_L_law_171 : At code 171 (.aload_n 1) 1 172 := ⟨by decide +kernel, rfl⟩
theorem d_L_law_172 : At code 172 (.aload_n 0) 1 173 := ⟨by decide +kernel, rfl⟩
theorem d_L_law_173 : At code 173 (.iload_n 3) 1 174 := ⟨by decide +kernel, rfl⟩
theorem d_L_law_174 : At code 174 (.iconst 1) 1 175 := ⟨by decide +kernel, rfl⟩
theorem d_L_law_175 : At code 175 (.iadd) 1 176 := ⟨by decide +kernel, rfl⟩
theorem d_L_law_176 : At code 176 (.iaload) 1 177 := ⟨by decide +kernel, rfl⟩
theorem d_L_law_177 : At code 177 (.aload_n 0) 1 178 := ⟨by decide +kernel, rfl⟩
theorem d_L_law_178 : At code 178 (.iload_n 3) 1 179 := ⟨by decide +kernel, rfl⟩
theorem d_L_law_179 : At code 179 (.iconst 2) 1 180 := ⟨by decide +kernel, rfl⟩
theorem d_L_law_180 : At code 180 (.iadd) 1 181 := ⟨by decide +kernel, rfl⟩
theorem d_L_law_181 : At code 181 (.iaload) 1 182 := ⟨by decide +kernel, rfl⟩
theorem d_L_law_182 : At code 182 (.aload_n 0) 1 183 := ⟨by decide +kernel, rfl⟩
theorem d_L_law_183 : At code 183 (.iload_n 3) 1 184 := ⟨by decide +kernel, rfl⟩
theorem d_L_law_184 : At code 184 (.iconst 3) 1 185 := ⟨by decide +kernel, rfl⟩
theorem d_L_law_185 : At code 185 (.iadd) 1 186 := ⟨by decide +kernel, rfl⟩
theorem d_L_law_186 : At code 186 (.iaload) 1 187 := ⟨by decide +kernel, rfl⟩
theorem d_L_law_187 : At code 187 (.invokevirtual 26) 3 190 := ⟨by decide +kernel, rfl⟩
theorem d_L_law_190 : At code 190 (.aload_n 2) 1 191 := ⟨by decide +kernel, rfl⟩
theorem d_L_law_191 : At code 191 (.aload_n 0) 1 192 := ⟨by decide +kernel, rfl⟩
theorem d_L_law_192 : At code 192 (.iload_n 3) 1 193 := ⟨by decide +kernel, rfl⟩
theorem d_L_law_193 : At code 193 (.iconst 1) 1 194 := ⟨by decide +kernel, rfl⟩
theorem d_L_law_194 : At code 194 (.iadd) 1 195 := ⟨by decide +kernel, rfl⟩
theorem d_L_law_195 : At code 195 (.iaload) 1 196 := ⟨by decide +kernel, rfl⟩
theorem d_L_law_196 : At code 196 (.aload_n 0) 1 197 := ⟨by decide +kernel, rfl⟩
theorem d_L_law_197 : At code 197 (.iload_n 3) 1 198 := ⟨by decide +kernel, rfl⟩
theorem d_L_law_198 : At code 198 (.iconst 2) 1 199 := ⟨by decide +kernel, rfl⟩
theorem d_L_law_199 : At code 199 (.iadd) 1 200 := ⟨by decide +kernel, rfl⟩
theorem d_L_law_200 : At code 200 (.iaload) 1 201 := ⟨by decide +kernel, rfl⟩
theorem d_L_law_201 : At code 201 (.aload_n 0) 1 202 := ⟨by decide +kernel, rfl⟩
theorem d_L_law_202 : At code 202 (.iload_n 3) 1 203 := ⟨by decide +kernel, rfl⟩
theorem d_L_law_203 : At code 203 (.iconst 3) 1 204 := ⟨by decide +kernel, rfl⟩
theorem d_L_law_204 : At code 204 (.iadd) 1 205 := ⟨by decide +kernel, rfl⟩
theorem d_L_law_205 : At code 205 (.iaload) 1 206 := ⟨by decide +kernel, rfl⟩
theorem d_L_law_206 : At code 206 (.invokevirtual 29) 3 209 := ⟨by decide +kernel, rfl⟩
theorem d_L_law_209 : AtC code 209 (.if_icmp .eq) 632 212 := ⟨423, by decide +kernel, by decide, rfl⟩
theorem d_L_law_212 : At code 212 (.iconst 0) 1 213 := ⟨by decide +kernel, rfl⟩
theorem d_L_law_213 : At code 213 (.ireturn) 1 214 := ⟨by decide +kernel, rfl⟩
theorem d_L_law_214 : At code 214 (.aload_n 1) 1 215 := ⟨by decide +kernel, rfl⟩
theorem d_L_law_215 : At code 215 (.aload_n 0) 1 216 := ⟨by decide +kernel, rfl⟩
theorem d_L_law_216 : At code 216 (.iload_n 3) 1 217 := ⟨by decide +kernel, rfl⟩
theorem d_L_law_217 : At code 217 (.iconst 1) 1 218 := ⟨by decide +kernel, rfl⟩
theorem d_L_law_218 : At code 218 (.iadd) 1 219 := ⟨by decide +kernel, rfl⟩
theorem d_L_law_219 : At code 219 (.iaload) 1 220 := ⟨by decide +kernel, rfl⟩
theorem d_L_law_220 : At code 220 (.aload_n 0) 1 221 := ⟨by decide +kernel, rfl⟩
theorem d_L_law_221 : At code 221 (.iload_n 3) 1 222 := ⟨by decide +kernel, rfl⟩
theorem d_L_law_222 : At code 222 (.iconst 2) 1 223 := ⟨by decide +kernel, rfl⟩
theorem d_L_law_223 : At code 223 (.iadd) 1 224 := ⟨by decide +kernel, rfl⟩
theorem d_L_law_224 : At code 224 (.iaload) 1 225 := ⟨by decide +kernel, rfl⟩
theorem d_L_law_225 : At code 225 (.invokevirtual 30) 3 228 := ⟨by decide +kernel, rfl⟩
theorem d_L_law_228 : At code 228 (.aload_n 2) 1 229 := ⟨by decide +kernel, rfl⟩
theorem d_L_law_229 : At code 229 (.aload_n 0) 1 230 := ⟨by decide +kernel, rfl⟩
theorem d_L_law_230 : At code 230 (.iload_n 3) 1 231 := ⟨by decide +kernel, rfl⟩
theorem d_L_law_231 : At code 231 (.iconst 1) 1 232 := ⟨by decide +kernel, rfl⟩
theorem d_L_law_232 : At code 232 (.iadd) 1 233 := ⟨by decide +kernel, rfl⟩
theorem d_L_law_233 : At code 233 (.iaload) 1 234 := ⟨by decide +kernel, rfl⟩
theorem d_L_law_234 : At code 234 (.aload_n 0) 1 235 := ⟨by decide +kernel, rfl⟩
theorem d_L_law_235 : At code 235 (.iload_n 3) 1 236 := ⟨by decide +kernel, rfl⟩
theorem d_L_law_236 : At code 236 (.iconst 2) 1 237 := ⟨by decide +kernel, rfl⟩
theorem d_L_law_237 : At code 237 (.iadd) 1 238 := ⟨by decide +kernel, rfl⟩
theorem d_L_law_238 : At code 238 (.iaload) 1 239 := ⟨by decide +kernel, rfl⟩
theorem d_L_law_239 : At code 239 (.invokevirtual 34) 3 242 := ⟨by decide +kernel, rfl⟩
theorem d_L_law_242 : AtC code 242 (.if_icmp .eq) 632 245 := ⟨390, by decide +kernel, by decide, rfl⟩
theorem d_L_law_245 : At code 245 (.iconst 0) 1 246 := ⟨by decide +kernel, rfl⟩
theorem d_L_law_246 : At code 246 (.ireturn) 1 247 := ⟨by decide +kernel, rfl⟩
theorem d_L_law_247 : At code 247 (.aload_n 1) 1 248 := ⟨by decide +kernel, rfl⟩
theorem d_L_law_248 : At code 248 (.aload_n 0) 1 249 := ⟨by decide +kernel, rfl⟩
theorem d_L_law_249 : At code 249 (.iload_n 3) 1 250 := ⟨by decide +kernel, rfl⟩
theorem d_L_law_250 : At code 250 (.iconst 1) 1 251 := ⟨by decide +kernel, rfl⟩
theorem d_L_law_251 : At code 251 (.iadd) 1 252 := ⟨by decide +kernel, rfl⟩
theorem d_L_law_252 : At code 252 (.iaload) 1 253 := ⟨by decide +kernel, rfl⟩
theorem d_L_law_253 : At code 253 (.invokevirtual 35) 3 256 := ⟨by decide +kernel, rfl⟩
theorem d_L_law_256 : At code 256 (.aload_n 2) 1 257 := ⟨by decide +kernel, rfl⟩
theorem d_L_law_257 : At code 257 (.aload_n 0) 1 258 := ⟨by decide +kernel, rfl⟩
theorem d_L_law_258 : At code 258 (.iload_n 3) 1 259 := ⟨by decide +kernel, rfl⟩
theorem d_L_law_259 : At code 259 (.iconst 1) 1 260 := ⟨by decide +kernel, rfl⟩
theorem d_L_law_260 : At code 260 (.iadd) 1 261 := ⟨by decide +kernel, rfl⟩
theorem d_L_law_261 : At code 261 (.iaload) 1 262 := ⟨by decide +kernel, rfl⟩
theorem d_L_law_262 : At code 262 (.invokevirtual 39) 3 265 := ⟨by decide +kernel, rfl⟩
theorem d_L_law_265 : AtC code 265 (.if_icmp .eq) 632 268 := ⟨367, by decide +kernel, by decide, rfl⟩
theorem d_L_law_268 : At code 268 (.iconst 0) 1 269 := ⟨by decide +kernel, rfl⟩
theorem d_L_law_269 : At code 269 (.ireturn) 1 270 := ⟨by decide +kernel, rfl⟩
theorem d_L_law_270 : At code 270 (.aload_n 1) 1 271 := ⟨by decide +kernel, rfl⟩
theorem d_L_law_271 : At code 271 (.aload_n 0) 1 272 := ⟨by decide +kernel, rfl⟩
theorem d_L_law_272 : At code 272 (.iload_n 3) 1 273 := ⟨by decide +kernel, rfl⟩
theorem d_L_law_273 : At code 273 (.iconst 1) 1 274 := ⟨by decide +kernel, rfl⟩
theorem d_L_law_274 : At code 274 (.iadd) 1 275 := ⟨by decide +kernel, rfl⟩
theorem d_L_law_275 : At code 275 (.iaload) 1 276 := ⟨by decide +kernel, rfl⟩
theorem d_L_law_276 : At code 276 (.invokevirtual 40) 3 279 := ⟨by decide +kernel, rfl⟩
theorem d_L_law_279 : At code 279 (.aload_n 2) 1 280 := ⟨by decide +kernel, rfl⟩
theorem d_L_law_280 : At code 280 (.aload_n 0) 1 281 := ⟨by decide +kernel, rfl⟩
theorem d_L_law_281 : At code 281 (.iload_n 3) 1 282 := ⟨by decide +kernel, rfl⟩
theorem d_L_law_282 : At code 282 (.iconst 1) 1 283 := ⟨by decide +kernel, rfl⟩
theorem d_L_law_283 : At code 283 (.iadd) 1 284 := ⟨by decide +kernel, rfl⟩
theorem d_L_law_284 : At code 284 (.iaload) 1 285 := ⟨by decide +kernel, rfl⟩
theorem d_L_law_285 : At code 285 (.invokevirtual 43) 3 288 := ⟨by decide +kernel, rfl⟩
theorem d_L_law_288 : AtC code 288 (.if_icmp .eq) 632 291 := ⟨344, by decide +kernel, by decide, rfl⟩
theorem d_L_law_291 : At code 291 (.iconst 0) 1 292 := ⟨by decide +kernel, rfl⟩
theorem d_L_law_292 : At code 292 (.ireturn) 1 293 := ⟨by decide +kernel, rfl⟩
theorem d_L_law_293 : At code 293 (.aload_n 1) 1 294 := ⟨by decide +kernel, rfl⟩
theorem d_L_law_294 : At code 294 (.aload_n 0) 1 295 := ⟨by decide +kernel, rfl⟩
theorem d_L_law_295 : At code 295 (.iload_n 3) 1 296 := ⟨by decide +kernel, rfl⟩
theorem d_L_law_296 : At code 296 (.iconst 1) 1 297 := ⟨by decide +kernel, rfl⟩
theorem d_L_law_297 : At code 297 (.iadd) 1 298 := ⟨by decide +kernel, rfl⟩
theorem d_L_law_298 : At code 298 (.iaload) 1 299 := ⟨by decide +kernel, rfl⟩
theorem d_L_law_299 : At code 299 (.invokevirtual 44) 3 302 := ⟨by decide +kernel, rfl⟩
theorem d_L_law_302 : At code 302 (.aload_n 2) 1 303 := ⟨by decide +kernel, rfl⟩
theorem d_L_law_303 : At code 303 (.aload_n 0) 1 304 := ⟨by decide +kernel, rfl⟩
theorem d_L_law_304 : At code 304 (.iload_n 3) 1 305 := ⟨by decide +kernel, rfl⟩
theorem d_L_law_305 : At code 305 (.iconst 1) 1 306 := ⟨by decide +kernel, rfl⟩
theorem d_L_law_306 : At code 306 (.iadd) 1 307 := ⟨by decide +kernel, rfl⟩
theorem d_L_law_307 : At code 307 (.iaload) 1 308 := ⟨by decide +kernel, rfl⟩
theorem d_L_law_308 : At code 308 (.invokevirtual 47) 3 311 := ⟨by decide +kernel, rfl⟩
theorem d_L_law_311 : AtC code 311 (.if_icmp .eq) 632 314 := ⟨321, by decide +kernel, by decide, rfl⟩
theorem d_L_law_314 : At code 314 (.iconst 0) 1 315 := ⟨by decide +kernel, rfl⟩
theorem d_L_law_315 : At code 315 (.ireturn) 1 316 := ⟨by decide +kernel, rfl⟩
theorem d_L_law_316 : At code 316 (.aload_n 1) 1 317 := ⟨by decide +kernel, rfl⟩
theorem d_L_law_317 : At code 317 (.aload_n 0) 1 318 := ⟨by decide +kernel, rfl⟩
theorem d_L_law_318 : At code 318 (.iload_n 3) 1 319 := ⟨by decide +kernel, rfl⟩
theorem d_L_law_319 : At code 319 (.iconst 1) 1 320 := ⟨by decide +kernel, rfl⟩
theorem d_L_law_320 : At code 320 (.iadd) 1 321 := ⟨by decide +kernel, rfl⟩
theorem d_L_law_321 : At code 321 (.iaload) 1 322 := ⟨by decide +kernel, rfl⟩
theorem d_L_law_322 : At code 322 (.aload_n 0) 1 323 := ⟨by decide +kernel, rfl⟩
theorem d_L_law_323 : At code 323 (.iload_n 3) 1 324 := ⟨by decide +kernel, rfl⟩
theorem d_L_law_324 : At code 324 (.iconst 2) 1 325 := ⟨by decide +kernel, rfl⟩
theorem d_L_law_325 : At code 325 (.iadd) 1 326 := ⟨by decide +kernel, rfl⟩
theorem d_L_law_326 : At code 326 (.iaload) 1 327 := ⟨by decide +kernel, rfl⟩
theorem d_L_law_327 : At code 327 (.invokevirtual 48) 3 330 := ⟨by decide +kernel, rfl⟩
theorem d_L_law_330 : At code 330 (.aload_n 2) 1 331 := ⟨by decide +kernel, rfl⟩
theorem d_L_law_331 : At code 331 (.aload_n 0) 1 332 := ⟨by decide +kernel, rfl⟩
theorem d_L_law_332 : At code 332 (.iload_n 3) 1 333 := ⟨by decide +kernel, rfl⟩
theorem d_L_law_333 : At code 333 (.iconst 1) 1 334 := ⟨by decide +kernel, rfl⟩
theorem d_L_law_334 : At code 334 (.iadd) 1 335 := ⟨by decide +kernel, rfl⟩
theorem d_L_law_335 : At code 335 (.iaload) 1 336 := ⟨by decide +kernel, rfl⟩
theorem d_L_law_336 : At code 336 (.aload_n 0) 1 337 := ⟨by decide +kernel, rfl⟩
theorem d_L_law_337 : At code 337 (.iload_n 3) 1 338 := ⟨by decide +kernel, rfl⟩
theorem d_L_law_338 : At code 338 (.iconst 2) 1 339 := ⟨by decide +kernel, rfl⟩
theorem d_L_law_339 : At code 339 (.iadd) 1 340 := ⟨by decide +kernel, rfl⟩
theorem d_L_law_340 : At code 340 (.iaload) 1 341 := ⟨by decide +kernel, rfl⟩
theorem d_L_law_341 : At code 341 (.invokevirtual 51) 3 344 := ⟨by decide +kernel, rfl⟩
theorem d_L_law_344 : AtC code 344 (.if_icmp .eq) 632 347 := ⟨288, by decide +kernel, by decide, rfl⟩
theorem d_L_law_347 : At code 347 (.iconst 0) 1 348 := ⟨by decide +kernel, rfl⟩
theorem d_L_law_348 : At code 348 (.ireturn) 1 349 := ⟨by decide +kernel, rfl⟩
theorem d_L_law_349 : At code 349 (.aload_n 1) 1 350 := ⟨by decide +kernel, rfl⟩
theorem d_L_law_350 : At code 350 (.aload_n 0) 1 351 := ⟨by decide +kernel, rfl⟩
theorem d_L_law_351 : At code 351 (.iload_n 3) 1 352 := ⟨by decide +kernel, rfl⟩
theorem d_L_law_352 : At code 352 (.iconst 1) 1 353 := ⟨by decide +kernel, rfl⟩
theorem d_L_law_353 : At code 353 (.iadd) 1 354 := ⟨by decide +kernel, rfl⟩
theorem d_L_law_354 : At code 354 (.iaload) 1 355 := ⟨by decide +kernel, rfl⟩
theorem d_L_law_355 : At code 355 (.aload_n 0) 1 356 := ⟨by decide +kernel, rfl⟩
theorem d_L_law_356 : At code 356 (.iload_n 3) 1 357 := ⟨by decide +kernel, rfl⟩
theorem d_L_law_357 : At code 357 (.iconst 2) 1 358 := ⟨by decide +kernel, rfl⟩
theorem d_L_law_358 : At code 358 (.iadd) 1 359 := ⟨by decide +kernel, rfl⟩
theorem d_L_law_359 : At code 359 (.iaload) 1 360 := ⟨by decide +kernel, rfl⟩
theorem d_L_law_360 : At code 360 (.invokevirtual 52) 3 363 := ⟨by decide +kernel, rfl⟩
theorem d_L_law_363 : At code 363 (.aload_n 2) 1 364 := ⟨by decide +kernel, rfl⟩
theorem d_L_law_364 : At code 364 (.aload_n 0) 1 365 := ⟨by decide +kernel, rfl⟩
theorem d_L_law_365 : At code 365 (.iload_n 3) 1 366 := ⟨by decide +kernel, rfl⟩
theorem d_L_law_366 : At code 366 (.iconst 1) 1 367 := ⟨by decide +kernel, rfl⟩
theorem d_L_law_367 : At code 367 (.iadd) 1 368 := ⟨by decide +kernel, rfl⟩
theorem d_L_law_368 : At code 368 (.iaload) 1 369 := ⟨by decide +kernel, rfl⟩
theorem d_L_law_369 : At code 369 (.aload_n 0) 1 370 := ⟨by decide +kernel, rfl⟩
theorem d_L_law_370 : At code 370 (.iload_n 3) 1 371 := ⟨by decide +kernel, rfl⟩
theorem d_L_law_371 : At code 371 (.iconst 2) 1 372 := ⟨by decide +kernel, rfl⟩
theorem d_L_law_372 : At code 372 (.iadd) 1 373 := ⟨by decide +kernel, rfl⟩
theorem d_L_law_373 : At code 373 (.iaload) 1 374 := ⟨by decide +kernel, rfl⟩
theorem d_L_law_374 : At code 374 (.invokevirtual 55) 3 377 := ⟨by decide +kernel, rfl⟩
theorem d_L_law_377 : AtC code 377 (.if_icmp .eq) 632 380 := ⟨255, by decide +kernel, by decide, rfl⟩
theorem d_L_law_380 : At code 380 (.iconst 0) 1 381 := ⟨by decide +kernel, rfl⟩
theorem d_L_law_381 : At code 381 (.ireturn) 1 382 := ⟨by decide +kernel, rfl⟩
theorem d_L_law_382 : At code 382 (.aload_n 1) 1 383 := ⟨by decide +kernel, rfl⟩
theorem d_L_law_383 : At code 383 (.aload_n 0) 1 384 := ⟨by decide +kernel, rfl⟩
theorem d_L_law_384 : At code 384 (.iload_n 3) 1 385 := ⟨by decide +kernel, rfl⟩
theorem d_L_law_385 : At code 385 (.iconst 1) 1 386 := ⟨by decide +kernel, rfl⟩
theorem d_L_law_386 : At code 386 (.iadd) 1 387 := ⟨by decide +kernel, rfl⟩
theorem d_L_law_387 : At code 387 (.iaload) 1 388 := ⟨by decide +kernel, rfl⟩
theorem d_L_law_388 : At code 388 (.invokevirtual 56) 3 391 := ⟨by decide +kernel, rfl⟩
theorem d_L_law_391 : At code 391 (.aload_n 2) 1 392 := ⟨by decide +kernel, rfl⟩
theorem d_L_law_392 : At code 392 (.aload_n 0) 1 393 := ⟨by decide +kernel, rfl⟩
theorem d_L_law_393 : At code 393 (.iload_n 3) 1 394 := ⟨by decide +kernel, rfl⟩
theorem d_L_law_394 : At code 394 (.iconst 1) 1 395 := ⟨by decide +kernel, rfl⟩
theorem d_L_law_395 : At code 395 (.iadd) 1 396 := ⟨by decide +kernel, rfl⟩
theorem d_L_law_396 : At code 396 (.iaload) 1 397 := ⟨by decide +kernel, rfl⟩
theorem d_L_law_397 : At code 397 (.invokevirtual 60) 3 400 := ⟨by decide +kernel, rfl⟩
theorem d_L_law_400 : AtC code 400 (.if_icmp .eq) 632 403 := ⟨232, by decide +kernel, by decide, rfl⟩
theorem d_L_law_403 : At code 403 (.iconst 0) 1 404 := ⟨by decide +kernel, rfl⟩
theorem d_L_law_404 : At code 404 (.ireturn) 1 405 := ⟨by decide +kernel, rfl⟩
theorem d_L_law_405 : At code 405 (.aload_n 1) 1 406 := ⟨by decide +kernel, rfl⟩
theorem d_L_law_406 : At code 406 (.invokevirtual 61) 3 409 := ⟨by decide +kernel, rfl⟩
theorem d_L_law_409 : At code 409 (.aload_n 2) 1 410 := ⟨by decide +kernel, rfl⟩
theorem d_L_law_410 : At code 410 (.invokevirtual 65) 3 413 := ⟨by decide +kernel, rfl⟩
theorem d_L_law_413 : AtC code 413 (.if_icmp .eq) 632 416 := ⟨219, by decide +kernel, by decide, rfl⟩
theorem d_L_law_416 : At code 416 (.iconst 0) 1 417 := ⟨by decide +kernel, rfl⟩
theorem d_L_law_417 : At code 417 (.ireturn) 1 418 := ⟨by decide +kernel, rfl⟩
theorem d_L_law_418 : At code 418 (.aload_n 1) 1 419 := ⟨by decide +kernel, rfl⟩
theorem d_L_law_419 : At code 419 (.invokevirtual 66) 3 422 := ⟨by decide +kernel, rfl⟩
theorem d_L_law_422 : At code 422 (.aload_n 2) 1 423 := ⟨by decide +kernel, rfl⟩
theorem d_L_law_423 : At code 423 (.invokevirtual 69) 3 426 := ⟨by decide +kernel, rfl⟩
theorem d_L_law_426 : AtC code 426 (.if_icmp .eq) 632 429 := ⟨206, by decide +kernel, by decide, rfl⟩
theorem d_L_law_429 : At code 429 (.iconst 0) 1 430 := ⟨by decide +kernel, rfl⟩
theorem d_L_law_430 : At code 430 (.ireturn) 1 431 := ⟨by decide +kernel, rfl⟩
theorem d_L_law_431 : At code 431 (.aload_n 1) 1 432 := ⟨by decide +kernel, rfl⟩
theorem d_L_law_432 : At code 432 (.aload_n 0) 1 433 := ⟨by decide +kernel, rfl⟩
theorem d_L_law_433 : At code 433 (.iload_n 3) 1 434 := ⟨by decide +kernel, rfl⟩
theorem d_L_law_434 : At code 434 (.iconst 1) 1 435 := ⟨by decide +kernel, rfl⟩
theorem d_L_law_435 : At code 435 (.iadd) 1 436 := ⟨by decide +kernel, rfl⟩
theorem d_L_law_436 : At code 436 (.iaload) 1 437 := ⟨by decide +kernel, rfl⟩
theorem d_L_law_437 : At code 437 (.invokevirtual 70) 3 440 := ⟨by decide +kernel, rfl⟩
theorem d_L_law_440 : At code 440 (.aload_n 2) 1 441 := ⟨by decide +kernel, rfl⟩
theorem d_L_law_441 : At code 441 (.aload_n 0) 1 442 := ⟨by decide +kernel, rfl⟩
theorem d_L_law_442 : At code 442 (.iload_n 3) 1 443 := ⟨by decide +kernel, rfl⟩
theorem d_L_law_443 : At code 443 (.iconst 1) 1 444 := ⟨by decide +kernel, rfl⟩
theorem d_L_law_444 : At code 444 (.iadd) 1 445 := ⟨by decide +kernel, rfl⟩
theorem d_L_law_445 : At code 445 (.iaload) 1 446 := ⟨by decide +kernel, rfl⟩
theorem d_L_law_446 : At code 446 (.invokevirtual 73) 3 449 := ⟨by decide +kernel, rfl⟩
theorem d_L_law_449 : AtC code 449 (.if_icmp .eq) 632 452 := ⟨183, by decide +kernel, by decide, rfl⟩
theorem d_L_law_452 : At code 452 (.iconst 0) 1 453 := ⟨by decide +kernel, rfl⟩
theorem d_L_law_453 : At code 453 (.ireturn) 1 454 := ⟨by decide +kernel, rfl⟩
theorem d_L_law_454 : At code 454 (.aload_n 1) 1 455 := ⟨by decide +kernel, rfl⟩
theorem d_L_law_455 : At code 455 (.aload_n 0) 1 456 := ⟨by decide +kernel, rfl⟩
theorem d_L_law_456 : At code 456 (.iload_n 3) 1 457 := ⟨by decide +kernel, rfl⟩
theorem d_L_law_457 : At code 457 (.iconst 1) 1 458 := ⟨by decide +kernel, rfl⟩
theorem d_L_law_458 : At code 458 (.iadd) 1 459 := ⟨by decide +kernel, rfl⟩
theorem d_L_law_459 : At code 459 (.iaload) 1 460 := ⟨by decide +kernel, rfl⟩
theorem d_L_law_460 : At code 460 (.invokevirtual 74) 3 463 := ⟨by decide +kernel, rfl⟩
theorem d_L_law_463 : At code 463 (.aload_n 2) 1 464 := ⟨by decide +kernel, rfl⟩
theorem d_L_law_464 : At code 464 (.aload_n 0) 1 465 := ⟨by decide +kernel, rfl⟩
theorem d_L_law_465 : At code 465 (.iload_n 3) 1 466 := ⟨by decide +kernel, rfl⟩
theorem d_L_law_466 : At code 466 (.iconst 1) 1 467 := ⟨by decide +kernel, rfl⟩
theorem d_L_law_467 : At code 467 (.iadd) 1 468 := ⟨by decide +kernel, rfl⟩
theorem d_L_law_468 : At code 468 (.iaload) 1 469 := ⟨by decide +kernel, rfl⟩
theorem d_L_law_469 : At code 469 (.invokevirtual 77) 3 472 := ⟨by decide +kernel, rfl⟩
theorem d_L_law_472 : AtC code 472 (.if_icmp .eq) 632 475 := ⟨160, by decide +kernel, by decide, rfl⟩
theorem d_L_law_475 : At code 475 (.iconst 0) 1 476 := ⟨by decide +kernel, rfl⟩
theorem d_L_law_476 : At code 476 (.ireturn) 1 477 := ⟨by decide +kernel, rfl⟩
theorem d_L_law_477 : At code 477 (.aload_n 1) 1 478 := ⟨by decide +kernel, rfl⟩
theorem d_L_law_478 : At code 478 (.aload_n 0) 1 479 := ⟨by decide +kernel, rfl⟩
theorem d_L_law_479 : At code 479 (.iload_n 3) 1 480 := ⟨by decide +kernel, rfl⟩
theorem d_L_law_480 : At code 480 (.iconst 1) 1 481 := ⟨by decide +kernel, rfl⟩
theorem d_L_law_481 : At code 481 (.iadd) 1 482 := ⟨by decide +kernel, rfl⟩
theorem d_L_law_482 : At code 482 (.iaload) 1 483 := ⟨by decide +kernel, rfl⟩
theorem d_L_law_483 : At code 483 (.invokevirtual 78) 3 486 := ⟨by decide +kernel, rfl⟩
theorem d_L_law_486 : At code 486 (.aload_n 2) 1 487 := ⟨by decide +kernel, rfl⟩
theorem d_L_law_487 : At code 487 (.aload_n 0) 1 488 := ⟨by decide +kernel, rfl⟩
theorem d_L_law_488 : At code 488 (.iload_n 3) 1 489 := ⟨by decide +kernel, rfl⟩
theorem d_L_law_489 : At code 489 (.iconst 1) 1 490 := ⟨by decide +kernel, rfl⟩
theorem d_L_law_490 : At code 490 (.iadd) 1 491 := ⟨by decide +kernel, rfl⟩
theorem d_L_law_491 : At code 491 (.iaload) 1 492 := ⟨by decide +kernel, rfl⟩
theorem d_L_law_492 : At code 492 (.invokevirtual 81) 3 495 := ⟨by decide +kernel, rfl⟩
theorem d_L_law_495 : AtC code 495 (.if_icmp .eq) 632 498 := ⟨137, by decide +kernel, by decide, rfl⟩
theorem d_L_law_498 : At code 498 (.iconst 0) 1 499 := ⟨by decide +kernel, rfl⟩
theorem d_L_law_499 : At code 499 (.ireturn) 1 500 := ⟨by decide +kernel, rfl⟩
theorem d_L_law_500 : At code 500 (.aload_n 1) 1 501 := ⟨by decide +kernel, rfl⟩
theorem d_L_law_501 : At code 501 (.aload_n 0) 1 502 := ⟨by decide +kernel, rfl⟩
theorem d_L_law_502 : At code 502 (.iload_n 3) 1 503 := ⟨by decide +kernel, rfl⟩
theorem d_L_law_503 : At code 503 (.iconst 1) 1 504 := ⟨by decide +kernel, rfl⟩
theorem d_L_law_504 : At code 504 (.iadd) 1 505 := ⟨by decide +kernel, rfl⟩
theorem d_L_law_505 : At code 505 (.iaload) 1 506 := ⟨by decide +kernel, rfl⟩
theorem d_L_law_506 : At code 506 (.invokevirtual 82) 3 509 := ⟨by decide +kernel, rfl⟩
theorem d_L_law_509 : At code 509 (.aload_n 2) 1 510 := ⟨by decide +kernel, rfl⟩
theorem d_L_law_510 : At code 510 (.aload_n 0) 1 511 := ⟨by decide +kernel, rfl⟩
theorem d_L_law_511 : At code 511 (.iload_n 3) 1 512 := ⟨by decide +kernel, rfl⟩
theorem d_L_law_512 : At code 512 (.iconst 1) 1 513 := ⟨by decide +kernel, rfl⟩
theorem d_L_law_513 : At code 513 (.iadd) 1 514 := ⟨by decide +kernel, rfl⟩
theorem d_L_law_514 : At code 514 (.iaload) 1 515 := ⟨by decide +kernel, rfl⟩
theorem d_L_law_515 : At code 515 (.invokevirtual 85) 3 518 := ⟨by decide +kernel, rfl⟩
theorem d_L_law_518 : AtC code 518 (.if_icmp .eq) 632 521 := ⟨114, by decide +kernel, by decide, rfl⟩
theorem d_L_law_521 : At code 521 (.iconst 0) 1 522 := ⟨by decide +kernel, rfl⟩
theorem d_L_law_522 : At code 522 (.ireturn) 1 523 := ⟨by decide +kernel, rfl⟩
theorem d_L_law_523 : At code 523 (.aload_n 1) 1 524 := ⟨by decide +kernel, rfl⟩
theorem d_L_law_524 : At code 524 (.aload_n 0) 1 525 := ⟨by decide +kernel, rfl⟩
theorem d_L_law_525 : At code 525 (.iload_n 3) 1 526 := ⟨by decide +kernel, rfl⟩
theorem d_L_law_526 : At code 526 (.iconst 1) 1 527 := ⟨by decide +kernel, rfl⟩
theorem d_L_law_527 : At code 527 (.iadd) 1 528 := ⟨by decide +kernel, rfl⟩
theorem d_L_law_528 : At code 528 (.iaload) 1 529 := ⟨by decide +kernel, rfl⟩
theorem d_L_law_529 : At code 529 (.invokevirtual 86) 3 532 := ⟨by decide +kernel, rfl⟩
theorem d_L_law_532 : At code 532 (.aload_n 2) 1 533 := ⟨by decide +kernel, rfl⟩
theorem d_L_law_533 : At code 533 (.aload_n 0) 1 534 := ⟨by decide +kernel, rfl⟩
theorem d_L_law_534 : At code 534 (.iload_n 3) 1 535 := ⟨by decide +kernel, rfl⟩
theorem d_L_law_535 : At code 535 (.iconst 1) 1 536 := ⟨by decide +kernel, rfl⟩
theorem d_L_law_536 : At code 536 (.iadd) 1 537 := ⟨by decide +kernel, rfl⟩
theorem d_L_law_537 : At code 537 (.iaload) 1 538 := ⟨by decide +kernel, rfl⟩
theorem d_L_law_538 : At code 538 (.invokevirtual 89) 3 541 := ⟨by decide +kernel, rfl⟩
theorem d_L_law_541 : AtC code 541 (.if_icmp .eq) 632 544 := ⟨91, by decide +kernel, by decide, rfl⟩
theorem d_L_law_544 : At code 544 (.iconst 0) 1 545 := ⟨by decide +kernel, rfl⟩
theorem d_L_law_545 : At code 545 (.ireturn) 1 546 := ⟨by decide +kernel, rfl⟩
theorem d_L_law_546 : At code 546 (.aload_n 1) 1 547 := ⟨by decide +kernel, rfl⟩
theorem d_L_law_547 : At code 547 (.aload_n 0) 1 548 := ⟨by decide +kernel, rfl⟩
theorem d_L_law_548 : At code 548 (.iload_n 3) 1 549 := ⟨by decide +kernel, rfl⟩
theorem d_L_law_549 : At code 549 (.iconst 1) 1 550 := ⟨by decide +kernel, rfl⟩
theorem d_L_law_550 : At code 550 (.iadd) 1 551 := ⟨by decide +kernel, rfl⟩
theorem d_L_law_551 : At code 551 (.iaload) 1 552 := ⟨by decide +kernel, rfl⟩
theorem d_L_law_552 : At code 552 (.aload_n 0) 1 553 := ⟨by decide +kernel, rfl⟩
theorem d_L_law_553 : At code 553 (.iload_n 3) 1 554 := ⟨by decide +kernel, rfl⟩
theorem d_L_law_554 : At code 554 (.iconst 2) 1 555 := ⟨by decide +kernel, rfl⟩
theorem d_L_law_555 : At code 555 (.iadd) 1 556 := ⟨by decide +kernel, rfl⟩
theorem d_L_law_556 : At code 556 (.iaload) 1 557 := ⟨by decide +kernel, rfl⟩
theorem d_L_law_557 : At code 557 (.aload_n 0) 1 558 := ⟨by decide +kernel, rfl⟩
theorem d_L_law_558 : At code 558 (.iload_n 3) 1 559 := ⟨by decide +kernel, rfl⟩
theorem d_L_law_559 : At code 559 (.iconst 3) 1 560 := ⟨by decide +kernel, rfl⟩
theorem d_L_law_560 : At code 560 (.iadd) 1 561 := ⟨by decide +kernel, rfl⟩
theorem d_L_law_561 : At code 561 (.iaload) 1 562 := ⟨by decide +kernel, rfl⟩
theorem d_L_law_562 : At code 562 (.invokevirtual 90) 3 565 := ⟨by decide +kernel, rfl⟩
theorem d_L_law_565 : At code 565 (.aload_n 2) 1 566 := ⟨by decide +kernel, rfl⟩
theorem d_L_law_566 : At code 566 (.aload_n 0) 1 567 := ⟨by decide +kernel, rfl⟩
theorem d_L_law_567 : At code 567 (.iload_n 3) 1 568 := ⟨by decide +kernel, rfl⟩
theorem d_L_law_568 : At code 568 (.iconst 1) 1 569 := ⟨by decide +kernel, rfl⟩
theorem d_L_law_569 : At code 569 (.iadd) 1 570 := ⟨by decide +kernel, rfl⟩
theorem d_L_law_570 : At code 570 (.iaload) 1 571 := ⟨by decide +kernel, rfl⟩
theorem d_L_law_571 : At code 571 (.aload_n 0) 1 572 := ⟨by decide +kernel, rfl⟩
theorem d_L_law_572 : At code 572 (.iload_n 3) 1 573 := ⟨by decide +kernel, rfl⟩
theorem d_L_law_573 : At code 573 (.iconst 2) 1 574 := ⟨by decide +kernel, rfl⟩
theorem d_L_law_574 : At code 574 (.iadd) 1 575 := ⟨by decide +kernel, rfl⟩
theorem d_L_law_575 : At code 575 (.iaload) 1 576 := ⟨by decide +kernel, rfl⟩
theorem d_L_law_576 : At code 576 (.aload_n 0) 1 577 := ⟨by decide +kernel, rfl⟩
theorem d_L_law_577 : At code 577 (.iload_n 3) 1 578 := ⟨by decide +kernel, rfl⟩
theorem d_L_law_578 : At code 578 (.iconst 3) 1 579 := ⟨by decide +kernel, rfl⟩
theorem d_L_law_579 : At code 579 (.iadd) 1 580 := ⟨by decide +kernel, rfl⟩
theorem d_L_law_580 : At code 580 (.iaload) 1 581 := ⟨by decide +kernel, rfl⟩
theorem d_L_law_581 : At code 581 (.invokevirtual 93) 3 584 := ⟨by decide +kernel, rfl⟩
theorem d_L_law_584 : AtC code 584 (.if_icmp .eq) 632 587 := ⟨48, by decide +kernel, by decide, rfl⟩
theorem d_L_law_587 : At code 587 (.iconst 0) 1 588 := ⟨by decide +kernel, rfl⟩
theorem d_L_law_588 : At code 588 (.ireturn) 1 589 := ⟨by decide +kernel, rfl⟩
theorem d_L_law_589 : At code 589 (.aload_n 1) 1 590 := ⟨by decide +kernel, rfl⟩
theorem d_L_law_590 : At code 590 (.aload_n 0) 1 591 := ⟨by decide +kernel, rfl⟩
theorem d_L_law_591 : At code 591 (.iload_n 3) 1 592 := ⟨by decide +kernel, rfl⟩
theorem d_L_law_592 : At code 592 (.iconst 1) 1 593 := ⟨by decide +kernel, rfl⟩
theorem d_L_law_593 : At code 593 (.iadd) 1 594 := ⟨by decide +kernel, rfl⟩
theorem d_L_law_594 : At code 594 (.iaload) 1 595 := ⟨by decide +kernel, rfl⟩
theorem d_L_law_595 : At code 595 (.aload_n 0) 1 596 := ⟨by decide +kernel, rfl⟩
theorem d_L_law_596 : At code 596 (.iload_n 3) 1 597 := ⟨by decide +kernel, rfl⟩
theorem d_L_law_597 : At code 597 (.iconst 2) 1 598 := ⟨by decide +kernel, rfl⟩
theorem d_L_law_598 : At code 598 (.iadd) 1 599 := ⟨by decide +kernel, rfl⟩
theorem d_L_law_599 : At code 599 (.iaload) 1 600 := ⟨by decide +kernel, rfl⟩
theorem d_L_law_600 : At code 600 (.aload_n 0) 1 601 := ⟨by decide +kernel, rfl⟩
theorem d_L_law_601 : At code 601 (.iload_n 3) 1 602 := ⟨by decide +kernel, rfl⟩
theorem d_L_law_602 : At code 602 (.iconst 3) 1 603 := ⟨by decide +kernel, rfl⟩
theorem d_L_law_603 : At code 603 (.iadd) 1 604 := ⟨by decide +kernel, rfl⟩
theorem d_L_law_604 : At code 604 (.iaload) 1 605 := ⟨by decide +kernel, rfl⟩
theorem d_L_law_605 : At code 605 (.invokevirtual 94) 3 608 := ⟨by decide +kernel, rfl⟩
theorem d_L_law_608 : At code 608 (.aload_n 2) 1 609 := ⟨by decide +kernel, rfl⟩
theorem d_L_law_609 : At code 609 (.aload_n 0) 1 610 := ⟨by decide +kernel, rfl⟩
theorem d_L_law_610 : At code 610 (.iload_n 3) 1 611 := ⟨by decide +kernel, rfl⟩
theorem d_L_law_611 : At code 611 (.iconst 1) 1 612 := ⟨by decide +kernel, rfl⟩
theorem d_L_law_612 : At code 612 (.iadd) 1 613 := ⟨by decide +kernel, rfl⟩
theorem d_L_law_613 : At code 613 (.iaload) 1 614 := ⟨by decide +kernel, rfl⟩
theorem d_L_law_614 : At code 614 (.aload_n 0) 1 615 := ⟨by decide +kernel, rfl⟩
theorem d_L_law_615 : At code 615 (.iload_n 3) 1 616 := ⟨by decide +kernel, rfl⟩
theorem d_L_law_616 : At code 616 (.iconst 2) 1 617 := ⟨by decide +kernel, rfl⟩
theorem d_L_law_617 : At code 617 (.iadd) 1 618 := ⟨by decide +kernel, rfl⟩
theorem d_L_law_618 : At code 618 (.iaload) 1 619 := ⟨by decide +kernel, rfl⟩
theorem d_L_law_619 : At code 619 (.aload_n 0) 1 620 := ⟨by decide +kernel, rfl⟩
theorem d_L_law_620 : At code 620 (.iload_n 3) 1 621 := ⟨by decide +kernel, rfl⟩
theorem d_L_law_621 : At code 621 (.iconst 3) 1 622 := ⟨by decide +kernel, rfl⟩
theorem d_L_law_622 : At code 622 (.iadd) 1 623 := ⟨by decide +kernel, rfl⟩
theorem d_L_law_623 : At code 623 (.iaload) 1 624 := ⟨by decide +kernel, rfl⟩
theorem d_L_law_624 : At code 624 (.invokevirtual 97) 3 627 := ⟨by decide +kernel, rfl⟩
theorem d_L_law_627 : AtC code 627 (.if_icmp .eq) 632 630 := ⟨5, by decide +kernel, by decide, rfl⟩
theorem d_L_law_630 : At code 630 (.iconst 0) 1 631 := ⟨by decide +kernel, rfl⟩
theorem d_L_law_631 : At code 631 (.ireturn) 1 632 := ⟨by decide +kernel, rfl⟩
theorem d_L_law_632 : At code 632 (.iinc 3 4) 3 635 := ⟨by decide +kernel, rfl⟩
theorem d_L_law_635 : AtC code 635 .goto 28 638 := ⟨-607, by decide +kernel, by decide, rfl⟩
theorem d_L_law_638 : At code 638 (.iconst 1) 1 639 := ⟨by decide +kernel, rfl⟩
theorem d_L_law_639 : At code 639 (.ireturn) 1 640 := ⟨by decide +kernel, rfl⟩
end
section
/-! the state of the store of numbers, as the reference holds it; what each of its methods does to it.
    fields (by number): 0 made, 1 living, 2 ready, 3 view, 4 length, 5 settled, 6 silent, 7 members, 8 newest, 9 keys, 10 values, 11 writers, 12 numbers, 13 status, 14 writes, 15 key, 16 value, 17 at, 18 number, 19 result, 20 count, 21 from, 22 to, 23 kind, 24 epochs, 25 one, 26 two;
    of the class alone: 27 clock, 28 stoppedAt, 29 waitsAt. 10, 16, 19, 29 lie in the second part. -/
abbrev GS : Type := (Nat → Nat → Nat) × (Nat → Nat → Int32)
def gN (G : GS) (j i v : Nat) : GS := (up2 G.1 j i v, G.2)
def gV (G : GS) (j i : Nat) (v : Int32) : GS := (G.1, up2 G.2 j i v)
theorem gN_1 (G : GS) (j i v j' i' : Nat) : (gN G j i v).1 j' i' = if j' = j ∧ i' = i then v else G.1 j' i' := rfl
theorem gN_2 (G : GS) (j i v : Nat) : (gN G j i v).2 = G.2 := rfl
theorem gV_1 (G : GS) (j i : Nat) (v : Int32) : (gV G j i v).1 = G.1 := rfl
theorem gV_2 (G : GS) (j i : Nat) (v : Int32) (j' i' : Nat) : (gV G j i v).2 j' i' = if j' = j ∧ i' = i then v else G.2 j' i' := rfl
def oI (o : Option Nat) : Int32 := match o with
  | some n => nI n
  | none => -1
def isIn (G : GS) (e w : Nat) : Bool := (G.1 7 e).testBit w
/-- the greatest member below n -/
def prdF (G : GS) (e : Nat) : Nat → Option Nat
  | 0 => none
  | w + 1 => if isIn G e w = true then some w else prdF G e w
/-- the least member from 6 - n on -/
def sucF (G : GS) (e : Nat) : Nat → Option Nat
  | 0 => none
  | n + 1 => if isIn G e (5 - n) = true then some (5 - n) else sucF G e n
def prd (G : GS) (v : Nat) : Option Nat := prdF G (G.1 3 v) v
def suc (G : GS) (v : Nat) : Option Nat := sucF G (G.1 3 v) (5 - v)
def tlo (G : GS) (e : Nat) : Option Nat := prdF G e 6
/-- keys of the log from i on, n of them: none is k -/
def clF (G : GS) (v k : Nat) : Nat → Nat → Bool
  | 0, _ => true
  | n + 1, i => if G.1 9 (128 * v + i) = k then false else clF G v k n (i + 1)
def isCl (G : GS) (v k : Nat) : Bool := clF G v k (G.1 4 v - G.1 5 v) (G.1 5 v + 1)
def cnF (G : GS) (v k : Nat) : Nat → Nat
  | 0 => 0
  | i + 1 => if G.1 9 (128 * v + (i + 1)) = k then i + 1 else cnF G v k i
def clN (G : GS) (v k : Nat) : Nat := cnF G v k (G.1 5 v)
def valAt (G : GS) (v i : Nat) : Int32 := if i = 0 then 0 else G.2 10 (128 * v + i)
def pushM (G : GS) (v w k e a b : Nat) : GS := gN (gN (gN (gN (gN (gN (gN G 21 (G.1 20 0) v) 22 (G.1 20 0) w) 23 (G.1 20 0) k) 24 (G.1 20 0) e) 25 (G.1 20 0) a) 26 (G.1 20 0) b) 20 0 (G.1 20 0 + 1)
def snd (G : GS) (v : Nat) (w : Option Nat) (k a b : Nat) : GS := match w with
  | none => G
  | some w => if G.1 1 w = 0 ∨ G.1 3 v < G.1 3 w then G else pushM G v w k (G.1 3 v) a b
/-- the first message on a link, among the last n -/
def frF (G : GS) (v w : Nat) : Nat → Option Nat
  | 0 => none
  | n + 1 => if G.1 21 (G.1 20 0 - (n + 1)) = v ∧ G.1 22 (G.1 20 0 - (n + 1)) = w then some (G.1 20 0 - (n + 1)) else frF G v w n
def frs (G : GS) (v w : Nat) : Option Nat := frF G v w (G.1 20 0)
/-- message m struck; the shift done up to k -/
def stkT (G : GS) (m k : Nat) : GS := (fun j i => if 21 ≤ j ∧ j ≤ 26 ∧ m ≤ i ∧ i < k then G.1 j (i + 1) else if j = 20 ∧ i = 0 then G.1 20 0 - 1 else G.1 j i, G.2)
def stk (G : GS) (m : Nat) : GS := stkT G m (G.1 20 0 - 1)
def losF (w e : Nat) : Nat → GS → GS
  | 0, G => G
  | m + 1, G => if G.1 22 m = w ∧ G.1 24 m < e then losF w e m (stk G m) else losF w e m G
def los (G : GS) (w e : Nat) : GS := losF w e (G.1 20 0) G
def fin1 (G : GS) (v i : Nat) : GS := if G.1 13 (G.1 11 (128 * v + i)) = 1 ∧ G.1 12 (128 * v + i) = G.1 14 (G.1 11 (128 * v + i)) then gV (gN (gN G 13 (G.1 11 (128 * v + i)) 2) 18 (G.1 11 (128 * v + i)) i) 19 (G.1 11 (128 * v + i)) (G.2 10 (128 * v + i)) else G
def stlF (v : Nat) : Nat → Nat → GS → GS
  | 0, _, G => G
  | n + 1, i, G => stlF v n (i + 1) (fin1 G v i)
def stl (G : GS) (v : Nat) : GS := gN (stlF v (G.1 4 v - G.1 5 v) (G.1 5 v + 1) G) 5 v (G.1 4 v)
def hol (G : GS) (v k : Nat) (x : Int32) (c r : Nat) : GS := gN (gN (gV (gN (gN G 4 v (G.1 4 v + 1)) 9 (128 * v + (G.1 4 v + 1)) k) 10 (128 * v + (G.1 4 v + 1)) x) 11 (128 * v + (G.1 4 v + 1)) c) 12 (128 * v + (G.1 4 v + 1)) r
/-- word to the neighbour behind a taken update -/
def tol (G : GS) (v : Nat) : GS := if suc G v = none then snd (stl G v) v (prd G v) 2 (G.1 4 v) 0 else snd G v (suc G v) 1 (G.1 4 v) 0
def tak (G : GS) (v k : Nat) (x : Int32) (c r : Nat) : GS := tol (hol G v k x c r) v
def takF (G : GS) (v u i : Nat) : GS := tak G v (G.1 9 (128 * u + i)) (G.2 10 (128 * u + i)) (G.1 11 (128 * u + i)) (G.1 12 (128 * u + i))
def don (G : GS) (c v i : Nat) : GS := gV (gN (gN G 13 c 4) 18 c i) 19 c (valAt G v i)
def srv (G : GS) (c v : Nat) : Nat × GS := if isCl G v (G.1 15 c) = true then (5, don (gN G 17 c v) c v (clN G v (G.1 15 c))) else (6, snd (gV (gN G 17 c v) 29 c (nI v)) v (tlo G (G.1 3 v)) 3 (G.1 15 c) c)
/-- the head that takes writes: the least member of the newest configuration -/
def hdF (G : GS) (e : Nat) : Nat → Nat
  | 0 => 5
  | n + 1 => if isIn G e (4 - n) = true then 4 - n else hdF G e n
def hdo (G : GS) : Nat := hdF G (G.1 8 0) 5
/-- the number of a client's write in the log from i on, n of them -/
def fwF (G : GS) (h c : Nat) : Nat → Nat → Option Nat
  | 0, _ => none
  | n + 1, i => if G.1 11 (128 * h + i) = c ∧ G.1 12 (128 * h + i) = G.1 14 c then some i else fwF G h c n (i + 1)
def swr (G : GS) (c : Nat) : Nat × GS :=
  if G.1 1 (hdo G) = 0 ∨ prd G (hdo G) ≠ none then (0, G) else match fwF G (hdo G) c (G.1 4 (hdo G)) 1 with
  | some i => (if i ≤ G.1 5 (hdo G) then 4 else 3, G)
  | none => if 8 ≤ G.1 4 (hdo G) - G.1 5 (hdo G) ∨ 100 ≤ G.1 4 (hdo G) then (1, G) else (2, tak G (hdo G) (G.1 15 c) (G.2 16 c) c (G.1 14 c))
/-- a copy's updates taken, n of them from i on -/
def cpF (v u : Nat) : Nat → Nat → GS → GS
  | 0, _, G => G
  | n + 1, i, G => cpF v u n (i + 1) (takF G v u i)
def ans (G : GS) (w i c : Nat) : GS := don G c w (if G.1 5 w < i ∧ i ≤ G.1 4 w ∧ G.1 9 (128 * w + i) = G.1 15 c then i else clN G w (G.1 15 c))
def act (G : GS) (w v k a b : Nat) : GS :=
  if k = 1 then takF G w v a
  else if k = 2 then (if G.1 5 w < a then snd (gN G 5 w a) w (prd G w) 2 a 0 else G)
  else if k = 3 then snd G w (some v) 4 (clN G w a) b
  else if k = 4 then ans G w a b
  else cpF w v (a - G.1 4 w) (G.1 4 w + 1) G
/-- word to the neighbours of a node whose place in the chain is new to it -/
def tel (G : GS) (w : Nat) : GS := if suc G w = none then snd (stl G w) w (prd G w) 2 (G.1 4 w) 0 else snd (snd G w (suc G w) 5 (G.1 4 w) (G.1 5 w)) w (prd G w) 2 (G.1 5 w) 0
/-- the log of u copied to w, i of a done -/
def cp1 (G : GS) (w u i : Nat) : GS := gN (gN (gV (gN G 9 (128 * w + i) (G.1 9 (128 * u + i))) 10 (128 * w + i) (G.2 10 (128 * u + i))) 11 (128 * w + i) (G.1 11 (128 * u + i))) 12 (128 * w + i) (G.1 12 (128 * u + i))
def cpL (w u : Nat) : Nat → Nat → GS → GS
  | 0, _, G => G
  | n + 1, i, G => cpL w u n (i + 1) (cp1 G w u i)
def arv (G : GS) (w u a b : Nat) : GS := tel (gN (gN (gN (cpL w u a 1 G) 4 w a) 5 w b) 2 w 1) w
-- the calls
def inN (x : Int32) (n : Nat) : Bool := decide (¬ x < 0 ∧ ¬ nI n < x)
def ix (x : Int32) : Nat := x.toNatClampNeg
def svs (G : GS) (x : Int32) : Bool := inN x 5 && (G.1 1 (ix x) == 1 && G.1 2 (ix x) == 1)
def m1 : Int32 := -1
def putF (G : GS) (c k x : Int32) : Int32 × GS :=
  if (inN c 2 && inN k 3) = true then (if G.1 13 (ix c) % 2 = 1 then (-2, G) else
    let r := swr (gV (gN (gN (gN G 13 (ix c) 1) 14 (ix c) (G.1 14 (ix c) + 1)) 15 (ix c) (ix k)) 16 (ix c) x) (ix c)
    (nI r.1, r.2)) else (-1, G)
def getF (G : GS) (c v k : Int32) : Int32 × GS :=
  if (inN c 2 && (inN k 3 && inN v 5)) = true then (if G.1 13 (ix c) % 2 = 1 then (-2, G) else if svs G v = true then
    let r := srv (gV (gN (gN G 13 (ix c) 3) 15 (ix c) (ix k)) 29 (ix c) (-1)) (ix c) (ix v)
    (nI r.1, r.2) else (0, G)) else (-1, G)
def rtyF (G : GS) (c v : Int32) : Int32 × GS :=
  if inN c 2 = true then (if G.1 13 (ix c) = 0 ∨ G.1 13 (ix c) = 4 then (-3, G) else if G.1 13 (ix c) < 3 then (nI (swr G (ix c)).1, (swr G (ix c)).2)
    else if G.1 1 (G.1 17 (ix c)) = 1 then (-2, G) else if inN v 5 = true then (if svs G v = true then (nI (srv G (ix c) (ix v)).1, (srv G (ix c) (ix v)).2) else (0, G)) else (-1, G)) else (-1, G)
def staF (G : GS) (c : Int32) : Int32 := if inN c 2 = true then nI (G.1 13 (ix c)) else -1
def dnB (G : GS) (c : Int32) : Bool := inN c 2 && (G.1 13 (ix c) == 2 || G.1 13 (ix c) == 4)
def numF (G : GS) (c : Int32) : Int32 := if dnB G c = true then nI (G.1 18 (ix c)) else -1
def valF (G : GS) (c : Int32) : Int32 := if dnB G c = true then G.2 19 (ix c) else 0
def dlvN (G : GS) (v w : Nat) : Int32 × GS := match frs G v w with
  | none => (0, G)
  | some m => if G.1 3 w < G.1 24 m ∨ (G.1 24 m = G.1 3 w ∧ G.1 2 w = 0 ∧ G.1 23 m ≠ 5) then (-2, G)
    else (nI (G.1 23 m), if G.1 24 m = G.1 3 w then (if G.1 2 w = 1 then act (stk G m) w v (G.1 23 m) (G.1 25 m) (G.1 26 m) else arv (stk G m) w v (G.1 25 m) (G.1 26 m)) else stk G m)
def dlvF (G : GS) (v w : Int32) : Int32 × GS := if (inN v 5 && inN w 5) = true then dlvN G (ix v) (ix w) else (-1, G)
def wtN (G : GS) (v w : Nat) : Nat → Nat
  | 0 => 0
  | m + 1 => if G.1 21 m = v ∧ G.1 22 m = w then wtN G v w m + 1 else wtN G v w m
def wtF (G : GS) (v w : Int32) : Int32 := if (inN v 5 && inN w 5) = true then nI (wtN G (ix v) (ix w) (G.1 20 0)) else -1
/-- some node below n but v serves -/
def otN (G : GS) (v : Nat) : Nat → Bool
  | 0 => false
  | w + 1 => otN G v w || (decide (¬ w = v) && (G.1 1 w == 1 && G.1 2 w == 1))
def stpF (G : GS) (v : Int32) : Bool × GS :=
  if (inN v 5 && G.1 1 (ix v) == 1) = true then (if otN G (ix v) 6 = true then (true, los (gN (gN G 1 (ix v) 0) 28 (ix v) (G.1 27 0)) (ix v) (G.1 8 0 + 1)) else (false, G)) else (false, G)
def jnF (G : GS) : Int32 × GS := if G.1 0 0 = 6 then (-1, G) else (nI (G.1 0 0), gN (gN (gN (gN (gN G 0 0 (G.1 0 0 + 1)) 8 0 (G.1 8 0 + 1)) 7 (G.1 8 0 + 1) (G.1 7 (G.1 8 0) ||| 1 <<< G.1 0 0)) 1 (G.1 0 0) 1) 3 (G.1 0 0) (G.1 8 0 + 1))
/-- one more tick of silence for stopped members below n, and those that are gone -/
def tcS : Nat → GS → GS
  | 0, G => G
  | w + 1, G => if isIn (tcS w G) ((tcS w G).1 8 0) w = true ∧ (tcS w G).1 1 w = 0 then gN (tcS w G) 6 w ((tcS w G).1 6 w + 1) else tcS w G
def tcG (G : GS) : Nat → Nat
  | 0 => 0
  | w + 1 => if isIn G (G.1 8 0) w = true ∧ G.1 1 w = 0 ∧ 3 ≤ G.1 6 w + 1 then tcG G w ||| 1 <<< w else tcG G w
def tckF (G : GS) : Int32 × GS :=
  let G1 := gN (tcS 6 G) 27 0 (G.1 27 0 + 1)
  if tcG G 6 = 0 then (nI (G.1 8 0), G1) else (nI (G.1 8 0 + 1), gN (gN G1 8 0 (G.1 8 0 + 1)) 7 (G.1 8 0 + 1) (G.1 7 (G.1 8 0) &&& (63 - tcG G 6)))
/-- the reads that wait at v, clients below n done -/
def svR (v : Nat) : Nat → Nat → GS → GS
  | 0, _, G => G
  | n + 1, c, G => svR v n (c + 1) (if G.1 13 c = 3 ∧ G.1 17 c = v then (srv G c v).2 else G)
def adpF (G : GS) (v : Int32) : Bool × GS :=
  if (inN v 5 && (G.1 1 (ix v) == 1 && !(G.1 3 (ix v) == G.1 8 0))) = true then
    let G1 := los (gN G 3 (ix v) (G.1 8 0)) (ix v) (G.1 8 0)
    (true, if G.1 2 (ix v) = 1 then svR (ix v) 3 0 (tel G1 (ix v)) else G1) else (false, G)
/-- the k-th member from 6 - n on -/
def mbN (G : GS) (e : Nat) : Nat → Nat → Option Nat
  | 0, _ => none
  | n + 1, k => if isIn G e (5 - n) = true then (if k = 0 then some (5 - n) else mbN G e n (k - 1)) else mbN G e n k
def mbF (G : GS) (k : Int32) : Int32 := if k < 0 then -1 else oI (mbN G (G.1 8 0) 6 (ix k))
def epF (G : GS) (v : Int32) : Int32 := if (inN v 5 && G.1 1 (ix v) == 1) = true then nI (G.1 3 (ix v)) else -1
def lnF (G : GS) (v : Int32) : Int32 := if svs G v = true then nI (G.1 4 (ix v)) else -1
def stF (G : GS) (v : Int32) : Int32 := if svs G v = true then nI (G.1 5 (ix v)) else -1
/-- the version that stands 'left' places ahead, from i on, n of them; r so far -/
def vrN (G : GS) (v k : Nat) : Nat → Nat → Nat → Nat → Nat
  | 0, _, _, r => r
  | n + 1, i, left, r => if left = 0 then r else if G.1 9 (128 * v + i) = k then vrN G v k n (i + 1) (left - 1) i else vrN G v k n (i + 1) left r
def vrB (G : GS) (v k a : Int32) : Bool := svs G v && (inN k 3 && decide (¬ a < 0))
def vrX (G : GS) (v k a : Int32) : Nat := vrN G (ix v) (ix k) (G.1 4 (ix v) - G.1 5 (ix v)) (G.1 5 (ix v) + 1) (ix a) (clN G (ix v) (ix k))
def vrF (G : GS) (v k a : Int32) : Int32 := if vrB G v k a = true then nI (vrX G v k a) else -1
def lkF (G : GS) (v k a : Int32) : Int32 := if vrB G v k a = true then valAt G (ix v) (vrX G v k a) else 0
/-- bounds of the fields -/
def mbd : Nat → Nat
  | 0 => 6
  | 1 => 1
  | 2 => 1
  | 3 => 12
  | 4 => 100
  | 5 => 100
  | 6 => 600
  | 7 => 63
  | 8 => 12
  | 9 => 3
  | 11 => 2
  | 12 => 600
  | 13 => 4
  | 14 => 600
  | 15 => 3
  | 17 => 5
  | 18 => 100
  | 20 => 1399
  | 21 => 5
  | 22 => 5
  | 23 => 5
  | 24 => 12
  | 25 => 100
  | 26 => 100
  | _ => 600
def OK (G : GS) : Prop := ∀ j i, G.1 j i ≤ mbd j
theorem ok_gN {G : GS} {j i v : Nat} (h : OK G) (hv : v ≤ mbd j) : OK (gN G j i v) := by
  intro j' i'
  rw [gN_1]
  split
  · rename_i hh
    rw [hh.1]
    exact hv
  · exact h j' i'
theorem ok_gV {G : GS} {j i : Nat} {v : Int32} (h : OK G) : OK (gV G j i v) := h
-- the reference's cells
def arj (j : Nat) : Bool := decide (j < 27) && !(j == 0) && !(j == 8) && !(j == 20)
def akd (j : Nat) : Nat := if j = 1 ∨ j = 2 then 10 else 9
def msz (j : Nat) : Nat := if j < 7 then 6 else if j = 7 then 14 else if j < 13 then 768 else if j < 20 then 3 else 1400
def mv (G : GS) (j i : Nat) : Int32 := if j = 10 ∨ j = 16 ∨ j = 19 then G.2 j i else nI (G.1 j i)
def MR (o : Nat) (ad : Nat → Nat) (G : GS) (S : Sto) : Prop := sK S o = 8 ∧ (∀ j, arj j = true → sP S (256 + j) o = some (ad j) ∧ sK S (ad j) = akd j ∧ sZ S (ad j) = msz j) ∧ (∀ j j', arj j = true → arj j' = true → ad j = ad j' → j = j') ∧ (sI S 256 o = nI (G.1 0 0) ∧ sI S 264 o = nI (G.1 8 0) ∧ sI S 276 o = nI (G.1 20 0)) ∧ ∀ j i, arj j = true → i < msz j → sE S (akd j) (ad j) i = mv G j i
theorem MR.same {o : Nat} {ad : Nat → Nat} {G G' : GS} {S : Sto} (h : MR o ad G S) (h1 : ∀ j, j < 27 → G'.1 j = G.1 j) (h2 : ∀ j, j < 27 → G'.2 j = G.2 j) : MR o ad G' S := by
  refine ⟨h.1, h.2.1, h.2.2.1, ?_, fun j i hj hi => ?_⟩
  · rw [h1 0 (by decide), h1 8 (by decide), h1 20 (by decide)]; exact h.2.2.2.1
  · have hj' : j < 27 := by
      simp only [arj, Bool.and_eq_true, decide_eq_true_eq] at hj
      exact hj.1.1.1
    rw [h.2.2.2.2 j i hj hi]
    unfold mv
    rw [h1 j hj', h2 j hj']
theorem MR.setN {o : Nat} {ad : Nat → Nat} {G : GS} {S : Sto} {j i v : Nat} (h : MR o ad G S) (hj : arj j = true) (hv : ¬ (j = 10 ∨ j = 16 ∨ j = 19)) : MR o ad (gN G j i v) (setE S (akd j) (ad j) i (nI v)) := by
  have n0 : ¬ (0 = j ∧ 0 = i) := fun z => by rw [← z.1] at hj; cases hj
  have n8 : ¬ (8 = j ∧ 0 = i) := fun z => by rw [← z.1] at hj; cases hj
  have n20 : ¬ (20 = j ∧ 0 = i) := fun z => by rw [← z.1] at hj; cases hj
  refine ⟨h.1, h.2.1, h.2.2.1, ?_, fun j' i' hj' hi' => ?_⟩
  · rw [gN_1, gN_1, gN_1, if_neg n0, if_neg n8, if_neg n20]; exact h.2.2.2.1
  · by_cases hjj : j' = j
    · subst hjj
      by_cases hii : i' = i
      · subst hii
        simp [setE, sE, up3, mv, hv, gN_1]
      · have := h.2.2.2.2 j' i' hj' hi'
        simp only [mv, if_neg hv] at this
        simp [setE, sE, up3, mv, hv, gN_1, hii]
        exact this
    · have hne : ad j' ≠ ad j := fun z => hjj (h.2.2.1 j' j hj' hj z)
      have := h.2.2.2.2 j' i' hj' hi'
      simp only [setE, sE, up3, hne, hjj, mv, gN_1, gN_2, false_and, and_false, if_false] at this ⊢
      exact this
theorem MR.setV {o : Nat} {ad : Nat → Nat} {G : GS} {S : Sto} {j i : Nat} {v : Int32} (h : MR o ad G S) (hj : arj j = true) (hv : j = 10 ∨ j = 16 ∨ j = 19) : MR o ad (gV G j i v) (setE S (akd j) (ad j) i v) := by
  refine ⟨h.1, h.2.1, h.2.2.1, h.2.2.2.1, fun j' i' hj' hi' => ?_⟩
  by_cases hjj : j' = j
  · subst hjj
    by_cases hii : i' = i
    · subst hii
      simp [setE, sE, up3, mv, hv, gV_2]
    · have := h.2.2.2.2 j' i' hj' hi'
      simp only [mv, if_pos hv] at this
      simp [setE, sE, up3, mv, hv, gV_2, hii]
      exact this
  · have hne : ad j' ≠ ad j := fun z => hjj (h.2.2.1 j' j hj' hj z)
    have := h.2.2.2.2 j' i' hj' hi'
    simp only [setE, sE, up3, hne, hjj, mv, gV_1, gV_2, false_and, and_false, if_false] at this ⊢
    exact this
theorem MR.setS {o : Nat} {ad : Nat → Nat} {G : GS} {S : Sto} {j v : Nat} (h : MR o ad G S) (hj : j = 0 ∨ j = 8 ∨ j = 20) : MR o ad (gN G j 0 v) (setI S (256 + j) o (nI v)) := by
  refine ⟨h.1, h.2.1, h.2.2.1, ?_, fun j' i' hj' hi' => ?_⟩
  · have hh := h.2.2.2.1
    rcases hj with rfl | rfl | rfl <;> simp [setI, sI, up2, gN_1] <;> simp [sI] at hh <;> simp [hh]
  · have hne : ¬ (j' = j ∧ i' = 0) := fun z => by
      rw [z.1] at hj'
      rcases hj with rfl | rfl | rfl <;> cases hj'
    have := h.2.2.2.2 j' i' hj' hi'
    simp only [mv, gN_1, gN_2, if_neg hne] at this ⊢
    exact this
section ROWS
variable {F : Fx} {cc : ByteArray} {own : String} {pc pc' tgt : Nat} {lv : List (Option Value)} {st : List Value} {S : Sto} {cs ss : Nat} {dF cF sF : Nat} {o : Nat} {ad : Nat → Nat} {G : GS}
theorem wm_arr (C : Cx F cc own dF cF sF) (hR : MR o ad G S) (j : Nat) {idx : Nat} (d : At cc pc (.getfield idx) 3 pc') (h : FLs own idx (256 + j)) (hj : arj j = true) (hr : rfk (256 + j) = true) (h8 : (256 + j) / 32 = 8) (k : WS F pc' lv (.ref (ad j) :: st) S cs ss) : WS F pc lv (.ref o :: st) S cs ss :=
  ws_getP C d h hr (hR.1.trans h8.symm) (hR.2.1 j hj).1 k
theorem wm_0 (C : Cx F cc own dF cF sF) (hR : MR o ad G S) {idx : Nat} (d : At cc pc (.getfield idx) 3 pc') (h : FLs own idx 256) (k : WS F pc' lv (.int (nI (G.1 0 0)) :: st) S cs ss) : WS F pc lv (.ref o :: st) S cs ss :=
  ws_getI C d h rfl hR.1 (hR.2.2.2.1.1 ▸ k)
theorem wm_8 (C : Cx F cc own dF cF sF) (hR : MR o ad G S) {idx : Nat} (d : At cc pc (.getfield idx) 3 pc') (h : FLs own idx 264) (k : WS F pc' lv (.int (nI (G.1 8 0)) :: st) S cs ss) : WS F pc lv (.ref o :: st) S cs ss :=
  ws_getI C d h rfl hR.1 (hR.2.2.2.1.2.1 ▸ k)
theorem wm_20 (C : Cx F cc own dF cF sF) (hR : MR o ad G S) {idx : Nat} (d : At cc pc (.getfield idx) 3 pc') (h : FLs own idx 276) (k : WS F pc' lv (.int (nI (G.1 20 0)) :: st) S cs ss) : WS F pc lv (.ref o :: st) S cs ss :=
  ws_getI C d h rfl hR.1 (hR.2.2.2.1.2.2 ▸ k)
theorem msz_lt (j : Nat) : msz j < 2 ^ 31 := by
  unfold msz
  split
  · decide
  · split
    · decide
    · split
      · decide
      · split <;> decide
theorem wm_ald (C : Cx F cc own dF cF sF) (hR : MR o ad G S) (j : Nat) {i : Nat} (d : At cc pc .iaload 1 pc') (hj : arj j = true) (hk : akd j = 9) (hi : i < msz j) (k : WS F pc' lv (.int (mv G j i) :: st) S cs ss) : WS F pc lv (.int (nI i) :: .ref (ad j) :: st) S cs ss := by
  obtain ⟨-, h2, h3⟩ := hR.2.1 j hj
  have e := hR.2.2.2.2 j i hj hi
  rw [hk] at e h2
  exact ws_iald C d h2 (by rw [h3]; exact hi) (by rw [h3]; exact msz_lt j) (e ▸ k)
theorem wm_zld (C : Cx F cc own dF cF sF) (hR : MR o ad G S) (j : Nat) {i : Nat} (d : At cc pc .baload 1 pc') (hj : arj j = true) (hk : akd j = 10) (hi : i < msz j) (k : WS F pc' lv (.int (mv G j i) :: st) S cs ss) : WS F pc lv (.int (nI i) :: .ref (ad j) :: st) S cs ss := by
  obtain ⟨-, h2, h3⟩ := hR.2.1 j hj
  have e := hR.2.2.2.2 j i hj hi
  rw [hk] at e h2
  exact ws_zald C d h2 (by rw [h3]; exact hi) (by rw [h3]; exact msz_lt j) (e ▸ k)
theorem wm_aldN (C : Cx F cc own dF cF sF) (hR : MR o ad G S) (j : Nat) {i : Nat} (d : At cc pc .iaload 1 pc') (hj : arj j = true) (hk : akd j = 9) (hv : ¬ (j = 10 ∨ j = 16 ∨ j = 19)) (hi : i < msz j) (k : WS F pc' lv (.int (nI (G.1 j i)) :: st) S cs ss) : WS F pc lv (.int (nI i) :: .ref (ad j) :: st) S cs ss :=
  wm_ald C hR j d hj hk hi (by unfold mv; rw [if_neg hv]; exact k)
theorem wm_aldV (C : Cx F cc own dF cF sF) (hR : MR o ad G S) (j : Nat) {i : Nat} (d : At cc pc .iaload 1 pc') (hj : arj j = true) (hk : akd j = 9) (hv : j = 10 ∨ j = 16 ∨ j = 19) (hi : i < msz j) (k : WS F pc' lv (.int (G.2 j i) :: st) S cs ss) : WS F pc lv (.int (nI i) :: .ref (ad j) :: st) S cs ss :=
  wm_ald C hR j d hj hk hi (by unfold mv; rw [if_pos hv]; exact k)
theorem wm_zldN (C : Cx F cc own dF cF sF) (hR : MR o ad G S) (j : Nat) {i : Nat} (d : At cc pc .baload 1 pc') (hj : arj j = true) (hk : akd j = 10) (hv : ¬ (j = 10 ∨ j = 16 ∨ j = 19)) (hi : i < msz j) (k : WS F pc' lv (.int (nI (G.1 j i)) :: st) S cs ss) : WS F pc lv (.int (nI i) :: .ref (ad j) :: st) S cs ss :=
  wm_zld C hR j d hj hk hi (by unfold mv; rw [if_neg hv]; exact k)
theorem wm_astN (C : Cx F cc own dF cF sF) (hR : MR o ad G S) (j : Nat) {i v : Nat} (d : At cc pc .iastore 1 pc') (hj : arj j = true) (hk : akd j = 9) (hv : ¬ (j = 10 ∨ j = 16 ∨ j = 19)) (hi : i < msz j) (k : ∀ S' : Sto, MR o ad (gN G j i v) S' → WS F pc' lv st S' cs ss) : WS F pc lv (.int (nI v) :: .int (nI i) :: .ref (ad j) :: st) S cs ss := by
  obtain ⟨-, h2, h3⟩ := hR.2.1 j hj
  have e := hR.setN (i := i) (v := v) hj hv
  rw [hk] at e h2
  exact ws_iast C d h2 (by rw [h3]; exact hi) (by rw [h3]; exact msz_lt j) (k _ e)
theorem wm_astV (C : Cx F cc own dF cF sF) (hR : MR o ad G S) (j : Nat) {i : Nat} {v : Int32} (d : At cc pc .iastore 1 pc') (hj : arj j = true) (hk : akd j = 9) (hv : j = 10 ∨ j = 16 ∨ j = 19) (hi : i < msz j) (k : ∀ S' : Sto, MR o ad (gV G j i v) S' → WS F pc' lv st S' cs ss) : WS F pc lv (.int v :: .int (nI i) :: .ref (ad j) :: st) S cs ss := by
  obtain ⟨-, h2, h3⟩ := hR.2.1 j hj
  have e := hR.setV (i := i) (v := v) hj hv
  rw [hk] at e h2
  exact ws_iast C d h2 (by rw [h3]; exact hi) (by rw [h3]; exact msz_lt j) (k _ e)
theorem wm_zst (C : Cx F cc own dF cF sF) (hR : MR o ad G S) (j : Nat) {i v : Nat} (d : At cc pc .bastore 1 pc') (hj : arj j = true) (hk : akd j = 10) (hv : ¬ (j = 10 ∨ j = 16 ∨ j = 19)) (hi : i < msz j) (hx : v = 0 ∨ v = 1) (k : ∀ S' : Sto, MR o ad (gN G j i v) S' → WS F pc' lv st S' cs ss) : WS F pc lv (.int (nI v) :: .int (nI i) :: .ref (ad j) :: st) S cs ss := by
  obtain ⟨-, h2, h3⟩ := hR.2.1 j hj
  have e := hR.setN (i := i) (v := v) hj hv
  rw [hk] at e h2
  exact ws_zast C d (by rcases hx with rfl | rfl <;> decide) h2 (by rw [h3]; exact hi) (by rw [h3]; exact msz_lt j) (k _ e)
theorem wm_put (C : Cx F cc own dF cF sF) (hR : MR o ad G S) (j : Nat) {v idx : Nat} (hj : j = 0 ∨ j = 8 ∨ j = 20) (d : At cc pc (.putfield idx) 3 pc') (h : FLs own idx (256 + j)) (k : ∀ S' : Sto, MR o ad (gN G j 0 v) S' → WS F pc' lv st S' cs ss) : WS F pc lv (.int (nI v) :: .ref o :: st) S cs ss := by
  have e := hR.setS (v := v) hj
  rcases hj with rfl | rfl | rfl
  · exact ws_putI C d h rfl rfl ⟨rfl, rfl⟩ hR.1 (k _ e)
  · exact ws_putI C d h rfl rfl ⟨rfl, rfl⟩ hR.1 (k _ e)
  · exact ws_putI C d h rfl rfl ⟨rfl, rfl⟩ hR.1 (k _ e)
end ROWS
end
section
/-! answers of contracts; calls by the kind of answer -/
def Pi (r : Int32) (P : Sto → Prop) : Option Value → Sto → Prop := fun v S' => v = some (.int r) ∧ P S'
def Pv (P : Sto → Prop) : Option Value → Sto → Prop := fun v S' => v = none ∧ P S'
def Pr (x : Option Nat) (P : Sto → Prop) : Option Value → Sto → Prop := fun v S' => v = some (va_rf x) ∧ P S'
theorem inc1 (x : Nat) : nI x + Int32.ofInt 1 = nI (x + 1) := (nI_succ x).symm
theorem dec1 {x : Nat} (h : 0 < x) : nI x + Int32.ofInt (-1) = nI (x - 1) := by
  obtain ⟨y, rfl⟩ : ∃ y, x = y + 1 := ⟨x - 1, by omega⟩
  have e : Int32.ofInt (-1) = -1 := by decide
  rw [e, Nat.add_sub_cancel, nI_succ, Int32.add_assoc]
  have : (1 : Int32) + -1 = 0 := by decide
  rw [this, Int32.add_zero]
theorem okl {G : GS} (h : OK G) (j i : Nat) : G.1 j i < 2 ^ 31 := by
  have h1 := h j i
  have h2 : mbd j ≤ 1399 := by
    unfold mbd
    split <;> decide
  omega
section ROWS
variable {F : Fx} {cc : ByteArray} {own : String} {pc pc' tgt : Nat} {lv : List (Option Value)} {st : List Value} {S : Sto} {cs ss : Nat} {dF cF sF : Nat} {mi : MI} {mc ms : Nat} {P : Sto → Prop}
theorem ws_callVi (C : Cx F cc own dF cF sF) {idx kd n b : Nat} {As rest : List Value} {r : Int32} (hw0 : cV own idx kd mi n) (hM : CT F.1 mi mc ms (.ref b :: As) S (Pi r P)) (d : At cc pc (.invokevirtual idx) 3 pc') (hst : st = As.reverse ++ .ref b :: rest) (hn : As.length = n) (hb : sK S b = kd) (hroom : (rest.map fun v => v.category).sum ≤ 8) (hd : mi.2.2.2.2 < dF) (hc : cs + mc ≤ cF) (hs : ss + ms ≤ sF)
    (k : ∀ S' : Sto, P S' → WS F pc' lv (.int r :: rest) S' (cs + mc) (ss + ms)) : WS F pc lv st S cs ss :=
  ws_callV C hw0 hM d hst hn hb hroom hd hc hs (fun v S' h => by obtain ⟨rfl, h⟩ := h; exact k S' h)
theorem ws_callVv (C : Cx F cc own dF cF sF) {idx kd n b : Nat} {As rest : List Value} (hw0 : cV own idx kd mi n) (hM : CT F.1 mi mc ms (.ref b :: As) S (Pv P)) (d : At cc pc (.invokevirtual idx) 3 pc') (hst : st = As.reverse ++ .ref b :: rest) (hn : As.length = n) (hb : sK S b = kd) (hroom : (rest.map fun v => v.category).sum ≤ 8) (hd : mi.2.2.2.2 < dF) (hc : cs + mc ≤ cF) (hs : ss + ms ≤ sF)
    (k : ∀ S' : Sto, P S' → WS F pc' lv rest S' (cs + mc) (ss + ms)) : WS F pc lv st S cs ss :=
  ws_callV C hw0 hM d hst hn hb hroom hd hc hs (fun v S' h => by obtain ⟨rfl, h⟩ := h; exact k S' h)
theorem ws_callVr (C : Cx F cc own dF cF sF) {idx kd n b : Nat} {As rest : List Value} {x : Option Nat} (hw0 : cV own idx kd mi n) (hM : CT F.1 mi mc ms (.ref b :: As) S (Pr x P)) (d : At cc pc (.invokevirtual idx) 3 pc') (hst : st = As.reverse ++ .ref b :: rest) (hn : As.length = n) (hb : sK S b = kd) (hroom : (rest.map fun v => v.category).sum ≤ 8) (hd : mi.2.2.2.2 < dF) (hc : cs + mc ≤ cF) (hs : ss + ms ≤ sF)
    (k : ∀ S' : Sto, P S' → WS F pc' lv (va_rf x :: rest) S' (cs + mc) (ss + ms)) : WS F pc lv st S cs ss :=
  ws_callV C hw0 hM d hst hn hb hroom hd hc hs (fun v S' h => by obtain ⟨rfl, h⟩ := h; exact k S' h)
theorem ws_callSi (C : Cx F cc own dF cF sF) {idx n : Nat} {As rest : List Value} {r : Int32} (hw0 : cS own idx mi n) (hM : CT F.1 mi mc ms As S (Pi r P)) (d : At cc pc (.invokestatic idx) 3 pc') (hst : st = As.reverse ++ rest) (hn : As.length = n) (hroom : (rest.map fun v => v.category).sum ≤ 8) (hd : mi.2.2.2.2 < dF) (hc : cs + mc ≤ cF) (hs : ss + ms ≤ sF)
    (k : ∀ S' : Sto, P S' → WS F pc' lv (.int r :: rest) S' (cs + mc) (ss + ms)) : WS F pc lv st S cs ss :=
  ws_callS C hw0 hM d hst hn hroom hd hc hs (fun v S' h => by obtain ⟨rfl, h⟩ := h; exact k S' h)
theorem ws_callSv (C : Cx F cc own dF cF sF) {idx n : Nat} {As rest : List Value} (hw0 : cS own idx mi n) (hM : CT F.1 mi mc ms As S (Pv P)) (d : At cc pc (.invokestatic idx) 3 pc') (hst : st = As.reverse ++ rest) (hn : As.length = n) (hroom : (rest.map fun v => v.category).sum ≤ 8) (hd : mi.2.2.2.2 < dF) (hc : cs + mc ≤ cF) (hs : ss + ms ≤ sF)
    (k : ∀ S' : Sto, P S' → WS F pc' lv rest S' (cs + mc) (ss + ms)) : WS F pc lv st S cs ss :=
  ws_callS C hw0 hM d hst hn hroom hd hc hs (fun v S' h => by obtain ⟨rfl, h⟩ := h; exact k S' h)
theorem ws_callSr (C : Cx F cc own dF cF sF) {idx n : Nat} {As rest : List Value} {x : Option Nat} (hw0 : cS own idx mi n) (hM : CT F.1 mi mc ms As S (Pr x P)) (d : At cc pc (.invokestatic idx) 3 pc') (hst : st = As.reverse ++ rest) (hn : As.length = n) (hroom : (rest.map fun v => v.category).sum ≤ 8) (hd : mi.2.2.2.2 < dF) (hc : cs + mc ≤ cF) (hs : ss + ms ≤ sF)
    (k : ∀ S' : Sto, P S' → WS F pc' lv (va_rf x :: rest) S' (cs + mc) (ss + ms)) : WS F pc lv st S cs ss :=
  ws_callS C hw0 hM d hst hn hroom hd hc hs (fun v S' h => by obtain ⟨rfl, h⟩ := h; exact k S' h)
theorem ws_callIv (C : Cx F cc own dF cF sF) {idx n b : Nat} {As rest : List Value} (hw0 : cI own idx mi n) (hM : CT F.1 mi mc ms (.ref b :: As) S (Pv P)) (d : At cc pc (.invokespecial idx) 3 pc') (hst : st = As.reverse ++ .ref b :: rest) (hn : As.length = n) (hroom : (rest.map fun v => v.category).sum ≤ 8) (hd : mi.2.2.2.2 < dF) (hc : cs + mc ≤ cF) (hs : ss + ms ≤ sF)
    (k : ∀ S' : Sto, P S' → WS F pc' lv rest S' (cs + mc) (ss + ms)) : WS F pc lv st S cs ss :=
  ws_callI C hw0 hM d hst hn hroom hd hc hs (fun v S' h => by obtain ⟨rfl, h⟩ := h; exact k S' h)
end ROWS
end
section
/-! the reference: its leaves -/
theorem nI_one : nI 1 = 1 := by decide
theorem bI01 (b : Bool) : bI b = 0 ∨ bI b = 1 := by cases b <;> decide
set_option maxHeartbeats 4000000 in
set_option maxRecDepth 100000 in
theorem c_M_outside {V : Ev} {S : Sto} {P : Sto → Prop} (hP : P S) (x : Int32) (n : Nat) : CT V mi_M_outside 0 0 [.int x, .int (nI n)] S (Pi (bI (!inN x n)) P) := by
  refine CT.of (cc := prog_8_method_2_code) (own := "ChainVersionsModel") (nL := 2) (d := 0) (by decide) rfl rfl rfl rfl (by simp [Value.category]) (Nat.le_of_ble_eq_true rfl) rfl ?_
  intro F hV hn C R
  subst hV
  refine ws_iload_n C d_M_outside_0 rfl ?_
  refine ws_if_lt C d_M_outside_1 (fun h1 => ?_) (fun h1 => ?_)
  · refine ws_iconst C (nI 1) d_M_outside_9 (by decide) ?_
    refine ws_goto C d_M_outside_10 ?_
    exact ws_zret C R d_M_outside_14 rfl (by decide) (by decide) (by decide) ⟨by simp [inN, bI, nI_0, nI_one, *], hP⟩
  · refine ws_iload_n C d_M_outside_4 rfl ?_
    refine ws_iload_n C d_M_outside_5 rfl ?_
    refine ws_icmp_le C d_M_outside_6 (fun h6 => ?_) (fun h6 => ?_)
    · refine ws_iconst C (nI 0) d_M_outside_13 (by decide) ?_
      exact ws_zret C R d_M_outside_14 rfl (by decide) (by decide) (by decide) ⟨by simp [inN, bI, nI_0, nI_one, *], hP⟩
    · refine ws_iconst C (nI 1) d_M_outside_9 (by decide) ?_
      refine ws_goto C d_M_outside_10 ?_
      exact ws_zret C R d_M_outside_14 rfl (by decide) (by decide) (by decide) ⟨by simp [inN, bI, nI_0, nI_one, *], hP⟩
theorem isb (m : Nat) (hm : m ≤ 63) (w : Nat) (hw : w ≤ 5) : ((nI m >>> (nI w &&& 31)) &&& nI 1 = nI 1) ↔ m.testBit w = true := by
  have : ∀ m, m < 64 → ∀ w, w < 6 → (((nI m >>> (nI w &&& 31)) &&& nI 1 = nI 1) ↔ m.testBit w = true) := by decide +kernel
  exact this m (by omega) w (by omega)
theorem isb_f {G : GS} {e w : Nat} (hm : G.1 7 e ≤ 63) (hw : w ≤ 5) (h : ¬ (nI (G.1 7 e) >>> (nI w &&& 31)) &&& nI 1 = nI 1) : bI (isIn G e w) = nI 0 := by
  have : isIn G e w = false := by
    cases h9 : isIn G e w with
    | false => rfl
    | true => exact absurd ((isb _ hm w hw).mpr h9) h
  rw [this]; rfl
theorem isb_t {G : GS} {e w : Nat} (hm : G.1 7 e ≤ 63) (hw : w ≤ 5) (h : (nI (G.1 7 e) >>> (nI w &&& 31)) &&& nI 1 = nI 1) : bI (isIn G e w) = nI 1 := by
  have : isIn G e w = true := (isb _ hm w hw).mp h
  rw [this]; rfl
set_option maxHeartbeats 4000000 in
set_option maxRecDepth 100000 in
theorem c_M_isIn {V : Ev} {o : Nat} {ad : Nat → Nat} {G : GS} {S : Sto} (hR : MR o ad G S) (hO : OK G) {e w : Nat} (he : e ≤ 13) (hw : w ≤ 5) : CT V mi_M_isIn 0 0 [.ref o, .int (nI e), .int (nI w)] S (Pi (bI (isIn G e w)) (MR o ad G)) := by
  refine CT.of (cc := prog_8_method_3_code) (own := "ChainVersionsModel") (nL := 3) (d := 0) (by decide) rfl rfl rfl rfl (by simp [Value.category]) (Nat.le_of_ble_eq_true rfl) rfl ?_
  intro F hV hn C R
  subst hV
  have hm : G.1 7 e ≤ 63 := hO 7 e
  refine ws_aload_n C d_M_isIn_0 rfl ?_
  refine wm_arr C hR 7 d_M_isIn_1 f_M_29 rfl rfl rfl ?_
  refine ws_iload_n C d_M_isIn_4 rfl ?_
  refine wm_aldN C hR 7 d_M_isIn_5 rfl rfl (by decide) (show _ < 14 by omega) ?_
  refine ws_iload_n C d_M_isIn_6 rfl ?_
  refine ws_ishr C d_M_isIn_7 ?_
  refine ws_iconst C (nI 1) d_M_isIn_8 (by decide) ?_
  refine ws_iand C d_M_isIn_9 ?_
  refine ws_iconst C (nI 1) d_M_isIn_10 (by decide) ?_
  refine ws_icmp_ne C d_M_isIn_11 (fun h11 => ?_) (fun h11 => ?_)
  · refine ws_iconst C (nI 0) d_M_isIn_18 (by decide) ?_
    exact ws_zret C R d_M_isIn_19 rfl (by decide) (by decide) (by decide) ⟨by first | rw [isb_t hm hw h11] | rw [isb_f hm hw h11], hR⟩
  · refine ws_iconst C (nI 1) d_M_isIn_14 (by decide) ?_
    refine ws_goto C d_M_isIn_15 ?_
    exact ws_zret C R d_M_isIn_19 rfl (by decide) (by decide) (by decide) ⟨by first | rw [isb_t hm hw h11] | rw [isb_f hm hw h11], hR⟩
set_option maxHeartbeats 4000000 in
set_option maxRecDepth 100000 in
theorem c_M_predecessor {V : Ev} {o : Nat} {ad : Nat → Nat} {G : GS} {S : Sto} (hR : MR o ad G S) (hO : OK G) {v : Nat} (hv : v ≤ 5) : CT V mi_M_predecessor 0 0 [.ref o, .int (nI v)] S (Pi (oI (prd G v)) (MR o ad G)) := by
  refine CT.of (cc := prog_8_method_4_code) (own := "ChainVersionsModel") (nL := 3) (d := 1) (by decide) rfl rfl rfl rfl (by simp [Value.category]) (Nat.le_of_ble_eq_true rfl) rfl ?_
  intro F hV hn C R
  subst hV
  have hb3 : G.1 3 v ≤ 12 := hO 3 v
  refine ws_iload_n C d_M_predecessor_0 rfl ?_
  refine ws_iconst C (nI 1) d_M_predecessor_1 (by decide) ?_
  refine ws_isub C d_M_predecessor_2 ?_
  refine ws_istore_n C d_M_predecessor_3 (by rw [hn]; decide) ?_
  suffices hL : ∀ n, n ≤ 5 → prdF G (G.1 3 v) n = prd G v → ∀ S : Sto, MR o ad G S → ∀ x : Int32, x = nI n - nI 1 → WS F 4 [some (.ref o), some (.int (nI v)), some (.int x)] [] S 0 0 from hL v hv rfl S hR _ rfl
  intro n
  induction n with
  | zero =>
    intro _ hp S hR x hx
    subst hx
    refine ws_iload_n C d_M_predecessor_4 rfl ?_
    refine ws_if_lt C d_M_predecessor_5 (fun _ => ?_) (fun h => absurd (by decide) h)
    refine ws_iconst C (-1) d_M_predecessor_30 (by decide) ?_
    exact ws_iret C R d_M_predecessor_31 rfl (by decide) (by decide) ⟨by rw [← hp]; rfl, hR⟩
  | succ n ih =>
    intro hn5 hp S hR x hx
    have hx1 : x = nI n := by rw [hx, nI_sub (by omega)]; rfl
    subst hx1
    refine ws_iload_n C d_M_predecessor_4 rfl ?_
    refine ws_if_ltN C d_M_predecessor_5 (by omega) ?_
    refine ws_aload_n C d_M_predecessor_8 rfl ?_
    refine ws_aload_n C d_M_predecessor_9 rfl ?_
    refine wm_arr C hR 3 d_M_predecessor_10 f_M_16 rfl rfl rfl ?_
    refine ws_iload_n C d_M_predecessor_13 rfl ?_
    refine wm_aldN C hR 3 d_M_predecessor_14 rfl rfl (by decide) (show _ < 6 by omega) ?_
    refine ws_iload_n C d_M_predecessor_15 rfl ?_
    refine ws_callVi C w_M_90 (As := [_, _]) (c_M_isIn hR hO (by omega) (by omega)) d_M_predecessor_16 rfl rfl hR.1 (Nat.le_of_ble_eq_true rfl) (by decide) (by decide) (by decide) (fun S hR => ?_)
    refine ws_if_eqB C d_M_predecessor_19 (fun h19 => ?_) (fun h19 => ?_)
    · refine ws_iinc C (nI n - nI 1) d_M_predecessor_24 rfl (by rw [Int32.sub_eq_add_neg]; rfl) (by rw [hn]; decide) ?_
      refine ws_goto C d_M_predecessor_27 ?_
      exact ih (by omega) (by rw [← hp, prdF, if_neg (by rw [h19]; decide)]) S hR _ rfl
    · refine ws_iload_n C d_M_predecessor_22 rfl ?_
      exact ws_iret C R d_M_predecessor_23 rfl (by decide) (by decide) ⟨by rw [← hp, prdF, if_pos h19]; rfl, hR⟩
end
section
/-! the reference: members of configurations, logs, messages -/
set_option maxHeartbeats 4000000 in
set_option maxRecDepth 100000 in
theorem c_M_successor {V : Ev} {o : Nat} {ad : Nat → Nat} {G : GS} {S : Sto} (hR : MR o ad G S) (hO : OK G) {v : Nat} (hv : v ≤ 5) : CT V mi_M_successor 0 0 [.ref o, .int (nI v)] S (Pi (oI (suc G v)) (MR o ad G)) := by
  refine CT.of (cc := prog_8_method_5_code) (own := "ChainVersionsModel") (nL := 3) (d := 1) (by decide) rfl rfl rfl rfl (by simp [Value.category]) (Nat.le_of_ble_eq_true rfl) rfl ?_
  intro F hV hn C R
  subst hV
  have hb3 : G.1 3 v ≤ 12 := hO 3 v
  refine ws_iload_n C d_M_successor_0 rfl ?_
  refine ws_iconst C (nI 1) d_M_successor_1 (by decide) ?_
  refine ws_iaddN C d_M_successor_2 ?_
  refine ws_istore_n C d_M_successor_3 (by rw [hn]; decide) ?_
  suffices hL : ∀ n, n ≤ 5 → sucF G (G.1 3 v) n = suc G v → ∀ S : Sto, MR o ad G S → WS F 4 [some (.ref o), some (.int (nI v)), some (.int (nI (6 - n)))] [] S 0 0 from by
    have h6 : v + 1 = 6 - (5 - v) := by omega
    rw [h6]
    exact hL (5 - v) (by omega) rfl S hR
  intro n
  induction n with
  | zero =>
    intro _ hp S hR
    refine ws_iload_n C d_M_successor_4 rfl ?_
    refine ws_bipush C (nI 6) d_M_successor_5 (by decide) ?_
    refine ws_icmp_geN C d_M_successor_7 (by omega) (by omega) (fun h7 => ?_) (fun h7 => ?_)
    · refine ws_iconst C (-1) d_M_successor_32 (by decide) ?_
      exact ws_iret C R d_M_successor_33 rfl (by decide) (by decide) ⟨by rw [← hp]; rfl, hR⟩
    · omega
  | succ n ih =>
    intro hn5 hp S hR
    have e5 : 6 - (n + 1) = 5 - n := by omega
    rw [e5]
    refine ws_iload_n C d_M_successor_4 rfl ?_
    refine ws_bipush C (nI 6) d_M_successor_5 (by decide) ?_
    refine ws_icmp_geN C d_M_successor_7 (by omega) (by omega) (fun h7 => ?_) (fun h7 => ?_)
    · omega
    · refine ws_aload_n C d_M_successor_10 rfl ?_
      refine ws_aload_n C d_M_successor_11 rfl ?_
      refine wm_arr C hR 3 d_M_successor_12 f_M_16 rfl rfl rfl ?_
      refine ws_iload_n C d_M_successor_15 rfl ?_
      refine wm_aldN C hR 3 d_M_successor_16 rfl rfl (by decide) (show _ < 6 by omega) ?_
      refine ws_iload_n C d_M_successor_17 rfl ?_
      refine ws_callVi C w_M_90 (As := [_, _]) (c_M_isIn hR hO (by omega) (by omega)) d_M_successor_18 rfl rfl hR.1 (Nat.le_of_ble_eq_true rfl) (by decide) (by decide) (by decide) (fun S hR => ?_)
      refine ws_if_eqB C d_M_successor_21 (fun h21 => ?_) (fun h21 => ?_)
      · refine ws_iinc C _ d_M_successor_26 rfl (inc1 _) (by rw [hn]; decide) ?_
        refine ws_goto C d_M_successor_29 ?_
        rw [show 5 - n + 1 = 6 - n by omega]
        exact ih (by omega) (by rw [← hp, sucF, if_neg (by rw [h21]; decide)]) S hR
      · refine ws_iload_n C d_M_successor_24 rfl ?_
        exact ws_iret C R d_M_successor_25 rfl (by decide) (by decide) ⟨by rw [← hp, sucF, if_pos h21]; rfl, hR⟩
set_option maxHeartbeats 4000000 in
set_option maxRecDepth 100000 in
theorem c_M_tailOf {V : Ev} {o : Nat} {ad : Nat → Nat} {G : GS} {S : Sto} (hR : MR o ad G S) (hO : OK G) {e : Nat} (he : e ≤ 13) : CT V mi_M_tailOf 0 0 [.ref o, .int (nI e)] S (Pi (oI (tlo G e)) (MR o ad G)) := by
  refine CT.of (cc := prog_8_method_6_code) (own := "ChainVersionsModel") (nL := 4) (d := 1) (by decide) rfl rfl rfl rfl (by simp [Value.category]) (Nat.le_of_ble_eq_true rfl) rfl ?_
  intro F hV hn C R
  subst hV
  refine ws_iconst C (-1) d_M_tailOf_0 (by decide) ?_
  refine ws_istore_n C d_M_tailOf_1 (by rw [hn]; decide) ?_
  refine ws_iconst C (nI 0) d_M_tailOf_2 (by decide) ?_
  refine ws_istore_n C d_M_tailOf_3 (by rw [hn]; decide) ?_
  suffices hL : ∀ n w, w + n = 6 → ∀ S : Sto, MR o ad G S → WS F 4 [some (.ref o), some (.int (nI e)), some (.int (oI (prdF G e w))), some (.int (nI w))] [] S 0 0 from hL 6 0 rfl S hR
  intro n
  induction n with
  | zero =>
    intro w hw S hR
    have hw : w = 6 := by omega
    subst hw
    refine ws_iload_n C d_M_tailOf_4 rfl ?_
    refine ws_bipush C (nI 6) d_M_tailOf_5 (by decide) ?_
    refine ws_icmp_geN C d_M_tailOf_7 (by omega) (by omega) (fun h7 => ?_) (fun h7 => ?_)
    · refine ws_iload_n C d_M_tailOf_31 rfl ?_
      exact ws_iret C R d_M_tailOf_32 rfl (by decide) (by decide) ⟨rfl, hR⟩
    · omega
  | succ n ih =>
    intro w hw S hR
    refine ws_iload_n C d_M_tailOf_4 rfl ?_
    refine ws_bipush C (nI 6) d_M_tailOf_5 (by decide) ?_
    refine ws_icmp_geN C d_M_tailOf_7 (by omega) (by omega) (fun h7 => ?_) (fun h7 => ?_)
    · omega
    · refine ws_aload_n C d_M_tailOf_10 rfl ?_
      refine ws_iload_n C d_M_tailOf_11 rfl ?_
      refine ws_iload_n C d_M_tailOf_12 rfl ?_
      refine ws_callVi C w_M_90 (As := [_, _]) (c_M_isIn hR hO (by omega) (by omega)) d_M_tailOf_13 rfl rfl hR.1 (Nat.le_of_ble_eq_true rfl) (by decide) (by decide) (by decide) (fun S hR => ?_)
      refine ws_if_eqB C d_M_tailOf_16 (fun h16 => ?_) (fun h16 => ?_)
      · refine ws_iload_n C d_M_tailOf_23 rfl ?_
        refine ws_istore_n C d_M_tailOf_24 (by rw [hn]; decide) ?_
        refine ws_iinc C _ d_M_tailOf_25 rfl (inc1 _) (by rw [hn]; decide) ?_
        refine ws_goto C d_M_tailOf_28 ?_
        have hq : prdF G e (w + 1) = prdF G e w := by rw [prdF, if_neg (by rw [h16]; decide)]
        have hi := ih (w + 1) (by omega) S hR
        rw [hq] at hi
        exact hi
      · refine ws_iload_n C d_M_tailOf_19 rfl ?_
        refine ws_goto C d_M_tailOf_20 ?_
        refine ws_istore_n C d_M_tailOf_24 (by rw [hn]; decide) ?_
        refine ws_iinc C _ d_M_tailOf_25 rfl (inc1 _) (by rw [hn]; decide) ?_
        refine ws_goto C d_M_tailOf_28 ?_
        have hq : prdF G e (w + 1) = some w := by rw [prdF, if_pos h16]
        have hi := ih (w + 1) (by omega) S hR
        rw [hq] at hi
        exact hi
theorem inN_of {x : Int32} {n : Nat} (h : inN x n = true) (hn : n < 2 ^ 31) : ∃ j, j ≤ n ∧ x = nI j := by
  simp only [inN, decide_eq_true_eq] at h
  exact nI_of2 (nI_toInt hn) h.1 (Int32.not_lt.mp h.2)
set_option maxHeartbeats 4000000 in
set_option maxRecDepth 100000 in
theorem c_M_serves {V : Ev} {o : Nat} {ad : Nat → Nat} {G : GS} {S : Sto} (hR : MR o ad G S) (hO : OK G) (x : Int32) : CT V mi_M_serves 0 0 [.ref o, .int x] S (Pi (bI (svs G x)) (MR o ad G)) := by
  refine CT.of (cc := prog_8_method_7_code) (own := "ChainVersionsModel") (nL := 2) (d := 1) (by decide) rfl rfl rfl rfl (by simp [Value.category]) (Nat.le_of_ble_eq_true rfl) rfl ?_
  intro F hV hn C R
  subst hV
  refine ws_iload_n C d_M_serves_0 rfl ?_
  refine ws_iconst C (nI 5) d_M_serves_1 (by decide) ?_
  refine ws_callSi C w_M_94 (As := [_, _]) (c_M_outside hR _ 5) d_M_serves_2 rfl rfl (Nat.le_of_ble_eq_true rfl) (by decide) (by decide) (by decide) (fun S hR => ?_)
  refine ws_if_neB C d_M_serves_5 (fun h5 => ?_) (fun h5 => ?_)
  · refine ws_iconst C (nI 0) d_M_serves_30 (by decide) ?_
    exact ws_zret C R d_M_serves_31 rfl (by decide) (by decide) (by decide) ⟨by simp [svs, bI, nI_0, (show inN x 5 = false by simpa using h5)], hR⟩
  · have h5 : inN x 5 = true := by simpa using h5
    obtain ⟨j, hj, rfl⟩ := inN_of h5 (by decide)
    have hb1 : G.1 1 j ≤ 1 := hO 1 j
    have hb2 : G.1 2 j ≤ 1 := hO 2 j
    have hx1 : ix (nI j) = j := nI_clamp (by omega)
    refine ws_aload_n C d_M_serves_8 rfl ?_
    refine wm_arr C hR 1 d_M_serves_9 f_M_7 rfl rfl rfl ?_
    refine ws_iload_n C d_M_serves_12 rfl ?_
    refine wm_zldN C hR 1 d_M_serves_13 rfl rfl (by decide) (show _ < 6 by omega) ?_
    refine ws_if_eqN C d_M_serves_14 (by omega) (fun h14 => ?_) (fun h14 => ?_)
    · refine ws_iconst C (nI 0) d_M_serves_30 (by decide) ?_
      exact ws_zret C R d_M_serves_31 rfl (by decide) (by decide) (by decide) ⟨by simp only [svs, hx1, h5]; simp [bI, nI_0, nI_one]; try omega, hR⟩
    · refine ws_aload_n C d_M_serves_17 rfl ?_
      refine wm_arr C hR 2 d_M_serves_18 f_M_13 rfl rfl rfl ?_
      refine ws_iload_n C d_M_serves_21 rfl ?_
      refine wm_zldN C hR 2 d_M_serves_22 rfl rfl (by decide) (show _ < 6 by omega) ?_
      refine ws_if_eqN C d_M_serves_23 (by omega) (fun h23 => ?_) (fun h23 => ?_)
      · refine ws_iconst C (nI 0) d_M_serves_30 (by decide) ?_
        exact ws_zret C R d_M_serves_31 rfl (by decide) (by decide) (by decide) ⟨by simp only [svs, hx1, h5]; simp [bI, nI_0, nI_one]; try omega, hR⟩
      · refine ws_iconst C (nI 1) d_M_serves_26 (by decide) ?_
        refine ws_goto C d_M_serves_27 ?_
        exact ws_zret C R d_M_serves_31 rfl (by decide) (by decide) (by decide) ⟨by simp only [svs, hx1, h5]; simp [bI, nI_0, nI_one]; try omega, hR⟩
set_option maxHeartbeats 4000000 in
set_option maxRecDepth 100000 in
theorem c_M_isClean {V : Ev} {o : Nat} {ad : Nat → Nat} {G : GS} {S : Sto} (hR : MR o ad G S) (hO : OK G) {v k : Nat} (hv : v ≤ 5) (hk : k ≤ 3) : CT V mi_M_isClean 0 0 [.ref o, .int (nI v), .int (nI k)] S (Pi (bI (isCl G v k)) (MR o ad G)) := by
  refine CT.of (cc := prog_8_method_8_code) (own := "ChainVersionsModel") (nL := 4) (d := 0) (by decide) rfl rfl rfl rfl (by simp [Value.category]) (Nat.le_of_ble_eq_true rfl) rfl ?_
  intro F hV hn C R
  subst hV
  have hb4 : G.1 4 v ≤ 100 := hO 4 v
  have hb5 : G.1 5 v ≤ 100 := hO 5 v
  refine ws_aload_n C d_M_isClean_0 rfl ?_
  refine wm_arr C hR 5 d_M_isClean_1 f_M_23 rfl rfl rfl ?_
  refine ws_iload_n C d_M_isClean_4 rfl ?_
  refine wm_aldN C hR 5 d_M_isClean_5 rfl rfl (by decide) (show _ < 6 by first | omega | exact okl hO _ _) ?_
  refine ws_iconst C (nI 1) d_M_isClean_6 (by decide) ?_
  refine ws_iaddN C d_M_isClean_7 ?_
  refine ws_istore_n C d_M_isClean_8 (by rw [hn]; decide) ?_
  suffices hL : ∀ n i, n = G.1 4 v + 1 - i → 1 ≤ i → i ≤ 200 → clF G v k n i = isCl G v k → ∀ S : Sto, MR o ad G S → WS F 9 [some (.ref o), some (.int (nI v)), some (.int (nI k)), some (.int (nI i))] [] S 0 0 from hL _ (G.1 5 v + 1) rfl (by omega) (by omega) (by rw [isCl, Nat.add_sub_add_right]) S hR
  intro n
  induction n with
  | zero =>
    intro i hi h1 h2 hp S hR
    refine ws_iload_n C d_M_isClean_9 rfl ?_
    refine ws_aload_n C d_M_isClean_10 rfl ?_
    refine wm_arr C hR 4 d_M_isClean_11 f_M_20 rfl rfl rfl ?_
    refine ws_iload_n C d_M_isClean_14 rfl ?_
    refine wm_aldN C hR 4 d_M_isClean_15 rfl rfl (by decide) (show _ < 6 by first | omega | exact okl hO _ _) ?_
    refine ws_icmp_gtN C d_M_isClean_16 (by first | omega | exact okl hO _ _) (by first | omega | exact okl hO _ _) (fun h16 => ?_) (fun h16 => ?_)
    · refine ws_iconst C (nI 1) d_M_isClean_43 (by decide) ?_
      exact ws_zret C R d_M_isClean_44 rfl (by decide) (by decide) (by decide) ⟨by rw [← hp]; rfl, hR⟩
    · omega
  | succ n ih =>
    intro i hi h1 h2 hp S hR
    refine ws_iload_n C d_M_isClean_9 rfl ?_
    refine ws_aload_n C d_M_isClean_10 rfl ?_
    refine wm_arr C hR 4 d_M_isClean_11 f_M_20 rfl rfl rfl ?_
    refine ws_iload_n C d_M_isClean_14 rfl ?_
    refine wm_aldN C hR 4 d_M_isClean_15 rfl rfl (by decide) (show _ < 6 by first | omega | exact okl hO _ _) ?_
    refine ws_icmp_gtN C d_M_isClean_16 (by first | omega | exact okl hO _ _) (by first | omega | exact okl hO _ _) (fun h16 => ?_) (fun h16 => ?_)
    · omega
    · refine ws_aload_n C d_M_isClean_19 rfl ?_
      refine wm_arr C hR 9 d_M_isClean_20 f_M_32 rfl rfl rfl ?_
      refine ws_sipush C (nI 128) d_M_isClean_23 (by decide) ?_
      refine ws_iload_n C d_M_isClean_26 rfl ?_
      refine ws_imulN C d_M_isClean_27 ?_
      refine ws_iload_n C d_M_isClean_28 rfl ?_
      refine ws_iaddN C d_M_isClean_29 ?_
      refine wm_aldN C hR 9 d_M_isClean_30 rfl rfl (by decide) (show _ < 768 by first | omega | exact okl hO _ _) ?_
      refine ws_iload_n C d_M_isClean_31 rfl ?_
      refine ws_icmp_neN C d_M_isClean_32 (by first | omega | exact okl hO _ _) (by first | omega | exact okl hO _ _) (fun h32 => ?_) (fun h32 => ?_)
      · refine ws_iinc C _ d_M_isClean_37 rfl (inc1 _) (by rw [hn]; decide) ?_
        refine ws_goto C d_M_isClean_40 ?_
        exact ih (i + 1) (by omega) (by omega) (by omega) (by rw [← hp, clF, if_neg h32]) S hR
      · refine ws_iconst C (nI 0) d_M_isClean_35 (by decide) ?_
        exact ws_zret C R d_M_isClean_36 rfl (by decide) (by decide) (by decide) ⟨by rw [← hp, clF, if_pos h32]; rfl, hR⟩
set_option maxHeartbeats 4000000 in
set_option maxRecDepth 100000 in
theorem c_M_cleanNumber {V : Ev} {o : Nat} {ad : Nat → Nat} {G : GS} {S : Sto} (hR : MR o ad G S) (hO : OK G) {v k : Nat} (hv : v ≤ 5) (hk : k ≤ 3) : CT V mi_M_cleanNumber 0 0 [.ref o, .int (nI v), .int (nI k)] S (Pi (nI (clN G v k)) (MR o ad G)) := by
  refine CT.of (cc := prog_8_method_9_code) (own := "ChainVersionsModel") (nL := 4) (d := 0) (by decide) rfl rfl rfl rfl (by simp [Value.category]) (Nat.le_of_ble_eq_true rfl) rfl ?_
  intro F hV hn C R
  subst hV
  have hb4 : G.1 4 v ≤ 100 := hO 4 v
  have hb5 : G.1 5 v ≤ 100 := hO 5 v
  refine ws_aload_n C d_M_cleanNumber_0 rfl ?_
  refine wm_arr C hR 5 d_M_cleanNumber_1 f_M_23 rfl rfl rfl ?_
  refine ws_iload_n C d_M_cleanNumber_4 rfl ?_
  refine wm_aldN C hR 5 d_M_cleanNumber_5 rfl rfl (by decide) (show _ < 6 by first | omega | exact okl hO _ _) ?_
  refine ws_istore_n C d_M_cleanNumber_6 (by rw [hn]; decide) ?_
  suffices hL : ∀ i, i ≤ 100 → cnF G v k i = clN G v k → ∀ S : Sto, MR o ad G S → WS F 7 [some (.ref o), some (.int (nI v)), some (.int (nI k)), some (.int (nI i))] [] S 0 0 from hL _ hb5 rfl S hR
  intro i
  induction i with
  | zero =>
    intro hi hp S hR
    refine ws_iload_n C d_M_cleanNumber_7 rfl ?_
    refine ws_if_leN C d_M_cleanNumber_8 (by first | omega | exact okl hO _ _) (fun h8 => ?_) (fun h8 => ?_)
    · refine ws_iconst C (nI 0) d_M_cleanNumber_35 (by decide) ?_
      exact ws_iret C R d_M_cleanNumber_36 rfl (by decide) (by decide) ⟨by rw [← hp]; rfl, hR⟩
    · omega
  | succ i ih =>
    intro hi hp S hR
    refine ws_iload_n C d_M_cleanNumber_7 rfl ?_
    refine ws_if_leN C d_M_cleanNumber_8 (by first | omega | exact okl hO _ _) (fun h8 => ?_) (fun h8 => ?_)
    · omega
    · refine ws_aload_n C d_M_cleanNumber_11 rfl ?_
      refine wm_arr C hR 9 d_M_cleanNumber_12 f_M_32 rfl rfl rfl ?_
      refine ws_sipush C (nI 128) d_M_cleanNumber_15 (by decide) ?_
      refine ws_iload_n C d_M_cleanNumber_18 rfl ?_
      refine ws_imulN C d_M_cleanNumber_19 ?_
      refine ws_iload_n C d_M_cleanNumber_20 rfl ?_
      refine ws_iaddN C d_M_cleanNumber_21 ?_
      refine wm_aldN C hR 9 d_M_cleanNumber_22 rfl rfl (by decide) (show _ < 768 by first | omega | exact okl hO _ _) ?_
      refine ws_iload_n C d_M_cleanNumber_23 rfl ?_
      refine ws_icmp_neN C d_M_cleanNumber_24 (by first | omega | exact okl hO _ _) (by first | omega | exact okl hO _ _) (fun h24 => ?_) (fun h24 => ?_)
      · refine ws_iinc C _ d_M_cleanNumber_29 rfl (dec1 (by first | omega | exact okl hO _ _)) (by rw [hn]; decide) ?_
        refine ws_goto C d_M_cleanNumber_32 ?_
        exact ih (by omega) (by rw [← hp, cnF, if_neg h24]) S hR
      · refine ws_iload_n C d_M_cleanNumber_27 rfl ?_
        exact ws_iret C R d_M_cleanNumber_28 rfl (by decide) (by decide) ⟨by rw [← hp, cnF, if_pos h24], hR⟩
set_option maxHeartbeats 4000000 in
set_option maxRecDepth 100000 in
theorem c_M_valueAt {V : Ev} {o : Nat} {ad : Nat → Nat} {G : GS} {S : Sto} (hR : MR o ad G S) (hO : OK G) {v i : Nat} (hv : v ≤ 5) (hi : i ≤ 100) : CT V mi_M_valueAt 0 0 [.ref o, .int (nI v), .int (nI i)] S (Pi (valAt G v i) (MR o ad G)) := by
  refine CT.of (cc := prog_8_method_10_code) (own := "ChainVersionsModel") (nL := 3) (d := 0) (by decide) rfl rfl rfl rfl (by simp [Value.category]) (Nat.le_of_ble_eq_true rfl) rfl ?_
  intro F hV hn C R
  subst hV
  refine ws_iload_n C d_M_valueAt_0 rfl ?_
  refine ws_if_neN C d_M_valueAt_1 (by omega) (fun h1 => ?_) (fun h1 => ?_)
  · refine ws_aload_n C d_M_valueAt_8 rfl ?_
    refine wm_arr C hR 10 d_M_valueAt_9 f_M_35 rfl rfl rfl ?_
    refine ws_sipush C (nI 128) d_M_valueAt_12 (by decide) ?_
    refine ws_iload_n C d_M_valueAt_15 rfl ?_
    refine ws_imulN C d_M_valueAt_16 ?_
    refine ws_iload_n C d_M_valueAt_17 rfl ?_
    refine ws_iaddN C d_M_valueAt_18 ?_
    refine wm_aldV C hR 10 d_M_valueAt_19 rfl rfl (by decide) (show _ < 768 by omega) ?_
    exact ws_iret C R d_M_valueAt_20 rfl (by decide) (by decide) ⟨by rw [valAt, if_neg h1], hR⟩
  · refine ws_iconst C (nI 0) d_M_valueAt_4 (by decide) ?_
    refine ws_goto C d_M_valueAt_5 ?_
    exact ws_iret C R d_M_valueAt_20 rfl (by decide) (by decide) ⟨by rw [valAt, if_pos h1]; rfl, hR⟩
set_option maxHeartbeats 4000000 in
set_option maxRecDepth 100000 in
theorem c_M_send {V : Ev} {o : Nat} {ad : Nat → Nat} {G : GS} {S : Sto} (hR : MR o ad G S) (hO : OK G) {v k a b : Nat} {w : Option Nat} (hv : v ≤ 5) (hw : ∀ x, w = some x → x ≤ 5) : CT V mi_M_send 0 0 [.ref o, .int (nI v), .int (oI w), .int (nI k), .int (nI a), .int (nI b)] S (Pv (MR o ad (snd G v w k a b))) := by
  refine CT.of (cc := prog_8_method_11_code) (own := "ChainVersionsModel") (nL := 6) (d := 0) (by decide) rfl rfl rfl rfl (by simp [Value.category]) (Nat.le_of_ble_eq_true rfl) rfl ?_
  intro F hV hn C R
  subst hV
  have hb20 : G.1 20 0 ≤ 1399 := hO 20 0
  cases w with
  | none =>
    refine ws_iload_n C d_M_send_0 rfl ?_
    refine ws_if_ltM C d_M_send_1 ?_
    exact ws_vret C R d_M_send_28 rfl (by decide) (by decide) ⟨rfl, hR⟩
  | some w =>
    have hw := hw w rfl
    have hb1 : G.1 1 w ≤ 1 := hO 1 w
    refine ws_iload_n C d_M_send_0 rfl ?_
    refine ws_if_ltN C d_M_send_1 (by first | omega | exact okl hO _ _) ?_
    refine ws_aload_n C d_M_send_4 rfl ?_
    refine wm_arr C hR 1 d_M_send_5 f_M_7 rfl rfl rfl ?_
    refine ws_iload_n C d_M_send_8 rfl ?_
    refine wm_zldN C hR 1 d_M_send_9 rfl rfl (by decide) (show _ < 6 by first | omega | exact okl hO _ _) ?_
    refine ws_if_eqN C d_M_send_10 (by first | omega | exact okl hO _ _) (fun h10 => ?_) (fun h10 => ?_)
    · exact ws_vret C R d_M_send_28 rfl (by decide) (by decide) ⟨rfl, by rw [snd]; rw [if_pos (by omega)]; exact hR⟩
    · refine ws_aload_n C d_M_send_13 rfl ?_
      refine wm_arr C hR 3 d_M_send_14 f_M_16 rfl rfl rfl ?_
      refine ws_iload_n C d_M_send_17 rfl ?_
      refine wm_aldN C hR 3 d_M_send_18 rfl rfl (by decide) (show _ < 6 by first | omega | exact okl hO _ _) ?_
      refine ws_aload_n C d_M_send_19 rfl ?_
      refine wm_arr C hR 3 d_M_send_20 f_M_16 rfl rfl rfl ?_
      refine ws_iload_n C d_M_send_23 rfl ?_
      refine wm_aldN C hR 3 d_M_send_24 rfl rfl (by decide) (show _ < 6 by first | omega | exact okl hO _ _) ?_
      refine ws_icmp_leN C d_M_send_25 (by first | omega | exact okl hO _ _) (by first | omega | exact okl hO _ _) (fun h25 => ?_) (fun h25 => ?_)
      · refine ws_aload_n C d_M_send_29 rfl ?_
        refine wm_arr C hR 21 d_M_send_30 f_M_65 rfl rfl rfl ?_
        refine ws_aload_n C d_M_send_33 rfl ?_
        refine wm_20 C hR d_M_send_34 f_M_97 ?_
        refine ws_iload_n C d_M_send_37 rfl ?_
        refine wm_astN C hR 21 d_M_send_38 rfl rfl (by decide) (show _ < 1400 by first | omega | exact okl hO _ _) (fun S hR => ?_)
        refine ws_aload_n C d_M_send_39 rfl ?_
        refine wm_arr C hR 22 d_M_send_40 f_M_68 rfl rfl rfl ?_
        refine ws_aload_n C d_M_send_43 rfl ?_
        refine wm_20 C hR d_M_send_44 f_M_97 ?_
        refine ws_top (nI (G.1 20 0)) (by simp [gN_1, gN_2, gV_1, gV_2]) ?_
        refine ws_iload_n C d_M_send_47 rfl ?_
        refine wm_astN C hR 22 d_M_send_48 rfl rfl (by decide) (show _ < 1400 by first | omega | exact okl hO _ _) (fun S hR => ?_)
        refine ws_aload_n C d_M_send_49 rfl ?_
        refine wm_arr C hR 23 d_M_send_50 f_M_71 rfl rfl rfl ?_
        refine ws_aload_n C d_M_send_53 rfl ?_
        refine wm_20 C hR d_M_send_54 f_M_97 ?_
        refine ws_top (nI (G.1 20 0)) (by simp [gN_1, gN_2, gV_1, gV_2]) ?_
        refine ws_iload_n C d_M_send_57 rfl ?_
        refine wm_astN C hR 23 d_M_send_58 rfl rfl (by decide) (show _ < 1400 by first | omega | exact okl hO _ _) (fun S hR => ?_)
        refine ws_aload_n C d_M_send_59 rfl ?_
        refine wm_arr C hR 24 d_M_send_60 f_M_74 rfl rfl rfl ?_
        refine ws_aload_n C d_M_send_63 rfl ?_
        refine wm_20 C hR d_M_send_64 f_M_97 ?_
        refine ws_top (nI (G.1 20 0)) (by simp [gN_1, gN_2, gV_1, gV_2]) ?_
        refine ws_aload_n C d_M_send_67 rfl ?_
        refine wm_arr C hR 3 d_M_send_68 f_M_16 rfl rfl rfl ?_
        refine ws_iload_n C d_M_send_71 rfl ?_
        refine wm_aldN C hR 3 d_M_send_72 rfl rfl (by decide) (show _ < 6 by first | omega | exact okl hO _ _) ?_
        refine ws_top (nI (G.1 3 v)) (by simp [gN_1, gN_2, gV_1, gV_2]) ?_
        refine wm_astN C hR 24 d_M_send_73 rfl rfl (by decide) (show _ < 1400 by first | omega | exact okl hO _ _) (fun S hR => ?_)
        refine ws_aload_n C d_M_send_74 rfl ?_
        refine wm_arr C hR 25 d_M_send_75 f_M_77 rfl rfl rfl ?_
        refine ws_aload_n C d_M_send_78 rfl ?_
        refine wm_20 C hR d_M_send_79 f_M_97 ?_
        refine ws_top (nI (G.1 20 0)) (by simp [gN_1, gN_2, gV_1, gV_2]) ?_
        refine ws_iload C d_M_send_82 rfl ?_
        refine wm_astN C hR 25 d_M_send_84 rfl rfl (by decide) (show _ < 1400 by first | omega | exact okl hO _ _) (fun S hR => ?_)
        refine ws_aload_n C d_M_send_85 rfl ?_
        refine wm_arr C hR 26 d_M_send_86 f_M_80 rfl rfl rfl ?_
        refine ws_aload_n C d_M_send_89 rfl ?_
        refine wm_20 C hR d_M_send_90 f_M_97 ?_
        refine ws_top (nI (G.1 20 0)) (by simp [gN_1, gN_2, gV_1, gV_2]) ?_
        refine ws_iload C d_M_send_93 rfl ?_
        refine wm_astN C hR 26 d_M_send_95 rfl rfl (by decide) (show _ < 1400 by first | omega | exact okl hO _ _) (fun S hR => ?_)
        refine ws_aload_n C d_M_send_96 rfl ?_
        refine ws_dup C d_M_send_97 rfl ?_
        refine wm_20 C hR d_M_send_98 f_M_97 ?_
        refine ws_top (nI (G.1 20 0)) (by simp [gN_1, gN_2, gV_1, gV_2]) ?_
        refine ws_iconst C (nI 1) d_M_send_101 (by decide) ?_
        refine ws_iaddN C d_M_send_102 ?_
        refine wm_put C hR 20 (by decide) d_M_send_103 f_M_97 (fun S hR => ?_)
        exact ws_vret C R d_M_send_106 rfl (by decide) (by decide) ⟨rfl, by rw [snd]; rw [if_neg (by omega)]; exact hR⟩
      · exact ws_vret C R d_M_send_28 rfl (by decide) (by decide) ⟨rfl, by rw [snd]; rw [if_pos (by omega)]; exact hR⟩
set_option maxHeartbeats 4000000 in
set_option maxRecDepth 100000 in
theorem c_M_first {V : Ev} {o : Nat} {ad : Nat → Nat} {G : GS} {S : Sto} (hR : MR o ad G S) (hO : OK G) {v w : Nat} (hv : v ≤ 5) (hw : w ≤ 5) : CT V mi_M_first 0 0 [.ref o, .int (nI v), .int (nI w)] S (Pi (oI (frs G v w)) (MR o ad G)) := by
  refine CT.of (cc := prog_8_method_12_code) (own := "ChainVersionsModel") (nL := 4) (d := 0) (by decide) rfl rfl rfl rfl (by simp [Value.category]) (Nat.le_of_ble_eq_true rfl) rfl ?_
  intro F hV hn C R
  subst hV
  have hb20 : G.1 20 0 ≤ 1399 := hO 20 0
  refine ws_iconst C (nI 0) d_M_first_0 (by decide) ?_
  refine ws_istore_n C d_M_first_1 (by rw [hn]; decide) ?_
  suffices hL : ∀ n m, m + n = G.1 20 0 → frF G v w n = frs G v w → ∀ S : Sto, MR o ad G S → WS F 2 [some (.ref o), some (.int (nI v)), some (.int (nI w)), some (.int (nI m))] [] S 0 0 from hL _ 0 (by omega) rfl S hR
  intro n
  induction n with
  | zero =>
    intro m hm hp S hR
    refine ws_iload_n C d_M_first_2 rfl ?_
    refine ws_aload_n C d_M_first_3 rfl ?_
    refine wm_20 C hR d_M_first_4 f_M_97 ?_
    refine ws_icmp_geN C d_M_first_7 (by first | omega | exact okl hO _ _) (by first | omega | exact okl hO _ _) (fun h7 => ?_) (fun h7 => ?_)
    · refine ws_iconst C (-1) d_M_first_38 (by decide) ?_
      exact ws_iret C R d_M_first_39 rfl (by decide) (by decide) ⟨by rw [← hp]; rfl, hR⟩
    · omega
  | succ n ih =>
    intro m hm hp S hR
    have em : G.1 20 0 - (n + 1) = m := by omega
    rw [frF, em] at hp
    refine ws_iload_n C d_M_first_2 rfl ?_
    refine ws_aload_n C d_M_first_3 rfl ?_
    refine wm_20 C hR d_M_first_4 f_M_97 ?_
    refine ws_icmp_geN C d_M_first_7 (by first | omega | exact okl hO _ _) (by first | omega | exact okl hO _ _) (fun h7 => ?_) (fun h7 => ?_)
    · omega
    · refine ws_aload_n C d_M_first_10 rfl ?_
      refine wm_arr C hR 21 d_M_first_11 f_M_65 rfl rfl rfl ?_
      refine ws_iload_n C d_M_first_14 rfl ?_
      refine wm_aldN C hR 21 d_M_first_15 rfl rfl (by decide) (show _ < 1400 by first | omega | exact okl hO _ _) ?_
      refine ws_iload_n C d_M_first_16 rfl ?_
      refine ws_icmp_neN C d_M_first_17 (by first | omega | exact okl hO _ _) (by first | omega | exact okl hO _ _) (fun h17 => ?_) (fun h17 => ?_)
      · refine ws_iinc C _ d_M_first_32 rfl (inc1 _) (by rw [hn]; decide) ?_
        refine ws_goto C d_M_first_35 ?_
        exact ih (m + 1) (by omega) (by rw [← hp, if_neg (by omega)]) S hR
      · refine ws_aload_n C d_M_first_20 rfl ?_
        refine wm_arr C hR 22 d_M_first_21 f_M_68 rfl rfl rfl ?_
        refine ws_iload_n C d_M_first_24 rfl ?_
        refine wm_aldN C hR 22 d_M_first_25 rfl rfl (by decide) (show _ < 1400 by first | omega | exact okl hO _ _) ?_
        refine ws_iload_n C d_M_first_26 rfl ?_
        refine ws_icmp_neN C d_M_first_27 (by first | omega | exact okl hO _ _) (by first | omega | exact okl hO _ _) (fun h27 => ?_) (fun h27 => ?_)
        · refine ws_iinc C _ d_M_first_32 rfl (inc1 _) (by rw [hn]; decide) ?_
          refine ws_goto C d_M_first_35 ?_
          exact ih (m + 1) (by omega) (by rw [← hp, if_neg (by omega)]) S hR
        · refine ws_iload_n C d_M_first_30 rfl ?_
          exact ws_iret C R d_M_first_31 rfl (by decide) (by decide) ⟨by rw [← hp, if_pos ⟨h17, h27⟩]; rfl, hR⟩
end
section
/-! what pure steps keep; bounds -/
theorem gN_ne (G : GS) {j i v j' : Nat} (h : j' ≠ j) : (gN G j i v).1 j' = G.1 j' := by
  funext i'
  rw [gN_1, if_neg (fun z => h z.1)]
theorem gV_ne (G : GS) {j i : Nat} {v : Int32} {j' : Nat} (h : j' ≠ j) : (gV G j i v).2 j' = G.2 j' := by
  funext i'
  rw [gV_2, if_neg (fun z => h z.1)]
theorem gN_eq (G : GS) (j i v : Nat) : (gN G j i v).1 j i = v := by rw [gN_1, if_pos ⟨rfl, rfl⟩]
theorem gN_ni (G : GS) {j i v i' : Nat} (h : i' ≠ i) : (gN G j i v).1 j i' = G.1 j i' := by rw [gN_1, if_neg (fun z => h z.2)]
theorem isIn_c {G G' : GS} (h : G'.1 7 = G.1 7) (e w : Nat) : isIn G' e w = isIn G e w := by unfold isIn; rw [h]
theorem prdF_c {G G' : GS} (h : G'.1 7 = G.1 7) (e n : Nat) : prdF G' e n = prdF G e n := by
  induction n with
  | zero => rfl
  | succ n ih => rw [prdF, prdF, isIn_c h, ih]
theorem sucF_c {G G' : GS} (h : G'.1 7 = G.1 7) (e n : Nat) : sucF G' e n = sucF G e n := by
  induction n with
  | zero => rfl
  | succ n ih => rw [sucF, sucF, isIn_c h, ih]
theorem prd_c {G G' : GS} (h : G'.1 7 = G.1 7) (h3 : G'.1 3 = G.1 3) (v : Nat) : prd G' v = prd G v := by unfold prd; rw [h3, prdF_c h]
theorem suc_c {G G' : GS} (h : G'.1 7 = G.1 7) (h3 : G'.1 3 = G.1 3) (v : Nat) : suc G' v = suc G v := by unfold suc; rw [h3, sucF_c h]
theorem prdF_lt {G : GS} {e n x : Nat} (h : prdF G e n = some x) : x < n := by
  induction n with
  | zero => cases h
  | succ n ih =>
    rw [prdF] at h
    split at h
    · cases h; omega
    · have := ih h; omega
theorem sucF_le {G : GS} {e n x : Nat} (h : sucF G e n = some x) : x ≤ 5 ∧ 6 ≤ x + n := by
  induction n with
  | zero => cases h
  | succ n ih =>
    rw [sucF] at h
    split at h
    · cases h; omega
    · have := ih h; omega
theorem prd_le {G : GS} {v x : Nat} (hv : v ≤ 5) (h : prd G v = some x) : x ≤ 5 := by have := prdF_lt h; omega
theorem suc_le {G : GS} {v x : Nat} (h : suc G v = some x) : x ≤ 5 := (sucF_le h).1
theorem tlo_le {G : GS} {e x : Nat} (h : tlo G e = some x) : x ≤ 5 := by have := prdF_lt h; omega
theorem fin1_ne (G : GS) (v i : Nat) {j : Nat} (h1 : j ≠ 13) (h2 : j ≠ 18) : (fin1 G v i).1 j = G.1 j := by
  unfold fin1
  split
  · rw [gV_1, gN_ne _ h2, gN_ne _ h1]
  · rfl
theorem fin1_n2 (G : GS) (v i : Nat) {j : Nat} (h1 : j ≠ 19) : (fin1 G v i).2 j = G.2 j := by
  unfold fin1
  split
  · rw [gV_ne _ h1, gN_2, gN_2]
  · rfl
theorem stlF_ne (v n : Nat) {j : Nat} (h1 : j ≠ 13) (h2 : j ≠ 18) : ∀ (i : Nat) (G : GS), (stlF v n i G).1 j = G.1 j := by
  induction n with
  | zero => intro i G; rfl
  | succ n ih => intro i G; rw [stlF, ih, fin1_ne _ _ _ h1 h2]
theorem stlF_n2 (v n : Nat) {j : Nat} (h1 : j ≠ 19) : ∀ (i : Nat) (G : GS), (stlF v n i G).2 j = G.2 j := by
  induction n with
  | zero => intro i G; rfl
  | succ n ih => intro i G; rw [stlF, ih, fin1_n2 _ _ _ h1]
theorem stl_ne (G : GS) (v : Nat) {j : Nat} (h1 : j ≠ 13) (h2 : j ≠ 18) (h3 : j ≠ 5) : (stl G v).1 j = G.1 j := by
  unfold stl
  rw [gN_ne _ h3, stlF_ne _ _ h1 h2]
theorem stl_n2 (G : GS) (v : Nat) {j : Nat} (h1 : j ≠ 19) : (stl G v).2 j = G.2 j := by
  unfold stl
  rw [gN_2, stlF_n2 _ _ h1]
theorem stl_5 (G : GS) (v : Nat) : (stl G v).1 5 v = G.1 4 v := by unfold stl; rw [gN_eq]
theorem stl_5n (G : GS) {v u : Nat} (h : u ≠ v) : (stl G v).1 5 u = G.1 5 u := by unfold stl; rw [gN_ni _ h, stlF_ne _ _ (by decide) (by decide)]
theorem snd_ne (G : GS) (v : Nat) (w : Option Nat) (k a b : Nat) {j : Nat} (h : j < 20 ∨ 26 < j) : (snd G v w k a b).1 j = G.1 j := by
  unfold snd
  split
  · rfl
  · split
    · rfl
    · unfold pushM
      rw [gN_ne _ (by omega), gN_ne _ (by omega), gN_ne _ (by omega), gN_ne _ (by omega), gN_ne _ (by omega), gN_ne _ (by omega), gN_ne _ (by omega)]
theorem snd_2 (G : GS) (v : Nat) (w : Option Nat) (k a b : Nat) : (snd G v w k a b).2 = G.2 := by
  unfold snd
  split
  · rfl
  · split <;> rfl
theorem snd_20 (G : GS) (v : Nat) (w : Option Nat) (k a b : Nat) : G.1 20 0 ≤ (snd G v w k a b).1 20 0 ∧ (snd G v w k a b).1 20 0 ≤ G.1 20 0 + 1 := by
  unfold snd
  split
  · omega
  · split
    · omega
    · unfold pushM
      rw [gN_eq]; omega
theorem ok_fin1 {G : GS} {v i : Nat} (h : OK G) (hi : i ≤ 100) : OK (fin1 G v i) := by
  unfold fin1
  split
  · exact ok_gV (ok_gN (ok_gN h (by decide)) hi)
  · exact h
theorem ok_stlF {v n : Nat} : ∀ (i : Nat) (G : GS), OK G → i + n ≤ 101 → OK (stlF v n i G) := by
  induction n with
  | zero => intro i G h _; exact h
  | succ n ih => intro i G h hi; exact ih _ _ (ok_fin1 h (by omega)) (by omega)
theorem ok_stl {G : GS} {v : Nat} (h : OK G) : OK (stl G v) := by
  have h4 : G.1 4 v ≤ 100 := h 4 v
  unfold stl
  by_cases hle : G.1 5 v ≤ G.1 4 v
  · exact ok_gN (ok_stlF _ _ h (by omega)) h4
  · have : G.1 4 v - G.1 5 v = 0 := by omega
    rw [this]
    exact ok_gN h h4
theorem ok_snd {G : GS} {v k a b : Nat} {w : Option Nat} (h : OK G) (hv : v ≤ 5) (hw : ∀ x, w = some x → x ≤ 5) (hk : k ≤ 5) (ha : a ≤ 100) (hb : b ≤ 100) (hc : G.1 20 0 + 1 ≤ 1399) : OK (snd G v w k a b) := by
  unfold snd
  split
  · exact h
  · rename_i x
    split
    · exact h
    · exact ok_gN (ok_gN (ok_gN (ok_gN (ok_gN (ok_gN (ok_gN h hv) (hw x rfl)) hk) (h 3 v)) ha) hb) hc
theorem ok_hol {G : GS} {v k c r : Nat} {x : Int32} (h : OK G) (hl : G.1 4 v + 1 ≤ 100) (hk : k ≤ 3) (hc : c ≤ 2) (hr : r ≤ 600) : OK (hol G v k x c r) := ok_gN (ok_gN (ok_gV (ok_gN (ok_gN h hl) hk)) hc) hr
theorem hol_ne (G : GS) (v k : Nat) (x : Int32) (c r : Nat) {j : Nat} (h4 : j ≠ 4) (h9 : j ≠ 9) (h11 : j ≠ 11) (h12 : j ≠ 12) : (hol G v k x c r).1 j = G.1 j := by
  unfold hol
  rw [gN_ne _ h12, gN_ne _ h11, gV_1, gN_ne _ h9, gN_ne _ h4]
theorem hol_4 (G : GS) (v k : Nat) (x : Int32) (c r : Nat) : (hol G v k x c r).1 4 v = G.1 4 v + 1 := by
  unfold hol
  rw [gN_ne _ (by decide), gN_ne _ (by decide), gV_1, gN_ne _ (by decide), gN_eq]
theorem hol_4n (G : GS) {v u : Nat} (k : Nat) (x : Int32) (c r : Nat) (hu : u ≠ v) : (hol G v k x c r).1 4 u = G.1 4 u := by
  unfold hol
  rw [gN_ne _ (by decide), gN_ne _ (by decide), gV_1, gN_ne _ (by decide), gN_ni _ hu]
theorem tol_ne (G : GS) (v : Nat) {j : Nat} (h1 : j ≠ 13) (h2 : j ≠ 18) (h3 : j ≠ 5) (h : j < 20 ∨ 26 < j) : (tol G v).1 j = G.1 j := by
  unfold tol
  split
  · rw [snd_ne _ _ _ _ _ _ h, stl_ne _ _ h1 h2 h3]
  · rw [snd_ne _ _ _ _ _ _ h]
theorem tol_20 (G : GS) (v : Nat) : G.1 20 0 ≤ (tol G v).1 20 0 ∧ (tol G v).1 20 0 ≤ G.1 20 0 + 1 := by
  unfold tol
  split
  · have := snd_20 (stl G v) v (prd G v) 2 (G.1 4 v) 0
    rw [stl_ne _ _ (by decide) (by decide) (by decide)] at this
    exact this
  · exact snd_20 _ _ _ _ _ _
theorem ok_tol {G : GS} {v : Nat} (h : OK G) (hv : v ≤ 5) (hc : G.1 20 0 + 1 ≤ 1399) : OK (tol G v) := by
  have h4 : G.1 4 v ≤ 100 := h 4 v
  unfold tol
  split
  · exact ok_snd (ok_stl h) hv (fun x hx => prd_le hv hx) (by decide) h4 (by decide) (by rw [stl_ne _ _ (by decide) (by decide) (by decide)]; exact hc)
  · exact ok_snd h hv (fun x hx => suc_le hx) (by decide) h4 (by decide) hc
theorem ok_tak {G : GS} {v k c r : Nat} {x : Int32} (h : OK G) (hv : v ≤ 5) (hl : G.1 4 v + 1 ≤ 100) (hk : k ≤ 3) (hc : c ≤ 2) (hr : r ≤ 600) (hn : G.1 20 0 + 1 ≤ 1399) : OK (tak G v k x c r) :=
  ok_tol (ok_hol h hl hk hc hr) hv (by rw [hol_ne _ _ _ _ _ _ (by decide) (by decide) (by decide) (by decide)]; exact hn)
theorem tak_4 (G : GS) (v k : Nat) (x : Int32) (c r : Nat) : (tak G v k x c r).1 4 v = G.1 4 v + 1 := by
  unfold tak
  rw [tol_ne _ _ (by decide) (by decide) (by decide) (by decide), hol_4]
theorem tak_20 (G : GS) (v k : Nat) (x : Int32) (c r : Nat) : G.1 20 0 ≤ (tak G v k x c r).1 20 0 ∧ (tak G v k x c r).1 20 0 ≤ G.1 20 0 + 1 := by
  have := tol_20 (hol G v k x c r) v
  rw [hol_ne _ _ _ _ _ _ (by decide) (by decide) (by decide) (by decide)] at this
  exact this
theorem ok_takF {G : GS} {v u i : Nat} (h : OK G) (hv : v ≤ 5) (hl : G.1 4 v + 1 ≤ 100) (hn : G.1 20 0 + 1 ≤ 1399) : OK (takF G v u i) := ok_tak h hv hl (h 9 _) (h 11 _) (h 12 _) hn
theorem ok_don {G : GS} {c v i : Nat} (h : OK G) (hi : i ≤ 100) : OK (don G c v i) := ok_gV (ok_gN (ok_gN h (by decide)) hi)
theorem cnF_le (G : GS) (v k : Nat) : ∀ i, cnF G v k i ≤ i
  | 0 => Nat.le_refl 0
  | i + 1 => by
    rw [cnF]
    split
    · exact Nat.le_refl _
    · exact Nat.le_trans (cnF_le G v k i) (Nat.le_succ _)
theorem clN_le {G : GS} (h : OK G) (v k : Nat) : clN G v k ≤ 100 := Nat.le_trans (cnF_le G v k _) (h 5 v)
theorem ok_stk {G : GS} {m k : Nat} (h : OK G) : OK (stkT G m k) := by
  intro j i
  have h0 := h 20 0
  have hh := h j i
  simp only [stkT]
  split
  · exact h j (i + 1)
  · split
    · rename_i hj
      obtain ⟨rfl, rfl⟩ := hj
      show G.1 20 0 - 1 ≤ _
      omega
    · exact hh
theorem stkT_0 (G : GS) (m : Nat) : gN G 20 0 (G.1 20 0 - 1) = stkT G m m := by
  refine Prod.ext ?_ rfl
  funext j i
  simp only [gN, up2, stkT]
  have : ¬ (21 ≤ j ∧ j ≤ 26 ∧ m ≤ i ∧ i < m) := by omega
  rw [if_neg this]
theorem stkT_20 (G : GS) (m k : Nat) : (stkT G m k).1 20 0 = G.1 20 0 - 1 := by simp [stkT]
theorem stkT_at (G : GS) {m k i j : Nat} (h1 : 21 ≤ j) (h : k ≤ i) : (stkT G m k).1 j i = G.1 j i := by
  have h2 : ¬ (21 ≤ j ∧ j ≤ 26 ∧ m ≤ i ∧ i < k) := by omega
  have h3 : ¬ (j = 20 ∧ i = 0) := by omega
  simp only [stkT]
  rw [if_neg h2, if_neg h3]
theorem stkT_s {G : GS} {m k : Nat} (h : m ≤ k) : gN (gN (gN (gN (gN (gN (stkT G m k) 21 k (G.1 21 (k + 1))) 22 k (G.1 22 (k + 1))) 23 k (G.1 23 (k + 1))) 24 k (G.1 24 (k + 1))) 25 k (G.1 25 (k + 1))) 26 k (G.1 26 (k + 1)) = stkT G m (k + 1) := by
  refine Prod.ext ?_ rfl
  funext j i
  simp only [gN_1]
  by_cases hi : i = k
  · subst hi
    by_cases hj : 21 ≤ j ∧ j ≤ 26
    · have : j = 21 ∨ j = 22 ∨ j = 23 ∨ j = 24 ∨ j = 25 ∨ j = 26 := by omega
      rcases this with rfl | rfl | rfl | rfl | rfl | rfl <;> simp [stkT, h]
    · have n1 : ¬ j = 21 := by omega
      have n2 : ¬ j = 22 := by omega
      have n3 : ¬ j = 23 := by omega
      have n4 : ¬ j = 24 := by omega
      have n5 : ¬ j = 25 := by omega
      have n6 : ¬ j = 26 := by omega
      have e1 : ¬ (21 ≤ j ∧ j ≤ 26 ∧ m ≤ i ∧ i < i) := by omega
      have e2 : ¬ (21 ≤ j ∧ j ≤ 26 ∧ m ≤ i ∧ i < i + 1) := by omega
      simp only [n1, n2, n3, n4, n5, n6, false_and, if_false, stkT, if_neg e1, if_neg e2]
  · have e1 : (21 ≤ j ∧ j ≤ 26 ∧ m ≤ i ∧ i < k) ↔ (21 ≤ j ∧ j ≤ 26 ∧ m ≤ i ∧ i < k + 1) := by omega
    simp only [hi, and_false, if_false, stkT, e1]
theorem ok_losF {w e : Nat} : ∀ (n : Nat) (G : GS), OK G → OK (losF w e n G)
  | 0, _, h => h
  | m + 1, G, h => by
    rw [losF]
    split
    · exact ok_losF m _ (ok_stk h)
    · exact ok_losF m _ h
section ROWS
variable {F : Fx} {cc : ByteArray} {own : String} {pc pc' tgt : Nat} {lv : List (Option Value)} {st : List Value} {S : Sto} {cs ss : Nat} {dF cF sF : Nat}
theorem ws_if_geO (C : Cx F cc own dF cF sF) {x : Option Nat} (d : AtC cc pc (.ifCond .ge) tgt pc') (hx : ∀ n, x = some n → n < 2 ^ 31) (kt : ¬ x = none → WS F tgt lv st S cs ss) (kf : x = none → WS F pc' lv st S cs ss) : WS F pc lv (.int (oI x) :: st) S cs ss := by
  cases x with
  | none => exact ws_if_geM C d (kf rfl)
  | some n => exact ws_if_geN C d (hx n rfl) (kt (fun z => by cases z))
theorem ws_if_ltO (C : Cx F cc own dF cF sF) {x : Option Nat} (d : AtC cc pc (.ifCond .lt) tgt pc') (hx : ∀ n, x = some n → n < 2 ^ 31) (kt : x = none → WS F tgt lv st S cs ss) (kf : ¬ x = none → WS F pc' lv st S cs ss) : WS F pc lv (.int (oI x) :: st) S cs ss := by
  cases x with
  | none => exact ws_if_ltM C d (kt rfl)
  | some n => exact ws_if_ltN C d (hx n rfl) (kf (fun z => by cases z))
end ROWS
end
section
/-! the reference: strike, lose, settle, take, serve, write, act, arrive -/
set_option maxHeartbeats 4000000 in
set_option maxRecDepth 100000 in
theorem c_M_strike {V : Ev} {o : Nat} {ad : Nat → Nat} {G : GS} {S : Sto} (hR : MR o ad G S) (hO : OK G) {m : Nat} (hm : m < G.1 20 0) : CT V mi_M_strike 0 0 [.ref o, .int (nI m)] S (Pv (MR o ad (stk G m))) := by
  refine CT.of (cc := prog_8_method_13_code) (own := "ChainVersionsModel") (nL := 3) (d := 0) (by decide) rfl rfl rfl rfl (by simp [Value.category]) (Nat.le_of_ble_eq_true rfl) rfl ?_
  intro F hV hn C R
  subst hV
  have hb20 : G.1 20 0 ≤ 1399 := hO 20 0
  refine ws_aload_n C d_M_strike_0 rfl ?_
  refine ws_dup C d_M_strike_1 rfl ?_
  refine wm_20 C hR d_M_strike_2 f_M_97 ?_
  refine ws_iconst C (nI 1) d_M_strike_5 (by decide) ?_
  refine ws_isubN C d_M_strike_6 (by first | omega | exact okl hO _ _) ?_
  refine wm_put C hR 20 (by decide) d_M_strike_7 f_M_97 (fun S hR => ?_)
  refine ws_iload_n C d_M_strike_10 rfl ?_
  refine ws_istore_n C d_M_strike_11 (by rw [hn]; decide) ?_
  rw [stkT_0 G m] at hR
  suffices hL : ∀ n k, k + n = G.1 20 0 - 1 → m ≤ k → ∀ S : Sto, MR o ad (stkT G m k) S → WS F 12 [some (.ref o), some (.int (nI m)), some (.int (nI k))] [] S 0 0 from hL (G.1 20 0 - 1 - m) m (by omega) (Nat.le_refl _) S hR
  intro n
  induction n with
  | zero =>
    intro k hk hm S hR
    refine ws_iload_n C d_M_strike_12 rfl ?_
    refine ws_aload_n C d_M_strike_13 rfl ?_
    refine wm_20 C hR d_M_strike_14 f_M_97 ?_
    refine ws_top (nI (G.1 20 0 - 1)) (by rw [stkT_20]) ?_
    refine ws_icmp_geN C d_M_strike_17 (by first | omega | exact okl hO _ _) (by first | omega | exact okl hO _ _) (fun h17 => ?_) (fun h17 => ?_)
    · exact ws_vret C R d_M_strike_110 rfl (by decide) (by decide) ⟨rfl, by rw [stk, ← show k = G.1 20 0 - 1 by omega]; exact hR⟩
    · omega
  | succ n ih =>
    intro k hk hm S hR
    refine ws_iload_n C d_M_strike_12 rfl ?_
    refine ws_aload_n C d_M_strike_13 rfl ?_
    refine wm_20 C hR d_M_strike_14 f_M_97 ?_
    refine ws_top (nI (G.1 20 0 - 1)) (by rw [stkT_20]) ?_
    refine ws_icmp_geN C d_M_strike_17 (by first | omega | exact okl hO _ _) (by first | omega | exact okl hO _ _) (fun h17 => ?_) (fun h17 => ?_)
    · omega
    · refine ws_aload_n C d_M_strike_20 rfl ?_
      refine wm_arr C hR 21 d_M_strike_21 f_M_65 rfl rfl rfl ?_
      refine ws_iload_n C d_M_strike_24 rfl ?_
      refine ws_aload_n C d_M_strike_25 rfl ?_
      refine wm_arr C hR 21 d_M_strike_26 f_M_65 rfl rfl rfl ?_
      refine ws_iload_n C d_M_strike_29 rfl ?_
      refine ws_iconst C (nI 1) d_M_strike_30 (by decide) ?_
      refine ws_iaddN C d_M_strike_31 ?_
      refine wm_aldN C hR 21 d_M_strike_32 rfl rfl (by decide) (show _ < 1400 by first | omega | exact okl hO _ _) ?_
      refine ws_top (nI (G.1 21 (k + 1))) (by rw [stkT_at G (by decide) (by omega)]) ?_
      refine wm_astN C hR 21 d_M_strike_33 rfl rfl (by decide) (show _ < 1400 by first | omega | exact okl hO _ _) (fun S hR => ?_)
      refine ws_aload_n C d_M_strike_34 rfl ?_
      refine wm_arr C hR 22 d_M_strike_35 f_M_68 rfl rfl rfl ?_
      refine ws_iload_n C d_M_strike_38 rfl ?_
      refine ws_aload_n C d_M_strike_39 rfl ?_
      refine wm_arr C hR 22 d_M_strike_40 f_M_68 rfl rfl rfl ?_
      refine ws_iload_n C d_M_strike_43 rfl ?_
      refine ws_iconst C (nI 1) d_M_strike_44 (by decide) ?_
      refine ws_iaddN C d_M_strike_45 ?_
      refine wm_aldN C hR 22 d_M_strike_46 rfl rfl (by decide) (show _ < 1400 by first | omega | exact okl hO _ _) ?_
      refine ws_top (nI (G.1 22 (k + 1))) (by rw [gN_ne _ (by decide), stkT_at G (by decide) (by omega)]) ?_
      refine wm_astN C hR 22 d_M_strike_47 rfl rfl (by decide) (show _ < 1400 by first | omega | exact okl hO _ _) (fun S hR => ?_)
      refine ws_aload_n C d_M_strike_48 rfl ?_
      refine wm_arr C hR 23 d_M_strike_49 f_M_71 rfl rfl rfl ?_
      refine ws_iload_n C d_M_strike_52 rfl ?_
      refine ws_aload_n C d_M_strike_53 rfl ?_
      refine wm_arr C hR 23 d_M_strike_54 f_M_71 rfl rfl rfl ?_
      refine ws_iload_n C d_M_strike_57 rfl ?_
      refine ws_iconst C (nI 1) d_M_strike_58 (by decide) ?_
      refine ws_iaddN C d_M_strike_59 ?_
      refine wm_aldN C hR 23 d_M_strike_60 rfl rfl (by decide) (show _ < 1400 by first | omega | exact okl hO _ _) ?_
      refine ws_top (nI (G.1 23 (k + 1))) (by rw [gN_ne _ (by decide), gN_ne _ (by decide), stkT_at G (by decide) (by omega)]) ?_
      refine wm_astN C hR 23 d_M_strike_61 rfl rfl (by decide) (show _ < 1400 by first | omega | exact okl hO _ _) (fun S hR => ?_)
      refine ws_aload_n C d_M_strike_62 rfl ?_
      refine wm_arr C hR 24 d_M_strike_63 f_M_74 rfl rfl rfl ?_
      refine ws_iload_n C d_M_strike_66 rfl ?_
      refine ws_aload_n C d_M_strike_67 rfl ?_
      refine wm_arr C hR 24 d_M_strike_68 f_M_74 rfl rfl rfl ?_
      refine ws_iload_n C d_M_strike_71 rfl ?_
      refine ws_iconst C (nI 1) d_M_strike_72 (by decide) ?_
      refine ws_iaddN C d_M_strike_73 ?_
      refine wm_aldN C hR 24 d_M_strike_74 rfl rfl (by decide) (show _ < 1400 by first | omega | exact okl hO _ _) ?_
      refine ws_top (nI (G.1 24 (k + 1))) (by rw [gN_ne _ (by decide), gN_ne _ (by decide), gN_ne _ (by decide), stkT_at G (by decide) (by omega)]) ?_
      refine wm_astN C hR 24 d_M_strike_75 rfl rfl (by decide) (show _ < 1400 by first | omega | exact okl hO _ _) (fun S hR => ?_)
      refine ws_aload_n C d_M_strike_76 rfl ?_
      refine wm_arr C hR 25 d_M_strike_77 f_M_77 rfl rfl rfl ?_
      refine ws_iload_n C d_M_strike_80 rfl ?_
      refine ws_aload_n C d_M_strike_81 rfl ?_
      refine wm_arr C hR 25 d_M_strike_82 f_M_77 rfl rfl rfl ?_
      refine ws_iload_n C d_M_strike_85 rfl ?_
      refine ws_iconst C (nI 1) d_M_strike_86 (by decide) ?_
      refine ws_iaddN C d_M_strike_87 ?_
      refine wm_aldN C hR 25 d_M_strike_88 rfl rfl (by decide) (show _ < 1400 by first | omega | exact okl hO _ _) ?_
      refine ws_top (nI (G.1 25 (k + 1))) (by rw [gN_ne _ (by decide), gN_ne _ (by decide), gN_ne _ (by decide), gN_ne _ (by decide), stkT_at G (by decide) (by omega)]) ?_
      refine wm_astN C hR 25 d_M_strike_89 rfl rfl (by decide) (show _ < 1400 by first | omega | exact okl hO _ _) (fun S hR => ?_)
      refine ws_aload_n C d_M_strike_90 rfl ?_
      refine wm_arr C hR 26 d_M_strike_91 f_M_80 rfl rfl rfl ?_
      refine ws_iload_n C d_M_strike_94 rfl ?_
      refine ws_aload_n C d_M_strike_95 rfl ?_
      refine wm_arr C hR 26 d_M_strike_96 f_M_80 rfl rfl rfl ?_
      refine ws_iload_n C d_M_strike_99 rfl ?_
      refine ws_iconst C (nI 1) d_M_strike_100 (by decide) ?_
      refine ws_iaddN C d_M_strike_101 ?_
      refine wm_aldN C hR 26 d_M_strike_102 rfl rfl (by decide) (show _ < 1400 by first | omega | exact okl hO _ _) ?_
      refine ws_top (nI (G.1 26 (k + 1))) (by rw [gN_ne _ (by decide), gN_ne _ (by decide), gN_ne _ (by decide), gN_ne _ (by decide), gN_ne _ (by decide), stkT_at G (by decide) (by omega)]) ?_
      refine wm_astN C hR 26 d_M_strike_103 rfl rfl (by decide) (show _ < 1400 by first | omega | exact okl hO _ _) (fun S hR => ?_)
      refine ws_iinc C _ d_M_strike_104 rfl (inc1 _) (by rw [hn]; decide) ?_
      refine ws_goto C d_M_strike_107 ?_
      exact ih (k + 1) (by omega) (by omega) S (stkT_s (G := G) hm ▸ hR)
set_option maxHeartbeats 4000000 in
set_option maxRecDepth 100000 in
theorem c_M_lose {V : Ev} {o : Nat} {ad : Nat → Nat} {G : GS} {S : Sto} (hR : MR o ad G S) (hO : OK G) {w e : Nat} (hw : w ≤ 5) (he : e ≤ 20) : CT V mi_M_lose 0 0 [.ref o, .int (nI w), .int (nI e)] S (Pv (MR o ad (los G w e))) := by
  refine CT.of (cc := prog_8_method_14_code) (own := "ChainVersionsModel") (nL := 4) (d := 1) (by decide) rfl rfl rfl rfl (by simp [Value.category]) (Nat.le_of_ble_eq_true rfl) rfl ?_
  intro F hV hn C R
  subst hV
  have hb20 : G.1 20 0 ≤ 1399 := hO 20 0
  refine ws_aload_n C d_M_lose_0 rfl ?_
  refine wm_20 C hR d_M_lose_1 f_M_97 ?_
  refine ws_iconst C (nI 1) d_M_lose_4 (by decide) ?_
  refine ws_isub C d_M_lose_5 ?_
  refine ws_istore_n C d_M_lose_6 (by rw [hn]; decide) ?_
  suffices hL : ∀ n (G1 : GS), n ≤ G1.1 20 0 → OK G1 → losF w e n G1 = los G w e → ∀ S : Sto, MR o ad G1 S → ∀ x : Int32, x = nI n - nI 1 → WS F 7 [some (.ref o), some (.int (nI w)), some (.int (nI e)), some (.int x)] [] S 0 0 from hL _ G (Nat.le_refl _) hO rfl S hR _ rfl
  intro n
  induction n with
  | zero =>
    intro G1 hn1 hO1 hp S hR x hx
    subst hx
    refine ws_iload_n C d_M_lose_7 rfl ?_
    refine ws_if_lt C d_M_lose_8 (fun _ => ?_) (fun h => absurd (by decide) h)
    exact ws_vret C R d_M_lose_42 rfl (by decide) (by decide) ⟨rfl, by rw [← hp]; exact hR⟩
  | succ n ih =>
    intro G1 hn1 hO1 hp S hR x hx
    have hx1 : x = nI n := by rw [hx, nI_sub (by omega)]; rfl
    subst hx1
    have hb20 : G1.1 20 0 ≤ 1399 := hO1 20 0
    refine ws_iload_n C d_M_lose_7 rfl ?_
    refine ws_if_ltN C d_M_lose_8 (by omega) ?_
    refine ws_aload_n C d_M_lose_11 rfl ?_
    refine wm_arr C hR 22 d_M_lose_12 f_M_68 rfl rfl rfl ?_
    refine ws_iload_n C d_M_lose_15 rfl ?_
    refine wm_aldN C hR 22 d_M_lose_16 rfl rfl (by decide) (show _ < 1400 by first | omega | exact okl hO1 _ _) ?_
    refine ws_iload_n C d_M_lose_17 rfl ?_
    refine ws_icmp_neN C d_M_lose_18 (by first | omega | exact okl hO1 _ _) (by first | omega | exact okl hO1 _ _) (fun h18 => ?_) (fun h18 => ?_)
    · refine ws_iinc C (nI n - nI 1) d_M_lose_36 rfl (by rw [Int32.sub_eq_add_neg]; rfl) (by rw [hn]; decide) ?_
      refine ws_goto C d_M_lose_39 ?_
      exact ih G1 (by omega) hO1 (by rw [← hp, losF, if_neg (fun z => h18 z.1)]) S hR _ rfl
    · refine ws_aload_n C d_M_lose_21 rfl ?_
      refine wm_arr C hR 24 d_M_lose_22 f_M_74 rfl rfl rfl ?_
      refine ws_iload_n C d_M_lose_25 rfl ?_
      refine wm_aldN C hR 24 d_M_lose_26 rfl rfl (by decide) (show _ < 1400 by first | omega | exact okl hO1 _ _) ?_
      refine ws_iload_n C d_M_lose_27 rfl ?_
      refine ws_icmp_geN C d_M_lose_28 (by first | omega | exact okl hO1 _ _) (by first | omega | exact okl hO1 _ _) (fun h28 => ?_) (fun h28 => ?_)
      · refine ws_iinc C (nI n - nI 1) d_M_lose_36 rfl (by rw [Int32.sub_eq_add_neg]; rfl) (by rw [hn]; decide) ?_
        refine ws_goto C d_M_lose_39 ?_
        exact ih G1 (by omega) hO1 (by rw [← hp, losF, if_neg (by omega)]) S hR _ rfl
      · refine ws_aload_n C d_M_lose_31 rfl ?_
        refine ws_iload_n C d_M_lose_32 rfl ?_
        refine ws_callVv C w_M_100 (As := [_]) (c_M_strike hR hO1 (by omega)) d_M_lose_33 rfl rfl hR.1 (Nat.le_of_ble_eq_true rfl) (by decide) (by decide) (by decide) (fun S hR => ?_)
        refine ws_iinc C (nI n - nI 1) d_M_lose_36 rfl (by rw [Int32.sub_eq_add_neg]; rfl) (by rw [hn]; decide) ?_
        refine ws_goto C d_M_lose_39 ?_
        exact ih (stk G1 n) (by unfold stk; rw [stkT_20]; omega) (ok_stk hO1) (by rw [← hp, losF, if_pos (by omega)]) S hR _ rfl
set_option maxHeartbeats 4000000 in
set_option maxRecDepth 100000 in
theorem c_M_settleAll {V : Ev} {o : Nat} {ad : Nat → Nat} {G : GS} {S : Sto} (hR : MR o ad G S) (hO : OK G) {v : Nat} (hv : v ≤ 5) : CT V mi_M_settleAll 0 0 [.ref o, .int (nI v)] S (Pv (MR o ad (stl G v))) := by
  refine CT.of (cc := prog_8_method_15_code) (own := "ChainVersionsModel") (nL := 4) (d := 0) (by decide) rfl rfl rfl rfl (by simp [Value.category]) (Nat.le_of_ble_eq_true rfl) rfl ?_
  intro F hV hn C R
  subst hV
  have hb4 : G.1 4 v ≤ 100 := hO 4 v
  have hb5 : G.1 5 v ≤ 100 := hO 5 v
  refine ws_aload_n C d_M_settleAll_0 rfl ?_
  refine wm_arr C hR 5 d_M_settleAll_1 f_M_23 rfl rfl rfl ?_
  refine ws_iload_n C d_M_settleAll_4 rfl ?_
  refine wm_aldN C hR 5 d_M_settleAll_5 rfl rfl (by decide) (show _ < 6 by first | omega | exact okl hO _ _) ?_
  refine ws_iconst C (nI 1) d_M_settleAll_6 (by decide) ?_
  refine ws_iaddN C d_M_settleAll_7 ?_
  refine ws_istore_n C d_M_settleAll_8 (by rw [hn]; decide) ?_
  suffices hL : ∀ n i (G1 : GS), n = G.1 4 v + 1 - i → 1 ≤ i → i ≤ 200 → OK G1 → G1.1 4 v = G.1 4 v → gN (stlF v n i G1) 5 v (G.1 4 v) = stl G v → ∀ (S : Sto) (y : Option Value), MR o ad G1 S → WS F 9 [some (.ref o), some (.int (nI v)), some (.int (nI i)), y] [] S 0 0 from hL _ (G.1 5 v + 1) G rfl (by omega) (by omega) hO rfl (by rw [stl, Nat.add_sub_add_right]) S _ hR
  intro n
  induction n with
  | zero =>
    intro i G1 hi h1 h2 hO1 e4 hp S y hR
    refine ws_iload_n C d_M_settleAll_9 rfl ?_
    refine ws_aload_n C d_M_settleAll_10 rfl ?_
    refine wm_arr C hR 4 d_M_settleAll_11 f_M_20 rfl rfl rfl ?_
    refine ws_iload_n C d_M_settleAll_14 rfl ?_
    refine wm_aldN C hR 4 d_M_settleAll_15 rfl rfl (by decide) (show _ < 6 by first | omega | exact okl hO1 _ _) ?_
    refine ws_top (nI (G.1 4 v)) (by rw [e4]) ?_
    refine ws_icmp_gtN C d_M_settleAll_16 (by first | omega | exact okl hO1 _ _) (by first | omega | exact okl hO1 _ _) (fun h16 => ?_) (fun h16 => ?_)
    · refine ws_aload_n C d_M_settleAll_101 rfl ?_
      refine wm_arr C hR 5 d_M_settleAll_102 f_M_23 rfl rfl rfl ?_
      refine ws_iload_n C d_M_settleAll_105 rfl ?_
      refine ws_aload_n C d_M_settleAll_106 rfl ?_
      refine wm_arr C hR 4 d_M_settleAll_107 f_M_20 rfl rfl rfl ?_
      refine ws_iload_n C d_M_settleAll_110 rfl ?_
      refine wm_aldN C hR 4 d_M_settleAll_111 rfl rfl (by decide) (show _ < 6 by first | omega | exact okl hO1 _ _) ?_
      refine ws_top (nI (G.1 4 v)) (by rw [e4]) ?_
      refine wm_astN C hR 5 d_M_settleAll_112 rfl rfl (by decide) (show _ < 6 by first | omega | exact okl hO1 _ _) (fun S hR => ?_)
      exact ws_vret C R d_M_settleAll_113 rfl (by decide) (by decide) ⟨rfl, by rw [← hp]; exact hR⟩
    · omega
  | succ n ih =>
    intro i G1 hi h1 h2 hO1 e4 hp S y hR
    have hb11 : G1.1 11 (128 * v + i) ≤ 2 := hO1 11 _
    refine ws_iload_n C d_M_settleAll_9 rfl ?_
    refine ws_aload_n C d_M_settleAll_10 rfl ?_
    refine wm_arr C hR 4 d_M_settleAll_11 f_M_20 rfl rfl rfl ?_
    refine ws_iload_n C d_M_settleAll_14 rfl ?_
    refine wm_aldN C hR 4 d_M_settleAll_15 rfl rfl (by decide) (show _ < 6 by first | omega | exact okl hO1 _ _) ?_
    refine ws_top (nI (G.1 4 v)) (by rw [e4]) ?_
    refine ws_icmp_gtN C d_M_settleAll_16 (by first | omega | exact okl hO1 _ _) (by first | omega | exact okl hO1 _ _) (fun h16 => ?_) (fun h16 => ?_)
    · omega
    · refine ws_aload_n C d_M_settleAll_19 rfl ?_
      refine wm_arr C hR 11 d_M_settleAll_20 f_M_38 rfl rfl rfl ?_
      refine ws_sipush C (nI 128) d_M_settleAll_23 (by decide) ?_
      refine ws_iload_n C d_M_settleAll_26 rfl ?_
      refine ws_imulN C d_M_settleAll_27 ?_
      refine ws_iload_n C d_M_settleAll_28 rfl ?_
      refine ws_iaddN C d_M_settleAll_29 ?_
      refine wm_aldN C hR 11 d_M_settleAll_30 rfl rfl (by decide) (show _ < 768 by first | omega | exact okl hO1 _ _) ?_
      refine ws_istore_n C d_M_settleAll_31 (by rw [hn]; decide) ?_
      refine ws_aload_n C d_M_settleAll_32 rfl ?_
      refine wm_arr C hR 13 d_M_settleAll_33 f_M_44 rfl rfl rfl ?_
      refine ws_iload_n C d_M_settleAll_36 rfl ?_
      refine wm_aldN C hR 13 d_M_settleAll_37 rfl rfl (by decide) (show _ < 3 by first | omega | exact okl hO1 _ _) ?_
      refine ws_iconst C (nI 1) d_M_settleAll_38 (by decide) ?_
      refine ws_icmp_neN C d_M_settleAll_39 (by first | omega | exact okl hO1 _ _) (by first | omega | exact okl hO1 _ _) (fun h39 => ?_) (fun h39 => ?_)
      · refine ws_iinc C _ d_M_settleAll_95 rfl (inc1 _) (by rw [hn]; decide) ?_
        refine ws_goto C d_M_settleAll_98 ?_
        have hR : MR o ad (fin1 G1 v i) S := by unfold fin1; rw [if_neg (fun z => h39 z.1)]; exact hR
        exact ih (i + 1) _ (by omega) (by omega) (by omega) (ok_fin1 hO1 (by omega)) (by rw [fin1_ne _ _ _ (by decide) (by decide)]; exact e4) hp S _ hR
      · refine ws_aload_n C d_M_settleAll_42 rfl ?_
        refine wm_arr C hR 12 d_M_settleAll_43 f_M_41 rfl rfl rfl ?_
        refine ws_sipush C (nI 128) d_M_settleAll_46 (by decide) ?_
        refine ws_iload_n C d_M_settleAll_49 rfl ?_
        refine ws_imulN C d_M_settleAll_50 ?_
        refine ws_iload_n C d_M_settleAll_51 rfl ?_
        refine ws_iaddN C d_M_settleAll_52 ?_
        refine wm_aldN C hR 12 d_M_settleAll_53 rfl rfl (by decide) (show _ < 768 by first | omega | exact okl hO1 _ _) ?_
        refine ws_aload_n C d_M_settleAll_54 rfl ?_
        refine wm_arr C hR 14 d_M_settleAll_55 f_M_47 rfl rfl rfl ?_
        refine ws_iload_n C d_M_settleAll_58 rfl ?_
        refine wm_aldN C hR 14 d_M_settleAll_59 rfl rfl (by decide) (show _ < 3 by first | omega | exact okl hO1 _ _) ?_
        refine ws_icmp_neN C d_M_settleAll_60 (by first | omega | exact okl hO1 _ _) (by first | omega | exact okl hO1 _ _) (fun h60 => ?_) (fun h60 => ?_)
        · refine ws_iinc C _ d_M_settleAll_95 rfl (inc1 _) (by rw [hn]; decide) ?_
          refine ws_goto C d_M_settleAll_98 ?_
          have hR : MR o ad (fin1 G1 v i) S := by unfold fin1; rw [if_neg (fun z => h60 z.2)]; exact hR
          exact ih (i + 1) _ (by omega) (by omega) (by omega) (ok_fin1 hO1 (by omega)) (by rw [fin1_ne _ _ _ (by decide) (by decide)]; exact e4) hp S _ hR
        · refine ws_aload_n C d_M_settleAll_63 rfl ?_
          refine wm_arr C hR 13 d_M_settleAll_64 f_M_44 rfl rfl rfl ?_
          refine ws_iload_n C d_M_settleAll_67 rfl ?_
          refine ws_iconst C (nI 2) d_M_settleAll_68 (by decide) ?_
          refine wm_astN C hR 13 d_M_settleAll_69 rfl rfl (by decide) (show _ < 3 by first | omega | exact okl hO1 _ _) (fun S hR => ?_)
          refine ws_aload_n C d_M_settleAll_70 rfl ?_
          refine wm_arr C hR 18 d_M_settleAll_71 f_M_59 rfl rfl rfl ?_
          refine ws_iload_n C d_M_settleAll_74 rfl ?_
          refine ws_iload_n C d_M_settleAll_75 rfl ?_
          refine wm_astN C hR 18 d_M_settleAll_76 rfl rfl (by decide) (show _ < 3 by first | omega | exact okl hO1 _ _) (fun S hR => ?_)
          refine ws_aload_n C d_M_settleAll_77 rfl ?_
          refine wm_arr C hR 19 d_M_settleAll_78 f_M_62 rfl rfl rfl ?_
          refine ws_iload_n C d_M_settleAll_81 rfl ?_
          refine ws_aload_n C d_M_settleAll_82 rfl ?_
          refine wm_arr C hR 10 d_M_settleAll_83 f_M_35 rfl rfl rfl ?_
          refine ws_sipush C (nI 128) d_M_settleAll_86 (by decide) ?_
          refine ws_iload_n C d_M_settleAll_89 rfl ?_
          refine ws_imulN C d_M_settleAll_90 ?_
          refine ws_iload_n C d_M_settleAll_91 rfl ?_
          refine ws_iaddN C d_M_settleAll_92 ?_
          refine wm_aldV C hR 10 d_M_settleAll_93 rfl rfl (by decide) (show _ < 768 by first | omega | exact okl hO1 _ _) ?_
          refine wm_astV C hR 19 d_M_settleAll_94 rfl rfl (by decide) (show _ < 3 by first | omega | exact okl hO1 _ _) (fun S hR => ?_)
          refine ws_iinc C _ d_M_settleAll_95 rfl (inc1 _) (by rw [hn]; decide) ?_
          refine ws_goto C d_M_settleAll_98 ?_
          have hR : MR o ad (fin1 G1 v i) S := by unfold fin1; rw [if_pos ⟨h39, h60⟩]; exact hR
          exact ih (i + 1) _ (by omega) (by omega) (by omega) (ok_fin1 hO1 (by omega)) (by rw [fin1_ne _ _ _ (by decide) (by decide)]; exact e4) hp S _ hR
set_option maxHeartbeats 4000000 in
set_option maxRecDepth 100000 in
theorem c_M_take {V : Ev} {o : Nat} {ad : Nat → Nat} {G : GS} {S : Sto} (hR : MR o ad G S) (hO : OK G) {v k c r : Nat} {x : Int32} (hv : v ≤ 5) (hl : G.1 4 v + 1 ≤ 100) (hk : k ≤ 3) (hc : c ≤ 2) (hr : r ≤ 600) : CT V mi_M_take 0 0 [.ref o, .int (nI v), .int (nI k), .int x, .int (nI c), .int (nI r)] S (Pv (MR o ad (tak G v k x c r))) := by
  refine CT.of (cc := prog_8_method_16_code) (own := "ChainVersionsModel") (nL := 7) (d := 2) (by decide) rfl rfl rfl rfl (by simp [Value.category]) (Nat.le_of_ble_eq_true rfl) rfl ?_
  intro F hV hn C R
  subst hV
  have hb4 : G.1 4 v ≤ 100 := hO 4 v
  have hb20 : G.1 20 0 ≤ 1399 := hO 20 0
  refine ws_aload_n C d_M_take_0 rfl ?_
  refine wm_arr C hR 4 d_M_take_1 f_M_20 rfl rfl rfl ?_
  refine ws_iload_n C d_M_take_4 rfl ?_
  refine ws_dup2 C d_M_take_5 rfl rfl ?_
  refine wm_aldN C hR 4 d_M_take_6 rfl rfl (by decide) (show _ < 6 by first | omega | exact okl hO _ _) ?_
  refine ws_iconst C (nI 1) d_M_take_7 (by decide) ?_
  refine ws_iaddN C d_M_take_8 ?_
  refine wm_astN C hR 4 d_M_take_9 rfl rfl (by decide) (show _ < 6 by first | omega | exact okl hO _ _) (fun S hR => ?_)
  refine ws_sipush C (nI 128) d_M_take_10 (by decide) ?_
  refine ws_iload_n C d_M_take_13 rfl ?_
  refine ws_imulN C d_M_take_14 ?_
  refine ws_aload_n C d_M_take_15 rfl ?_
  refine wm_arr C hR 4 d_M_take_16 f_M_20 rfl rfl rfl ?_
  refine ws_iload_n C d_M_take_19 rfl ?_
  refine wm_aldN C hR 4 d_M_take_20 rfl rfl (by decide) (show _ < 6 by first | omega | exact okl hO _ _) ?_
  refine ws_top (nI (G.1 4 v + 1)) (by simp [gN_1, gN_2, gV_1, gV_2]) ?_
  refine ws_iaddN C d_M_take_21 ?_
  refine ws_istore C d_M_take_22 (by rw [hn]; decide) ?_
  refine ws_aload_n C d_M_take_24 rfl ?_
  refine wm_arr C hR 9 d_M_take_25 f_M_32 rfl rfl rfl ?_
  refine ws_iload C d_M_take_28 rfl ?_
  refine ws_iload_n C d_M_take_30 rfl ?_
  refine wm_astN C hR 9 d_M_take_31 rfl rfl (by decide) (show _ < 768 by first | omega | exact okl hO _ _) (fun S hR => ?_)
  refine ws_aload_n C d_M_take_32 rfl ?_
  refine wm_arr C hR 10 d_M_take_33 f_M_35 rfl rfl rfl ?_
  refine ws_iload C d_M_take_36 rfl ?_
  refine ws_iload_n C d_M_take_38 rfl ?_
  refine wm_astV C hR 10 d_M_take_39 rfl rfl (by decide) (show _ < 768 by first | omega | exact okl hO _ _) (fun S hR => ?_)
  refine ws_aload_n C d_M_take_40 rfl ?_
  refine wm_arr C hR 11 d_M_take_41 f_M_38 rfl rfl rfl ?_
  refine ws_iload C d_M_take_44 rfl ?_
  refine ws_iload C d_M_take_46 rfl ?_
  refine wm_astN C hR 11 d_M_take_48 rfl rfl (by decide) (show _ < 768 by first | omega | exact okl hO _ _) (fun S hR => ?_)
  refine ws_aload_n C d_M_take_49 rfl ?_
  refine wm_arr C hR 12 d_M_take_50 f_M_41 rfl rfl rfl ?_
  refine ws_iload C d_M_take_53 rfl ?_
  refine ws_iload C d_M_take_55 rfl ?_
  refine wm_astN C hR 12 d_M_take_57 rfl rfl (by decide) (show _ < 768 by first | omega | exact okl hO _ _) (fun S hR => ?_)
  suffices hL : ∀ (G1 : GS) (S : Sto) (z : Int32), OK G1 → tol G1 v = tak G v k x c r → MR o ad G1 S → WS F 58 [some (.ref o), some (.int (nI v)), some (.int (nI k)), some (.int x), some (.int (nI c)), some (.int (nI r)), some (.int z)] [] S 0 0 from hL _ S _ (ok_hol hO (by omega) hk hc hr) rfl hR
  clear hR hb4 hl hb20 hO
  intro G S z hO hp hR
  have hb4 : G.1 4 v ≤ 100 := hO 4 v
  have hb20 : G.1 20 0 ≤ 1399 := hO 20 0
  refine ws_aload_n C d_M_take_58 rfl ?_
  refine ws_iload_n C d_M_take_59 rfl ?_
  refine ws_callVi C w_M_104 (As := [_]) (c_M_successor hR hO (by omega)) d_M_take_60 rfl rfl hR.1 (Nat.le_of_ble_eq_true rfl) (by decide) (by decide) (by decide) (fun S hR => ?_)
  refine ws_if_geO C d_M_take_63 (fun n hn => by have := suc_le hn; omega) (fun h63 => ?_) (fun h63 => ?_)
  · refine ws_aload_n C d_M_take_92 rfl ?_
    refine ws_iload_n C d_M_take_93 rfl ?_
    refine ws_aload_n C d_M_take_94 rfl ?_
    refine ws_iload_n C d_M_take_95 rfl ?_
    refine ws_callVi C w_M_104 (As := [_]) (c_M_successor hR hO (by omega)) d_M_take_96 rfl rfl hR.1 (Nat.le_of_ble_eq_true rfl) (by decide) (by decide) (by decide) (fun S hR => ?_)
    refine ws_iconst C (nI 1) d_M_take_99 (by decide) ?_
    refine ws_aload_n C d_M_take_100 rfl ?_
    refine wm_arr C hR 4 d_M_take_101 f_M_20 rfl rfl rfl ?_
    refine ws_iload_n C d_M_take_104 rfl ?_
    refine wm_aldN C hR 4 d_M_take_105 rfl rfl (by decide) (show _ < 6 by first | omega | exact okl hO _ _) ?_
    refine ws_iconst C (nI 0) d_M_take_106 (by decide) ?_
    refine ws_callVv C w_M_114 (As := [_, _, _, _, _]) (c_M_send hR hO (w := suc G v) (by omega) (fun x hx => suc_le hx)) d_M_take_107 rfl rfl hR.1 (Nat.le_of_ble_eq_true rfl) (by decide) (by decide) (by decide) (fun S hR => ?_)
    exact ws_vret C R d_M_take_110 rfl (by decide) (by decide) ⟨rfl, by rw [← hp, tol, if_neg h63]; exact hR⟩
  · refine ws_aload_n C d_M_take_66 rfl ?_
    refine ws_iload_n C d_M_take_67 rfl ?_
    refine ws_callVv C w_M_108 (As := [_]) (c_M_settleAll hR hO (by omega)) d_M_take_68 rfl rfl hR.1 (Nat.le_of_ble_eq_true rfl) (by decide) (by decide) (by decide) (fun S hR => ?_)
    refine ws_aload_n C d_M_take_71 rfl ?_
    refine ws_iload_n C d_M_take_72 rfl ?_
    refine ws_aload_n C d_M_take_73 rfl ?_
    refine ws_iload_n C d_M_take_74 rfl ?_
    refine ws_callVi C w_M_111 (As := [_]) ((prd_c (stl_ne G v (by decide) (by decide) (by decide)) (stl_ne G v (by decide) (by decide) (by decide)) v) ▸ c_M_predecessor hR (ok_stl hO) (by omega)) d_M_take_75 rfl rfl hR.1 (Nat.le_of_ble_eq_true rfl) (by decide) (by decide) (by decide) (fun S hR => ?_)
    refine ws_iconst C (nI 2) d_M_take_78 (by decide) ?_
    refine ws_aload_n C d_M_take_79 rfl ?_
    refine wm_arr C hR 5 d_M_take_80 f_M_23 rfl rfl rfl ?_
    refine ws_iload_n C d_M_take_83 rfl ?_
    refine wm_aldN C hR 5 d_M_take_84 rfl rfl (by decide) (show _ < 6 by first | omega | exact okl hO _ _) ?_
    refine ws_top (nI (G.1 4 v)) (by rw [stl_5]) ?_
    refine ws_iconst C (nI 0) d_M_take_85 (by decide) ?_
    refine ws_callVv C w_M_114 (As := [_, _, _, _, _]) (c_M_send (G := stl G v) hR (ok_stl hO) (w := prd G v) (by omega) (fun x hx => prd_le hv hx)) d_M_take_86 rfl rfl hR.1 (Nat.le_of_ble_eq_true rfl) (by decide) (by decide) (by decide) (fun S hR => ?_)
    refine ws_goto C d_M_take_89 ?_
    exact ws_vret C R d_M_take_110 rfl (by decide) (by decide) ⟨rfl, by rw [← hp, tol, if_pos h63]; exact hR⟩
set_option maxHeartbeats 4000000 in
set_option maxRecDepth 100000 in
theorem c_M_takeFrom {V : Ev} {o : Nat} {ad : Nat → Nat} {G : GS} {S : Sto} (hR : MR o ad G S) (hO : OK G) {v u i : Nat} (hv : v ≤ 5) (hu : u ≤ 5) (hi : i ≤ 127) (hl : G.1 4 v + 1 ≤ 100) : CT V mi_M_takeFrom 0 0 [.ref o, .int (nI v), .int (nI u), .int (nI i)] S (Pv (MR o ad (takF G v u i))) := by
  refine CT.of (cc := prog_8_method_17_code) (own := "ChainVersionsModel") (nL := 5) (d := 3) (by decide) rfl rfl rfl rfl (by simp [Value.category]) (Nat.le_of_ble_eq_true rfl) rfl ?_
  intro F hV hn C R
  subst hV
  refine ws_sipush C (nI 128) d_M_takeFrom_0 (by decide) ?_
  refine ws_iload_n C d_M_takeFrom_3 rfl ?_
  refine ws_imulN C d_M_takeFrom_4 ?_
  refine ws_iload_n C d_M_takeFrom_5 rfl ?_
  refine ws_iaddN C d_M_takeFrom_6 ?_
  refine ws_istore C d_M_takeFrom_7 (by rw [hn]; decide) ?_
  refine ws_aload_n C d_M_takeFrom_9 rfl ?_
  refine ws_iload_n C d_M_takeFrom_10 rfl ?_
  refine ws_aload_n C d_M_takeFrom_11 rfl ?_
  refine wm_arr C hR 9 d_M_takeFrom_12 f_M_32 rfl rfl rfl ?_
  refine ws_iload C d_M_takeFrom_15 rfl ?_
  refine wm_aldN C hR 9 d_M_takeFrom_17 rfl rfl (by decide) (show _ < 768 by first | omega | exact okl hO _ _) ?_
  refine ws_aload_n C d_M_takeFrom_18 rfl ?_
  refine wm_arr C hR 10 d_M_takeFrom_19 f_M_35 rfl rfl rfl ?_
  refine ws_iload C d_M_takeFrom_22 rfl ?_
  refine wm_aldV C hR 10 d_M_takeFrom_24 rfl rfl (by decide) (show _ < 768 by first | omega | exact okl hO _ _) ?_
  refine ws_aload_n C d_M_takeFrom_25 rfl ?_
  refine wm_arr C hR 11 d_M_takeFrom_26 f_M_38 rfl rfl rfl ?_
  refine ws_iload C d_M_takeFrom_29 rfl ?_
  refine wm_aldN C hR 11 d_M_takeFrom_31 rfl rfl (by decide) (show _ < 768 by first | omega | exact okl hO _ _) ?_
  refine ws_aload_n C d_M_takeFrom_32 rfl ?_
  refine wm_arr C hR 12 d_M_takeFrom_33 f_M_41 rfl rfl rfl ?_
  refine ws_iload C d_M_takeFrom_36 rfl ?_
  refine wm_aldN C hR 12 d_M_takeFrom_38 rfl rfl (by decide) (show _ < 768 by first | omega | exact okl hO _ _) ?_
  refine ws_callVv C w_M_118 (As := [_, _, _, _, _]) (c_M_take hR hO hv hl (hO 9 _) (hO 11 _) (hO 12 _)) d_M_takeFrom_39 rfl rfl hR.1 (Nat.le_of_ble_eq_true rfl) (by decide) (by decide) (by decide) (fun S hR => ?_)
  exact ws_vret C R d_M_takeFrom_42 rfl (by decide) (by decide) ⟨rfl, hR⟩
set_option maxHeartbeats 4000000 in
set_option maxRecDepth 100000 in
theorem c_M_done {V : Ev} {o : Nat} {ad : Nat → Nat} {G : GS} {S : Sto} (hR : MR o ad G S) (hO : OK G) {c v i : Nat} (hc : c ≤ 2) (hv : v ≤ 5) (hi : i ≤ 100) : CT V mi_M_done 0 0 [.ref o, .int (nI c), .int (nI v), .int (nI i)] S (Pv (MR o ad (don G c v i))) := by
  refine CT.of (cc := prog_8_method_18_code) (own := "ChainVersionsModel") (nL := 4) (d := 1) (by decide) rfl rfl rfl rfl (by simp [Value.category]) (Nat.le_of_ble_eq_true rfl) rfl ?_
  intro F hV hn C R
  subst hV
  refine ws_aload_n C d_M_done_0 rfl ?_
  refine wm_arr C hR 13 d_M_done_1 f_M_44 rfl rfl rfl ?_
  refine ws_iload_n C d_M_done_4 rfl ?_
  refine ws_iconst C (nI 4) d_M_done_5 (by decide) ?_
  refine wm_astN C hR 13 d_M_done_6 rfl rfl (by decide) (show _ < 3 by first | omega | exact okl hO _ _) (fun S hR => ?_)
  refine ws_aload_n C d_M_done_7 rfl ?_
  refine wm_arr C hR 18 d_M_done_8 f_M_59 rfl rfl rfl ?_
  refine ws_iload_n C d_M_done_11 rfl ?_
  refine ws_iload_n C d_M_done_12 rfl ?_
  refine wm_astN C hR 18 d_M_done_13 rfl rfl (by decide) (show _ < 3 by first | omega | exact okl hO _ _) (fun S hR => ?_)
  refine ws_aload_n C d_M_done_14 rfl ?_
  refine wm_arr C hR 19 d_M_done_15 f_M_62 rfl rfl rfl ?_
  refine ws_iload_n C d_M_done_18 rfl ?_
  refine ws_aload_n C d_M_done_19 rfl ?_
  refine ws_iload_n C d_M_done_20 rfl ?_
  refine ws_iload_n C d_M_done_21 rfl ?_
  refine ws_callVi C w_M_121 (As := [_, _]) (c_M_valueAt (v := v) (i := i) hR (ok_gN (ok_gN hO (by decide)) hi) hv hi) d_M_done_22 rfl rfl hR.1 (Nat.le_of_ble_eq_true rfl) (by decide) (by decide) (by decide) (fun S hR => ?_)
  refine ws_top (valAt G v i) (by rfl) ?_
  refine wm_astV C hR 19 d_M_done_25 rfl rfl (by decide) (show _ < 3 by first | omega | exact okl hO _ _) (fun S hR => ?_)
  exact ws_vret C R d_M_done_26 rfl (by decide) (by decide) ⟨rfl, hR⟩
end
section
/-! what pure steps keep, more -/
theorem clF_c {G G' : GS} (h : G'.1 9 = G.1 9) (v k n : Nat) : ∀ i, clF G' v k n i = clF G v k n i := by
  induction n with
  | zero => intro i; rfl
  | succ n ih => intro i; rw [clF, clF, h, ih]
theorem isCl_c {G G' : GS} (h9 : G'.1 9 = G.1 9) (h4 : G'.1 4 = G.1 4) (h5 : G'.1 5 = G.1 5) (v k : Nat) : isCl G' v k = isCl G v k := by unfold isCl; rw [h4, h5, clF_c h9]
theorem cnF_c {G G' : GS} (h : G'.1 9 = G.1 9) (v k n : Nat) : cnF G' v k n = cnF G v k n := by
  induction n with
  | zero => rfl
  | succ n ih => rw [cnF, cnF, h, ih]
theorem clN_c {G G' : GS} (h9 : G'.1 9 = G.1 9) (h5 : G'.1 5 = G.1 5) (v k : Nat) : clN G' v k = clN G v k := by unfold clN; rw [h5, cnF_c h9]
theorem tlo_c {G G' : GS} (h : G'.1 7 = G.1 7) (e : Nat) : tlo G' e = tlo G e := prdF_c h e 6
theorem snd_gV1 (G : GS) (c : Nat) (x : Int32) (v : Nat) (w : Option Nat) (k a b : Nat) : (snd (gV G 29 c x) v w k a b).1 = (snd G v w k a b).1 := by
  unfold snd
  cases w with
  | none => rfl
  | some w =>
    by_cases h : G.1 1 w = 0 ∨ G.1 3 v < G.1 3 w
    · have h' : (gV G 29 c x).1 1 w = 0 ∨ (gV G 29 c x).1 3 v < (gV G 29 c x).1 3 w := h
      simp only [if_pos h, if_pos h']
      rfl
    · have h' : ¬ ((gV G 29 c x).1 1 w = 0 ∨ (gV G 29 c x).1 3 v < (gV G 29 c x).1 3 w) := h
      simp only [if_neg h, if_neg h']
      rfl
theorem MR.snd29 {o : Nat} {ad : Nat → Nat} {G : GS} {S : Sto} {c : Nat} {x : Int32} {v : Nat} {w : Option Nat} {k a b : Nat} (h : MR o ad (snd G v w k a b) S) : MR o ad (snd (gV G 29 c x) v w k a b) S :=
  h.same (fun j _ => by rw [snd_gV1]) (fun j hj => by rw [snd_2, snd_2, gV_ne _ (by omega)])
theorem hdF_le (G : GS) (e : Nat) : ∀ n, n ≤ 5 → hdF G e n ≤ 5
  | 0, _ => Nat.le_refl _
  | n + 1, h => by
    rw [hdF]
    split
    · omega
    · exact hdF_le G e n (by omega)
theorem hdo_le (G : GS) : hdo G ≤ 5 := hdF_le G _ 5 (by decide)
theorem fwF_le {G : GS} {h c n : Nat} : ∀ {i x : Nat}, fwF G h c n i = some x → i ≤ x ∧ x < i + n := by
  induction n with
  | zero => intro i x hx; cases hx
  | succ n ih =>
    intro i x hx
    rw [fwF] at hx
    split at hx
    · cases hx; omega
    · have := ih hx; omega
theorem takF_20 (G : GS) (v u i : Nat) : G.1 20 0 ≤ (takF G v u i).1 20 0 ∧ (takF G v u i).1 20 0 ≤ G.1 20 0 + 1 := tak_20 _ _ _ _ _ _
theorem takF_4 (G : GS) (v u i : Nat) : (takF G v u i).1 4 v = G.1 4 v + 1 := tak_4 _ _ _ _ _ _
theorem ok_cp1 {G : GS} {w u i : Nat} (h : OK G) : OK (cp1 G w u i) := ok_gN (ok_gN (ok_gV (ok_gN h (h 9 _))) (h 11 _)) (h 12 _)
theorem ok_cpL {w u n : Nat} : ∀ (i : Nat) (G : GS), OK G → OK (cpL w u n i G) := by
  induction n with
  | zero => intro i G h; exact h
  | succ n ih => intro i G h; exact ih _ _ (ok_cp1 h)
theorem cp1_ne (G : GS) (w u i : Nat) {j : Nat} (h9 : j ≠ 9) (h11 : j ≠ 11) (h12 : j ≠ 12) : (cp1 G w u i).1 j = G.1 j := by
  unfold cp1
  rw [gN_ne _ h12, gN_ne _ h11, gV_1, gN_ne _ h9]
theorem cpL_ne (w u n : Nat) {j : Nat} (h9 : j ≠ 9) (h11 : j ≠ 11) (h12 : j ≠ 12) : ∀ (i : Nat) (G : GS), (cpL w u n i G).1 j = G.1 j := by
  induction n with
  | zero => intro i G; rfl
  | succ n ih => intro i G; rw [cpL, ih, cp1_ne _ _ _ _ h9 h11 h12]
theorem ok_srv {G : GS} {c v : Nat} (h : OK G) (hc : c ≤ 2) (hv : v ≤ 5) (hn : G.1 20 0 + 1 ≤ 1399) : OK (srv G c v).2 := by
  unfold srv
  split
  · exact ok_don (ok_gN h hv) (clN_le h _ _)
  · refine ok_snd (ok_gV (ok_gN h hv)) hv (fun x hx => tlo_le hx) (by decide) ?_ ?_ hn
    · have := h 15 c
      exact Nat.le_trans this (by decide)
    · omega
theorem srv_20 (G : GS) (c v : Nat) : G.1 20 0 ≤ (srv G c v).2.1 20 0 ∧ (srv G c v).2.1 20 0 ≤ G.1 20 0 + 1 := by
  unfold srv
  split
  · show G.1 20 0 ≤ (don _ _ _ _).1 20 0 ∧ _
    unfold don
    rw [gV_1, gN_ne _ (by decide), gN_ne _ (by decide), gN_ne _ (by decide)]
    omega
  · have := snd_20 (gV (gN G 17 c v) 29 c (nI v)) v (tlo G (G.1 3 v)) 3 (G.1 15 c) c
    rw [gV_1, gN_ne _ (by decide)] at this
    exact this
theorem tel_20 (G : GS) (w : Nat) : G.1 20 0 ≤ (tel G w).1 20 0 ∧ (tel G w).1 20 0 ≤ G.1 20 0 + 2 := by
  unfold tel
  split
  · have := snd_20 (stl G w) w (prd G w) 2 (G.1 4 w) 0
    rw [stl_ne _ _ (by decide) (by decide) (by decide)] at this
    omega
  · have h1 := snd_20 G w (suc G w) 5 (G.1 4 w) (G.1 5 w)
    have h2 := snd_20 (snd G w (suc G w) 5 (G.1 4 w) (G.1 5 w)) w (prd G w) 2 (G.1 5 w) 0
    omega
theorem ok_tel {G : GS} {w : Nat} (h : OK G) (hw : w ≤ 5) (hn : G.1 20 0 + 2 ≤ 1399) : OK (tel G w) := by
  have h4 : G.1 4 w ≤ 100 := h 4 w
  have h5 : G.1 5 w ≤ 100 := h 5 w
  unfold tel
  split
  · exact ok_snd (ok_stl h) hw (fun x hx => prd_le hw hx) (by decide) h4 (by decide) (by rw [stl_ne _ _ (by decide) (by decide) (by decide)]; omega)
  · have h1 := snd_20 G w (suc G w) 5 (G.1 4 w) (G.1 5 w)
    exact ok_snd (ok_snd h hw (fun x hx => suc_le hx) (by decide) h4 h5 (by omega)) hw (fun x hx => prd_le hw hx) (by decide) h5 (by decide) (by omega)
theorem ok_cpF {v u n : Nat} (hv : v ≤ 5) : ∀ (i : Nat) (G : GS), OK G → G.1 4 v + n ≤ 100 → G.1 20 0 + n ≤ 1399 → OK (cpF v u n i G) := by
  induction n with
  | zero => intro i G h _ _; exact h
  | succ n ih =>
    intro i G h h4 hc
    refine ih _ _ (ok_takF h hv (by omega) (by omega)) ?_ ?_
    · rw [takF_4]; omega
    · have := (takF_20 G v u i).2
      omega
end
section
/-! the reference: serve, write, answer, act, arrive -/
set_option maxHeartbeats 4000000 in
set_option maxRecDepth 100000 in
theorem c_M_serve {V : Ev} {o : Nat} {ad : Nat → Nat} {G : GS} {S : Sto} (hR : MR o ad G S) (hO : OK G) {c v : Nat} (hc : c ≤ 2) (hv : v ≤ 5) : CT V mi_M_serve 0 0 [.ref o, .int (nI c), .int (nI v)] S (Pi (nI (srv G c v).1) (MR o ad (srv G c v).2)) := by
  refine CT.of (cc := prog_8_method_19_code) (own := "ChainVersionsModel") (nL := 4) (d := 2) (by decide) rfl rfl rfl rfl (by simp [Value.category]) (Nat.le_of_ble_eq_true rfl) rfl ?_
  intro F hV hn C R
  subst hV
  have hb15 : G.1 15 c ≤ 3 := hO 15 c
  have hb3 : G.1 3 v ≤ 12 := hO 3 v
  refine ws_aload_n C d_M_serve_0 rfl ?_
  refine wm_arr C hR 17 d_M_serve_1 f_M_56 rfl rfl rfl ?_
  refine ws_iload_n C d_M_serve_4 rfl ?_
  refine ws_iload_n C d_M_serve_5 rfl ?_
  refine wm_astN C hR 17 d_M_serve_6 rfl rfl (by decide) (show _ < 3 by first | omega | exact okl hO _ _) (fun S hR => ?_)
  refine ws_aload_n C d_M_serve_7 rfl ?_
  refine wm_arr C hR 15 d_M_serve_8 f_M_50 rfl rfl rfl ?_
  refine ws_iload_n C d_M_serve_11 rfl ?_
  refine wm_aldN C hR 15 d_M_serve_12 rfl rfl (by decide) (show _ < 3 by first | omega | exact okl hO _ _) ?_
  refine ws_top (nI (G.1 15 c)) (by simp [gN_1, gN_2, gV_1, gV_2]) ?_
  refine ws_istore_n C d_M_serve_13 (by rw [hn]; decide) ?_
  refine ws_aload_n C d_M_serve_14 rfl ?_
  refine ws_iload_n C d_M_serve_15 rfl ?_
  refine ws_iload_n C d_M_serve_16 rfl ?_
  refine ws_callVi C w_M_125 (As := [_, _]) (c_M_isClean hR (ok_gN hO hv) hv hb15) d_M_serve_17 rfl rfl hR.1 (Nat.le_of_ble_eq_true rfl) (by decide) (by decide) (by decide) (fun S hR => ?_)
  refine ws_top (bI (isCl G v (G.1 15 c))) (by rw [isCl_c (gN_ne _ (by decide)) (gN_ne _ (by decide)) (gN_ne _ (by decide))]) ?_
  refine ws_if_eqB C d_M_serve_20 (fun h20 => ?_) (fun h20 => ?_)
  · refine ws_aload_n C d_M_serve_37 rfl ?_
    refine ws_iload_n C d_M_serve_38 rfl ?_
    refine ws_aload_n C d_M_serve_39 rfl ?_
    refine ws_aload_n C d_M_serve_40 rfl ?_
    refine wm_arr C hR 3 d_M_serve_41 f_M_16 rfl rfl rfl ?_
    refine ws_iload_n C d_M_serve_44 rfl ?_
    refine wm_aldN C hR 3 d_M_serve_45 rfl rfl (by decide) (show _ < 6 by first | omega | exact okl hO _ _) ?_
    refine ws_top (nI (G.1 3 v)) (by simp [gN_1, gN_2, gV_1, gV_2]) ?_
    refine ws_callVi C w_M_135 (As := [_]) (c_M_tailOf hR (ok_gN hO hv) (by omega)) d_M_serve_46 rfl rfl hR.1 (Nat.le_of_ble_eq_true rfl) (by decide) (by decide) (by decide) (fun S hR => ?_)
    refine ws_top (oI (tlo G (G.1 3 v))) (by rw [tlo_c (gN_ne _ (by decide))]) ?_
    refine ws_iconst C (nI 3) d_M_serve_49 (by decide) ?_
    refine ws_iload_n C d_M_serve_50 rfl ?_
    refine ws_iload_n C d_M_serve_51 rfl ?_
    refine ws_callVv C w_M_114 (As := [_, _, _, _, _]) (c_M_send hR (ok_gN hO hv) (w := tlo G (G.1 3 v)) hv (fun x hx => tlo_le hx)) d_M_serve_52 rfl rfl hR.1 (Nat.le_of_ble_eq_true rfl) (by decide) (by decide) (by decide) (fun S hR => ?_)
    refine ws_bipush C (nI 6) d_M_serve_55 (by decide) ?_
    exact ws_iret C R d_M_serve_57 rfl (by decide) (by decide) ⟨by rw [srv, if_neg (by rw [h20]; decide)], by rw [srv, if_neg (by rw [h20]; decide)]; exact hR.snd29⟩
  · refine ws_aload_n C d_M_serve_23 rfl ?_
    refine ws_iload_n C d_M_serve_24 rfl ?_
    refine ws_iload_n C d_M_serve_25 rfl ?_
    refine ws_aload_n C d_M_serve_26 rfl ?_
    refine ws_iload_n C d_M_serve_27 rfl ?_
    refine ws_iload_n C d_M_serve_28 rfl ?_
    refine ws_callVi C w_M_128 (As := [_, _]) (c_M_cleanNumber hR (ok_gN hO hv) hv hb15) d_M_serve_29 rfl rfl hR.1 (Nat.le_of_ble_eq_true rfl) (by decide) (by decide) (by decide) (fun S hR => ?_)
    refine ws_top (nI (clN G v (G.1 15 c))) (by rw [clN_c (gN_ne _ (by decide)) (gN_ne _ (by decide))]) ?_
    refine ws_callVv C w_M_131 (As := [_, _, _]) (c_M_done hR (ok_gN hO hv) hc hv (clN_le hO _ _)) d_M_serve_32 rfl rfl hR.1 (Nat.le_of_ble_eq_true rfl) (by decide) (by decide) (by decide) (fun S hR => ?_)
    refine ws_iconst C (nI 5) d_M_serve_35 (by decide) ?_
    exact ws_iret C R d_M_serve_36 rfl (by decide) (by decide) ⟨by rw [srv, if_pos h20], by rw [srv, if_pos h20]; exact hR⟩
set_option maxHeartbeats 4000000 in
set_option maxRecDepth 100000 in
theorem c_M_sendWrite {V : Ev} {o : Nat} {ad : Nat → Nat} {G : GS} {S : Sto} (hR : MR o ad G S) (hO : OK G) {c : Nat} (hc : c ≤ 2) (hse : ∀ v, G.1 5 v ≤ G.1 4 v) : CT V mi_M_sendWrite 0 0 [.ref o, .int (nI c)] S (Pi (nI (swr G c).1) (MR o ad (swr G c).2)) := by
  refine CT.of (cc := prog_8_method_20_code) (own := "ChainVersionsModel") (nL := 4) (d := 3) (by decide) rfl rfl rfl rfl (by simp [Value.category]) (Nat.le_of_ble_eq_true rfl) rfl ?_
  intro F hV hn C R
  subst hV
  have hb8 : G.1 8 0 ≤ 12 := hO 8 0
  refine ws_iconst C (nI 0) d_M_sendWrite_0 (by decide) ?_
  refine ws_istore_n C d_M_sendWrite_1 (by rw [hn]; decide) ?_
  suffices hL : ∀ n h, h + n = 5 → hdF G (G.1 8 0) n = hdo G → ∀ S : Sto, MR o ad G S → WS F 2 [some (.ref o), some (.int (nI c)), some (.int (nI h)), none] [] S 0 0 from hL 5 0 rfl rfl S hR
  have h25 : ∀ S : Sto, MR o ad G S → WS F 25 [some (.ref o), some (.int (nI c)), some (.int (nI (hdo G))), none] [] S 0 0 := by
    intro S hR
    have hh := hdo_le G
    have hsw : swr G c = if G.1 1 (hdo G) = 0 ∨ prd G (hdo G) ≠ none then (0, G) else match fwF G (hdo G) c (G.1 4 (hdo G)) 1 with | some i => (if i ≤ G.1 5 (hdo G) then 4 else 3, G) | none => if 8 ≤ G.1 4 (hdo G) - G.1 5 (hdo G) ∨ 100 ≤ G.1 4 (hdo G) then (1, G) else (2, tak G (hdo G) (G.1 15 c) (G.2 16 c) c (G.1 14 c)) := rfl
    generalize hdo G = h at *
    have hb4 : G.1 4 h ≤ 100 := hO 4 h
    have hb5 : G.1 5 h ≤ 100 := hO 5 h
    have hs5 := hse h
    refine ws_aload_n C d_M_sendWrite_25 rfl ?_
    refine wm_arr C hR 1 d_M_sendWrite_26 f_M_7 rfl rfl rfl ?_
    refine ws_iload_n C d_M_sendWrite_29 rfl ?_
    refine wm_zldN C hR 1 d_M_sendWrite_30 rfl rfl (by decide) (show _ < 6 by first | omega | exact okl hO _ _) ?_
    refine ws_if_eqN C d_M_sendWrite_31 (by first | omega | exact okl hO _ _) (fun h31 => ?_) (fun h31 => ?_)
    · refine ws_iconst C (nI 0) d_M_sendWrite_42 (by decide) ?_
      exact ws_iret C R d_M_sendWrite_43 rfl (by decide) (by decide) ⟨by rw [hsw, if_pos (Or.inl h31)], by rw [hsw, if_pos (Or.inl h31)]; exact hR⟩
    · refine ws_aload_n C d_M_sendWrite_34 rfl ?_
      refine ws_iload_n C d_M_sendWrite_35 rfl ?_
      refine ws_callVi C w_M_111 (As := [_]) (c_M_predecessor hR hO (by omega)) d_M_sendWrite_36 rfl rfl hR.1 (Nat.le_of_ble_eq_true rfl) (by decide) (by decide) (by decide) (fun S hR => ?_)
      refine ws_if_ltO C d_M_sendWrite_39 (fun n hn => by have := prd_le hh hn; omega) (fun h39 => ?_) (fun h39 => ?_)
      · rw [if_neg (by rw [h39]; simp; exact h31)] at hsw
        refine ws_iconst C (nI 1) d_M_sendWrite_44 (by decide) ?_
        refine ws_istore_n C d_M_sendWrite_45 (by rw [hn]; decide) ?_
        suffices hL : ∀ n i, i + n = G.1 4 h + 1 → 1 ≤ i → fwF G h c n i = fwF G h c (G.1 4 h) 1 → ∀ S : Sto, MR o ad G S → WS F 46 [some (.ref o), some (.int (nI c)), some (.int (nI h)), some (.int (nI i))] [] S 0 0 from hL _ 1 (by omega) (by omega) rfl S hR
        intro n
        induction n with
        | zero =>
          intro i hi h1 hp S hR
          rw [← hp, fwF] at hsw
          refine ws_iload_n C d_M_sendWrite_46 rfl ?_
          refine ws_aload_n C d_M_sendWrite_47 rfl ?_
          refine wm_arr C hR 4 d_M_sendWrite_48 f_M_20 rfl rfl rfl ?_
          refine ws_iload_n C d_M_sendWrite_51 rfl ?_
          refine wm_aldN C hR 4 d_M_sendWrite_52 rfl rfl (by decide) (show _ < 6 by first | omega | exact okl hO _ _) ?_
          refine ws_icmp_gtN C d_M_sendWrite_53 (by first | omega | exact okl hO _ _) (by first | omega | exact okl hO _ _) (fun h53 => ?_) (fun h53 => ?_)
          · refine ws_aload_n C d_M_sendWrite_115 rfl ?_
            refine wm_arr C hR 4 d_M_sendWrite_116 f_M_20 rfl rfl rfl ?_
            refine ws_iload_n C d_M_sendWrite_119 rfl ?_
            refine wm_aldN C hR 4 d_M_sendWrite_120 rfl rfl (by decide) (show _ < 6 by first | omega | exact okl hO _ _) ?_
            refine ws_aload_n C d_M_sendWrite_121 rfl ?_
            refine wm_arr C hR 5 d_M_sendWrite_122 f_M_23 rfl rfl rfl ?_
            refine ws_iload_n C d_M_sendWrite_125 rfl ?_
            refine wm_aldN C hR 5 d_M_sendWrite_126 rfl rfl (by decide) (show _ < 6 by first | omega | exact okl hO _ _) ?_
            refine ws_isubN C d_M_sendWrite_127 (by first | omega | exact okl hO _ _) ?_
            refine ws_bipush C (nI 8) d_M_sendWrite_128 (by decide) ?_
            refine ws_icmp_geN C d_M_sendWrite_130 (by first | omega | exact okl hO _ _) (by first | omega | exact okl hO _ _) (fun h130 => ?_) (fun h130 => ?_)
            · refine ws_iconst C (nI 1) d_M_sendWrite_144 (by decide) ?_
              exact ws_iret C R d_M_sendWrite_145 rfl (by decide) (by decide) ⟨by rw [hsw]; simp only []; rw [if_pos (Or.inl h130)], by rw [hsw]; simp only []; rw [if_pos (Or.inl h130)]; exact hR⟩
            · refine ws_aload_n C d_M_sendWrite_133 rfl ?_
              refine wm_arr C hR 4 d_M_sendWrite_134 f_M_20 rfl rfl rfl ?_
              refine ws_iload_n C d_M_sendWrite_137 rfl ?_
              refine wm_aldN C hR 4 d_M_sendWrite_138 rfl rfl (by decide) (show _ < 6 by first | omega | exact okl hO _ _) ?_
              refine ws_bipush C (nI 100) d_M_sendWrite_139 (by decide) ?_
              refine ws_icmp_ltN C d_M_sendWrite_141 (by first | omega | exact okl hO _ _) (by first | omega | exact okl hO _ _) (fun h141 => ?_) (fun h141 => ?_)
              · refine ws_aload_n C d_M_sendWrite_146 rfl ?_
                refine ws_iload_n C d_M_sendWrite_147 rfl ?_
                refine ws_aload_n C d_M_sendWrite_148 rfl ?_
                refine wm_arr C hR 15 d_M_sendWrite_149 f_M_50 rfl rfl rfl ?_
                refine ws_iload_n C d_M_sendWrite_152 rfl ?_
                refine wm_aldN C hR 15 d_M_sendWrite_153 rfl rfl (by decide) (show _ < 3 by first | omega | exact okl hO _ _) ?_
                refine ws_aload_n C d_M_sendWrite_154 rfl ?_
                refine wm_arr C hR 16 d_M_sendWrite_155 f_M_53 rfl rfl rfl ?_
                refine ws_iload_n C d_M_sendWrite_158 rfl ?_
                refine wm_aldV C hR 16 d_M_sendWrite_159 rfl rfl (by decide) (show _ < 3 by first | omega | exact okl hO _ _) ?_
                refine ws_iload_n C d_M_sendWrite_160 rfl ?_
                refine ws_aload_n C d_M_sendWrite_161 rfl ?_
                refine wm_arr C hR 14 d_M_sendWrite_162 f_M_47 rfl rfl rfl ?_
                refine ws_iload_n C d_M_sendWrite_165 rfl ?_
                refine wm_aldN C hR 14 d_M_sendWrite_166 rfl rfl (by decide) (show _ < 3 by first | omega | exact okl hO _ _) ?_
                refine ws_callVv C w_M_118 (As := [_, _, _, _, _]) (c_M_take hR hO (by omega) (by omega) (hO 15 c) (by omega) (hO 14 c)) d_M_sendWrite_167 rfl rfl hR.1 (Nat.le_of_ble_eq_true rfl) (by decide) (by decide) (by decide) (fun S hR => ?_)
                refine ws_iconst C (nI 2) d_M_sendWrite_170 (by decide) ?_
                exact ws_iret C R d_M_sendWrite_171 rfl (by decide) (by decide) ⟨by rw [hsw]; simp only []; rw [if_neg (by omega)], by rw [hsw]; simp only []; rw [if_neg (by omega)]; exact hR⟩
              · refine ws_iconst C (nI 1) d_M_sendWrite_144 (by decide) ?_
                exact ws_iret C R d_M_sendWrite_145 rfl (by decide) (by decide) ⟨by rw [hsw]; simp only []; rw [if_pos (Or.inr (by omega))], by rw [hsw]; simp only []; rw [if_pos (Or.inr (by omega))]; exact hR⟩
          · omega
        | succ n ih =>
          intro i hi h1 hp S hR
          refine ws_iload_n C d_M_sendWrite_46 rfl ?_
          refine ws_aload_n C d_M_sendWrite_47 rfl ?_
          refine wm_arr C hR 4 d_M_sendWrite_48 f_M_20 rfl rfl rfl ?_
          refine ws_iload_n C d_M_sendWrite_51 rfl ?_
          refine wm_aldN C hR 4 d_M_sendWrite_52 rfl rfl (by decide) (show _ < 6 by first | omega | exact okl hO _ _) ?_
          refine ws_icmp_gtN C d_M_sendWrite_53 (by first | omega | exact okl hO _ _) (by first | omega | exact okl hO _ _) (fun h53 => ?_) (fun h53 => ?_)
          · omega
          · refine ws_aload_n C d_M_sendWrite_56 rfl ?_
            refine wm_arr C hR 11 d_M_sendWrite_57 f_M_38 rfl rfl rfl ?_
            refine ws_sipush C (nI 128) d_M_sendWrite_60 (by decide) ?_
            refine ws_iload_n C d_M_sendWrite_63 rfl ?_
            refine ws_imulN C d_M_sendWrite_64 ?_
            refine ws_iload_n C d_M_sendWrite_65 rfl ?_
            refine ws_iaddN C d_M_sendWrite_66 ?_
            refine wm_aldN C hR 11 d_M_sendWrite_67 rfl rfl (by decide) (show _ < 768 by first | omega | exact okl hO _ _) ?_
            refine ws_iload_n C d_M_sendWrite_68 rfl ?_
            refine ws_icmp_neN C d_M_sendWrite_69 (by first | omega | exact okl hO _ _) (by first | omega | exact okl hO _ _) (fun h69 => ?_) (fun h69 => ?_)
            · refine ws_iinc C _ d_M_sendWrite_109 rfl (inc1 _) (by rw [hn]; decide) ?_
              refine ws_goto C d_M_sendWrite_112 ?_
              exact ih (i + 1) (by omega) (by omega) (by rw [← hp, fwF, if_neg (by omega)]) S hR
            · refine ws_aload_n C d_M_sendWrite_72 rfl ?_
              refine wm_arr C hR 12 d_M_sendWrite_73 f_M_41 rfl rfl rfl ?_
              refine ws_sipush C (nI 128) d_M_sendWrite_76 (by decide) ?_
              refine ws_iload_n C d_M_sendWrite_79 rfl ?_
              refine ws_imulN C d_M_sendWrite_80 ?_
              refine ws_iload_n C d_M_sendWrite_81 rfl ?_
              refine ws_iaddN C d_M_sendWrite_82 ?_
              refine wm_aldN C hR 12 d_M_sendWrite_83 rfl rfl (by decide) (show _ < 768 by first | omega | exact okl hO _ _) ?_
              refine ws_aload_n C d_M_sendWrite_84 rfl ?_
              refine wm_arr C hR 14 d_M_sendWrite_85 f_M_47 rfl rfl rfl ?_
              refine ws_iload_n C d_M_sendWrite_88 rfl ?_
              refine wm_aldN C hR 14 d_M_sendWrite_89 rfl rfl (by decide) (show _ < 3 by first | omega | exact okl hO _ _) ?_
              refine ws_icmp_neN C d_M_sendWrite_90 (by first | omega | exact okl hO _ _) (by first | omega | exact okl hO _ _) (fun h90 => ?_) (fun h90 => ?_)
              · refine ws_iinc C _ d_M_sendWrite_109 rfl (inc1 _) (by rw [hn]; decide) ?_
                refine ws_goto C d_M_sendWrite_112 ?_
                exact ih (i + 1) (by omega) (by omega) (by rw [← hp, fwF, if_neg (by omega)]) S hR
              · refine ws_iload_n C d_M_sendWrite_93 rfl ?_
                refine ws_aload_n C d_M_sendWrite_94 rfl ?_
                refine wm_arr C hR 5 d_M_sendWrite_95 f_M_23 rfl rfl rfl ?_
                refine ws_iload_n C d_M_sendWrite_98 rfl ?_
                refine wm_aldN C hR 5 d_M_sendWrite_99 rfl rfl (by decide) (show _ < 6 by first | omega | exact okl hO _ _) ?_
                refine ws_icmp_gtN C d_M_sendWrite_100 (by first | omega | exact okl hO _ _) (by first | omega | exact okl hO _ _) (fun h100 => ?_) (fun h100 => ?_)
                · refine ws_iconst C (nI 3) d_M_sendWrite_107 (by decide) ?_
                  exact ws_iret C R d_M_sendWrite_108 rfl (by decide) (by decide) ⟨by rw [hsw, ← hp, fwF, if_pos ⟨h69, h90⟩]; simp only []; rw [if_neg (by omega)], by rw [hsw, ← hp, fwF, if_pos ⟨h69, h90⟩]; exact hR⟩
                · refine ws_iconst C (nI 4) d_M_sendWrite_103 (by decide) ?_
                  refine ws_goto C d_M_sendWrite_104 ?_
                  exact ws_iret C R d_M_sendWrite_108 rfl (by decide) (by decide) ⟨by rw [hsw, ← hp, fwF, if_pos ⟨h69, h90⟩]; simp only []; rw [if_pos (by omega)], by rw [hsw, ← hp, fwF, if_pos ⟨h69, h90⟩]; exact hR⟩
      · refine ws_iconst C (nI 0) d_M_sendWrite_42 (by decide) ?_
        exact ws_iret C R d_M_sendWrite_43 rfl (by decide) (by decide) ⟨by rw [hsw, if_pos (Or.inr h39)], by rw [hsw, if_pos (Or.inr h39)]; exact hR⟩
  intro n
  induction n with
  | zero =>
    intro h hh hp S hR
    have e : h = hdo G := by rw [← hp, hdF]; omega
    refine ws_iload_n C d_M_sendWrite_2 rfl ?_
    refine ws_iconst C (nI 5) d_M_sendWrite_3 (by decide) ?_
    refine ws_icmp_geN C d_M_sendWrite_4 (by first | omega | exact okl hO _ _) (by first | omega | exact okl hO _ _) (fun h4 => ?_) (fun h4 => ?_)
    · rw [e]
      exact h25 S hR
    · omega
  | succ n ih =>
    intro h hh hp S hR
    have e : 4 - n = h := by omega
    rw [hdF, e] at hp
    refine ws_iload_n C d_M_sendWrite_2 rfl ?_
    refine ws_iconst C (nI 5) d_M_sendWrite_3 (by decide) ?_
    refine ws_icmp_geN C d_M_sendWrite_4 (by first | omega | exact okl hO _ _) (by first | omega | exact okl hO _ _) (fun h4 => ?_) (fun h4 => ?_)
    · omega
    · refine ws_aload_n C d_M_sendWrite_7 rfl ?_
      refine ws_aload_n C d_M_sendWrite_8 rfl ?_
      refine wm_8 C hR d_M_sendWrite_9 f_M_87 ?_
      refine ws_iload_n C d_M_sendWrite_12 rfl ?_
      refine ws_callVi C w_M_90 (As := [_, _]) (c_M_isIn hR hO (by omega) (by omega)) d_M_sendWrite_13 rfl rfl hR.1 (Nat.le_of_ble_eq_true rfl) (by decide) (by decide) (by decide) (fun S hR => ?_)
      refine ws_if_neB C d_M_sendWrite_16 (fun h16 => ?_) (fun h16 => ?_)
      · rw [if_pos h16] at hp
        have h9 := h25 S hR
        rw [← hp] at h9
        exact h9
      · refine ws_iinc C _ d_M_sendWrite_19 rfl (inc1 _) (by rw [hn]; decide) ?_
        refine ws_goto C d_M_sendWrite_22 ?_
        exact ih (h + 1) (by omega) (by rw [← hp, if_neg (by rw [h16]; decide)]) S hR
set_option maxHeartbeats 4000000 in
set_option maxRecDepth 100000 in
theorem c_M_answer {V : Ev} {o : Nat} {ad : Nat → Nat} {G : GS} {S : Sto} (hR : MR o ad G S) (hO : OK G) {w i c : Nat} (hw : w ≤ 5) (hi : i ≤ 100) (hc : c ≤ 2) : CT V mi_M_answer 0 0 [.ref o, .int (nI w), .int (nI i), .int (nI c)] S (Pv (MR o ad (ans G w i c))) := by
  refine CT.of (cc := prog_8_method_22_code) (own := "ChainVersionsModel") (nL := 5) (d := 2) (by decide) rfl rfl rfl rfl (by simp [Value.category]) (Nat.le_of_ble_eq_true rfl) rfl ?_
  intro F hV hn C R
  subst hV
  have hb15 : G.1 15 c ≤ 3 := hO 15 c
  refine ws_iload_n C d_M_answer_0 rfl ?_
  refine ws_aload_n C d_M_answer_1 rfl ?_
  refine wm_arr C hR 5 d_M_answer_2 f_M_23 rfl rfl rfl ?_
  refine ws_iload_n C d_M_answer_5 rfl ?_
  refine wm_aldN C hR 5 d_M_answer_6 rfl rfl (by decide) (show _ < 6 by first | omega | exact okl hO _ _) ?_
  refine ws_icmp_leN C d_M_answer_7 (by first | omega | exact okl hO _ _) (by first | omega | exact okl hO _ _) (fun h7 => ?_) (fun h7 => ?_)
  · refine ws_iconst C (nI 0) d_M_answer_45 (by decide) ?_
    refine ws_istore C d_M_answer_46 (by rw [hn]; decide) ?_
    refine ws_aload_n C d_M_answer_48 rfl ?_
    refine ws_iload_n C d_M_answer_49 rfl ?_
    refine ws_iload_n C d_M_answer_50 rfl ?_
    refine ws_iload C d_M_answer_51 rfl ?_
    refine ws_if_eqN C d_M_answer_53 (by decide) (fun _ => ?_) (fun h => absurd rfl h)
    refine ws_aload_n C d_M_answer_60 rfl ?_
    refine ws_iload_n C d_M_answer_61 rfl ?_
    refine ws_aload_n C d_M_answer_62 rfl ?_
    refine wm_arr C hR 15 d_M_answer_63 f_M_50 rfl rfl rfl ?_
    refine ws_iload_n C d_M_answer_66 rfl ?_
    refine wm_aldN C hR 15 d_M_answer_67 rfl rfl (by decide) (show _ < 3 by first | omega | exact okl hO _ _) ?_
    refine ws_callVi C w_M_128 (As := [_, _]) (c_M_cleanNumber hR hO hw hb15) d_M_answer_68 rfl rfl hR.1 (Nat.le_of_ble_eq_true rfl) (by decide) (by decide) (by decide) (fun S hR => ?_)
    refine ws_callVv C w_M_131 (As := [_, _, _]) (c_M_done hR hO hc hw (clN_le hO _ _)) d_M_answer_71 rfl rfl hR.1 (Nat.le_of_ble_eq_true rfl) (by decide) (by decide) (by decide) (fun S hR => ?_)
    exact ws_vret C R d_M_answer_74 rfl (by decide) (by decide) ⟨rfl, by rw [ans, if_neg (by omega)]; exact hR⟩
  · refine ws_iload_n C d_M_answer_10 rfl ?_
    refine ws_aload_n C d_M_answer_11 rfl ?_
    refine wm_arr C hR 4 d_M_answer_12 f_M_20 rfl rfl rfl ?_
    refine ws_iload_n C d_M_answer_15 rfl ?_
    refine wm_aldN C hR 4 d_M_answer_16 rfl rfl (by decide) (show _ < 6 by first | omega | exact okl hO _ _) ?_
    refine ws_icmp_gtN C d_M_answer_17 (by first | omega | exact okl hO _ _) (by first | omega | exact okl hO _ _) (fun h17 => ?_) (fun h17 => ?_)
    · refine ws_iconst C (nI 0) d_M_answer_45 (by decide) ?_
      refine ws_istore C d_M_answer_46 (by rw [hn]; decide) ?_
      refine ws_aload_n C d_M_answer_48 rfl ?_
      refine ws_iload_n C d_M_answer_49 rfl ?_
      refine ws_iload_n C d_M_answer_50 rfl ?_
      refine ws_iload C d_M_answer_51 rfl ?_
      refine ws_if_eqN C d_M_answer_53 (by decide) (fun _ => ?_) (fun h => absurd rfl h)
      refine ws_aload_n C d_M_answer_60 rfl ?_
      refine ws_iload_n C d_M_answer_61 rfl ?_
      refine ws_aload_n C d_M_answer_62 rfl ?_
      refine wm_arr C hR 15 d_M_answer_63 f_M_50 rfl rfl rfl ?_
      refine ws_iload_n C d_M_answer_66 rfl ?_
      refine wm_aldN C hR 15 d_M_answer_67 rfl rfl (by decide) (show _ < 3 by first | omega | exact okl hO _ _) ?_
      refine ws_callVi C w_M_128 (As := [_, _]) (c_M_cleanNumber hR hO hw hb15) d_M_answer_68 rfl rfl hR.1 (Nat.le_of_ble_eq_true rfl) (by decide) (by decide) (by decide) (fun S hR => ?_)
      refine ws_callVv C w_M_131 (As := [_, _, _]) (c_M_done hR hO hc hw (clN_le hO _ _)) d_M_answer_71 rfl rfl hR.1 (Nat.le_of_ble_eq_true rfl) (by decide) (by decide) (by decide) (fun S hR => ?_)
      exact ws_vret C R d_M_answer_74 rfl (by decide) (by decide) ⟨rfl, by rw [ans, if_neg (by omega)]; exact hR⟩
    · refine ws_aload_n C d_M_answer_20 rfl ?_
      refine wm_arr C hR 9 d_M_answer_21 f_M_32 rfl rfl rfl ?_
      refine ws_sipush C (nI 128) d_M_answer_24 (by decide) ?_
      refine ws_iload_n C d_M_answer_27 rfl ?_
      refine ws_imulN C d_M_answer_28 ?_
      refine ws_iload_n C d_M_answer_29 rfl ?_
      refine ws_iaddN C d_M_answer_30 ?_
      refine wm_aldN C hR 9 d_M_answer_31 rfl rfl (by decide) (show _ < 768 by first | omega | exact okl hO _ _) ?_
      refine ws_aload_n C d_M_answer_32 rfl ?_
      refine wm_arr C hR 15 d_M_answer_33 f_M_50 rfl rfl rfl ?_
      refine ws_iload_n C d_M_answer_36 rfl ?_
      refine wm_aldN C hR 15 d_M_answer_37 rfl rfl (by decide) (show _ < 3 by first | omega | exact okl hO _ _) ?_
      refine ws_icmp_neN C d_M_answer_38 (by first | omega | exact okl hO _ _) (by first | omega | exact okl hO _ _) (fun h38 => ?_) (fun h38 => ?_)
      · refine ws_iconst C (nI 0) d_M_answer_45 (by decide) ?_
        refine ws_istore C d_M_answer_46 (by rw [hn]; decide) ?_
        refine ws_aload_n C d_M_answer_48 rfl ?_
        refine ws_iload_n C d_M_answer_49 rfl ?_
        refine ws_iload_n C d_M_answer_50 rfl ?_
        refine ws_iload C d_M_answer_51 rfl ?_
        refine ws_if_eqN C d_M_answer_53 (by decide) (fun _ => ?_) (fun h => absurd rfl h)
        refine ws_aload_n C d_M_answer_60 rfl ?_
        refine ws_iload_n C d_M_answer_61 rfl ?_
        refine ws_aload_n C d_M_answer_62 rfl ?_
        refine wm_arr C hR 15 d_M_answer_63 f_M_50 rfl rfl rfl ?_
        refine ws_iload_n C d_M_answer_66 rfl ?_
        refine wm_aldN C hR 15 d_M_answer_67 rfl rfl (by decide) (show _ < 3 by first | omega | exact okl hO _ _) ?_
        refine ws_callVi C w_M_128 (As := [_, _]) (c_M_cleanNumber hR hO hw hb15) d_M_answer_68 rfl rfl hR.1 (Nat.le_of_ble_eq_true rfl) (by decide) (by decide) (by decide) (fun S hR => ?_)
        refine ws_callVv C w_M_131 (As := [_, _, _]) (c_M_done hR hO hc hw (clN_le hO _ _)) d_M_answer_71 rfl rfl hR.1 (Nat.le_of_ble_eq_true rfl) (by decide) (by decide) (by decide) (fun S hR => ?_)
        exact ws_vret C R d_M_answer_74 rfl (by decide) (by decide) ⟨rfl, by rw [ans, if_neg (by omega)]; exact hR⟩
      · refine ws_iconst C (nI 1) d_M_answer_41 (by decide) ?_
        refine ws_goto C d_M_answer_42 ?_
        refine ws_istore C d_M_answer_46 (by rw [hn]; decide) ?_
        refine ws_aload_n C d_M_answer_48 rfl ?_
        refine ws_iload_n C d_M_answer_49 rfl ?_
        refine ws_iload_n C d_M_answer_50 rfl ?_
        refine ws_iload C d_M_answer_51 rfl ?_
        refine ws_if_eqN C d_M_answer_53 (by decide) (fun h => absurd h (by decide)) (fun _ => ?_)
        refine ws_iload_n C d_M_answer_56 rfl ?_
        refine ws_goto C d_M_answer_57 ?_
        refine ws_callVv C w_M_131 (As := [_, _, _]) (c_M_done hR hO hc hw hi) d_M_answer_71 rfl rfl hR.1 (Nat.le_of_ble_eq_true rfl) (by decide) (by decide) (by decide) (fun S hR => ?_)
        exact ws_vret C R d_M_answer_74 rfl (by decide) (by decide) ⟨rfl, by rw [ans, if_pos (by omega)]; exact hR⟩
theorem nI_t {n : Nat} (h : n < 2 ^ 31) : (nI n).toInt = (n : Int) := nI_toInt h
set_option maxHeartbeats 4000000 in
set_option maxRecDepth 100000 in
theorem c_M_act {V : Ev} {o : Nat} {ad : Nat → Nat} {G : GS} {S : Sto} (hR : MR o ad G S) (hO : OK G) {w v k a b : Nat} (hw : w ≤ 5) (hv : v ≤ 5) (hk : 1 ≤ k ∧ k ≤ 5) (ha : a ≤ 100) (h1 : k = 1 → G.1 4 w + 1 ≤ 100) (h3 : k = 3 → a ≤ 3) (h4 : k = 4 → b ≤ 2) (h5 : k = 5 → G.1 20 0 + (a - G.1 4 w) ≤ 1399) : CT V mi_M_act 0 0 [.ref o, .int (nI w), .int (nI v), .int (nI k), .int (nI a), .int (nI b)] S (Pv (MR o ad (act G w v k a b))) := by
  refine CT.of (cc := prog_8_method_21_code) (own := "ChainVersionsModel") (nL := 7) (d := 4) (by decide) rfl rfl rfl rfl (by simp [Value.category]) (Nat.le_of_ble_eq_true rfl) rfl ?_
  intro F hV hn C R
  subst hV
  have hb5 : G.1 5 w ≤ 100 := hO 5 w
  have hb4 : G.1 4 w ≤ 100 := hO 4 w
  have hk5 : k = 1 ∨ k = 2 ∨ k = 3 ∨ k = 4 ∨ k = 5 := by omega
  rcases hk5 with rfl | rfl | rfl | rfl | rfl
  · refine ws_iload_n C d_M_act_0 rfl ?_
    have h1l := h1 rfl
    refine ws_tabIn C (tgt := 32) 31 d_M_act_1 (by decide) (by decide) (by decide) (by decide) ?_
    refine ws_aload_n C d_M_act_32 rfl ?_
    refine ws_iload_n C d_M_act_33 rfl ?_
    refine ws_iload_n C d_M_act_34 rfl ?_
    refine ws_iload C d_M_act_35 rfl ?_
    refine ws_callVv C w_M_138 (As := [_, _, _]) (c_M_takeFrom hR hO hw hv (by omega) (by omega)) d_M_act_37 rfl rfl hR.1 (Nat.le_of_ble_eq_true rfl) (by decide) (by decide) (by decide) (fun S hR => ?_)
    refine ws_goto C d_M_act_40 ?_
    exact ws_vret C R d_M_act_141 rfl (by decide) (by decide) ⟨rfl, hR⟩
  · refine ws_iload_n C d_M_act_0 rfl ?_
    refine ws_tabIn C (tgt := 43) 42 d_M_act_1 (by decide) (by decide) (by decide) (by decide) ?_
    refine ws_iload C d_M_act_43 rfl ?_
    refine ws_aload_n C d_M_act_45 rfl ?_
    refine wm_arr C hR 5 d_M_act_46 f_M_23 rfl rfl rfl ?_
    refine ws_iload_n C d_M_act_49 rfl ?_
    refine wm_aldN C hR 5 d_M_act_50 rfl rfl (by decide) (show _ < 6 by first | omega | exact okl hO _ _) ?_
    refine ws_icmp_leN C d_M_act_51 (by first | omega | exact okl hO _ _) (by first | omega | exact okl hO _ _) (fun h51 => ?_) (fun h51 => ?_)
    · exact ws_vret C R d_M_act_141 rfl (by decide) (by decide) ⟨rfl, by rw [act, if_neg (by decide), if_pos rfl, if_neg (by omega)]; exact hR⟩
    · refine ws_aload_n C d_M_act_54 rfl ?_
      refine wm_arr C hR 5 d_M_act_55 f_M_23 rfl rfl rfl ?_
      refine ws_iload_n C d_M_act_58 rfl ?_
      refine ws_iload C d_M_act_59 rfl ?_
      refine wm_astN C hR 5 d_M_act_61 rfl rfl (by decide) (show _ < 6 by first | omega | exact okl hO _ _) (fun S hR => ?_)
      refine ws_aload_n C d_M_act_62 rfl ?_
      refine ws_iload_n C d_M_act_63 rfl ?_
      refine ws_aload_n C d_M_act_64 rfl ?_
      refine ws_iload_n C d_M_act_65 rfl ?_
      refine ws_callVi C w_M_111 (As := [_]) (prd_c (G := G) (G' := gN G 5 w a) (gN_ne _ (by decide)) (gN_ne _ (by decide)) w ▸ c_M_predecessor hR (ok_gN hO ha) (by omega)) d_M_act_66 rfl rfl hR.1 (Nat.le_of_ble_eq_true rfl) (by decide) (by decide) (by decide) (fun S hR => ?_)
      refine ws_iconst C (nI 2) d_M_act_69 (by decide) ?_
      refine ws_iload C d_M_act_70 rfl ?_
      refine ws_iconst C (nI 0) d_M_act_72 (by decide) ?_
      refine ws_callVv C w_M_114 (As := [_, _, _, _, _]) (c_M_send hR (ok_gN hO ha) (w := prd G w) hw (fun x hx => prd_le hw hx)) d_M_act_73 rfl rfl hR.1 (Nat.le_of_ble_eq_true rfl) (by decide) (by decide) (by decide) (fun S hR => ?_)
      refine ws_goto C d_M_act_76 ?_
      exact ws_vret C R d_M_act_141 rfl (by decide) (by decide) ⟨rfl, by rw [act, if_neg (by decide), if_pos rfl, if_pos (by omega)]; exact hR⟩
  · refine ws_iload_n C d_M_act_0 rfl ?_
    have h3a := h3 rfl
    refine ws_tabIn C (tgt := 79) 78 d_M_act_1 (by decide) (by decide) (by decide) (by decide) ?_
    refine ws_aload_n C d_M_act_79 rfl ?_
    refine ws_iload_n C d_M_act_80 rfl ?_
    refine ws_iload_n C d_M_act_81 rfl ?_
    refine ws_iconst C (nI 4) d_M_act_82 (by decide) ?_
    refine ws_aload_n C d_M_act_83 rfl ?_
    refine ws_iload_n C d_M_act_84 rfl ?_
    refine ws_iload C d_M_act_85 rfl ?_
    refine ws_callVi C w_M_128 (As := [_, _]) (c_M_cleanNumber hR hO hw h3a) d_M_act_87 rfl rfl hR.1 (Nat.le_of_ble_eq_true rfl) (by decide) (by decide) (by decide) (fun S hR => ?_)
    refine ws_iload C d_M_act_90 rfl ?_
    refine ws_callVv C w_M_114 (As := [_, _, _, _, _]) (c_M_send hR hO (w := some v) hw (fun x hx => by cases hx; exact hv)) d_M_act_92 rfl rfl hR.1 (Nat.le_of_ble_eq_true rfl) (by decide) (by decide) (by decide) (fun S hR => ?_)
    refine ws_goto C d_M_act_95 ?_
    exact ws_vret C R d_M_act_141 rfl (by decide) (by decide) ⟨rfl, hR⟩
  · refine ws_iload_n C d_M_act_0 rfl ?_
    have h4b := h4 rfl
    refine ws_tabIn C (tgt := 98) 97 d_M_act_1 (by decide) (by decide) (by decide) (by decide) ?_
    refine ws_aload_n C d_M_act_98 rfl ?_
    refine ws_iload_n C d_M_act_99 rfl ?_
    refine ws_iload C d_M_act_100 rfl ?_
    refine ws_iload C d_M_act_102 rfl ?_
    refine ws_callVv C w_M_141 (As := [_, _, _]) (c_M_answer hR hO hw ha h4b) d_M_act_104 rfl rfl hR.1 (Nat.le_of_ble_eq_true rfl) (by decide) (by decide) (by decide) (fun S hR => ?_)
    refine ws_goto C d_M_act_107 ?_
    exact ws_vret C R d_M_act_141 rfl (by decide) (by decide) ⟨rfl, hR⟩
  · have h5c := h5 rfl
    refine ws_iload_n C d_M_act_0 rfl ?_
    refine ws_tabOut C (tgt := 110) d_M_act_1 (by decide) (by decide) ?_
    refine ws_aload_n C d_M_act_110 rfl ?_
    refine wm_arr C hR 4 d_M_act_111 f_M_20 rfl rfl rfl ?_
    refine ws_iload_n C d_M_act_114 rfl ?_
    refine wm_aldN C hR 4 d_M_act_115 rfl rfl (by decide) (show _ < 6 by first | omega | exact okl hO _ _) ?_
    refine ws_iconst C (nI 1) d_M_act_116 (by decide) ?_
    refine ws_iaddN C d_M_act_117 ?_
    refine ws_istore C d_M_act_118 (by rw [hn]; decide) ?_
    suffices hL : ∀ n i (G1 : GS), n = a + 1 - i → G1.1 4 w + 1 = i → OK G1 → G1.1 20 0 + n ≤ 1399 → cpF w v n i G1 = act G w v 5 a b → ∀ S : Sto, MR o ad G1 S → WS F 120 [some (.ref o), some (.int (nI w)), some (.int (nI v)), some (.int (nI 5)), some (.int (nI a)), some (.int (nI b)), some (.int (nI i))] [] S 0 0 from hL (a - G.1 4 w) (G.1 4 w + 1) G (by omega) rfl hO (by omega) rfl S hR
    clear hR
    intro n
    induction n with
    | zero =>
      intro i G1 hi h4 hO1 hc hp S hR
      have hb : G1.1 4 w ≤ 100 := hO1 4 w
      refine ws_iload C d_M_act_120 rfl ?_
      refine ws_iload C d_M_act_122 rfl ?_
      refine ws_icmp_gtN C d_M_act_124 (by first | omega | exact okl hO _ _) (by first | omega | exact okl hO _ _) (fun h124 => ?_) (fun h124 => ?_)
      · exact ws_vret C R d_M_act_141 rfl (by decide) (by decide) ⟨rfl, by rw [← hp]; exact hR⟩
      · omega
    | succ n ih =>
      intro i G1 hi h4 hO1 hc hp S hR
      have h20 := takF_20 G1 w v i
      refine ws_iload C d_M_act_120 rfl ?_
      refine ws_iload C d_M_act_122 rfl ?_
      refine ws_icmp_gtN C d_M_act_124 (by first | omega | exact okl hO _ _) (by first | omega | exact okl hO _ _) (fun h124 => ?_) (fun h124 => ?_)
      · omega
      · refine ws_aload_n C d_M_act_127 rfl ?_
        refine ws_iload_n C d_M_act_128 rfl ?_
        refine ws_iload_n C d_M_act_129 rfl ?_
        refine ws_iload C d_M_act_130 rfl ?_
        refine ws_callVv C w_M_138 (As := [_, _, _]) (c_M_takeFrom hR hO1 hw hv (by omega) (by omega)) d_M_act_132 rfl rfl hR.1 (Nat.le_of_ble_eq_true rfl) (by decide) (by decide) (by decide) (fun S hR => ?_)
        refine ws_iinc C _ d_M_act_135 rfl (inc1 _) (by rw [hn]; decide) ?_
        refine ws_goto C d_M_act_138 ?_
        exact ih (i + 1) _ (by omega) (by rw [takF_4]; omega) (ok_takF hO1 hw (by omega) (by omega)) (by omega) hp S hR
set_option maxHeartbeats 4000000 in
set_option maxRecDepth 100000 in
theorem c_M_arrive {V : Ev} {o : Nat} {ad : Nat → Nat} {G : GS} {S : Sto} (hR : MR o ad G S) (hO : OK G) {w u a b : Nat} (hw : w ≤ 5) (hu : u ≤ 5) (ha : a ≤ 100) (hb : b ≤ 100) (hc : G.1 20 0 + 2 ≤ 1399) : CT V mi_M_arrive 0 0 [.ref o, .int (nI w), .int (nI u), .int (nI a), .int (nI b)] S (Pv (MR o ad (arv G w u a b))) := by
  refine CT.of (cc := prog_8_method_23_code) (own := "ChainVersionsModel") (nL := 6) (d := 2) (by decide) rfl rfl rfl rfl (by simp [Value.category]) (Nat.le_of_ble_eq_true rfl) rfl ?_
  intro F hV hn C R
  subst hV
  refine ws_iconst C (nI 1) d_M_arrive_0 (by decide) ?_
  refine ws_istore C d_M_arrive_1 (by rw [hn]; decide) ?_
  have h119 : ∀ (S : Sto) (y : Option Value), MR o ad (cpL w u a 1 G) S → WS F 119 [some (.ref o), some (.int (nI w)), some (.int (nI u)), some (.int (nI a)), some (.int (nI b)), y] [] S 0 0 := by
    intro S y hR
    have hO1 : OK (cpL w u a 1 G) := ok_cpL 1 G hO
    have h20 : (cpL w u a 1 G).1 20 0 = G.1 20 0 := by rw [cpL_ne _ _ _ (by decide) (by decide) (by decide)]
    refine ws_aload_n C d_M_arrive_119 rfl ?_
    refine wm_arr C hR 4 d_M_arrive_120 f_M_20 rfl rfl rfl ?_
    refine ws_iload_n C d_M_arrive_123 rfl ?_
    refine ws_iload_n C d_M_arrive_124 rfl ?_
    refine wm_astN C hR 4 d_M_arrive_125 rfl rfl (by decide) (show _ < 6 by first | omega | exact okl hO _ _) (fun S hR => ?_)
    refine ws_aload_n C d_M_arrive_126 rfl ?_
    refine wm_arr C hR 5 d_M_arrive_127 f_M_23 rfl rfl rfl ?_
    refine ws_iload_n C d_M_arrive_130 rfl ?_
    refine ws_iload C d_M_arrive_131 rfl ?_
    refine wm_astN C hR 5 d_M_arrive_133 rfl rfl (by decide) (show _ < 6 by first | omega | exact okl hO _ _) (fun S hR => ?_)
    refine ws_aload_n C d_M_arrive_134 rfl ?_
    refine wm_arr C hR 2 d_M_arrive_135 f_M_13 rfl rfl rfl ?_
    refine ws_iload_n C d_M_arrive_138 rfl ?_
    refine ws_iconst C (nI 1) d_M_arrive_139 (by decide) ?_
    refine wm_zst C hR 2 d_M_arrive_140 rfl rfl (by decide) (show _ < 6 by first | omega | exact okl hO _ _) (by decide) (fun S hR => ?_)
    suffices hL : ∀ (G1 : GS) (S : Sto), OK G1 → G1.1 20 0 + 2 ≤ 1399 → tel G1 w = arv G w u a b → MR o ad G1 S → WS F 141 [some (.ref o), some (.int (nI w)), some (.int (nI u)), some (.int (nI a)), some (.int (nI b)), y] [] S 0 0 from hL _ S (ok_gN (ok_gN (ok_gN hO1 ha) hb) (by decide)) (by rw [gN_ne _ (by decide), gN_ne _ (by decide), gN_ne _ (by decide)]; omega) rfl hR
    clear hR hO1 h20 hO hc
    intro G S hO hc hp hR
    have hb4 : G.1 4 w ≤ 100 := hO 4 w
    have hb5 : G.1 5 w ≤ 100 := hO 5 w
    refine ws_aload_n C d_M_arrive_141 rfl ?_
    refine ws_iload_n C d_M_arrive_142 rfl ?_
    refine ws_callVi C w_M_104 (As := [_]) (c_M_successor hR hO (by omega)) d_M_arrive_143 rfl rfl hR.1 (Nat.le_of_ble_eq_true rfl) (by decide) (by decide) (by decide) (fun S hR => ?_)
    refine ws_if_geO C d_M_arrive_146 (fun n hn => by have := suc_le hn; omega) (fun h146 => ?_) (fun h146 => ?_)
    · refine ws_aload_n C d_M_arrive_157 rfl ?_
      refine ws_iload_n C d_M_arrive_158 rfl ?_
      refine ws_aload_n C d_M_arrive_159 rfl ?_
      refine ws_iload_n C d_M_arrive_160 rfl ?_
      refine ws_callVi C w_M_104 (As := [_]) (c_M_successor hR hO (by omega)) d_M_arrive_161 rfl rfl hR.1 (Nat.le_of_ble_eq_true rfl) (by decide) (by decide) (by decide) (fun S hR => ?_)
      refine ws_iconst C (nI 5) d_M_arrive_164 (by decide) ?_
      refine ws_aload_n C d_M_arrive_165 rfl ?_
      refine wm_arr C hR 4 d_M_arrive_166 f_M_20 rfl rfl rfl ?_
      refine ws_iload_n C d_M_arrive_169 rfl ?_
      refine wm_aldN C hR 4 d_M_arrive_170 rfl rfl (by decide) (show _ < 6 by first | omega | exact okl hO _ _) ?_
      refine ws_aload_n C d_M_arrive_171 rfl ?_
      refine wm_arr C hR 5 d_M_arrive_172 f_M_23 rfl rfl rfl ?_
      refine ws_iload_n C d_M_arrive_175 rfl ?_
      refine wm_aldN C hR 5 d_M_arrive_176 rfl rfl (by decide) (show _ < 6 by first | omega | exact okl hO _ _) ?_
      refine ws_callVv C w_M_114 (As := [_, _, _, _, _]) (c_M_send hR hO (w := suc G w) (by omega) (fun x hx => suc_le hx)) d_M_arrive_177 rfl rfl hR.1 (Nat.le_of_ble_eq_true rfl) (by decide) (by decide) (by decide) (fun S hR => ?_)
      have hO2 : OK (snd G w (suc G w) 5 (G.1 4 w) (G.1 5 w)) := ok_snd hO hw (fun x hx => suc_le hx) (by decide) hb4 hb5 (by omega)
      refine ws_aload_n C d_M_arrive_180 rfl ?_
      refine ws_iload_n C d_M_arrive_181 rfl ?_
      refine ws_aload_n C d_M_arrive_182 rfl ?_
      refine ws_iload_n C d_M_arrive_183 rfl ?_
      refine ws_callVi C w_M_111 (As := [_]) (prd_c (G := G) (G' := snd G w (suc G w) 5 (G.1 4 w) (G.1 5 w)) (snd_ne _ _ _ _ _ _ (by decide)) (snd_ne _ _ _ _ _ _ (by decide)) w ▸ c_M_predecessor hR hO2 (by omega)) d_M_arrive_184 rfl rfl hR.1 (Nat.le_of_ble_eq_true rfl) (by decide) (by decide) (by decide) (fun S hR => ?_)
      refine ws_iconst C (nI 2) d_M_arrive_187 (by decide) ?_
      refine ws_aload_n C d_M_arrive_188 rfl ?_
      refine wm_arr C hR 5 d_M_arrive_189 f_M_23 rfl rfl rfl ?_
      refine ws_iload_n C d_M_arrive_192 rfl ?_
      refine wm_aldN C hR 5 d_M_arrive_193 rfl rfl (by decide) (show _ < 6 by first | omega | exact okl hO _ _) ?_
      refine ws_top (nI (G.1 5 w)) (by rw [snd_ne _ _ _ _ _ _ (by decide)]) ?_
      refine ws_iconst C (nI 0) d_M_arrive_194 (by decide) ?_
      refine ws_callVv C w_M_114 (As := [_, _, _, _, _]) (c_M_send hR hO2 (w := prd G w) (by omega) (fun x hx => prd_le hw hx)) d_M_arrive_195 rfl rfl hR.1 (Nat.le_of_ble_eq_true rfl) (by decide) (by decide) (by decide) (fun S hR => ?_)
      exact ws_vret C R d_M_arrive_198 rfl (by decide) (by decide) ⟨rfl, by rw [← hp, tel, if_neg h146]; exact hR⟩
    · refine ws_aload_n C d_M_arrive_149 rfl ?_
      refine ws_iload_n C d_M_arrive_150 rfl ?_
      refine ws_callVv C w_M_108 (As := [_]) (c_M_settleAll hR hO (by omega)) d_M_arrive_151 rfl rfl hR.1 (Nat.le_of_ble_eq_true rfl) (by decide) (by decide) (by decide) (fun S hR => ?_)
      refine ws_goto C d_M_arrive_154 ?_
      have hO2 : OK (stl G w) := ok_stl hO
      refine ws_aload_n C d_M_arrive_180 rfl ?_
      refine ws_iload_n C d_M_arrive_181 rfl ?_
      refine ws_aload_n C d_M_arrive_182 rfl ?_
      refine ws_iload_n C d_M_arrive_183 rfl ?_
      refine ws_callVi C w_M_111 (As := [_]) (prd_c (G := G) (G' := stl G w) (stl_ne G w (by decide) (by decide) (by decide)) (stl_ne G w (by decide) (by decide) (by decide)) w ▸ c_M_predecessor hR hO2 (by omega)) d_M_arrive_184 rfl rfl hR.1 (Nat.le_of_ble_eq_true rfl) (by decide) (by decide) (by decide) (fun S hR => ?_)
      refine ws_iconst C (nI 2) d_M_arrive_187 (by decide) ?_
      refine ws_aload_n C d_M_arrive_188 rfl ?_
      refine wm_arr C hR 5 d_M_arrive_189 f_M_23 rfl rfl rfl ?_
      refine ws_iload_n C d_M_arrive_192 rfl ?_
      refine wm_aldN C hR 5 d_M_arrive_193 rfl rfl (by decide) (show _ < 6 by first | omega | exact okl hO _ _) ?_
      refine ws_top (nI (G.1 4 w)) (by rw [stl_5]) ?_
      refine ws_iconst C (nI 0) d_M_arrive_194 (by decide) ?_
      refine ws_callVv C w_M_114 (As := [_, _, _, _, _]) (c_M_send hR hO2 (w := prd G w) (by omega) (fun x hx => prd_le hw hx)) d_M_arrive_195 rfl rfl hR.1 (Nat.le_of_ble_eq_true rfl) (by decide) (by decide) (by decide) (fun S hR => ?_)
      exact ws_vret C R d_M_arrive_198 rfl (by decide) (by decide) ⟨rfl, by rw [← hp, tel, if_pos h146]; exact hR⟩
  suffices hL : ∀ n i (G1 : GS), i + n = a + 1 → OK G1 → cpL w u n i G1 = cpL w u a 1 G → ∀ S : Sto, MR o ad G1 S → WS F 3 [some (.ref o), some (.int (nI w)), some (.int (nI u)), some (.int (nI a)), some (.int (nI b)), some (.int (nI i))] [] S 0 0 from hL a 1 G (by omega) hO rfl S hR
  clear hR
  intro n
  induction n with
  | zero =>
    intro i G1 hi hO1 hp S hR
    rw [cpL] at hp
    refine ws_iload C d_M_arrive_3 rfl ?_
    refine ws_iload_n C d_M_arrive_5 rfl ?_
    refine ws_icmp_gtN C d_M_arrive_6 (by first | omega | exact okl hO _ _) (by first | omega | exact okl hO _ _) (fun h6 => ?_) (fun h6 => ?_)
    · exact h119 S _ (hp ▸ hR)
    · omega
  | succ n ih =>
    intro i G1 hi hO1 hp S hR
    refine ws_iload C d_M_arrive_3 rfl ?_
    refine ws_iload_n C d_M_arrive_5 rfl ?_
    refine ws_icmp_gtN C d_M_arrive_6 (by first | omega | exact okl hO _ _) (by first | omega | exact okl hO _ _) (fun h6 => ?_) (fun h6 => ?_)
    · omega
    · refine ws_aload_n C d_M_arrive_9 rfl ?_
      refine wm_arr C hR 9 d_M_arrive_10 f_M_32 rfl rfl rfl ?_
      refine ws_sipush C (nI 128) d_M_arrive_13 (by decide) ?_
      refine ws_iload_n C d_M_arrive_16 rfl ?_
      refine ws_imulN C d_M_arrive_17 ?_
      refine ws_iload C d_M_arrive_18 rfl ?_
      refine ws_iaddN C d_M_arrive_20 ?_
      refine ws_aload_n C d_M_arrive_21 rfl ?_
      refine wm_arr C hR 9 d_M_arrive_22 f_M_32 rfl rfl rfl ?_
      refine ws_sipush C (nI 128) d_M_arrive_25 (by decide) ?_
      refine ws_iload_n C d_M_arrive_28 rfl ?_
      refine ws_imulN C d_M_arrive_29 ?_
      refine ws_iload C d_M_arrive_30 rfl ?_
      refine ws_iaddN C d_M_arrive_32 ?_
      refine wm_aldN C hR 9 d_M_arrive_33 rfl rfl (by decide) (show _ < 768 by first | omega | exact okl hO _ _) ?_
      refine wm_astN C hR 9 d_M_arrive_34 rfl rfl (by decide) (show _ < 768 by first | omega | exact okl hO _ _) (fun S hR => ?_)
      refine ws_aload_n C d_M_arrive_35 rfl ?_
      refine wm_arr C hR 10 d_M_arrive_36 f_M_35 rfl rfl rfl ?_
      refine ws_sipush C (nI 128) d_M_arrive_39 (by decide) ?_
      refine ws_iload_n C d_M_arrive_42 rfl ?_
      refine ws_imulN C d_M_arrive_43 ?_
      refine ws_iload C d_M_arrive_44 rfl ?_
      refine ws_iaddN C d_M_arrive_46 ?_
      refine ws_aload_n C d_M_arrive_47 rfl ?_
      refine wm_arr C hR 10 d_M_arrive_48 f_M_35 rfl rfl rfl ?_
      refine ws_sipush C (nI 128) d_M_arrive_51 (by decide) ?_
      refine ws_iload_n C d_M_arrive_54 rfl ?_
      refine ws_imulN C d_M_arrive_55 ?_
      refine ws_iload C d_M_arrive_56 rfl ?_
      refine ws_iaddN C d_M_arrive_58 ?_
      refine wm_aldV C hR 10 d_M_arrive_59 rfl rfl (by decide) (show _ < 768 by first | omega | exact okl hO _ _) ?_
      refine ws_top (G1.2 10 (128 * u + i)) (by rfl) ?_
      refine wm_astV C hR 10 d_M_arrive_60 rfl rfl (by decide) (show _ < 768 by first | omega | exact okl hO _ _) (fun S hR => ?_)
      refine ws_aload_n C d_M_arrive_61 rfl ?_
      refine wm_arr C hR 11 d_M_arrive_62 f_M_38 rfl rfl rfl ?_
      refine ws_sipush C (nI 128) d_M_arrive_65 (by decide) ?_
      refine ws_iload_n C d_M_arrive_68 rfl ?_
      refine ws_imulN C d_M_arrive_69 ?_
      refine ws_iload C d_M_arrive_70 rfl ?_
      refine ws_iaddN C d_M_arrive_72 ?_
      refine ws_aload_n C d_M_arrive_73 rfl ?_
      refine wm_arr C hR 11 d_M_arrive_74 f_M_38 rfl rfl rfl ?_
      refine ws_sipush C (nI 128) d_M_arrive_77 (by decide) ?_
      refine ws_iload_n C d_M_arrive_80 rfl ?_
      refine ws_imulN C d_M_arrive_81 ?_
      refine ws_iload C d_M_arrive_82 rfl ?_
      refine ws_iaddN C d_M_arrive_84 ?_
      refine wm_aldN C hR 11 d_M_arrive_85 rfl rfl (by decide) (show _ < 768 by first | omega | exact okl hO _ _) ?_
      refine ws_top (nI (G1.1 11 (128 * u + i))) (by simp [gN_1, gN_2, gV_1, gV_2]) ?_
      refine wm_astN C hR 11 d_M_arrive_86 rfl rfl (by decide) (show _ < 768 by first | omega | exact okl hO _ _) (fun S hR => ?_)
      refine ws_aload_n C d_M_arrive_87 rfl ?_
      refine wm_arr C hR 12 d_M_arrive_88 f_M_41 rfl rfl rfl ?_
      refine ws_sipush C (nI 128) d_M_arrive_91 (by decide) ?_
      refine ws_iload_n C d_M_arrive_94 rfl ?_
      refine ws_imulN C d_M_arrive_95 ?_
      refine ws_iload C d_M_arrive_96 rfl ?_
      refine ws_iaddN C d_M_arrive_98 ?_
      refine ws_aload_n C d_M_arrive_99 rfl ?_
      refine wm_arr C hR 12 d_M_arrive_100 f_M_41 rfl rfl rfl ?_
      refine ws_sipush C (nI 128) d_M_arrive_103 (by decide) ?_
      refine ws_iload_n C d_M_arrive_106 rfl ?_
      refine ws_imulN C d_M_arrive_107 ?_
      refine ws_iload C d_M_arrive_108 rfl ?_
      refine ws_iaddN C d_M_arrive_110 ?_
      refine wm_aldN C hR 12 d_M_arrive_111 rfl rfl (by decide) (show _ < 768 by first | omega | exact okl hO _ _) ?_
      refine ws_top (nI (G1.1 12 (128 * u + i))) (by simp [gN_1, gN_2, gV_1, gV_2]) ?_
      refine wm_astN C hR 12 d_M_arrive_112 rfl rfl (by decide) (show _ < 768 by first | omega | exact okl hO _ _) (fun S hR => ?_)
      refine ws_iinc C _ d_M_arrive_113 rfl (inc1 _) (by rw [hn]; decide) ?_
      refine ws_goto C d_M_arrive_116 ?_
      exact ih (i + 1) (cp1 G1 w u i) (by omega) (ok_cp1 hO1) hp S hR
end
section
/-! what pure steps keep, for the calls -/
theorem and1 {s : Nat} (h : s ≤ 4) : (nI s &&& nI 1 = nI 1) ↔ s % 2 = 1 := by
  have : ∀ s, s < 5 → ((nI s &&& nI 1 = nI 1) ↔ s % 2 = 1) := by decide +kernel
  exact this s (by omega)
theorem or1 {g w : Nat} (hg : g ≤ 63) (hw : w ≤ 5) : nI g ||| (nI 1 <<< (nI w &&& 31)) = nI (g ||| 1 <<< w) := by
  have : ∀ g, g < 64 → ∀ w, w < 6 → nI g ||| (nI 1 <<< (nI w &&& 31)) = nI (g ||| 1 <<< w) := by decide +kernel
  exact this g (by omega) w (by omega)
theorem or63 {g w : Nat} (hg : g ≤ 63) (hw : w ≤ 5) : g ||| 1 <<< w ≤ 63 := by
  have : ∀ g, g < 64 → ∀ w, w < 6 → g ||| 1 <<< w ≤ 63 := by decide +kernel
  exact this g (by omega) w (by omega)
theorem andn {m g : Nat} (hm : m ≤ 63) (hg : g ≤ 63) : nI m &&& (nI g ^^^ (-1)) = nI (m &&& (63 - g)) := by
  have : ∀ m, m < 64 → ∀ g, g < 64 → nI m &&& (nI g ^^^ (-1)) = nI (m &&& (63 - g)) := by decide +kernel
  exact this m (by omega) g (by omega)
theorem ix_n {j : Nat} (h : j < 2 ^ 31) : ix (nI j) = j := nI_clamp h
theorem stk_ne (G : GS) (m : Nat) {j : Nat} (h : j < 20 ∨ 26 < j) : (stk G m).1 j = G.1 j := by
  funext i
  have h2 : ¬ (21 ≤ j ∧ j ≤ 26 ∧ m ≤ i ∧ i < G.1 20 0 - 1) := by omega
  have h3 : ¬ (j = 20 ∧ i = 0) := by omega
  simp only [stk, stkT]
  rw [if_neg h2, if_neg h3]
theorem stk_20 (G : GS) (m : Nat) : (stk G m).1 20 0 = G.1 20 0 - 1 := stkT_20 _ _ _
theorem losF_ne (w e : Nat) {j : Nat} (h : j < 20 ∨ 26 < j) : ∀ (n : Nat) (G : GS), (losF w e n G).1 j = G.1 j
  | 0, _ => rfl
  | m + 1, G => by
    rw [losF]
    split
    · rw [losF_ne w e h m, stk_ne _ _ h]
    · rw [losF_ne w e h m]
theorem los_ne (G : GS) (w e : Nat) {j : Nat} (h : j < 20 ∨ 26 < j) : (los G w e).1 j = G.1 j := losF_ne w e h _ G
theorem losF_20 (w e : Nat) : ∀ (n : Nat) (G : GS), (losF w e n G).1 20 0 ≤ G.1 20 0
  | 0, _ => Nat.le_refl _
  | m + 1, G => by
    rw [losF]
    split
    · have := losF_20 w e m (stk G m)
      rw [stk_20] at this
      omega
    · exact losF_20 w e m G
theorem los_20 (G : GS) (w e : Nat) : (los G w e).1 20 0 ≤ G.1 20 0 := losF_20 w e _ G
theorem losF_2 (w e : Nat) : ∀ (n : Nat) (G : GS), (losF w e n G).2 = G.2
  | 0, _ => rfl
  | m + 1, G => by
    rw [losF]
    split
    · rw [losF_2 w e m]; rfl
    · rw [losF_2 w e m]
theorem ok_los {G : GS} {w e : Nat} (h : OK G) : OK (los G w e) := ok_losF _ G h
theorem frF_lt {G : GS} {v w n m : Nat} (hn : n ≤ G.1 20 0) (h : frF G v w n = some m) : m < G.1 20 0 ∧ G.1 21 m = v ∧ G.1 22 m = w := by
  induction n with
  | zero => cases h
  | succ n ih =>
    rw [frF] at h
    split at h
    · rename_i hh
      cases h
      exact ⟨by omega, hh.1, hh.2⟩
    · exact ih (by omega) h
theorem frs_lt {G : GS} {v w m : Nat} (h : frs G v w = some m) : m < G.1 20 0 ∧ G.1 21 m = v ∧ G.1 22 m = w := frF_lt (Nat.le_refl _) h
theorem wtN_le (G : GS) (v w : Nat) : ∀ n, wtN G v w n ≤ n
  | 0 => Nat.le_refl _
  | n + 1 => by
    rw [wtN]
    have := wtN_le G v w n
    split <;> omega
theorem tcS_ne (G : GS) {j : Nat} (h : j ≠ 6) : ∀ w, (tcS w G).1 j = G.1 j
  | 0 => rfl
  | w + 1 => by
    rw [tcS]
    split
    · rw [gN_ne _ h, tcS_ne G h w]
    · rw [tcS_ne G h w]
theorem tcS_2 (G : GS) : ∀ w, (tcS w G).2 = G.2
  | 0 => rfl
  | w + 1 => by
    rw [tcS]
    split
    · rw [gN_2, tcS_2 G w]
    · rw [tcS_2 G w]
theorem tcS_6 (G : GS) : ∀ w i, w ≤ i → (tcS w G).1 6 i = G.1 6 i
  | 0, _, _ => rfl
  | w + 1, i, hi => by
    rw [tcS]
    split
    · rw [gN_ni _ (by omega), tcS_6 G w i (by omega)]
    · rw [tcS_6 G w i (by omega)]
theorem tcG_le (G : GS) : ∀ w, w ≤ 6 → tcG G w ≤ 63
  | 0, _ => Nat.zero_le _
  | w + 1, h => by
    rw [tcG]
    have := tcG_le G w (by omega)
    split
    · exact or63 this (by omega)
    · exact this
/-- bounds without that of the silent ones -/
def OK6 (G : GS) : Prop := ∀ j i, j ≠ 6 → G.1 j i ≤ mbd j
theorem vrN_le (G : GS) (v k n : Nat) : ∀ i left r, r ≤ 100 → i + n ≤ 101 → vrN G v k n i left r ≤ 100 := by
  induction n with
  | zero => intro i left r hr _; exact hr
  | succ n ih =>
    intro i left r hr hi
    rw [vrN]
    split
    · exact hr
    · split
      · exact ih _ _ _ (by omega) (by omega)
      · exact ih _ _ _ hr (by omega)
theorem vrX_le {G : GS} (h : OK G) (hse : ∀ v, G.1 5 v ≤ G.1 4 v) (v k a : Int32) : vrX G v k a ≤ 100 := by
  have h4 : G.1 4 (ix v) ≤ 100 := h 4 _
  have := hse (ix v)
  exact vrN_le G _ _ _ _ _ _ (clN_le h _ _) (by omega)
end
section
/-! the reference: its calls -/
set_option maxHeartbeats 4000000 in
set_option maxRecDepth 100000 in
theorem c_M_status {V : Ev} {o : Nat} {ad : Nat → Nat} {G : GS} {S : Sto} (hR : MR o ad G S) (hO : OK G) (c : Int32) : CT V mi_M_status 0 0 [.ref o, .int c] S (Pi (staF G c) (MR o ad G)) := by
  refine CT.of (cc := prog_8_method_27_code) (own := "ChainVersionsModel") (nL := 2) (d := 1) (by decide) rfl rfl rfl rfl (by simp [Value.category]) (Nat.le_of_ble_eq_true rfl) rfl ?_
  intro F hV hn C R
  subst hV
  refine ws_iload_n C d_M_status_0 rfl ?_
  refine ws_iconst C (nI 2) d_M_status_1 (by decide) ?_
  refine ws_callSi C w_M_94 (As := [_, _]) (c_M_outside hR c 2) d_M_status_2 rfl rfl (Nat.le_of_ble_eq_true rfl) (by decide) (by decide) (by decide) (fun S hR => ?_)
  refine ws_if_eqB C d_M_status_5 (fun h5 => ?_) (fun h5 => ?_)
  · have xc : inN c 2 = true := by simpa using h5
    obtain ⟨c, bc, rfl⟩ := inN_of xc (by decide)
    have ec : ix (nI c) = c := ix_n (by omega)
    refine ws_aload_n C d_M_status_12 rfl ?_
    refine wm_arr C hR 13 d_M_status_13 f_M_44 rfl rfl rfl ?_
    refine ws_iload_n C d_M_status_16 rfl ?_
    refine wm_aldN C hR 13 d_M_status_17 rfl rfl (by decide) (show _ < 3 by omega) ?_
    exact ws_iret C R d_M_status_18 rfl (by decide) (by decide) ⟨by simp [staF, xc, ec], hR⟩
  · have xc : inN c 2 = false := by simpa using h5
    refine ws_iconst C (-1) d_M_status_8 (by decide) ?_
    refine ws_goto C d_M_status_9 ?_
    exact ws_iret C R d_M_status_18 rfl (by decide) (by decide) ⟨by simp [staF, xc], hR⟩
set_option maxHeartbeats 4000000 in
set_option maxRecDepth 100000 in
theorem c_M_isDone {V : Ev} {o : Nat} {ad : Nat → Nat} {G : GS} {S : Sto} (hR : MR o ad G S) (hO : OK G) (c : Int32) : CT V mi_M_isDone 0 0 [.ref o, .int c] S (Pi (bI (dnB G c)) (MR o ad G)) := by
  refine CT.of (cc := prog_8_method_28_code) (own := "ChainVersionsModel") (nL := 2) (d := 1) (by decide) rfl rfl rfl rfl (by simp [Value.category]) (Nat.le_of_ble_eq_true rfl) rfl ?_
  intro F hV hn C R
  subst hV
  refine ws_iload_n C d_M_isDone_0 rfl ?_
  refine ws_iconst C (nI 2) d_M_isDone_1 (by decide) ?_
  refine ws_callSi C w_M_94 (As := [_, _]) (c_M_outside hR c 2) d_M_isDone_2 rfl rfl (Nat.le_of_ble_eq_true rfl) (by decide) (by decide) (by decide) (fun S hR => ?_)
  refine ws_if_neB C d_M_isDone_5 (fun h5 => ?_) (fun h5 => ?_)
  · have xc : inN c 2 = false := by simpa using h5
    refine ws_iconst C (nI 0) d_M_isDone_32 (by decide) ?_
    exact ws_zret C R d_M_isDone_33 rfl (by decide) (by decide) (by decide) ⟨by simp [dnB, bI, nI_0, nI_one, xc], hR⟩
  · have xc : inN c 2 = true := by simpa using h5
    obtain ⟨c, bc, rfl⟩ := inN_of xc (by decide)
    have ec : ix (nI c) = c := ix_n (by omega)
    refine ws_aload_n C d_M_isDone_8 rfl ?_
    refine wm_arr C hR 13 d_M_isDone_9 f_M_44 rfl rfl rfl ?_
    refine ws_iload_n C d_M_isDone_12 rfl ?_
    refine wm_aldN C hR 13 d_M_isDone_13 rfl rfl (by decide) (show _ < 3 by first | omega | exact okl hO _ _) ?_
    refine ws_iconst C (nI 2) d_M_isDone_14 (by decide) ?_
    refine ws_icmp_eqN C d_M_isDone_15 (by first | omega | exact okl hO _ _) (by first | omega | exact okl hO _ _) (fun h15 => ?_) (fun h15 => ?_)
    · refine ws_iconst C (nI 1) d_M_isDone_28 (by decide) ?_
      refine ws_goto C d_M_isDone_29 ?_
      exact ws_zret C R d_M_isDone_33 rfl (by decide) (by decide) (by decide) ⟨by simp [dnB, bI, nI_0, nI_one, xc, ec, *], hR⟩
    · refine ws_aload_n C d_M_isDone_18 rfl ?_
      refine wm_arr C hR 13 d_M_isDone_19 f_M_44 rfl rfl rfl ?_
      refine ws_iload_n C d_M_isDone_22 rfl ?_
      refine wm_aldN C hR 13 d_M_isDone_23 rfl rfl (by decide) (show _ < 3 by first | omega | exact okl hO _ _) ?_
      refine ws_iconst C (nI 4) d_M_isDone_24 (by decide) ?_
      refine ws_icmp_neN C d_M_isDone_25 (by first | omega | exact okl hO _ _) (by first | omega | exact okl hO _ _) (fun h25 => ?_) (fun h25 => ?_)
      · refine ws_iconst C (nI 0) d_M_isDone_32 (by decide) ?_
        exact ws_zret C R d_M_isDone_33 rfl (by decide) (by decide) (by decide) ⟨by simp [dnB, bI, nI_0, nI_one, xc, ec, *], hR⟩
      · refine ws_iconst C (nI 1) d_M_isDone_28 (by decide) ?_
        refine ws_goto C d_M_isDone_29 ?_
        exact ws_zret C R d_M_isDone_33 rfl (by decide) (by decide) (by decide) ⟨by simp [dnB, bI, nI_0, nI_one, xc, ec, *], hR⟩
theorem dnB_in {G : GS} {c : Int32} (h : dnB G c = true) : inN c 2 = true := by simp only [dnB, Bool.and_eq_true] at h; exact h.1
theorem svs_in {G : GS} {c : Int32} (h : svs G c = true) : inN c 5 = true := by simp only [svs, Bool.and_eq_true] at h; exact h.1
set_option maxHeartbeats 4000000 in
set_option maxRecDepth 100000 in
theorem c_M_number {V : Ev} {o : Nat} {ad : Nat → Nat} {G : GS} {S : Sto} (hR : MR o ad G S) (hO : OK G) (c : Int32) : CT V mi_M_number 0 0 [.ref o, .int c] S (Pi (numF G c) (MR o ad G)) := by
  refine CT.of (cc := prog_8_method_29_code) (own := "ChainVersionsModel") (nL := 2) (d := 2) (by decide) rfl rfl rfl rfl (by simp [Value.category]) (Nat.le_of_ble_eq_true rfl) rfl ?_
  intro F hV hn C R
  subst hV
  refine ws_aload_n C d_M_number_0 rfl ?_
  refine ws_iload_n C d_M_number_1 rfl ?_
  refine ws_callVi C w_M_154 (As := [_]) (c_M_isDone hR hO c) d_M_number_2 rfl rfl hR.1 (Nat.le_of_ble_eq_true rfl) (by decide) (by decide) (by decide) (fun S hR => ?_)
  refine ws_if_eqB C d_M_number_5 (fun h5 => ?_) (fun h5 => ?_)
  · refine ws_iconst C (-1) d_M_number_17 (by decide) ?_
    exact ws_iret C R d_M_number_18 rfl (by decide) (by decide) ⟨by simp [numF, h5, nI_0], hR⟩
  · obtain ⟨c, bc, rfl⟩ := inN_of (dnB_in h5) (by decide)
    have ec : ix (nI c) = c := ix_n (by omega)
    refine ws_aload_n C d_M_number_8 rfl ?_
    refine wm_arr C hR 18 d_M_number_9 f_M_59 rfl rfl rfl ?_
    refine ws_iload_n C d_M_number_12 rfl ?_
    refine wm_aldN C hR 18 d_M_number_13 rfl rfl (by decide) (show _ < 3 by omega) ?_
    refine ws_goto C d_M_number_14 ?_
    exact ws_iret C R d_M_number_18 rfl (by decide) (by decide) ⟨by simp [numF, h5, ec], hR⟩
set_option maxHeartbeats 4000000 in
set_option maxRecDepth 100000 in
theorem c_M_value {V : Ev} {o : Nat} {ad : Nat → Nat} {G : GS} {S : Sto} (hR : MR o ad G S) (hO : OK G) (c : Int32) : CT V mi_M_value 0 0 [.ref o, .int c] S (Pi (valF G c) (MR o ad G)) := by
  refine CT.of (cc := prog_8_method_30_code) (own := "ChainVersionsModel") (nL := 2) (d := 2) (by decide) rfl rfl rfl rfl (by simp [Value.category]) (Nat.le_of_ble_eq_true rfl) rfl ?_
  intro F hV hn C R
  subst hV
  refine ws_aload_n C d_M_value_0 rfl ?_
  refine ws_iload_n C d_M_value_1 rfl ?_
  refine ws_callVi C w_M_154 (As := [_]) (c_M_isDone hR hO c) d_M_value_2 rfl rfl hR.1 (Nat.le_of_ble_eq_true rfl) (by decide) (by decide) (by decide) (fun S hR => ?_)
  refine ws_if_eqB C d_M_value_5 (fun h5 => ?_) (fun h5 => ?_)
  · refine ws_iconst C (nI 0) d_M_value_17 (by decide) ?_
    exact ws_iret C R d_M_value_18 rfl (by decide) (by decide) ⟨by simp [valF, h5, nI_0], hR⟩
  · obtain ⟨c, bc, rfl⟩ := inN_of (dnB_in h5) (by decide)
    have ec : ix (nI c) = c := ix_n (by omega)
    refine ws_aload_n C d_M_value_8 rfl ?_
    refine wm_arr C hR 19 d_M_value_9 f_M_62 rfl rfl rfl ?_
    refine ws_iload_n C d_M_value_12 rfl ?_
    refine wm_aldV C hR 19 d_M_value_13 rfl rfl (by decide) (show _ < 3 by omega) ?_
    refine ws_goto C d_M_value_14 ?_
    exact ws_iret C R d_M_value_18 rfl (by decide) (by decide) ⟨by simp [valF, h5, ec], hR⟩
set_option maxHeartbeats 4000000 in
set_option maxRecDepth 100000 in
theorem c_M_length {V : Ev} {o : Nat} {ad : Nat → Nat} {G : GS} {S : Sto} (hR : MR o ad G S) (hO : OK G) (v : Int32) : CT V mi_M_length 0 0 [.ref o, .int v] S (Pi (lnF G v) (MR o ad G)) := by
  refine CT.of (cc := prog_8_method_39_code) (own := "ChainVersionsModel") (nL := 2) (d := 2) (by decide) rfl rfl rfl rfl (by simp [Value.category]) (Nat.le_of_ble_eq_true rfl) rfl ?_
  intro F hV hn C R
  subst hV
  refine ws_aload_n C d_M_length_0 rfl ?_
  refine ws_iload_n C d_M_length_1 rfl ?_
  refine ws_callVi C w_M_147 (As := [_]) (c_M_serves hR hO v) d_M_length_2 rfl rfl hR.1 (Nat.le_of_ble_eq_true rfl) (by decide) (by decide) (by decide) (fun S hR => ?_)
  refine ws_if_eqB C d_M_length_5 (fun h5 => ?_) (fun h5 => ?_)
  · refine ws_iconst C (-1) d_M_length_17 (by decide) ?_
    exact ws_iret C R d_M_length_18 rfl (by decide) (by decide) ⟨by simp [lnF, h5], hR⟩
  · obtain ⟨v, bv, rfl⟩ := inN_of (svs_in h5) (by decide)
    have ev : ix (nI v) = v := ix_n (by omega)
    refine ws_aload_n C d_M_length_8 rfl ?_
    refine wm_arr C hR 4 d_M_length_9 f_M_20 rfl rfl rfl ?_
    refine ws_iload_n C d_M_length_12 rfl ?_
    refine wm_aldN C hR 4 d_M_length_13 rfl rfl (by decide) (show _ < 6 by omega) ?_
    refine ws_goto C d_M_length_14 ?_
    exact ws_iret C R d_M_length_18 rfl (by decide) (by decide) ⟨by simp [lnF, h5, ev], hR⟩
set_option maxHeartbeats 4000000 in
set_option maxRecDepth 100000 in
theorem c_M_settled {V : Ev} {o : Nat} {ad : Nat → Nat} {G : GS} {S : Sto} (hR : MR o ad G S) (hO : OK G) (v : Int32) : CT V mi_M_settled 0 0 [.ref o, .int v] S (Pi (stF G v) (MR o ad G)) := by
  refine CT.of (cc := prog_8_method_40_code) (own := "ChainVersionsModel") (nL := 2) (d := 2) (by decide) rfl rfl rfl rfl (by simp [Value.category]) (Nat.le_of_ble_eq_true rfl) rfl ?_
  intro F hV hn C R
  subst hV
  refine ws_aload_n C d_M_settled_0 rfl ?_
  refine ws_iload_n C d_M_settled_1 rfl ?_
  refine ws_callVi C w_M_147 (As := [_]) (c_M_serves hR hO v) d_M_settled_2 rfl rfl hR.1 (Nat.le_of_ble_eq_true rfl) (by decide) (by decide) (by decide) (fun S hR => ?_)
  refine ws_if_eqB C d_M_settled_5 (fun h5 => ?_) (fun h5 => ?_)
  · refine ws_iconst C (-1) d_M_settled_17 (by decide) ?_
    exact ws_iret C R d_M_settled_18 rfl (by decide) (by decide) ⟨by simp [stF, h5], hR⟩
  · obtain ⟨v, bv, rfl⟩ := inN_of (svs_in h5) (by decide)
    have ev : ix (nI v) = v := ix_n (by omega)
    refine ws_aload_n C d_M_settled_8 rfl ?_
    refine wm_arr C hR 5 d_M_settled_9 f_M_23 rfl rfl rfl ?_
    refine ws_iload_n C d_M_settled_12 rfl ?_
    refine wm_aldN C hR 5 d_M_settled_13 rfl rfl (by decide) (show _ < 6 by omega) ?_
    refine ws_goto C d_M_settled_14 ?_
    exact ws_iret C R d_M_settled_18 rfl (by decide) (by decide) ⟨by simp [stF, h5, ev], hR⟩
set_option maxHeartbeats 4000000 in
set_option maxRecDepth 100000 in
theorem c_M_epoch {V : Ev} {o : Nat} {ad : Nat → Nat} {G : GS} {S : Sto} (hR : MR o ad G S) (hO : OK G) (v : Int32) : CT V mi_M_epoch 0 0 [.ref o, .int v] S (Pi (epF G v) (MR o ad G)) := by
  refine CT.of (cc := prog_8_method_38_code) (own := "ChainVersionsModel") (nL := 2) (d := 1) (by decide) rfl rfl rfl rfl (by simp [Value.category]) (Nat.le_of_ble_eq_true rfl) rfl ?_
  intro F hV hn C R
  subst hV
  refine ws_iload_n C d_M_epoch_0 rfl ?_
  refine ws_iconst C (nI 5) d_M_epoch_1 (by decide) ?_
  refine ws_callSi C w_M_94 (As := [_, _]) (c_M_outside hR v 5) d_M_epoch_2 rfl rfl (Nat.le_of_ble_eq_true rfl) (by decide) (by decide) (by decide) (fun S hR => ?_)
  refine ws_if_neB C d_M_epoch_5 (fun h5 => ?_) (fun h5 => ?_)
  · have xv : inN v 5 = false := by simpa using h5
    refine ws_iconst C (-1) d_M_epoch_17 (by decide) ?_
    refine ws_goto C d_M_epoch_18 ?_
    exact ws_iret C R d_M_epoch_27 rfl (by decide) (by decide) ⟨by simp [epF, xv], hR⟩
  · have xv : inN v 5 = true := by simpa using h5
    obtain ⟨v, bv, rfl⟩ := inN_of xv (by decide)
    have ev : ix (nI v) = v := ix_n (by omega)
    have hb1 : G.1 1 v ≤ 1 := hO 1 v
    refine ws_aload_n C d_M_epoch_8 rfl ?_
    refine wm_arr C hR 1 d_M_epoch_9 f_M_7 rfl rfl rfl ?_
    refine ws_iload_n C d_M_epoch_12 rfl ?_
    refine wm_zldN C hR 1 d_M_epoch_13 rfl rfl (by decide) (show _ < 6 by first | omega | exact okl hO _ _) ?_
    refine ws_if_neN C d_M_epoch_14 (by first | omega | exact okl hO _ _) (fun h14 => ?_) (fun h14 => ?_)
    · refine ws_aload_n C d_M_epoch_21 rfl ?_
      refine wm_arr C hR 3 d_M_epoch_22 f_M_16 rfl rfl rfl ?_
      refine ws_iload_n C d_M_epoch_25 rfl ?_
      refine wm_aldN C hR 3 d_M_epoch_26 rfl rfl (by decide) (show _ < 6 by first | omega | exact okl hO _ _) ?_
      exact ws_iret C R d_M_epoch_27 rfl (by decide) (by decide) ⟨by simp [epF, xv, ev, (show G.1 1 v = 1 by omega)], hR⟩
    · refine ws_iconst C (-1) d_M_epoch_17 (by decide) ?_
      refine ws_goto C d_M_epoch_18 ?_
      exact ws_iret C R d_M_epoch_27 rfl (by decide) (by decide) ⟨by simp [epF, xv, ev, h14], hR⟩
set_option maxHeartbeats 4000000 in
set_option maxRecDepth 100000 in
theorem c_M_waiting {V : Ev} {o : Nat} {ad : Nat → Nat} {G : GS} {S : Sto} (hR : MR o ad G S) (hO : OK G) (v w : Int32) : CT V mi_M_waiting 0 0 [.ref o, .int v, .int w] S (Pi (wtF G v w) (MR o ad G)) := by
  refine CT.of (cc := prog_8_method_32_code) (own := "ChainVersionsModel") (nL := 5) (d := 1) (by decide) rfl rfl rfl rfl (by simp [Value.category]) (Nat.le_of_ble_eq_true rfl) rfl ?_
  intro F hV hn C R
  subst hV
  have hb20 : G.1 20 0 ≤ 1399 := hO 20 0
  refine ws_iload_n C d_M_waiting_0 rfl ?_
  refine ws_iconst C (nI 5) d_M_waiting_1 (by decide) ?_
  refine ws_callSi C w_M_94 (As := [_, _]) (c_M_outside hR v 5) d_M_waiting_2 rfl rfl (Nat.le_of_ble_eq_true rfl) (by decide) (by decide) (by decide) (fun S hR => ?_)
  refine ws_if_neB C d_M_waiting_5 (fun h5 => ?_) (fun h5 => ?_)
  · have xv : inN v 5 = false := by simpa using h5
    refine ws_iconst C (-1) d_M_waiting_16 (by decide) ?_
    exact ws_iret C R d_M_waiting_17 rfl (by decide) (by decide) ⟨by simp [wtF, xv], hR⟩
  · have xv : inN v 5 = true := by simpa using h5
    obtain ⟨v, bv, rfl⟩ := inN_of xv (by decide)
    have ev : ix (nI v) = v := ix_n (by omega)
    refine ws_iload_n C d_M_waiting_8 rfl ?_
    refine ws_iconst C (nI 5) d_M_waiting_9 (by decide) ?_
    refine ws_callSi C w_M_94 (As := [_, _]) (c_M_outside hR w 5) d_M_waiting_10 rfl rfl (Nat.le_of_ble_eq_true rfl) (by decide) (by decide) (by decide) (fun S hR => ?_)
    refine ws_if_eqB C d_M_waiting_13 (fun h13 => ?_) (fun h13 => ?_)
    · have xw : inN w 5 = true := by simpa using h13
      obtain ⟨w, bw, rfl⟩ := inN_of xw (by decide)
      have ew : ix (nI w) = w := ix_n (by omega)
      refine ws_iconst C (nI 0) d_M_waiting_18 (by decide) ?_
      refine ws_istore_n C d_M_waiting_19 (by rw [hn]; decide) ?_
      refine ws_iconst C (nI 0) d_M_waiting_20 (by decide) ?_
      refine ws_istore C d_M_waiting_21 (by rw [hn]; decide) ?_
      suffices hL : ∀ n m, m + n = G.1 20 0 → ∀ S : Sto, MR o ad G S → WS F 23 [some (.ref o), some (.int (nI v)), some (.int (nI w)), some (.int (nI (wtN G v w m))), some (.int (nI m))] [] S 0 0 from hL (G.1 20 0) 0 (by omega) S hR
      intro n
      induction n with
      | zero =>
        intro m hm S hR
        have e : m = G.1 20 0 := by omega
        refine ws_iload C d_M_waiting_23 rfl ?_
        refine ws_aload_n C d_M_waiting_25 rfl ?_
        refine wm_20 C hR d_M_waiting_26 f_M_97 ?_
        refine ws_icmp_geN C d_M_waiting_29 (by first | omega | exact okl hO _ _) (by first | omega | exact okl hO _ _) (fun h29 => ?_) (fun h29 => ?_)
        · refine ws_iload_n C d_M_waiting_68 rfl ?_
          exact ws_iret C R d_M_waiting_69 rfl (by decide) (by decide) ⟨by simp [wtF, xv, xw, ev, ew, e], hR⟩
        · omega
      | succ n ih =>
        intro m hm S hR
        refine ws_iload C d_M_waiting_23 rfl ?_
        refine ws_aload_n C d_M_waiting_25 rfl ?_
        refine wm_20 C hR d_M_waiting_26 f_M_97 ?_
        refine ws_icmp_geN C d_M_waiting_29 (by first | omega | exact okl hO _ _) (by first | omega | exact okl hO _ _) (fun h29 => ?_) (fun h29 => ?_)
        · omega
        · refine ws_aload_n C d_M_waiting_32 rfl ?_
          refine wm_arr C hR 21 d_M_waiting_33 f_M_65 rfl rfl rfl ?_
          refine ws_iload C d_M_waiting_36 rfl ?_
          refine wm_aldN C hR 21 d_M_waiting_38 rfl rfl (by decide) (show _ < 1400 by first | omega | exact okl hO _ _) ?_
          refine ws_iload_n C d_M_waiting_39 rfl ?_
          refine ws_icmp_neN C d_M_waiting_40 (by first | omega | exact okl hO _ _) (by first | omega | exact okl hO _ _) (fun h40 => ?_) (fun h40 => ?_)
          · refine ws_iload_n C d_M_waiting_60 rfl ?_
            refine ws_istore_n C d_M_waiting_61 (by rw [hn]; decide) ?_
            refine ws_iinc C _ d_M_waiting_62 rfl (inc1 _) (by rw [hn]; decide) ?_
            refine ws_goto C d_M_waiting_65 ?_
            have h9 := ih (m + 1) (by omega) S hR
            rw [wtN, if_neg (by omega)] at h9
            exact h9
          · refine ws_aload_n C d_M_waiting_43 rfl ?_
            refine wm_arr C hR 22 d_M_waiting_44 f_M_68 rfl rfl rfl ?_
            refine ws_iload C d_M_waiting_47 rfl ?_
            refine wm_aldN C hR 22 d_M_waiting_49 rfl rfl (by decide) (show _ < 1400 by first | omega | exact okl hO _ _) ?_
            refine ws_iload_n C d_M_waiting_50 rfl ?_
            refine ws_icmp_neN C d_M_waiting_51 (by first | omega | exact okl hO _ _) (by first | omega | exact okl hO _ _) (fun h51 => ?_) (fun h51 => ?_)
            · refine ws_iload_n C d_M_waiting_60 rfl ?_
              refine ws_istore_n C d_M_waiting_61 (by rw [hn]; decide) ?_
              refine ws_iinc C _ d_M_waiting_62 rfl (inc1 _) (by rw [hn]; decide) ?_
              refine ws_goto C d_M_waiting_65 ?_
              have h9 := ih (m + 1) (by omega) S hR
              rw [wtN, if_neg (by omega)] at h9
              exact h9
            · refine ws_iload_n C d_M_waiting_54 rfl ?_
              refine ws_iconst C (nI 1) d_M_waiting_55 (by decide) ?_
              refine ws_iaddN C d_M_waiting_56 ?_
              refine ws_goto C d_M_waiting_57 ?_
              refine ws_istore_n C d_M_waiting_61 (by rw [hn]; decide) ?_
              refine ws_iinc C _ d_M_waiting_62 rfl (inc1 _) (by rw [hn]; decide) ?_
              refine ws_goto C d_M_waiting_65 ?_
              have h9 := ih (m + 1) (by omega) S hR
              rw [wtN, if_pos (by omega)] at h9
              exact h9
    · have xw : inN w 5 = false := by simpa using h13
      refine ws_iconst C (-1) d_M_waiting_16 (by decide) ?_
      exact ws_iret C R d_M_waiting_17 rfl (by decide) (by decide) ⟨by simp [wtF, xv, xw], hR⟩
set_option maxHeartbeats 4000000 in
set_option maxRecDepth 100000 in
theorem c_M_put {V : Ev} {o : Nat} {ad : Nat → Nat} {G : GS} {S : Sto} (hR : MR o ad G S) (hO : OK G) (hse : ∀ v, G.1 5 v ≤ G.1 4 v) (c k x : Int32) (hw : ∀ (c : Int32) (j : Nat), c = nI j → G.1 14 j + 1 ≤ 600) : CT V mi_M_put 0 0 [.ref o, .int c, .int k, .int x] S (Pi (putF G c k x).1 (MR o ad (putF G c k x).2)) := by
  refine CT.of (cc := prog_8_method_24_code) (own := "ChainVersionsModel") (nL := 4) (d := 4) (by decide) rfl rfl rfl rfl (by simp [Value.category]) (Nat.le_of_ble_eq_true rfl) rfl ?_
  intro F hV hn C R
  subst hV
  refine ws_iload_n C d_M_put_0 rfl ?_
  refine ws_iconst C (nI 2) d_M_put_1 (by decide) ?_
  refine ws_callSi C w_M_94 (As := [_, _]) (c_M_outside hR c 2) d_M_put_2 rfl rfl (Nat.le_of_ble_eq_true rfl) (by decide) (by decide) (by decide) (fun S hR => ?_)
  refine ws_if_neB C d_M_put_5 (fun h5 => ?_) (fun h5 => ?_)
  · have xc : inN c 2 = false := by simpa using h5
    refine ws_iconst C (-1) d_M_put_16 (by decide) ?_
    exact ws_iret C R d_M_put_17 rfl (by decide) (by decide) ⟨by simp [putF, xc], by simp [putF, xc]; exact hR⟩
  · have xc : inN c 2 = true := by simpa using h5
    obtain ⟨c, bc, rfl⟩ := inN_of xc (by decide)
    have ec : ix (nI c) = c := ix_n (by omega)
    refine ws_iload_n C d_M_put_8 rfl ?_
    refine ws_iconst C (nI 3) d_M_put_9 (by decide) ?_
    refine ws_callSi C w_M_94 (As := [_, _]) (c_M_outside hR k 3) d_M_put_10 rfl rfl (Nat.le_of_ble_eq_true rfl) (by decide) (by decide) (by decide) (fun S hR => ?_)
    refine ws_if_eqB C d_M_put_13 (fun h13 => ?_) (fun h13 => ?_)
    · have xk : inN k 3 = true := by simpa using h13
      obtain ⟨k, bk, rfl⟩ := inN_of xk (by decide)
      have ek : ix (nI k) = k := ix_n (by omega)
      have eP : putF G (nI c) (nI k) x = (if G.1 13 c % 2 = 1 then (-2, G) else (nI (swr (gV (gN (gN (gN G 13 c 1) 14 c (G.1 14 c + 1)) 15 c k) 16 c x) c).1, (swr (gV (gN (gN (gN G 13 c 1) 14 c (G.1 14 c + 1)) 15 c k) 16 c x) c).2)) := by simp [putF, xc, xk, ec, ek]
      rw [eP] at R
      have hb13 : G.1 13 c ≤ 4 := hO 13 c
      have hb14 : G.1 14 c + 1 ≤ 600 := hw (nI c) c rfl
      refine ws_aload_n C d_M_put_18 rfl ?_
      refine wm_arr C hR 13 d_M_put_19 f_M_44 rfl rfl rfl ?_
      refine ws_iload_n C d_M_put_22 rfl ?_
      refine wm_aldN C hR 13 d_M_put_23 rfl rfl (by decide) (show _ < 3 by first | omega | exact okl hO _ _) ?_
      refine ws_iconst C (nI 1) d_M_put_24 (by decide) ?_
      refine ws_iand C d_M_put_25 ?_
      refine ws_iconst C (nI 1) d_M_put_26 (by decide) ?_
      refine ws_icmp_ne C d_M_put_27 (fun h27 => ?_) (fun h27 => ?_)
      · refine ws_aload_n C d_M_put_33 rfl ?_
        refine wm_arr C hR 13 d_M_put_34 f_M_44 rfl rfl rfl ?_
        refine ws_iload_n C d_M_put_37 rfl ?_
        refine ws_iconst C (nI 1) d_M_put_38 (by decide) ?_
        refine wm_astN C hR 13 d_M_put_39 rfl rfl (by decide) (show _ < 3 by first | omega | exact okl hO _ _) (fun S hR => ?_)
        refine ws_aload_n C d_M_put_40 rfl ?_
        refine wm_arr C hR 14 d_M_put_41 f_M_47 rfl rfl rfl ?_
        refine ws_iload_n C d_M_put_44 rfl ?_
        refine ws_dup2 C d_M_put_45 rfl rfl ?_
        refine wm_aldN C hR 14 d_M_put_46 rfl rfl (by decide) (show _ < 3 by first | omega | exact okl hO _ _) ?_
        refine ws_top (nI (G.1 14 c)) (by simp [gN_1, gN_2, gV_1, gV_2]) ?_
        refine ws_iconst C (nI 1) d_M_put_47 (by decide) ?_
        refine ws_iaddN C d_M_put_48 ?_
        refine wm_astN C hR 14 d_M_put_49 rfl rfl (by decide) (show _ < 3 by first | omega | exact okl hO _ _) (fun S hR => ?_)
        refine ws_aload_n C d_M_put_50 rfl ?_
        refine wm_arr C hR 15 d_M_put_51 f_M_50 rfl rfl rfl ?_
        refine ws_iload_n C d_M_put_54 rfl ?_
        refine ws_iload_n C d_M_put_55 rfl ?_
        refine wm_astN C hR 15 d_M_put_56 rfl rfl (by decide) (show _ < 3 by first | omega | exact okl hO _ _) (fun S hR => ?_)
        refine ws_aload_n C d_M_put_57 rfl ?_
        refine wm_arr C hR 16 d_M_put_58 f_M_53 rfl rfl rfl ?_
        refine ws_iload_n C d_M_put_61 rfl ?_
        refine ws_iload_n C d_M_put_62 rfl ?_
        refine wm_astV C hR 16 d_M_put_63 rfl rfl (by decide) (show _ < 3 by first | omega | exact okl hO _ _) (fun S hR => ?_)
        refine ws_aload_n C d_M_put_64 rfl ?_
        refine ws_iload_n C d_M_put_65 rfl ?_
        refine ws_callVi C w_M_144 (As := [_]) (c_M_sendWrite hR (ok_gV (ok_gN (ok_gN (ok_gN hO (by decide)) hb14) bk)) (by omega) (fun v => hse v)) d_M_put_66 rfl rfl hR.1 (Nat.le_of_ble_eq_true rfl) (by decide) (by decide) (by decide) (fun S hR => ?_)
        exact ws_iret C R d_M_put_69 rfl (by decide) (by decide) ⟨by rw [if_neg (fun z => h27 ((and1 hb13).mpr z))], by rw [if_neg (fun z => h27 ((and1 hb13).mpr z))]; exact hR⟩
      · refine ws_bipush C (-2) d_M_put_30 (by decide) ?_
        exact ws_iret C R d_M_put_32 rfl (by decide) (by decide) ⟨by rw [if_pos ((and1 hb13).mp h27)], by rw [if_pos ((and1 hb13).mp h27)]; exact hR⟩
    · have xk : inN k 3 = false := by simpa using h13
      refine ws_iconst C (-1) d_M_put_16 (by decide) ?_
      exact ws_iret C R d_M_put_17 rfl (by decide) (by decide) ⟨by simp [putF, xc, xk], by simp [putF, xc, xk]; exact hR⟩
set_option maxHeartbeats 4000000 in
set_option maxRecDepth 100000 in
theorem c_M_get {V : Ev} {o : Nat} {ad : Nat → Nat} {G : GS} {S : Sto} (hR : MR o ad G S) (hO : OK G) (c v k : Int32) : CT V mi_M_get 0 0 [.ref o, .int c, .int v, .int k] S (Pi (getF G c v k).1 (MR o ad (getF G c v k).2)) := by
  refine CT.of (cc := prog_8_method_25_code) (own := "ChainVersionsModel") (nL := 4) (d := 3) (by decide) rfl rfl rfl rfl (by simp [Value.category]) (Nat.le_of_ble_eq_true rfl) rfl ?_
  intro F hV hn C R
  subst hV
  refine ws_iload_n C d_M_get_0 rfl ?_
  refine ws_iconst C (nI 2) d_M_get_1 (by decide) ?_
  refine ws_callSi C w_M_94 (As := [_, _]) (c_M_outside hR c 2) d_M_get_2 rfl rfl (Nat.le_of_ble_eq_true rfl) (by decide) (by decide) (by decide) (fun S hR => ?_)
  refine ws_if_neB C d_M_get_5 (fun h5 => ?_) (fun h5 => ?_)
  · have xc : inN c 2 = false := by simpa using h5
    refine ws_iconst C (-1) d_M_get_24 (by decide) ?_
    exact ws_iret C R d_M_get_25 rfl (by decide) (by decide) ⟨by simp [getF, xc], by simp [getF, xc]; exact hR⟩
  · have xc : inN c 2 = true := by simpa using h5
    obtain ⟨c, bc, rfl⟩ := inN_of xc (by decide)
    have ec : ix (nI c) = c := ix_n (by omega)
    refine ws_iload_n C d_M_get_8 rfl ?_
    refine ws_iconst C (nI 3) d_M_get_9 (by decide) ?_
    refine ws_callSi C w_M_94 (As := [_, _]) (c_M_outside hR k 3) d_M_get_10 rfl rfl (Nat.le_of_ble_eq_true rfl) (by decide) (by decide) (by decide) (fun S hR => ?_)
    refine ws_if_neB C d_M_get_13 (fun h13 => ?_) (fun h13 => ?_)
    · have xk : inN k 3 = false := by simpa using h13
      refine ws_iconst C (-1) d_M_get_24 (by decide) ?_
      exact ws_iret C R d_M_get_25 rfl (by decide) (by decide) ⟨by simp [getF, xc, xk], by simp [getF, xc, xk]; exact hR⟩
    · have xk : inN k 3 = true := by simpa using h13
      obtain ⟨k, bk, rfl⟩ := inN_of xk (by decide)
      have ek : ix (nI k) = k := ix_n (by omega)
      refine ws_iload_n C d_M_get_16 rfl ?_
      refine ws_iconst C (nI 5) d_M_get_17 (by decide) ?_
      refine ws_callSi C w_M_94 (As := [_, _]) (c_M_outside hR v 5) d_M_get_18 rfl rfl (Nat.le_of_ble_eq_true rfl) (by decide) (by decide) (by decide) (fun S hR => ?_)
      refine ws_if_eqB C d_M_get_21 (fun h21 => ?_) (fun h21 => ?_)
      · have xv : inN v 5 = true := by simpa using h21
        obtain ⟨v, bv, rfl⟩ := inN_of xv (by decide)
        have ev : ix (nI v) = v := ix_n (by omega)
        have eP : getF G (nI c) (nI v) (nI k) = (if G.1 13 c % 2 = 1 then (-2, G) else if svs G (nI v) = true then (nI (srv (gV (gN (gN G 13 c 3) 15 c k) 29 c (-1)) c v).1, (srv (gV (gN (gN G 13 c 3) 15 c k) 29 c (-1)) c v).2) else (0, G)) := by simp [getF, xc, xk, xv, ec, ek, ev]
        rw [eP] at R
        have hb13 : G.1 13 c ≤ 4 := hO 13 c
        refine ws_aload_n C d_M_get_26 rfl ?_
        refine wm_arr C hR 13 d_M_get_27 f_M_44 rfl rfl rfl ?_
        refine ws_iload_n C d_M_get_30 rfl ?_
        refine wm_aldN C hR 13 d_M_get_31 rfl rfl (by decide) (show _ < 3 by first | omega | exact okl hO _ _) ?_
        refine ws_iconst C (nI 1) d_M_get_32 (by decide) ?_
        refine ws_iand C d_M_get_33 ?_
        refine ws_iconst C (nI 1) d_M_get_34 (by decide) ?_
        refine ws_icmp_ne C d_M_get_35 (fun h35 => ?_) (fun h35 => ?_)
        · refine ws_aload_n C d_M_get_41 rfl ?_
          refine ws_iload_n C d_M_get_42 rfl ?_
          refine ws_callVi C w_M_147 (As := [_]) (c_M_serves hR hO (nI v)) d_M_get_43 rfl rfl hR.1 (Nat.le_of_ble_eq_true rfl) (by decide) (by decide) (by decide) (fun S hR => ?_)
          refine ws_if_neB C d_M_get_46 (fun h46 => ?_) (fun h46 => ?_)
          · refine ws_aload_n C d_M_get_51 rfl ?_
            refine wm_arr C hR 13 d_M_get_52 f_M_44 rfl rfl rfl ?_
            refine ws_iload_n C d_M_get_55 rfl ?_
            refine ws_iconst C (nI 3) d_M_get_56 (by decide) ?_
            refine wm_astN C hR 13 d_M_get_57 rfl rfl (by decide) (show _ < 3 by first | omega | exact okl hO _ _) (fun S hR => ?_)
            refine ws_aload_n C d_M_get_58 rfl ?_
            refine wm_arr C hR 15 d_M_get_59 f_M_50 rfl rfl rfl ?_
            refine ws_iload_n C d_M_get_62 rfl ?_
            refine ws_iload_n C d_M_get_63 rfl ?_
            refine wm_astN C hR 15 d_M_get_64 rfl rfl (by decide) (show _ < 3 by first | omega | exact okl hO _ _) (fun S hR => ?_)
            refine ws_aload_n C d_M_get_65 rfl ?_
            refine ws_iload_n C d_M_get_66 rfl ?_
            refine ws_iload_n C d_M_get_67 rfl ?_
            refine ws_callVi C w_M_151 (As := [_, _]) (c_M_serve (hR.same (G' := gV (gN (gN G 13 c 3) 15 c k) 29 c (-1)) (fun j _ => rfl) (fun j hj => gV_ne _ (by omega))) (ok_gV (ok_gN (ok_gN hO (by decide)) bk)) (by omega) (by omega)) d_M_get_68 rfl rfl hR.1 (Nat.le_of_ble_eq_true rfl) (by decide) (by decide) (by decide) (fun S hR => ?_)
            exact ws_iret C R d_M_get_71 rfl (by decide) (by decide) ⟨by rw [if_neg (fun z => h35 ((and1 hb13).mpr z)), if_pos h46], by rw [if_neg (fun z => h35 ((and1 hb13).mpr z)), if_pos h46]; exact hR⟩
          · refine ws_iconst C (nI 0) d_M_get_49 (by decide) ?_
            exact ws_iret C R d_M_get_50 rfl (by decide) (by decide) ⟨by rw [if_neg (fun z => h35 ((and1 hb13).mpr z)), if_neg (by rw [h46]; decide)]; rfl, by rw [if_neg (fun z => h35 ((and1 hb13).mpr z)), if_neg (by rw [h46]; decide)]; exact hR⟩
        · refine ws_bipush C (-2) d_M_get_38 (by decide) ?_
          exact ws_iret C R d_M_get_40 rfl (by decide) (by decide) ⟨by rw [if_pos ((and1 hb13).mp h35)], by rw [if_pos ((and1 hb13).mp h35)]; exact hR⟩
      · have xv : inN v 5 = false := by simpa using h21
        refine ws_iconst C (-1) d_M_get_24 (by decide) ?_
        exact ws_iret C R d_M_get_25 rfl (by decide) (by decide) ⟨by simp [getF, xc, xk, xv], by simp [getF, xc, xk, xv]; exact hR⟩
set_option maxHeartbeats 4000000 in
set_option maxRecDepth 100000 in
theorem c_M_retry {V : Ev} {o : Nat} {ad : Nat → Nat} {G : GS} {S : Sto} (hR : MR o ad G S) (hO : OK G) (hse : ∀ v, G.1 5 v ≤ G.1 4 v) (c v : Int32) : CT V mi_M_retry 0 0 [.ref o, .int c, .int v] S (Pi (rtyF G c v).1 (MR o ad (rtyF G c v).2)) := by
  refine CT.of (cc := prog_8_method_26_code) (own := "ChainVersionsModel") (nL := 3) (d := 4) (by decide) rfl rfl rfl rfl (by simp [Value.category]) (Nat.le_of_ble_eq_true rfl) rfl ?_
  intro F hV hn C R
  subst hV
  refine ws_iload_n C d_M_retry_0 rfl ?_
  refine ws_iconst C (nI 2) d_M_retry_1 (by decide) ?_
  refine ws_callSi C w_M_94 (As := [_, _]) (c_M_outside hR c 2) d_M_retry_2 rfl rfl (Nat.le_of_ble_eq_true rfl) (by decide) (by decide) (by decide) (fun S hR => ?_)
  refine ws_if_eqB C d_M_retry_5 (fun h5 => ?_) (fun h5 => ?_)
  · have xc : inN c 2 = true := by simpa using h5
    obtain ⟨c, bc, rfl⟩ := inN_of xc (by decide)
    have ec : ix (nI c) = c := ix_n (by omega)
    have eP : rtyF G (nI c) v = (if G.1 13 c = 0 ∨ G.1 13 c = 4 then (-3, G) else if G.1 13 c < 3 then (nI (swr G c).1, (swr G c).2) else if G.1 1 (G.1 17 c) = 1 then (-2, G) else if inN v 5 = true then (if svs G v = true then (nI (srv G c (ix v)).1, (srv G c (ix v)).2) else (0, G)) else (-1, G)) := by simp [rtyF, xc, ec]
    rw [eP] at R
    have hb13 : G.1 13 c ≤ 4 := hO 13 c
    have hb17 : G.1 17 c ≤ 5 := hO 17 c
    have hb1 : G.1 1 (G.1 17 c) ≤ 1 := hO 1 _
    refine ws_aload_n C d_M_retry_10 rfl ?_
    refine wm_arr C hR 13 d_M_retry_11 f_M_44 rfl rfl rfl ?_
    refine ws_iload_n C d_M_retry_14 rfl ?_
    refine wm_aldN C hR 13 d_M_retry_15 rfl rfl (by decide) (show _ < 3 by first | omega | exact okl hO _ _) ?_
    refine ws_if_eqN C d_M_retry_16 (by first | omega | exact okl hO _ _) (fun h16 => ?_) (fun h16 => ?_)
    · refine ws_bipush C (-3) d_M_retry_29 (by decide) ?_
      exact ws_iret C R d_M_retry_31 rfl (by decide) (by decide) ⟨by rw [if_pos (by omega)], by rw [if_pos (by omega)]; exact hR⟩
    · refine ws_aload_n C d_M_retry_19 rfl ?_
      refine wm_arr C hR 13 d_M_retry_20 f_M_44 rfl rfl rfl ?_
      refine ws_iload_n C d_M_retry_23 rfl ?_
      refine wm_aldN C hR 13 d_M_retry_24 rfl rfl (by decide) (show _ < 3 by first | omega | exact okl hO _ _) ?_
      refine ws_iconst C (nI 4) d_M_retry_25 (by decide) ?_
      refine ws_icmp_neN C d_M_retry_26 (by first | omega | exact okl hO _ _) (by first | omega | exact okl hO _ _) (fun h26 => ?_) (fun h26 => ?_)
      · refine ws_aload_n C d_M_retry_32 rfl ?_
        refine wm_arr C hR 13 d_M_retry_33 f_M_44 rfl rfl rfl ?_
        refine ws_iload_n C d_M_retry_36 rfl ?_
        refine wm_aldN C hR 13 d_M_retry_37 rfl rfl (by decide) (show _ < 3 by first | omega | exact okl hO _ _) ?_
        refine ws_iconst C (nI 3) d_M_retry_38 (by decide) ?_
        refine ws_icmp_geN C d_M_retry_39 (by first | omega | exact okl hO _ _) (by first | omega | exact okl hO _ _) (fun h39 => ?_) (fun h39 => ?_)
        · refine ws_aload_n C d_M_retry_48 rfl ?_
          refine wm_arr C hR 1 d_M_retry_49 f_M_7 rfl rfl rfl ?_
          refine ws_aload_n C d_M_retry_52 rfl ?_
          refine wm_arr C hR 17 d_M_retry_53 f_M_56 rfl rfl rfl ?_
          refine ws_iload_n C d_M_retry_56 rfl ?_
          refine wm_aldN C hR 17 d_M_retry_57 rfl rfl (by decide) (show _ < 3 by first | omega | exact okl hO _ _) ?_
          refine wm_zldN C hR 1 d_M_retry_58 rfl rfl (by decide) (show _ < 6 by first | omega | exact okl hO _ _) ?_
          refine ws_if_eqN C d_M_retry_59 (by first | omega | exact okl hO _ _) (fun h59 => ?_) (fun h59 => ?_)
          · refine ws_iload_n C d_M_retry_65 rfl ?_
            refine ws_iconst C (nI 5) d_M_retry_66 (by decide) ?_
            refine ws_callSi C w_M_94 (As := [_, _]) (c_M_outside hR v 5) d_M_retry_67 rfl rfl (Nat.le_of_ble_eq_true rfl) (by decide) (by decide) (by decide) (fun S hR => ?_)
            refine ws_if_eqB C d_M_retry_70 (fun h70 => ?_) (fun h70 => ?_)
            · have xv : inN v 5 = true := by simpa using h70
              obtain ⟨v, bv, rfl⟩ := inN_of xv (by decide)
              have ev : ix (nI v) = v := ix_n (by omega)
              refine ws_aload_n C d_M_retry_75 rfl ?_
              refine ws_iload_n C d_M_retry_76 rfl ?_
              refine ws_callVi C w_M_147 (As := [_]) (c_M_serves hR hO (nI v)) d_M_retry_77 rfl rfl hR.1 (Nat.le_of_ble_eq_true rfl) (by decide) (by decide) (by decide) (fun S hR => ?_)
              refine ws_if_eqB C d_M_retry_80 (fun h80 => ?_) (fun h80 => ?_)
              · refine ws_iconst C (nI 0) d_M_retry_92 (by decide) ?_
                exact ws_iret C R d_M_retry_93 rfl (by decide) (by decide) ⟨by rw [if_neg (by omega), if_neg (by omega), if_neg (by omega), if_pos xv, if_neg (by rw [h80]; decide)]; rfl, by rw [if_neg (by omega), if_neg (by omega), if_neg (by omega), if_pos xv, if_neg (by rw [h80]; decide)]; exact hR⟩
              · refine ws_aload_n C d_M_retry_83 rfl ?_
                refine ws_iload_n C d_M_retry_84 rfl ?_
                refine ws_iload_n C d_M_retry_85 rfl ?_
                refine ws_callVi C w_M_151 (As := [_, _]) (c_M_serve hR hO (by omega) (by omega)) d_M_retry_86 rfl rfl hR.1 (Nat.le_of_ble_eq_true rfl) (by decide) (by decide) (by decide) (fun S hR => ?_)
                refine ws_goto C d_M_retry_89 ?_
                exact ws_iret C R d_M_retry_93 rfl (by decide) (by decide) ⟨by rw [if_neg (by omega), if_neg (by omega), if_neg (by omega), if_pos xv, if_pos h80, ev], by rw [if_neg (by omega), if_neg (by omega), if_neg (by omega), if_pos xv, if_pos h80, ev]; exact hR⟩
            · have xv : inN v 5 = false := by simpa using h70
              refine ws_iconst C (-1) d_M_retry_73 (by decide) ?_
              exact ws_iret C R d_M_retry_74 rfl (by decide) (by decide) ⟨by rw [if_neg (by omega), if_neg (by omega), if_neg (by omega), if_neg (by rw [xv]; decide)], by rw [if_neg (by omega), if_neg (by omega), if_neg (by omega), if_neg (by rw [xv]; decide)]; exact hR⟩
          · refine ws_bipush C (-2) d_M_retry_62 (by decide) ?_
            exact ws_iret C R d_M_retry_64 rfl (by decide) (by decide) ⟨by rw [if_neg (by omega), if_neg (by omega), if_pos (by omega)], by rw [if_neg (by omega), if_neg (by omega), if_pos (by omega)]; exact hR⟩
        · refine ws_aload_n C d_M_retry_42 rfl ?_
          refine ws_iload_n C d_M_retry_43 rfl ?_
          refine ws_callVi C w_M_144 (As := [_]) (c_M_sendWrite hR hO (by omega) hse) d_M_retry_44 rfl rfl hR.1 (Nat.le_of_ble_eq_true rfl) (by decide) (by decide) (by decide) (fun S hR => ?_)
          exact ws_iret C R d_M_retry_47 rfl (by decide) (by decide) ⟨by rw [if_neg (by omega), if_pos (by omega)], by rw [if_neg (by omega), if_pos (by omega)]; exact hR⟩
      · refine ws_bipush C (-3) d_M_retry_29 (by decide) ?_
        exact ws_iret C R d_M_retry_31 rfl (by decide) (by decide) ⟨by rw [if_pos (by omega)], by rw [if_pos (by omega)]; exact hR⟩
  · have xc : inN c 2 = false := by simpa using h5
    refine ws_iconst C (-1) d_M_retry_8 (by decide) ?_
    exact ws_iret C R d_M_retry_9 rfl (by decide) (by decide) ⟨by simp [rtyF, xc], by simp [rtyF, xc]; exact hR⟩
end
section
/-! the reference: deliver, stop, join, tick, adopt, member, version, look -/
def dlvOK (G : GS) (v w : Nat) : Prop := ∀ m, frs G v w = some m → (1 ≤ G.1 23 m ∧ G.1 23 m ≤ 5) ∧ G.1 20 0 + 2 ≤ 1400 ∧ (G.1 24 m = G.1 3 w → (G.1 23 m = 1 → G.1 4 w + 1 ≤ 100) ∧ (G.1 23 m = 3 → G.1 25 m ≤ 3) ∧ (G.1 23 m = 4 → G.1 26 m ≤ 2) ∧ (G.1 23 m = 5 → G.1 20 0 + (G.1 25 m - G.1 4 w) ≤ 1400))
set_option maxHeartbeats 4000000 in
set_option maxRecDepth 100000 in
theorem c_M_deliver {V : Ev} {o : Nat} {ad : Nat → Nat} {G : GS} {S : Sto} (hR : MR o ad G S) (hO : OK G) (v w : Int32) (hD : ∀ (v w : Int32) (i j : Nat), v = nI i → w = nI j → dlvOK G i j) : CT V mi_M_deliver 0 0 [.ref o, .int v, .int w] S (Pi (dlvF G v w).1 (MR o ad (dlvF G v w).2)) := by
  refine CT.of (cc := prog_8_method_31_code) (own := "ChainVersionsModel") (nL := 8) (d := 5) (by decide) rfl rfl rfl rfl (by simp [Value.category]) (Nat.le_of_ble_eq_true rfl) rfl ?_
  intro F hV hn C R
  subst hV
  refine ws_iload_n C d_M_deliver_0 rfl ?_
  refine ws_iconst C (nI 5) d_M_deliver_1 (by decide) ?_
  refine ws_callSi C w_M_94 (As := [_, _]) (c_M_outside hR v 5) d_M_deliver_2 rfl rfl (Nat.le_of_ble_eq_true rfl) (by decide) (by decide) (by decide) (fun S hR => ?_)
  refine ws_if_neB C d_M_deliver_5 (fun h5 => ?_) (fun h5 => ?_)
  · have xv : inN v 5 = false := by simpa using h5
    refine ws_iconst C (-1) d_M_deliver_16 (by decide) ?_
    exact ws_iret C R d_M_deliver_17 rfl (by decide) (by decide) ⟨by simp [dlvF, xv], by simp [dlvF, xv]; exact hR⟩
  · have xv : inN v 5 = true := by simpa using h5
    obtain ⟨v, bv, rfl⟩ := inN_of xv (by decide)
    have ev : ix (nI v) = v := ix_n (by omega)
    refine ws_iload_n C d_M_deliver_8 rfl ?_
    refine ws_iconst C (nI 5) d_M_deliver_9 (by decide) ?_
    refine ws_callSi C w_M_94 (As := [_, _]) (c_M_outside hR w 5) d_M_deliver_10 rfl rfl (Nat.le_of_ble_eq_true rfl) (by decide) (by decide) (by decide) (fun S hR => ?_)
    refine ws_if_eqB C d_M_deliver_13 (fun h13 => ?_) (fun h13 => ?_)
    · have xw : inN w 5 = true := by simpa using h13
      obtain ⟨w, bw, rfl⟩ := inN_of xw (by decide)
      have ew : ix (nI w) = w := ix_n (by omega)
      have eP : dlvF G (nI v) (nI w) = dlvN G v w := by simp [dlvF, xv, xw, ev, ew]
      rw [eP] at R
      have hD := hD (nI v) (nI w) v w rfl rfl
      refine ws_aload_n C d_M_deliver_18 rfl ?_
      refine ws_iload_n C d_M_deliver_19 rfl ?_
      refine ws_iload_n C d_M_deliver_20 rfl ?_
      refine ws_callVi C w_M_157 (As := [_, _]) (c_M_first hR hO (by omega) (by omega)) d_M_deliver_21 rfl rfl hR.1 (Nat.le_of_ble_eq_true rfl) (by decide) (by decide) (by decide) (fun S hR => ?_)
      cases hf : frs G v w with
      | none =>
        have eN : dlvN G v w = (0, G) := by simp [dlvN, hf]
        rw [eN] at R
        refine ws_istore_n C d_M_deliver_24 (by rw [hn]; decide) ?_
        refine ws_iload_n C d_M_deliver_25 rfl ?_
        refine ws_if_geM C d_M_deliver_26 ?_
        refine ws_iconst C (nI 0) d_M_deliver_29 (by decide) ?_
        exact ws_iret C R d_M_deliver_30 rfl (by decide) (by decide) ⟨rfl, hR⟩
      | some m =>
        obtain ⟨hm, -, -⟩ := frs_lt hf
        obtain ⟨hk, hc, hD⟩ := hD m hf
        have eN : dlvN G v w = (if G.1 3 w < G.1 24 m ∨ (G.1 24 m = G.1 3 w ∧ G.1 2 w = 0 ∧ G.1 23 m ≠ 5) then (-2, G) else (nI (G.1 23 m), if G.1 24 m = G.1 3 w then (if G.1 2 w = 1 then act (stk G m) w v (G.1 23 m) (G.1 25 m) (G.1 26 m) else arv (stk G m) w v (G.1 25 m) (G.1 26 m)) else stk G m)) := by simp [dlvN, hf]
        rw [eN] at R
        have hb20 : G.1 20 0 ≤ 1399 := hO 20 0
        have hb2 : G.1 2 w ≤ 1 := hO 2 w
        have hb25 : G.1 25 m ≤ 100 := hO 25 m
        have hb26 : G.1 26 m ≤ 100 := hO 26 m
        have hO2 : OK (stk G m) := ok_stk hO
        refine ws_istore_n C d_M_deliver_24 (by rw [hn]; decide) ?_
        have k95 : ∀ (q : Nat) (S : Sto), (q = 1 ∧ G.1 24 m = G.1 3 w ∨ q = 0 ∧ ¬ G.1 24 m = G.1 3 w) → ¬ (G.1 3 w < G.1 24 m ∨ (G.1 24 m = G.1 3 w ∧ G.1 2 w = 0 ∧ G.1 23 m ≠ 5)) → MR o ad G S → WS F 95 [some (.ref o), some (.int (nI v)), some (.int (nI w)), some (.int (nI m)), some (.int (nI q)), none, none, none] [] S 0 0 := by
          intro q S hq hne hR
          rw [if_neg hne] at R
          refine ws_aload_n C d_M_deliver_95 rfl ?_
          refine wm_arr C hR 23 d_M_deliver_96 f_M_71 rfl rfl rfl ?_
          refine ws_iload_n C d_M_deliver_99 rfl ?_
          refine wm_aldN C hR 23 d_M_deliver_100 rfl rfl (by decide) (show _ < 1400 by first | omega | exact okl hO _ _) ?_
          refine ws_istore C d_M_deliver_101 (by rw [hn]; decide) ?_
          refine ws_aload_n C d_M_deliver_103 rfl ?_
          refine wm_arr C hR 25 d_M_deliver_104 f_M_77 rfl rfl rfl ?_
          refine ws_iload_n C d_M_deliver_107 rfl ?_
          refine wm_aldN C hR 25 d_M_deliver_108 rfl rfl (by decide) (show _ < 1400 by first | omega | exact okl hO _ _) ?_
          refine ws_istore C d_M_deliver_109 (by rw [hn]; decide) ?_
          refine ws_aload_n C d_M_deliver_111 rfl ?_
          refine wm_arr C hR 26 d_M_deliver_112 f_M_80 rfl rfl rfl ?_
          refine ws_iload_n C d_M_deliver_115 rfl ?_
          refine wm_aldN C hR 26 d_M_deliver_116 rfl rfl (by decide) (show _ < 1400 by first | omega | exact okl hO _ _) ?_
          refine ws_istore C d_M_deliver_117 (by rw [hn]; decide) ?_
          refine ws_aload_n C d_M_deliver_119 rfl ?_
          refine ws_iload_n C d_M_deliver_120 rfl ?_
          refine ws_callVv C w_M_100 (As := [_]) (c_M_strike hR hO hm) d_M_deliver_121 rfl rfl hR.1 (Nat.le_of_ble_eq_true rfl) (by decide) (by decide) (by decide) (fun S hR => ?_)
          refine ws_iload C d_M_deliver_124 rfl ?_
          refine ws_if_eqN C d_M_deliver_126 (by omega) (fun h126 => ?_) (fun h126 => ?_)
          · refine ws_iload C d_M_deliver_153 rfl ?_
            refine ws_if_eqN C d_M_deliver_155 (by omega) (fun _ => ?_) (fun z => absurd h126 z)
            refine ws_iload C d_M_deliver_168 rfl ?_
            exact ws_iret C R d_M_deliver_170 rfl (by decide) (by decide) ⟨rfl, by simp only []; rw [if_neg (by omega)] ; exact hR⟩
          · refine ws_aload_n C d_M_deliver_129 rfl ?_
            refine wm_arr C hR 2 d_M_deliver_130 f_M_13 rfl rfl rfl ?_
            refine ws_iload_n C d_M_deliver_133 rfl ?_
            refine wm_zldN C hR 2 d_M_deliver_134 rfl rfl (by decide) (show _ < 6 by first | omega | exact okl hO _ _) ?_
            refine ws_top (nI (G.1 2 w)) (by rw [stk_ne _ _ (by decide)]) ?_
            refine ws_if_eqN C d_M_deliver_135 (by omega) (fun h135 => ?_) (fun h135 => ?_)
            · refine ws_iload C d_M_deliver_153 rfl ?_
              refine ws_if_eqN C d_M_deliver_155 (by omega) (fun z => absurd z h126) (fun _ => ?_)
              refine ws_aload_n C d_M_deliver_158 rfl ?_
              refine ws_iload_n C d_M_deliver_159 rfl ?_
              refine ws_iload_n C d_M_deliver_160 rfl ?_
              refine ws_iload C d_M_deliver_161 rfl ?_
              refine ws_iload C d_M_deliver_163 rfl ?_
              refine ws_callVv C w_M_163 (As := [_, _, _, _]) (c_M_arrive hR hO2 (by omega) (by omega) (by omega) (by omega) (by rw [stk_20]; omega)) d_M_deliver_165 rfl rfl hR.1 (Nat.le_of_ble_eq_true rfl) (by decide) (by decide) (by decide) (fun S hR => ?_)
              refine ws_iload C d_M_deliver_168 rfl ?_
              exact ws_iret C R d_M_deliver_170 rfl (by decide) (by decide) ⟨rfl, by simp only []; rw [if_pos (by omega), if_neg (by omega)] ; exact hR⟩
            · refine ws_aload_n C d_M_deliver_138 rfl ?_
              refine ws_iload_n C d_M_deliver_139 rfl ?_
              refine ws_iload_n C d_M_deliver_140 rfl ?_
              refine ws_iload C d_M_deliver_141 rfl ?_
              refine ws_iload C d_M_deliver_143 rfl ?_
              refine ws_iload C d_M_deliver_145 rfl ?_
              refine ws_callVv C w_M_160 (As := [_, _, _, _, _]) (c_M_act hR hO2 (by omega) (by omega) hk (by omega) (fun z => by rw [stk_ne _ _ (by decide)]; exact (hD (by omega)).1 z) (hD (by omega)).2.1 (hD (by omega)).2.2.1 (fun z => by rw [stk_20, stk_ne _ _ (by decide)]; have := (hD (by omega)).2.2.2 z; omega)) d_M_deliver_147 rfl rfl hR.1 (Nat.le_of_ble_eq_true rfl) (by decide) (by decide) (by decide) (fun S hR => ?_)
              refine ws_goto C d_M_deliver_150 ?_
              refine ws_iload C d_M_deliver_168 rfl ?_
              exact ws_iret C R d_M_deliver_170 rfl (by decide) (by decide) ⟨rfl, by simp only []; rw [if_pos (by omega), if_pos (by omega)] ; exact hR⟩
        have k53 : ∀ (q : Nat) (S : Sto), (q = 1 ∧ G.1 24 m = G.1 3 w ∨ q = 0 ∧ ¬ G.1 24 m = G.1 3 w) → MR o ad G S → WS F 53 [some (.ref o), some (.int (nI v)), some (.int (nI w)), some (.int (nI m)), some (.int (nI q)), none, none, none] [] S 0 0 := by
          intro q S hq hR
          refine ws_aload_n C d_M_deliver_53 rfl ?_
          refine wm_arr C hR 24 d_M_deliver_54 f_M_74 rfl rfl rfl ?_
          refine ws_iload_n C d_M_deliver_57 rfl ?_
          refine wm_aldN C hR 24 d_M_deliver_58 rfl rfl (by decide) (show _ < 1400 by first | omega | exact okl hO _ _) ?_
          refine ws_aload_n C d_M_deliver_59 rfl ?_
          refine wm_arr C hR 3 d_M_deliver_60 f_M_16 rfl rfl rfl ?_
          refine ws_iload_n C d_M_deliver_63 rfl ?_
          refine wm_aldN C hR 3 d_M_deliver_64 rfl rfl (by decide) (show _ < 6 by first | omega | exact okl hO _ _) ?_
          refine ws_icmp_gtN C d_M_deliver_65 (by first | omega | exact okl hO _ _) (by first | omega | exact okl hO _ _) (fun h65 => ?_) (fun h65 => ?_)
          · refine ws_bipush C (-2) d_M_deliver_92 (by decide) ?_
            exact ws_iret C R d_M_deliver_94 rfl (by decide) (by decide) ⟨by rw [if_pos (by omega)], by rw [if_pos (by omega)]; exact hR⟩
          · refine ws_iload C d_M_deliver_68 rfl ?_
            refine ws_if_eqN C d_M_deliver_70 (by first | omega | exact okl hO _ _) (fun h70 => ?_) (fun h70 => ?_)
            · exact k95 q S hq (by omega) hR
            · refine ws_aload_n C d_M_deliver_73 rfl ?_
              refine wm_arr C hR 2 d_M_deliver_74 f_M_13 rfl rfl rfl ?_
              refine ws_iload_n C d_M_deliver_77 rfl ?_
              refine wm_zldN C hR 2 d_M_deliver_78 rfl rfl (by decide) (show _ < 6 by first | omega | exact okl hO _ _) ?_
              refine ws_if_neN C d_M_deliver_79 (by first | omega | exact okl hO _ _) (fun h79 => ?_) (fun h79 => ?_)
              · exact k95 q S hq (by omega) hR
              · refine ws_aload_n C d_M_deliver_82 rfl ?_
                refine wm_arr C hR 23 d_M_deliver_83 f_M_71 rfl rfl rfl ?_
                refine ws_iload_n C d_M_deliver_86 rfl ?_
                refine wm_aldN C hR 23 d_M_deliver_87 rfl rfl (by decide) (show _ < 1400 by first | omega | exact okl hO _ _) ?_
                refine ws_iconst C (nI 5) d_M_deliver_88 (by decide) ?_
                refine ws_icmp_eqN C d_M_deliver_89 (by first | omega | exact okl hO _ _) (by first | omega | exact okl hO _ _) (fun h89 => ?_) (fun h89 => ?_)
                · exact k95 q S hq (by omega) hR
                · refine ws_bipush C (-2) d_M_deliver_92 (by decide) ?_
                  exact ws_iret C R d_M_deliver_94 rfl (by decide) (by decide) ⟨by rw [if_pos (by omega)], by rw [if_pos (by omega)]; exact hR⟩
        refine ws_iload_n C d_M_deliver_25 rfl ?_
        refine ws_if_geN C d_M_deliver_26 (by first | omega | exact okl hO _ _) ?_
        refine ws_aload_n C d_M_deliver_31 rfl ?_
        refine wm_arr C hR 24 d_M_deliver_32 f_M_74 rfl rfl rfl ?_
        refine ws_iload_n C d_M_deliver_35 rfl ?_
        refine wm_aldN C hR 24 d_M_deliver_36 rfl rfl (by decide) (show _ < 1400 by first | omega | exact okl hO _ _) ?_
        refine ws_aload_n C d_M_deliver_37 rfl ?_
        refine wm_arr C hR 3 d_M_deliver_38 f_M_16 rfl rfl rfl ?_
        refine ws_iload_n C d_M_deliver_41 rfl ?_
        refine wm_aldN C hR 3 d_M_deliver_42 rfl rfl (by decide) (show _ < 6 by first | omega | exact okl hO _ _) ?_
        refine ws_icmp_neN C d_M_deliver_43 (by first | omega | exact okl hO _ _) (by first | omega | exact okl hO _ _) (fun h43 => ?_) (fun h43 => ?_)
        · refine ws_iconst C (nI 0) d_M_deliver_50 (by decide) ?_
          refine ws_istore C d_M_deliver_51 (by rw [hn]; decide) ?_
          exact k53 0 S (by omega) hR
        · refine ws_iconst C (nI 1) d_M_deliver_46 (by decide) ?_
          refine ws_goto C d_M_deliver_47 ?_
          refine ws_istore C d_M_deliver_51 (by rw [hn]; decide) ?_
          exact k53 1 S (by omega) hR
    · have xw : inN w 5 = false := by simpa using h13
      refine ws_iconst C (-1) d_M_deliver_16 (by decide) ?_
      exact ws_iret C R d_M_deliver_17 rfl (by decide) (by decide) ⟨by simp [dlvF, xv, xw], by simp [dlvF, xv, xw]; exact hR⟩
theorem bI_z {b : Bool} {n : Nat} (h : nI n = bI b) (hn : n = 0) : b = false := by
  subst hn
  cases b with
  | false => rfl
  | true => exact absurd h (by decide)
theorem bI_nz {b : Bool} {n : Nat} (h : nI n = bI b) (hn : ¬ n = 0) (hb : n ≤ 1 := by omega) : b = true := by
  have e : n = 1 := by omega
  subst e
  cases b with
  | true => rfl
  | false => exact absurd h (by decide)
theorem inN_n {j n : Nat} (h : j ≤ n) (hn : n < 2 ^ 31 := by omega) : inN (nI j) n = true := by
  simp only [inN, decide_eq_true_eq]
  exact ⟨nI_pos (by omega), nI_nlt h hn⟩
theorem otN_1 {G : GS} {v w : Nat} (h : otN G v w = true) : otN G v (w + 1) = true := by rw [otN, h]; rfl
theorem otN_2 {G : GS} {v w : Nat} (h : otN G v w = false) (hw : w = v) : otN G v (w + 1) = false := by rw [otN, h]; simp [hw]
theorem otN_3 {G : GS} {v w : Nat} (h : otN G v w = false) (hs : (G.1 1 w == 1 && G.1 2 w == 1) = false) : otN G v (w + 1) = false := by rw [otN, h, hs]; simp
theorem otN_4 {G : GS} {v w : Nat} (hw : ¬ w = v) (hs : (G.1 1 w == 1 && G.1 2 w == 1) = true) : otN G v (w + 1) = true := by rw [otN, hs]; simp [hw]
set_option maxHeartbeats 4000000 in
set_option maxRecDepth 100000 in
theorem c_M_stop {V : Ev} {o : Nat} {ad : Nat → Nat} {G : GS} {S : Sto} (hR : MR o ad G S) (hO : OK G) (v : Int32) : CT V mi_M_stop 0 0 [.ref o, .int v] S (Pi (bI (stpF G v).1) (MR o ad (stpF G v).2)) := by
  refine CT.of (cc := prog_8_method_33_code) (own := "ChainVersionsModel") (nL := 4) (d := 2) (by decide) rfl rfl rfl rfl (by simp [Value.category]) (Nat.le_of_ble_eq_true rfl) rfl ?_
  intro F hV hn C R
  subst hV
  refine ws_iload_n C d_M_stop_0 rfl ?_
  refine ws_iconst C (nI 5) d_M_stop_1 (by decide) ?_
  refine ws_callSi C w_M_94 (As := [_, _]) (c_M_outside hR v 5) d_M_stop_2 rfl rfl (Nat.le_of_ble_eq_true rfl) (by decide) (by decide) (by decide) (fun S hR => ?_)
  refine ws_if_neB C d_M_stop_5 (fun h5 => ?_) (fun h5 => ?_)
  · have xv : inN v 5 = false := by simpa using h5
    refine ws_iconst C (nI 0) d_M_stop_17 (by decide) ?_
    exact ws_zret C R d_M_stop_18 rfl (by decide) (by decide) (by decide) ⟨by simp [stpF, bI, nI_0, xv], by simp [stpF, xv]; exact hR⟩
  · have xv : inN v 5 = true := by simpa using h5
    obtain ⟨v, bv, rfl⟩ := inN_of xv (by decide)
    have ev : ix (nI v) = v := ix_n (by omega)
    have hb1 : G.1 1 v ≤ 1 := hO 1 v
    have hb8 : G.1 8 0 ≤ 12 := hO 8 0
    refine ws_aload_n C d_M_stop_8 rfl ?_
    refine wm_arr C hR 1 d_M_stop_9 f_M_7 rfl rfl rfl ?_
    refine ws_iload_n C d_M_stop_12 rfl ?_
    refine wm_zldN C hR 1 d_M_stop_13 rfl rfl (by decide) (show _ < 6 by first | omega | exact okl hO _ _) ?_
    refine ws_if_neN C d_M_stop_14 (by first | omega | exact okl hO _ _) (fun h14 => ?_) (fun h14 => ?_)
    · refine ws_iconst C (nI 0) d_M_stop_19 (by decide) ?_
      refine ws_istore_n C d_M_stop_20 (by rw [hn]; decide) ?_
      refine ws_iconst C (nI 0) d_M_stop_21 (by decide) ?_
      refine ws_istore_n C d_M_stop_22 (by rw [hn]; decide) ?_
      have h1 : G.1 1 v = 1 := by omega
      have eP : stpF G (nI v) = (if otN G v 6 = true then (true, los (gN (gN G 1 v 0) 28 v (G.1 27 0)) v (G.1 8 0 + 1)) else (false, G)) := by simp [stpF, xv, ev, h1]
      rw [eP] at R
      suffices hL : ∀ n w, w + n = 6 → ∀ (S : Sto) (b : Nat), nI b = bI (otN G v w) → b ≤ 1 → MR o ad G S → WS F 23 [some (.ref o), some (.int (nI v)), some (.int (nI b)), some (.int (nI w))] [] S 0 0 from hL 6 0 rfl S 0 rfl (by omega) hR
      intro n
      induction n with
      | zero =>
        intro w hw S b hb hb1 hR
        have e : w = 6 := by omega
        subst e
        refine ws_iload_n C d_M_stop_23 rfl ?_
        refine ws_bipush C (nI 6) d_M_stop_24 (by decide) ?_
        refine ws_icmp_geN C d_M_stop_26 (by first | omega | exact okl hO _ _) (by first | omega | exact okl hO _ _) (fun h26 => ?_) (fun h26 => ?_)
        · refine ws_iload_n C d_M_stop_58 rfl ?_
          refine ws_if_neN C d_M_stop_59 (by omega) (fun h59 => ?_) (fun h59 => ?_)
          · have ht : otN G v 6 = true := bI_nz hb h59
            rw [if_pos ht] at R
            refine ws_aload_n C d_M_stop_64 rfl ?_
            refine wm_arr C hR 1 d_M_stop_65 f_M_7 rfl rfl rfl ?_
            refine ws_iload_n C d_M_stop_68 rfl ?_
            refine ws_iconst C (nI 0) d_M_stop_69 (by decide) ?_
            refine wm_zst C hR 1 d_M_stop_70 rfl rfl (by decide) (show _ < 6 by first | omega | exact okl hO _ _) (by decide) (fun S hR => ?_)
            refine ws_aload_n C d_M_stop_71 rfl ?_
            refine ws_iload_n C d_M_stop_72 rfl ?_
            refine ws_aload_n C d_M_stop_73 rfl ?_
            refine wm_8 C hR d_M_stop_74 f_M_87 ?_
            refine ws_top (nI (G.1 8 0)) (by simp [gN_1, gN_2, gV_1, gV_2]) ?_
            refine ws_iconst C (nI 1) d_M_stop_77 (by decide) ?_
            refine ws_iaddN C d_M_stop_78 ?_
            refine ws_callVv C w_M_167 (As := [_, _]) (c_M_lose (hR.same (G' := gN (gN G 1 v 0) 28 v (G.1 27 0)) (fun j hj => gN_ne _ (by omega)) (fun j _ => rfl)) (ok_gN (ok_gN hO (by decide)) (hO 27 0)) (by omega) (by omega)) d_M_stop_79 rfl rfl hR.1 (Nat.le_of_ble_eq_true rfl) (by decide) (by decide) (by decide) (fun S hR => ?_)
            refine ws_iconst C (nI 1) d_M_stop_82 (by decide) ?_
            exact ws_zret C R d_M_stop_83 rfl (by decide) (by decide) (by decide) ⟨rfl, hR⟩
          · have ht : otN G v 6 = false := bI_z hb h59
            rw [if_neg (by rw [ht]; decide)] at R
            refine ws_iconst C (nI 0) d_M_stop_62 (by decide) ?_
            exact ws_zret C R d_M_stop_63 rfl (by decide) (by decide) (by decide) ⟨rfl, hR⟩
        · omega
      | succ n ih =>
        intro w hw S b hb hb1 hR
        have ew : ix (nI w) = w := ix_n (by omega)
        have iw : inN (nI w) 5 = true := inN_n (by omega)
        have esv : svs G (nI w) = (G.1 1 w == 1 && G.1 2 w == 1) := by simp [svs, iw, ew]
        refine ws_iload_n C d_M_stop_23 rfl ?_
        refine ws_bipush C (nI 6) d_M_stop_24 (by decide) ?_
        refine ws_icmp_geN C d_M_stop_26 (by first | omega | exact okl hO _ _) (by first | omega | exact okl hO _ _) (fun h26 => ?_) (fun h26 => ?_)
        · omega
        · refine ws_iload_n C d_M_stop_29 rfl ?_
          refine ws_if_neN C d_M_stop_30 (by first | omega | exact okl hO _ _) (fun h30 => ?_) (fun h30 => ?_)
          · refine ws_iconst C (nI 1) d_M_stop_46 (by decide) ?_
            refine ws_goto C d_M_stop_47 ?_
            refine ws_istore_n C d_M_stop_51 (by rw [hn]; decide) ?_
            refine ws_iinc C _ d_M_stop_52 rfl (inc1 _) (by rw [hn]; decide) ?_
            refine ws_goto C d_M_stop_55 ?_
            exact ih (w + 1) (by omega) S _ (by rw [otN_1 (bI_nz hb h30)]; rfl) (by decide) hR
          · refine ws_iload_n C d_M_stop_33 rfl ?_
            refine ws_iload_n C d_M_stop_34 rfl ?_
            refine ws_icmp_eqN C d_M_stop_35 (by first | omega | exact okl hO _ _) (by first | omega | exact okl hO _ _) (fun h35 => ?_) (fun h35 => ?_)
            · refine ws_iconst C (nI 0) d_M_stop_50 (by decide) ?_
              refine ws_istore_n C d_M_stop_51 (by rw [hn]; decide) ?_
              refine ws_iinc C _ d_M_stop_52 rfl (inc1 _) (by rw [hn]; decide) ?_
              refine ws_goto C d_M_stop_55 ?_
              exact ih (w + 1) (by omega) S _ (by rw [otN_2 (bI_z hb h30) h35]; rfl) (by decide) hR
            · refine ws_aload_n C d_M_stop_38 rfl ?_
              refine ws_iload_n C d_M_stop_39 rfl ?_
              refine ws_callVi C w_M_147 (As := [_]) (c_M_serves hR hO (nI w)) d_M_stop_40 rfl rfl hR.1 (Nat.le_of_ble_eq_true rfl) (by decide) (by decide) (by decide) (fun S hR => ?_)
              refine ws_if_eqB C d_M_stop_43 (fun h43 => ?_) (fun h43 => ?_)
              · refine ws_iconst C (nI 0) d_M_stop_50 (by decide) ?_
                refine ws_istore_n C d_M_stop_51 (by rw [hn]; decide) ?_
                refine ws_iinc C _ d_M_stop_52 rfl (inc1 _) (by rw [hn]; decide) ?_
                refine ws_goto C d_M_stop_55 ?_
                exact ih (w + 1) (by omega) S _ (by rw [otN_3 (bI_z hb h30) (by rw [← esv]; exact h43)]; rfl) (by decide) hR
              · refine ws_iconst C (nI 1) d_M_stop_46 (by decide) ?_
                refine ws_goto C d_M_stop_47 ?_
                refine ws_istore_n C d_M_stop_51 (by rw [hn]; decide) ?_
                refine ws_iinc C _ d_M_stop_52 rfl (inc1 _) (by rw [hn]; decide) ?_
                refine ws_goto C d_M_stop_55 ?_
                exact ih (w + 1) (by omega) S _ (by rw [otN_4 h35 (by rw [← esv]; exact h43)]; rfl) (by decide) hR
    · refine ws_iconst C (nI 0) d_M_stop_17 (by decide) ?_
      exact ws_zret C R d_M_stop_18 rfl (by decide) (by decide) (by decide) ⟨by simp [stpF, bI, nI_0, xv, ev, h14], by simp [stpF, xv, ev, h14]; exact hR⟩
set_option maxHeartbeats 4000000 in
set_option maxRecDepth 100000 in
theorem c_M_join {V : Ev} {o : Nat} {ad : Nat → Nat} {G : GS} {S : Sto} (hR : MR o ad G S) (hO : OK G) : CT V mi_M_join 0 0 [.ref o] S (Pi (jnF G).1 (MR o ad (jnF G).2)) := by
  refine CT.of (cc := prog_8_method_34_code) (own := "ChainVersionsModel") (nL := 2) (d := 0) (by decide) rfl rfl rfl rfl (by simp [Value.category]) (Nat.le_of_ble_eq_true rfl) rfl ?_
  intro F hV hn C R
  subst hV
  have hb0 : G.1 0 0 ≤ 6 := hO 0 0
  have hb8 : G.1 8 0 ≤ 12 := hO 8 0
  have hb7 : G.1 7 (G.1 8 0) ≤ 63 := hO 7 _
  refine ws_aload_n C d_M_join_0 rfl ?_
  refine wm_0 C hR d_M_join_1 f_M_83 ?_
  refine ws_bipush C (nI 6) d_M_join_4 (by decide) ?_
  refine ws_icmp_neN C d_M_join_6 (by first | omega | exact okl hO _ _) (by first | omega | exact okl hO _ _) (fun h6 => ?_) (fun h6 => ?_)
  · refine ws_aload_n C d_M_join_11 rfl ?_
    refine wm_0 C hR d_M_join_12 f_M_83 ?_
    refine ws_istore_n C d_M_join_15 (by rw [hn]; decide) ?_
    refine ws_aload_n C d_M_join_16 rfl ?_
    refine ws_dup C d_M_join_17 rfl ?_
    refine wm_0 C hR d_M_join_18 f_M_83 ?_
    refine ws_top (nI (G.1 0 0)) (by simp [gN_1, gN_2, gV_1, gV_2]) ?_
    refine ws_iconst C (nI 1) d_M_join_21 (by decide) ?_
    refine ws_iaddN C d_M_join_22 ?_
    refine wm_put C hR 0 (by decide) d_M_join_23 f_M_83 (fun S hR => ?_)
    refine ws_aload_n C d_M_join_26 rfl ?_
    refine ws_dup C d_M_join_27 rfl ?_
    refine wm_8 C hR d_M_join_28 f_M_87 ?_
    refine ws_top (nI (G.1 8 0)) (by simp [gN_1, gN_2, gV_1, gV_2]) ?_
    refine ws_iconst C (nI 1) d_M_join_31 (by decide) ?_
    refine ws_iaddN C d_M_join_32 ?_
    refine wm_put C hR 8 (by decide) d_M_join_33 f_M_87 (fun S hR => ?_)
    refine ws_aload_n C d_M_join_36 rfl ?_
    refine wm_arr C hR 7 d_M_join_37 f_M_29 rfl rfl rfl ?_
    refine ws_aload_n C d_M_join_40 rfl ?_
    refine wm_8 C hR d_M_join_41 f_M_87 ?_
    refine ws_top (nI (G.1 8 0 + 1)) (by simp [gN_1, gN_2, gV_1, gV_2]) ?_
    refine ws_aload_n C d_M_join_44 rfl ?_
    refine wm_arr C hR 7 d_M_join_45 f_M_29 rfl rfl rfl ?_
    refine ws_aload_n C d_M_join_48 rfl ?_
    refine wm_8 C hR d_M_join_49 f_M_87 ?_
    refine ws_top (nI (G.1 8 0 + 1)) (by simp [gN_1, gN_2, gV_1, gV_2]) ?_
    refine ws_iconst C (nI 1) d_M_join_52 (by decide) ?_
    refine ws_isubN C d_M_join_53 (by first | omega | exact okl hO _ _) ?_
    refine ws_top (nI (G.1 8 0)) (by rw [Nat.add_sub_cancel]) ?_
    refine wm_aldN C hR 7 d_M_join_54 rfl rfl (by decide) (show _ < 14 by first | omega | exact okl hO _ _) ?_
    refine ws_top (nI (G.1 7 (G.1 8 0))) (by simp [gN_1, gN_2, gV_1, gV_2]) ?_
    refine ws_iconst C (nI 1) d_M_join_55 (by decide) ?_
    refine ws_iload_n C d_M_join_56 rfl ?_
    refine ws_ishl C d_M_join_57 ?_
    refine ws_ior C d_M_join_58 ?_
    refine ws_top (nI (G.1 7 (G.1 8 0) ||| 1 <<< G.1 0 0)) (or1 hb7 (by omega)) ?_
    refine wm_astN C hR 7 d_M_join_59 rfl rfl (by decide) (show _ < 14 by first | omega | exact okl hO _ _) (fun S hR => ?_)
    refine ws_aload_n C d_M_join_60 rfl ?_
    refine wm_arr C hR 1 d_M_join_61 f_M_7 rfl rfl rfl ?_
    refine ws_iload_n C d_M_join_64 rfl ?_
    refine ws_iconst C (nI 1) d_M_join_65 (by decide) ?_
    refine wm_zst C hR 1 d_M_join_66 rfl rfl (by decide) (show _ < 6 by first | omega | exact okl hO _ _) (by decide) (fun S hR => ?_)
    refine ws_aload_n C d_M_join_67 rfl ?_
    refine wm_arr C hR 3 d_M_join_68 f_M_16 rfl rfl rfl ?_
    refine ws_iload_n C d_M_join_71 rfl ?_
    refine ws_aload_n C d_M_join_72 rfl ?_
    refine wm_8 C hR d_M_join_73 f_M_87 ?_
    refine ws_top (nI (G.1 8 0 + 1)) (by simp [gN_1, gN_2, gV_1, gV_2]) ?_
    refine wm_astN C hR 3 d_M_join_76 rfl rfl (by decide) (show _ < 6 by first | omega | exact okl hO _ _) (fun S hR => ?_)
    refine ws_iload_n C d_M_join_77 rfl ?_
    exact ws_iret C R d_M_join_78 rfl (by decide) (by decide) ⟨by rw [jnF, if_neg h6], by rw [jnF, if_neg h6]; exact hR⟩
  · refine ws_iconst C (-1) d_M_join_9 (by decide) ?_
    exact ws_iret C R d_M_join_10 rfl (by decide) (by decide) ⟨by rw [jnF, if_pos h6], by rw [jnF, if_pos h6]; exact hR⟩
set_option maxHeartbeats 4000000 in
set_option maxRecDepth 100000 in
theorem c_M_member {V : Ev} {o : Nat} {ad : Nat → Nat} {G : GS} {S : Sto} (hR : MR o ad G S) (hO : OK G) (k : Int32) : CT V mi_M_member 0 0 [.ref o, .int k] S (Pi (mbF G k) (MR o ad G)) := by
  refine CT.of (cc := prog_8_method_37_code) (own := "ChainVersionsModel") (nL := 4) (d := 1) (by decide) rfl rfl rfl rfl (by simp [Value.category]) (Nat.le_of_ble_eq_true rfl) rfl ?_
  intro F hV hn C R
  subst hV
  have hb8 : G.1 8 0 ≤ 12 := hO 8 0
  refine ws_iload_n C d_M_member_0 rfl ?_
  refine ws_if_ge C d_M_member_1 (fun h1 => ?_) (fun h1 => ?_)
  · have h0 : ¬ k < 0 := Int32.not_lt.mpr h1
    obtain ⟨k, bk, rfl⟩ := nI_of h0
    have ek : ix (nI k) = k := ix_n bk
    have eP : mbF G (nI k) = oI (mbN G (G.1 8 0) 6 k) := by rw [mbF, if_neg h0, ek]
    rw [eP] at R
    refine ws_iload_n C d_M_member_6 rfl ?_
    refine ws_istore_n C d_M_member_7 (by rw [hn]; decide) ?_
    refine ws_iconst C (nI 0) d_M_member_8 (by decide) ?_
    refine ws_istore_n C d_M_member_9 (by rw [hn]; decide) ?_
    suffices hL : ∀ n w l, w + n = 6 → l < 2 ^ 31 → mbN G (G.1 8 0) n l = mbN G (G.1 8 0) 6 k → ∀ S : Sto, MR o ad G S → WS F 10 [some (.ref o), some (.int (nI k)), some (.int (nI l)), some (.int (nI w))] [] S 0 0 from hL 6 0 k rfl bk rfl S hR
    intro n
    induction n with
    | zero =>
      intro w l hw hl hp S hR
      refine ws_iload_n C d_M_member_10 rfl ?_
      refine ws_bipush C (nI 6) d_M_member_11 (by decide) ?_
      refine ws_icmp_geN C d_M_member_13 (by first | omega | exact okl hO _ _) (by first | omega | exact okl hO _ _) (fun h13 => ?_) (fun h13 => ?_)
      · refine ws_iconst C (-1) d_M_member_43 (by decide) ?_
        exact ws_iret C R d_M_member_44 rfl (by decide) (by decide) ⟨by rw [← hp]; rfl, hR⟩
      · omega
    | succ n ih =>
      intro w l hw hl hp S hR
      have e : 5 - n = w := by omega
      rw [mbN, e] at hp
      refine ws_iload_n C d_M_member_10 rfl ?_
      refine ws_bipush C (nI 6) d_M_member_11 (by decide) ?_
      refine ws_icmp_geN C d_M_member_13 (by first | omega | exact okl hO _ _) (by first | omega | exact okl hO _ _) (fun h13 => ?_) (fun h13 => ?_)
      · omega
      · refine ws_aload_n C d_M_member_16 rfl ?_
        refine ws_aload_n C d_M_member_17 rfl ?_
        refine wm_8 C hR d_M_member_18 f_M_87 ?_
        refine ws_iload_n C d_M_member_21 rfl ?_
        refine ws_callVi C w_M_90 (As := [_, _]) (c_M_isIn hR hO (by omega) (by omega)) d_M_member_22 rfl rfl hR.1 (Nat.le_of_ble_eq_true rfl) (by decide) (by decide) (by decide) (fun S hR => ?_)
        refine ws_if_eqB C d_M_member_25 (fun h25 => ?_) (fun h25 => ?_)
        · refine ws_iinc C _ d_M_member_37 rfl (inc1 _) (by rw [hn]; decide) ?_
          refine ws_goto C d_M_member_40 ?_
          exact ih (w + 1) l (by omega) hl (by rw [← hp, if_neg (by rw [h25]; decide)]) S hR
        · refine ws_iload_n C d_M_member_28 rfl ?_
          refine ws_if_neN C d_M_member_29 (by first | omega | exact okl hO _ _) (fun h29 => ?_) (fun h29 => ?_)
          · refine ws_iinc C _ d_M_member_34 rfl (dec1 (by first | omega | exact okl hO _ _)) (by rw [hn]; decide) ?_
            refine ws_iinc C _ d_M_member_37 rfl (inc1 _) (by rw [hn]; decide) ?_
            refine ws_goto C d_M_member_40 ?_
            exact ih (w + 1) (l - 1) (by omega) (by omega) (by rw [← hp, if_pos h25, if_neg h29]) S hR
          · refine ws_iload_n C d_M_member_32 rfl ?_
            exact ws_iret C R d_M_member_33 rfl (by decide) (by decide) ⟨by rw [← hp, if_pos h25, if_pos h29]; rfl, hR⟩
  · refine ws_iconst C (-1) d_M_member_4 (by decide) ?_
    exact ws_iret C R d_M_member_5 rfl (by decide) (by decide) ⟨by rw [mbF, if_pos (Int32.not_le.mp h1)], hR⟩
set_option maxHeartbeats 4000000 in
set_option maxRecDepth 100000 in
theorem c_M_version {V : Ev} {o : Nat} {ad : Nat → Nat} {G : GS} {S : Sto} (hR : MR o ad G S) (hO : OK G) (hse : ∀ v, G.1 5 v ≤ G.1 4 v) (v k a : Int32) : CT V mi_M_version 0 0 [.ref o, .int v, .int k, .int a] S (Pi (vrF G v k a) (MR o ad G)) := by
  refine CT.of (cc := prog_8_method_41_code) (own := "ChainVersionsModel") (nL := 7) (d := 2) (by decide) rfl rfl rfl rfl (by simp [Value.category]) (Nat.le_of_ble_eq_true rfl) rfl ?_
  intro F hV hn C R
  subst hV
  refine ws_aload_n C d_M_version_0 rfl ?_
  refine ws_iload_n C d_M_version_1 rfl ?_
  refine ws_callVi C w_M_147 (As := [_]) (c_M_serves hR hO v) d_M_version_2 rfl rfl hR.1 (Nat.le_of_ble_eq_true rfl) (by decide) (by decide) (by decide) (fun S hR => ?_)
  refine ws_if_eqB C d_M_version_5 (fun h5 => ?_) (fun h5 => ?_)
  · refine ws_iconst C (-1) d_M_version_20 (by decide) ?_
    exact ws_iret C R d_M_version_21 rfl (by decide) (by decide) ⟨by simp [vrF, vrB, h5], hR⟩
  · obtain ⟨v, bv, rfl⟩ := inN_of (svs_in h5) (by decide)
    have ev : ix (nI v) = v := ix_n (by omega)
    have hb4 : G.1 4 v ≤ 100 := hO 4 v
    have hb5 : G.1 5 v ≤ 100 := hO 5 v
    have hs5 := hse v
    refine ws_iload_n C d_M_version_8 rfl ?_
    refine ws_iconst C (nI 3) d_M_version_9 (by decide) ?_
    refine ws_callSi C w_M_94 (As := [_, _]) (c_M_outside hR k 3) d_M_version_10 rfl rfl (Nat.le_of_ble_eq_true rfl) (by decide) (by decide) (by decide) (fun S hR => ?_)
    refine ws_if_neB C d_M_version_13 (fun h13 => ?_) (fun h13 => ?_)
    · have xk : inN k 3 = false := by simpa using h13
      refine ws_iconst C (-1) d_M_version_20 (by decide) ?_
      exact ws_iret C R d_M_version_21 rfl (by decide) (by decide) ⟨by simp [vrF, vrB, h5, xk], hR⟩
    · have xk : inN k 3 = true := by simpa using h13
      obtain ⟨k, bk, rfl⟩ := inN_of xk (by decide)
      have ek : ix (nI k) = k := ix_n (by omega)
      refine ws_iload_n C d_M_version_16 rfl ?_
      refine ws_if_ge C d_M_version_17 (fun h17 => ?_) (fun h17 => ?_)
      · have h0 : ¬ a < 0 := Int32.not_lt.mpr h17
        obtain ⟨a, ba, rfl⟩ := nI_of h0
        have ea : ix (nI a) = a := ix_n ba
        have eP : vrF G (nI v) (nI k) (nI a) = nI (vrN G v k (G.1 4 v - G.1 5 v) (G.1 5 v + 1) a (clN G v k)) := by simp [vrF, vrB, vrX, h5, xk, h0, ev, ek, ea]
        rw [eP] at R
        refine ws_aload_n C d_M_version_22 rfl ?_
        refine ws_iload_n C d_M_version_23 rfl ?_
        refine ws_iload_n C d_M_version_24 rfl ?_
        refine ws_callVi C w_M_128 (As := [_, _]) (c_M_cleanNumber hR hO (by omega) (by omega)) d_M_version_25 rfl rfl hR.1 (Nat.le_of_ble_eq_true rfl) (by decide) (by decide) (by decide) (fun S hR => ?_)
        refine ws_istore C d_M_version_28 (by rw [hn]; decide) ?_
        refine ws_iload_n C d_M_version_30 rfl ?_
        refine ws_istore C d_M_version_31 (by rw [hn]; decide) ?_
        refine ws_aload_n C d_M_version_33 rfl ?_
        refine wm_arr C hR 5 d_M_version_34 f_M_23 rfl rfl rfl ?_
        refine ws_iload_n C d_M_version_37 rfl ?_
        refine wm_aldN C hR 5 d_M_version_38 rfl rfl (by decide) (show _ < 6 by first | omega | exact okl hO _ _) ?_
        refine ws_iconst C (nI 1) d_M_version_39 (by decide) ?_
        refine ws_iaddN C d_M_version_40 ?_
        refine ws_istore C d_M_version_41 (by rw [hn]; decide) ?_
        suffices hL : ∀ n i l r, i + n = G.1 4 v + 1 → l < 2 ^ 31 → vrN G v k n i l r = vrN G v k (G.1 4 v - G.1 5 v) (G.1 5 v + 1) a (clN G v k) → ∀ S : Sto, MR o ad G S → WS F 43 [some (.ref o), some (.int (nI v)), some (.int (nI k)), some (.int (nI a)), some (.int (nI r)), some (.int (nI l)), some (.int (nI i))] [] S 0 0 from hL (G.1 4 v - G.1 5 v) (G.1 5 v + 1) a _ (by omega) ba rfl S hR
        intro n
        induction n with
        | zero =>
          intro i l r hi hl hp S hR
          refine ws_iload C d_M_version_43 rfl ?_
          refine ws_aload_n C d_M_version_45 rfl ?_
          refine wm_arr C hR 4 d_M_version_46 f_M_20 rfl rfl rfl ?_
          refine ws_iload_n C d_M_version_49 rfl ?_
          refine wm_aldN C hR 4 d_M_version_50 rfl rfl (by decide) (show _ < 6 by first | omega | exact okl hO _ _) ?_
          refine ws_icmp_gtN C d_M_version_51 (by first | omega | exact okl hO _ _) (by first | omega | exact okl hO _ _) (fun h51 => ?_) (fun h51 => ?_)
          · refine ws_iload C d_M_version_89 rfl ?_
            exact ws_iret C R d_M_version_91 rfl (by decide) (by decide) ⟨by rw [← hp, vrN], hR⟩
          · omega
        | succ n ih =>
          intro i l r hi hl hp S hR
          rw [vrN] at hp
          refine ws_iload C d_M_version_43 rfl ?_
          refine ws_aload_n C d_M_version_45 rfl ?_
          refine wm_arr C hR 4 d_M_version_46 f_M_20 rfl rfl rfl ?_
          refine ws_iload_n C d_M_version_49 rfl ?_
          refine wm_aldN C hR 4 d_M_version_50 rfl rfl (by decide) (show _ < 6 by first | omega | exact okl hO _ _) ?_
          refine ws_icmp_gtN C d_M_version_51 (by first | omega | exact okl hO _ _) (by first | omega | exact okl hO _ _) (fun h51 => ?_) (fun h51 => ?_)
          · omega
          · refine ws_iload C d_M_version_54 rfl ?_
            refine ws_if_leN C d_M_version_56 (by first | omega | exact okl hO _ _) (fun h56 => ?_) (fun h56 => ?_)
            · refine ws_iload C d_M_version_89 rfl ?_
              exact ws_iret C R d_M_version_91 rfl (by decide) (by decide) ⟨by rw [← hp, if_pos h56], hR⟩
            · refine ws_aload_n C d_M_version_59 rfl ?_
              refine wm_arr C hR 9 d_M_version_60 f_M_32 rfl rfl rfl ?_
              refine ws_sipush C (nI 128) d_M_version_63 (by decide) ?_
              refine ws_iload_n C d_M_version_66 rfl ?_
              refine ws_imulN C d_M_version_67 ?_
              refine ws_iload C d_M_version_68 rfl ?_
              refine ws_iaddN C d_M_version_70 ?_
              refine wm_aldN C hR 9 d_M_version_71 rfl rfl (by decide) (show _ < 768 by first | omega | exact okl hO _ _) ?_
              refine ws_iload_n C d_M_version_72 rfl ?_
              refine ws_icmp_neN C d_M_version_73 (by first | omega | exact okl hO _ _) (by first | omega | exact okl hO _ _) (fun h73 => ?_) (fun h73 => ?_)
              · refine ws_iinc C _ d_M_version_83 rfl (inc1 _) (by rw [hn]; decide) ?_
                refine ws_goto C d_M_version_86 ?_
                exact ih (i + 1) l r (by omega) hl (by rw [← hp, if_neg (by omega), if_neg h73]) S hR
              · refine ws_iload C d_M_version_76 rfl ?_
                refine ws_istore C d_M_version_78 (by rw [hn]; decide) ?_
                refine ws_iinc C _ d_M_version_80 rfl (dec1 (by first | omega | exact okl hO _ _)) (by rw [hn]; decide) ?_
                refine ws_iinc C _ d_M_version_83 rfl (inc1 _) (by rw [hn]; decide) ?_
                refine ws_goto C d_M_version_86 ?_
                exact ih (i + 1) (l - 1) i (by omega) (by omega) (by rw [← hp, if_neg (by omega), if_pos h73]) S hR
      · refine ws_iconst C (-1) d_M_version_20 (by decide) ?_
        exact ws_iret C R d_M_version_21 rfl (by decide) (by decide) ⟨by simp [vrF, vrB, h5, xk, (Int32.not_le.mp h17)], hR⟩
set_option maxHeartbeats 4000000 in
set_option maxRecDepth 100000 in
theorem c_M_look {V : Ev} {o : Nat} {ad : Nat → Nat} {G : GS} {S : Sto} (hR : MR o ad G S) (hO : OK G) (hse : ∀ v, G.1 5 v ≤ G.1 4 v) (v k a : Int32) : CT V mi_M_look 0 0 [.ref o, .int v, .int k, .int a] S (Pi (lkF G v k a) (MR o ad G)) := by
  refine CT.of (cc := prog_8_method_42_code) (own := "ChainVersionsModel") (nL := 5) (d := 3) (by decide) rfl rfl rfl rfl (by simp [Value.category]) (Nat.le_of_ble_eq_true rfl) rfl ?_
  intro F hV hn C R
  subst hV
  refine ws_aload_n C d_M_look_0 rfl ?_
  refine ws_iload_n C d_M_look_1 rfl ?_
  refine ws_iload_n C d_M_look_2 rfl ?_
  refine ws_iload_n C d_M_look_3 rfl ?_
  refine ws_callVi C w_M_171 (As := [_, _, _]) (c_M_version hR hO hse v k a) d_M_look_4 rfl rfl hR.1 (Nat.le_of_ble_eq_true rfl) (by decide) (by decide) (by decide) (fun S hR => ?_)
  by_cases hB : vrB G v k a = true
  · have e : vrF G v k a = nI (vrX G v k a) := by rw [vrF, if_pos hB]
    have hx := vrX_le hO hse v k a
    have hin : inN v 5 = true := by simp only [vrB, Bool.and_eq_true] at hB; exact svs_in hB.1
    have e2 : lkF G v k a = valAt G (ix v) (vrX G v k a) := by rw [lkF, if_pos hB]
    rw [e2] at R
    rw [e]
    generalize vrX G v k a = r at *
    obtain ⟨v, bv, rfl⟩ := inN_of hin (by decide)
    rw [ix_n (show v < 2 ^ 31 by omega)] at R
    refine ws_istore C d_M_look_7 (by rw [hn]; decide) ?_
    refine ws_iload C d_M_look_9 rfl ?_
    refine ws_if_geN C d_M_look_11 (by omega) ?_
    refine ws_aload_n C d_M_look_18 rfl ?_
    refine ws_iload_n C d_M_look_19 rfl ?_
    refine ws_iload C d_M_look_20 rfl ?_
    refine ws_callVi C w_M_121 (As := [_, _]) (c_M_valueAt hR hO bv hx) d_M_look_22 rfl rfl hR.1 (Nat.le_of_ble_eq_true rfl) (by decide) (by decide) (by decide) (fun S hR => ?_)
    exact ws_iret C R d_M_look_25 rfl (by decide) (by decide) ⟨rfl, hR⟩
  · have e : vrF G v k a = -1 := by rw [vrF, if_neg hB]
    rw [e]
    refine ws_istore C d_M_look_7 (by rw [hn]; decide) ?_
    refine ws_iload C d_M_look_9 rfl ?_
    refine ws_if_geM C d_M_look_11 ?_
    refine ws_iconst C (nI 0) d_M_look_14 (by decide) ?_
    refine ws_goto C d_M_look_15 ?_
    exact ws_iret C R d_M_look_25 rfl (by decide) (by decide) ⟨by rw [lkF, if_neg hB]; rfl, hR⟩
end
section
/-! the reference: tick, adopt -/
theorem tcS_isIn (G : GS) (w e x : Nat) : isIn (tcS w G) e x = isIn G e x := isIn_c (tcS_ne G (by decide) w) e x
theorem ok_tcS {G : GS} (h : OK G) (h6 : ∀ w, G.1 6 w + 1 ≤ 600) : ∀ w, OK (tcS w G)
  | 0 => h
  | w + 1 => by
    rw [tcS]
    split
    · refine ok_gN (ok_tcS h h6 w) ?_
      rw [tcS_6 G w w (Nat.le_refl _)]
      exact h6 w
    · exact ok_tcS h h6 w
theorem tck_same {G : GS} {a b c x j : Nat} (hj : j < 27) : (gN (gN (gN G 27 0 x) 8 0 a) 7 b c).1 j = (gN (gN G 8 0 a) 7 b c).1 j := by
  have h : (gN G 27 0 x).1 j = G.1 j := gN_ne _ (by omega)
  funext i
  show (if j = 7 ∧ i = b then c else if j = 8 ∧ i = 0 then a else (gN G 27 0 x).1 j i) = _
  rw [h]
  rfl
set_option maxHeartbeats 4000000 in
set_option maxRecDepth 100000 in
theorem c_M_tick {V : Ev} {o : Nat} {ad : Nat → Nat} {G : GS} {S : Sto} (hR : MR o ad G S) (hO : OK G) (hs : ∀ w, G.1 6 w + 1 ≤ 600) : CT V mi_M_tick 0 0 [.ref o] S (Pi (tckF G).1 (MR o ad (tckF G).2)) := by
  refine CT.of (cc := prog_8_method_35_code) (own := "ChainVersionsModel") (nL := 3) (d := 1) (by decide) rfl rfl rfl rfl (by simp [Value.category]) (Nat.le_of_ble_eq_true rfl) rfl ?_
  intro F hV hn C R
  subst hV
  have hb8 : G.1 8 0 ≤ 12 := hO 8 0
  have hb7 : G.1 7 (G.1 8 0) ≤ 63 := hO 7 _
  refine ws_iconst C (nI 0) d_M_tick_0 (by decide) ?_
  refine ws_istore_n C d_M_tick_1 (by rw [hn]; decide) ?_
  refine ws_iconst C (nI 0) d_M_tick_2 (by decide) ?_
  refine ws_istore_n C d_M_tick_3 (by rw [hn]; decide) ?_
  suffices hL : ∀ n w, w + n = 6 → ∀ S : Sto, MR o ad (tcS w G) S → WS F 4 [some (.ref o), some (.int (nI (tcG G w))), some (.int (nI w))] [] S 0 0 from hL 6 0 rfl S hR
  clear hR
  intro n
  induction n with
  | zero =>
    intro w hw S hR
    have e : w = 6 := by omega
    subst e
    have hg := tcG_le G 6 (Nat.le_refl _)
    have hR0 : MR o ad (gN (tcS 6 G) 27 0 (G.1 27 0 + 1)) S := hR.same (fun j hj => gN_ne _ (by omega)) (fun j _ => rfl)
    have h8 : (tcS 6 G).1 8 0 = G.1 8 0 := by rw [tcS_ne G (by decide)]
    have hm7 : (tcS 6 G).1 7 = G.1 7 := tcS_ne G (by decide) 6
    refine ws_iload_n C d_M_tick_4 rfl ?_
    refine ws_bipush C (nI 6) d_M_tick_5 (by decide) ?_
    refine ws_icmp_geN C d_M_tick_7 (by first | omega | exact okl hO _ _) (by first | omega | exact okl hO _ _) (fun h7 => ?_) (fun h7 => ?_)
    · refine ws_iload_n C d_M_tick_67 rfl ?_
      refine ws_if_eqN C d_M_tick_68 (by first | omega | exact okl hO _ _) (fun h68 => ?_) (fun h68 => ?_)
      · refine ws_aload_n C d_M_tick_105 rfl ?_
        refine wm_8 C hR d_M_tick_106 f_M_87 ?_
        refine ws_top (nI (G.1 8 0)) (by rw [h8]) ?_
        exact ws_iret C R d_M_tick_109 rfl (by decide) (by decide) ⟨by rw [tckF]; rw [if_pos h68], by rw [tckF]; rw [if_pos h68]; exact hR0⟩
      · refine ws_aload_n C d_M_tick_71 rfl ?_
        refine ws_dup C d_M_tick_72 rfl ?_
        refine wm_8 C hR d_M_tick_73 f_M_87 ?_
        refine ws_top (nI (G.1 8 0)) (by rw [h8]) ?_
        refine ws_iconst C (nI 1) d_M_tick_76 (by decide) ?_
        refine ws_iaddN C d_M_tick_77 ?_
        refine wm_put C hR 8 (by decide) d_M_tick_78 f_M_87 (fun S hR => ?_)
        refine ws_aload_n C d_M_tick_81 rfl ?_
        refine wm_arr C hR 7 d_M_tick_82 f_M_29 rfl rfl rfl ?_
        refine ws_aload_n C d_M_tick_85 rfl ?_
        refine wm_8 C hR d_M_tick_86 f_M_87 ?_
        refine ws_top (nI (G.1 8 0 + 1)) (by rw [gN_eq]) ?_
        refine ws_aload_n C d_M_tick_89 rfl ?_
        refine wm_arr C hR 7 d_M_tick_90 f_M_29 rfl rfl rfl ?_
        refine ws_aload_n C d_M_tick_93 rfl ?_
        refine wm_8 C hR d_M_tick_94 f_M_87 ?_
        refine ws_top (nI (G.1 8 0 + 1)) (by rw [gN_eq]) ?_
        refine ws_iconst C (nI 1) d_M_tick_97 (by decide) ?_
        refine ws_isubN C d_M_tick_98 (by first | omega | exact okl hO _ _) ?_
        refine ws_top (nI (G.1 8 0)) (by rw [Nat.add_sub_cancel]) ?_
        refine wm_aldN C hR 7 d_M_tick_99 rfl rfl (by decide) (show _ < 14 by first | omega | exact okl hO _ _) ?_
        refine ws_top (nI (G.1 7 (G.1 8 0))) (by rw [gN_ne _ (by decide), hm7]) ?_
        refine ws_iload_n C d_M_tick_100 rfl ?_
        refine ws_iconst C (-1) d_M_tick_101 (by decide) ?_
        refine ws_ixor C d_M_tick_102 ?_
        refine ws_iand C d_M_tick_103 ?_
        refine ws_top (nI (G.1 7 (G.1 8 0) &&& (63 - tcG G 6))) (andn hb7 hg) ?_
        refine wm_astN C hR 7 d_M_tick_104 rfl rfl (by decide) (show _ < 14 by first | omega | exact okl hO _ _) (fun S hR => ?_)
        refine ws_aload_n C d_M_tick_105 rfl ?_
        refine wm_8 C hR d_M_tick_106 f_M_87 ?_
        refine ws_top (nI (G.1 8 0 + 1)) (by rw [gN_ne _ (by decide), gN_eq]) ?_
        exact ws_iret C R d_M_tick_109 rfl (by decide) (by decide) ⟨by rw [tckF]; rw [if_neg h68], by rw [tckF]; rw [if_neg h68]; exact hR.same (fun j hj => tck_same hj) (fun j _ => rfl)⟩
    · omega
  | succ n ih =>
    intro w hw S hR
    have h8 : (tcS w G).1 8 0 = G.1 8 0 := by rw [tcS_ne G (by decide)]
    have h1 : (tcS w G).1 1 w = G.1 1 w := by rw [tcS_ne G (by decide)]
    have h6 : (tcS w G).1 6 w = G.1 6 w := tcS_6 G w w (Nat.le_refl _)
    have hb6 : G.1 6 w ≤ 600 := hO 6 w
    have hb1 : G.1 1 w ≤ 1 := hO 1 w
    have hg := tcG_le G w (by omega)
    have hO2 : OK (tcS w G) := ok_tcS hO hs w
    refine ws_iload_n C d_M_tick_4 rfl ?_
    refine ws_bipush C (nI 6) d_M_tick_5 (by decide) ?_
    refine ws_icmp_geN C d_M_tick_7 (by first | omega | exact okl hO _ _) (by first | omega | exact okl hO _ _) (fun h7 => ?_) (fun h7 => ?_)
    · omega
    · refine ws_aload_n C d_M_tick_10 rfl ?_
      refine ws_aload_n C d_M_tick_11 rfl ?_
      refine wm_8 C hR d_M_tick_12 f_M_87 ?_
      refine ws_top (nI (G.1 8 0)) (by rw [h8]) ?_
      refine ws_iload_n C d_M_tick_15 rfl ?_
      refine ws_callVi C w_M_90 (As := [_, _]) (c_M_isIn hR hO2 (by omega) (by omega)) d_M_tick_16 rfl rfl hR.1 (Nat.le_of_ble_eq_true rfl) (by decide) (by decide) (by decide) (fun S hR => ?_)
      refine ws_top (bI (isIn G (G.1 8 0) w)) (by rw [tcS_isIn]) ?_
      refine ws_if_eqB C d_M_tick_19 (fun h19 => ?_) (fun h19 => ?_)
      · refine ws_iinc C _ d_M_tick_61 rfl (inc1 _) (by rw [hn]; decide) ?_
        refine ws_goto C d_M_tick_64 ?_
        have h9 := ih (w + 1) (by omega) S (by rw [tcS, if_neg (by rw [tcS_isIn, h8, h19]; simp)]; exact hR)
        rw [tcG, if_neg (by rw [h19]; simp)] at h9
        exact h9
      · refine ws_aload_n C d_M_tick_22 rfl ?_
        refine wm_arr C hR 1 d_M_tick_23 f_M_7 rfl rfl rfl ?_
        refine ws_iload_n C d_M_tick_26 rfl ?_
        refine wm_zldN C hR 1 d_M_tick_27 rfl rfl (by decide) (show _ < 6 by first | omega | exact okl hO _ _) ?_
        refine ws_top (nI (G.1 1 w)) (by rw [h1]) ?_
        refine ws_if_neN C d_M_tick_28 (by first | omega | exact okl hO _ _) (fun h28 => ?_) (fun h28 => ?_)
        · refine ws_iinc C _ d_M_tick_61 rfl (inc1 _) (by rw [hn]; decide) ?_
          refine ws_goto C d_M_tick_64 ?_
          have h9 := ih (w + 1) (by omega) S (by rw [tcS, if_neg (by rw [h1]; omega)]; exact hR)
          rw [tcG, if_neg (by omega)] at h9
          exact h9
        · refine ws_aload_n C d_M_tick_31 rfl ?_
          refine wm_arr C hR 6 d_M_tick_32 f_M_26 rfl rfl rfl ?_
          refine ws_iload_n C d_M_tick_35 rfl ?_
          refine ws_dup2 C d_M_tick_36 rfl rfl ?_
          refine wm_aldN C hR 6 d_M_tick_37 rfl rfl (by decide) (show _ < 6 by first | omega | exact okl hO _ _) ?_
          refine ws_top (nI (G.1 6 w)) (by rw [h6]) ?_
          refine ws_iconst C (nI 1) d_M_tick_38 (by decide) ?_
          refine ws_iaddN C d_M_tick_39 ?_
          refine wm_astN C hR 6 d_M_tick_40 rfl rfl (by decide) (show _ < 6 by first | omega | exact okl hO _ _) (fun S hR => ?_)
          refine ws_aload_n C d_M_tick_41 rfl ?_
          refine wm_arr C hR 6 d_M_tick_42 f_M_26 rfl rfl rfl ?_
          refine ws_iload_n C d_M_tick_45 rfl ?_
          refine wm_aldN C hR 6 d_M_tick_46 rfl rfl (by decide) (show _ < 6 by first | omega | exact okl hO _ _) ?_
          refine ws_top (nI (G.1 6 w + 1)) (by rw [gN_eq]) ?_
          refine ws_iconst C (nI 3) d_M_tick_47 (by decide) ?_
          refine ws_icmp_ltN C d_M_tick_48 (by first | omega | exact okl hO _ _) (by first | omega | exact okl hO _ _) (fun h48 => ?_) (fun h48 => ?_)
          · refine ws_iload_n C d_M_tick_59 rfl ?_
            refine ws_istore_n C d_M_tick_60 (by rw [hn]; decide) ?_
            refine ws_iinc C _ d_M_tick_61 rfl (inc1 _) (by rw [hn]; decide) ?_
            refine ws_goto C d_M_tick_64 ?_
            have h9 := ih (w + 1) (by omega) S (by rw [tcS, if_pos (by rw [tcS_isIn, h8, h1]; exact ⟨h19, h28⟩), h6]; exact hR)
            rw [tcG, if_neg (by omega)] at h9
            exact h9
          · refine ws_iload_n C d_M_tick_51 rfl ?_
            refine ws_iconst C (nI 1) d_M_tick_52 (by decide) ?_
            refine ws_iload_n C d_M_tick_53 rfl ?_
            refine ws_ishl C d_M_tick_54 ?_
            refine ws_ior C d_M_tick_55 ?_
            refine ws_top (nI (tcG G w ||| 1 <<< w)) (or1 hg (by omega)) ?_
            refine ws_goto C d_M_tick_56 ?_
            refine ws_istore_n C d_M_tick_60 (by rw [hn]; decide) ?_
            refine ws_iinc C _ d_M_tick_61 rfl (inc1 _) (by rw [hn]; decide) ?_
            refine ws_goto C d_M_tick_64 ?_
            have h9 := ih (w + 1) (by omega) S (by rw [tcS, if_pos (by rw [tcS_isIn, h8, h1]; exact ⟨h19, h28⟩), h6]; exact hR)
            rw [tcG, if_pos ⟨h19, h28, by omega⟩] at h9
            exact h9
set_option maxHeartbeats 4000000 in
set_option maxRecDepth 100000 in
theorem c_M_adopt {V : Ev} {o : Nat} {ad : Nat → Nat} {G : GS} {S : Sto} (hR : MR o ad G S) (hO : OK G) (hc : G.1 20 0 + 6 ≤ 1399) (v : Int32) : CT V mi_M_adopt 0 0 [.ref o, .int v] S (Pi (bI (adpF G v).1) (MR o ad (adpF G v).2)) := by
  refine CT.of (cc := prog_8_method_36_code) (own := "ChainVersionsModel") (nL := 4) (d := 3) (by decide) rfl rfl rfl rfl (by simp [Value.category]) (Nat.le_of_ble_eq_true rfl) rfl ?_
  intro F hV hn C R
  subst hV
  refine ws_iload_n C d_M_adopt_0 rfl ?_
  refine ws_iconst C (nI 5) d_M_adopt_1 (by decide) ?_
  refine ws_callSi C w_M_94 (As := [_, _]) (c_M_outside hR v 5) d_M_adopt_2 rfl rfl (Nat.le_of_ble_eq_true rfl) (by decide) (by decide) (by decide) (fun S hR => ?_)
  refine ws_if_neB C d_M_adopt_5 (fun h5 => ?_) (fun h5 => ?_)
  · have xv : inN v 5 = false := by simpa using h5
    refine ws_iconst C (nI 0) d_M_adopt_30 (by decide) ?_
    exact ws_zret C R d_M_adopt_31 rfl (by decide) (by decide) (by decide) ⟨by simp [adpF, bI, nI_0, xv], by simp [adpF, xv]; exact hR⟩
  · have xv : inN v 5 = true := by simpa using h5
    obtain ⟨v, bv, rfl⟩ := inN_of xv (by decide)
    have ev : ix (nI v) = v := ix_n (by omega)
    have hb1 : G.1 1 v ≤ 1 := hO 1 v
    have hb8 : G.1 8 0 ≤ 12 := hO 8 0
    have hb2 : G.1 2 v ≤ 1 := hO 2 v
    refine ws_aload_n C d_M_adopt_8 rfl ?_
    refine wm_arr C hR 1 d_M_adopt_9 f_M_7 rfl rfl rfl ?_
    refine ws_iload_n C d_M_adopt_12 rfl ?_
    refine wm_zldN C hR 1 d_M_adopt_13 rfl rfl (by decide) (show _ < 6 by first | omega | exact okl hO _ _) ?_
    refine ws_if_eqN C d_M_adopt_14 (by first | omega | exact okl hO _ _) (fun h14 => ?_) (fun h14 => ?_)
    · refine ws_iconst C (nI 0) d_M_adopt_30 (by decide) ?_
      exact ws_zret C R d_M_adopt_31 rfl (by decide) (by decide) (by decide) ⟨by simp [adpF, bI, nI_0, xv, ev, h14], by simp [adpF, xv, ev, h14]; exact hR⟩
    · refine ws_aload_n C d_M_adopt_17 rfl ?_
      refine wm_arr C hR 3 d_M_adopt_18 f_M_16 rfl rfl rfl ?_
      refine ws_iload_n C d_M_adopt_21 rfl ?_
      refine wm_aldN C hR 3 d_M_adopt_22 rfl rfl (by decide) (show _ < 6 by first | omega | exact okl hO _ _) ?_
      refine ws_aload_n C d_M_adopt_23 rfl ?_
      refine wm_8 C hR d_M_adopt_24 f_M_87 ?_
      refine ws_icmp_neN C d_M_adopt_27 (by first | omega | exact okl hO _ _) (by first | omega | exact okl hO _ _) (fun h27 => ?_) (fun h27 => ?_)
      · have h1 : G.1 1 v = 1 := by omega
        have eP : adpF G (nI v) = (true, if G.1 2 v = 1 then svR v 3 0 (tel (los (gN G 3 v (G.1 8 0)) v (G.1 8 0)) v) else los (gN G 3 v (G.1 8 0)) v (G.1 8 0)) := by simp [adpF, xv, ev, h1, h27]
        rw [eP] at R
        have hO1 : OK (gN G 3 v (G.1 8 0)) := ok_gN hO hb8
        refine ws_aload_n C d_M_adopt_32 rfl ?_
        refine wm_arr C hR 3 d_M_adopt_33 f_M_16 rfl rfl rfl ?_
        refine ws_iload_n C d_M_adopt_36 rfl ?_
        refine ws_aload_n C d_M_adopt_37 rfl ?_
        refine wm_8 C hR d_M_adopt_38 f_M_87 ?_
        refine wm_astN C hR 3 d_M_adopt_41 rfl rfl (by decide) (show _ < 6 by first | omega | exact okl hO _ _) (fun S hR => ?_)
        refine ws_aload_n C d_M_adopt_42 rfl ?_
        refine ws_iload_n C d_M_adopt_43 rfl ?_
        refine ws_aload_n C d_M_adopt_44 rfl ?_
        refine wm_8 C hR d_M_adopt_45 f_M_87 ?_
        refine ws_top (nI (G.1 8 0)) (by simp [gN_1, gN_2, gV_1, gV_2]) ?_
        refine ws_callVv C w_M_167 (As := [_, _]) (c_M_lose hR hO1 (by omega) (by omega)) d_M_adopt_48 rfl rfl hR.1 (Nat.le_of_ble_eq_true rfl) (by decide) (by decide) (by decide) (fun S hR => ?_)
        refine ws_aload_n C d_M_adopt_51 rfl ?_
        refine wm_arr C hR 2 d_M_adopt_52 f_M_13 rfl rfl rfl ?_
        refine ws_iload_n C d_M_adopt_55 rfl ?_
        refine wm_zldN C hR 2 d_M_adopt_56 rfl rfl (by decide) (show _ < 6 by first | omega | exact okl hO _ _) ?_
        refine ws_top (nI (G.1 2 v)) (by rw [los_ne _ _ _ (by decide), gN_ne _ (by decide)]) ?_
        refine ws_if_neN C d_M_adopt_57 (by omega) (fun h57 => ?_) (fun h57 => ?_)
        · rw [if_pos (by omega)] at R
          have hc1 : (los (gN G 3 v (G.1 8 0)) v (G.1 8 0)).1 20 0 + 6 ≤ 1399 := by
            have := los_20 (gN G 3 v (G.1 8 0)) v (G.1 8 0)
            rw [gN_ne _ (by decide)] at this
            omega
          suffices hL : ∀ (G1 : GS) (S : Sto), OK G1 → G1.1 20 0 + 6 ≤ 1399 → svR v 3 0 (tel G1 v) = svR v 3 0 (tel (los (gN G 3 v (G.1 8 0)) v (G.1 8 0)) v) → MR o ad G1 S → WS F 62 [some (.ref o), some (.int (nI v)), none, none] [] S 0 0 from hL _ S (ok_los hO1) hc1 rfl hR
          clear hR hO1 hc1 hO hb1 hb8 hb2 hc
          intro G2 S hO hc hp hR
          rw [← hp] at R
          clear hp
          have hb4 : G2.1 4 v ≤ 100 := hO 4 v
          have hb5 : G2.1 5 v ≤ 100 := hO 5 v
          have h119 : ∀ S : Sto, MR o ad (tel G2 v) S → WS F 119 [some (.ref o), some (.int (nI v)), none, none] [] S 0 0 := by
            intro S hR
            have hO3 : OK (tel G2 v) := ok_tel hO bv (by omega)
            have hc3 := (tel_20 G2 v).2
            refine ws_iconst C (nI 0) d_M_adopt_119 (by decide) ?_
            refine ws_istore_n C d_M_adopt_120 (by rw [hn]; decide) ?_
            suffices hL : ∀ n c (G3 : GS), c + n = 3 → OK G3 → G3.1 20 0 + n ≤ 1399 → svR v n c G3 = svR v 3 0 (tel G2 v) → ∀ (S : Sto) (y : Option Value), MR o ad G3 S → WS F 121 [some (.ref o), some (.int (nI v)), some (.int (nI c)), y] [] S 0 0 from hL 3 0 _ rfl hO3 (by omega) rfl S _ hR
            clear hR hO3 hc3
            intro n
            induction n with
            | zero =>
              intro c G3 hc3 hO3 h20 hp S y hR
              refine ws_iload_n C d_M_adopt_121 rfl ?_
              refine ws_iconst C (nI 3) d_M_adopt_122 (by decide) ?_
              refine ws_icmp_geN C d_M_adopt_123 (by first | omega | exact okl hO _ _) (by first | omega | exact okl hO _ _) (fun h123 => ?_) (fun h123 => ?_)
              · refine ws_iconst C (nI 1) d_M_adopt_159 (by decide) ?_
                exact ws_zret C R d_M_adopt_160 rfl (by decide) (by decide) (by decide) ⟨rfl, by rw [← hp]; exact hR⟩
              · omega
            | succ n ih =>
              intro c G3 hc3 hO3 h20 hp S y hR
              have hb13 : G3.1 13 c ≤ 4 := hO3 13 c
              have hb17 : G3.1 17 c ≤ 5 := hO3 17 c
              rw [svR] at hp
              have hs20 := (srv_20 G3 c v).2
              refine ws_iload_n C d_M_adopt_121 rfl ?_
              refine ws_iconst C (nI 3) d_M_adopt_122 (by decide) ?_
              refine ws_icmp_geN C d_M_adopt_123 (by first | omega | exact okl hO _ _) (by first | omega | exact okl hO _ _) (fun h123 => ?_) (fun h123 => ?_)
              · omega
              · refine ws_aload_n C d_M_adopt_126 rfl ?_
                refine wm_arr C hR 13 d_M_adopt_127 f_M_44 rfl rfl rfl ?_
                refine ws_iload_n C d_M_adopt_130 rfl ?_
                refine wm_aldN C hR 13 d_M_adopt_131 rfl rfl (by decide) (show _ < 3 by first | omega | exact okl hO _ _) ?_
                refine ws_iconst C (nI 3) d_M_adopt_132 (by decide) ?_
                refine ws_icmp_neN C d_M_adopt_133 (by first | omega | exact okl hO _ _) (by first | omega | exact okl hO _ _) (fun h133 => ?_) (fun h133 => ?_)
                · refine ws_iinc C _ d_M_adopt_153 rfl (inc1 _) (by rw [hn]; decide) ?_
                  refine ws_goto C d_M_adopt_156 ?_
                  exact ih (c + 1) G3 (by omega) hO3 (by omega) (by rw [← hp, if_neg (by omega)]) S _ hR
                · refine ws_aload_n C d_M_adopt_136 rfl ?_
                  refine wm_arr C hR 17 d_M_adopt_137 f_M_56 rfl rfl rfl ?_
                  refine ws_iload_n C d_M_adopt_140 rfl ?_
                  refine wm_aldN C hR 17 d_M_adopt_141 rfl rfl (by decide) (show _ < 3 by first | omega | exact okl hO _ _) ?_
                  refine ws_iload_n C d_M_adopt_142 rfl ?_
                  refine ws_icmp_neN C d_M_adopt_143 (by first | omega | exact okl hO _ _) (by first | omega | exact okl hO _ _) (fun h143 => ?_) (fun h143 => ?_)
                  · refine ws_iinc C _ d_M_adopt_153 rfl (inc1 _) (by rw [hn]; decide) ?_
                    refine ws_goto C d_M_adopt_156 ?_
                    exact ih (c + 1) G3 (by omega) hO3 (by omega) (by rw [← hp, if_neg (by omega)]) S _ hR
                  · refine ws_aload_n C d_M_adopt_146 rfl ?_
                    refine ws_iload_n C d_M_adopt_147 rfl ?_
                    refine ws_iload_n C d_M_adopt_148 rfl ?_
                    refine ws_callVi C w_M_151 (As := [_, _]) (c_M_serve hR hO3 (by omega) (by omega)) d_M_adopt_149 rfl rfl hR.1 (Nat.le_of_ble_eq_true rfl) (by decide) (by decide) (by decide) (fun S hR => ?_)
                    refine ws_istore_n C d_M_adopt_152 (by rw [hn]; decide) ?_
                    refine ws_iinc C _ d_M_adopt_153 rfl (inc1 _) (by rw [hn]; decide) ?_
                    refine ws_goto C d_M_adopt_156 ?_
                    exact ih (c + 1) _ (by omega) (ok_srv hO3 (by omega) (by omega) (by omega)) (by omega) (by rw [← hp, if_pos (by omega)]) S _ hR
          refine ws_aload_n C d_M_adopt_62 rfl ?_
          refine ws_iload_n C d_M_adopt_63 rfl ?_
          refine ws_callVi C w_M_104 (As := [_]) (c_M_successor hR hO (by omega)) d_M_adopt_64 rfl rfl hR.1 (Nat.le_of_ble_eq_true rfl) (by decide) (by decide) (by decide) (fun S hR => ?_)
          refine ws_if_geO C d_M_adopt_67 (fun n hn => by have := suc_le hn; omega) (fun h67 => ?_) (fun h67 => ?_)
          · refine ws_aload_n C d_M_adopt_78 rfl ?_
            refine ws_iload_n C d_M_adopt_79 rfl ?_
            refine ws_aload_n C d_M_adopt_80 rfl ?_
            refine ws_iload_n C d_M_adopt_81 rfl ?_
            refine ws_callVi C w_M_104 (As := [_]) (c_M_successor hR hO (by omega)) d_M_adopt_82 rfl rfl hR.1 (Nat.le_of_ble_eq_true rfl) (by decide) (by decide) (by decide) (fun S hR => ?_)
            refine ws_iconst C (nI 5) d_M_adopt_85 (by decide) ?_
            refine ws_aload_n C d_M_adopt_86 rfl ?_
            refine wm_arr C hR 4 d_M_adopt_87 f_M_20 rfl rfl rfl ?_
            refine ws_iload_n C d_M_adopt_90 rfl ?_
            refine wm_aldN C hR 4 d_M_adopt_91 rfl rfl (by decide) (show _ < 6 by first | omega | exact okl hO _ _) ?_
            refine ws_aload_n C d_M_adopt_92 rfl ?_
            refine wm_arr C hR 5 d_M_adopt_93 f_M_23 rfl rfl rfl ?_
            refine ws_iload_n C d_M_adopt_96 rfl ?_
            refine wm_aldN C hR 5 d_M_adopt_97 rfl rfl (by decide) (show _ < 6 by first | omega | exact okl hO _ _) ?_
            refine ws_callVv C w_M_114 (As := [_, _, _, _, _]) (c_M_send hR hO (w := suc G2 v) (by omega) (fun x hx => suc_le hx)) d_M_adopt_98 rfl rfl hR.1 (Nat.le_of_ble_eq_true rfl) (by decide) (by decide) (by decide) (fun S hR => ?_)
            have hO2 : OK (snd G2 v (suc G2 v) 5 (G2.1 4 v) (G2.1 5 v)) := ok_snd hO bv (fun x hx => suc_le hx) (by decide) hb4 hb5 (by omega)
            refine ws_aload_n C d_M_adopt_101 rfl ?_
            refine ws_iload_n C d_M_adopt_102 rfl ?_
            refine ws_aload_n C d_M_adopt_103 rfl ?_
            refine ws_iload_n C d_M_adopt_104 rfl ?_
            refine ws_callVi C w_M_111 (As := [_]) (prd_c (G := G2) (G' := snd G2 v (suc G2 v) 5 (G2.1 4 v) (G2.1 5 v)) (snd_ne _ _ _ _ _ _ (by decide)) (snd_ne _ _ _ _ _ _ (by decide)) v ▸ c_M_predecessor hR hO2 (by omega)) d_M_adopt_105 rfl rfl hR.1 (Nat.le_of_ble_eq_true rfl) (by decide) (by decide) (by decide) (fun S hR => ?_)
            refine ws_iconst C (nI 2) d_M_adopt_108 (by decide) ?_
            refine ws_aload_n C d_M_adopt_109 rfl ?_
            refine wm_arr C hR 5 d_M_adopt_110 f_M_23 rfl rfl rfl ?_
            refine ws_iload_n C d_M_adopt_113 rfl ?_
            refine wm_aldN C hR 5 d_M_adopt_114 rfl rfl (by decide) (show _ < 6 by first | omega | exact okl hO _ _) ?_
            refine ws_top (nI (G2.1 5 v)) (by rw [snd_ne _ _ _ _ _ _ (by decide)]) ?_
            refine ws_iconst C (nI 0) d_M_adopt_115 (by decide) ?_
            refine ws_callVv C w_M_114 (As := [_, _, _, _, _]) (c_M_send hR hO2 (w := prd G2 v) (by omega) (fun x hx => prd_le bv hx)) d_M_adopt_116 rfl rfl hR.1 (Nat.le_of_ble_eq_true rfl) (by decide) (by decide) (by decide) (fun S hR => ?_)
            exact h119 S (by rw [tel, if_neg h67]; exact hR)
          · refine ws_aload_n C d_M_adopt_70 rfl ?_
            refine ws_iload_n C d_M_adopt_71 rfl ?_
            refine ws_callVv C w_M_108 (As := [_]) (c_M_settleAll hR hO (by omega)) d_M_adopt_72 rfl rfl hR.1 (Nat.le_of_ble_eq_true rfl) (by decide) (by decide) (by decide) (fun S hR => ?_)
            refine ws_goto C d_M_adopt_75 ?_
            have hO2 : OK (stl G2 v) := ok_stl hO
            refine ws_aload_n C d_M_adopt_101 rfl ?_
            refine ws_iload_n C d_M_adopt_102 rfl ?_
            refine ws_aload_n C d_M_adopt_103 rfl ?_
            refine ws_iload_n C d_M_adopt_104 rfl ?_
            refine ws_callVi C w_M_111 (As := [_]) (prd_c (G := G2) (G' := stl G2 v) (stl_ne G2 v (by decide) (by decide) (by decide)) (stl_ne G2 v (by decide) (by decide) (by decide)) v ▸ c_M_predecessor hR hO2 (by omega)) d_M_adopt_105 rfl rfl hR.1 (Nat.le_of_ble_eq_true rfl) (by decide) (by decide) (by decide) (fun S hR => ?_)
            refine ws_iconst C (nI 2) d_M_adopt_108 (by decide) ?_
            refine ws_aload_n C d_M_adopt_109 rfl ?_
            refine wm_arr C hR 5 d_M_adopt_110 f_M_23 rfl rfl rfl ?_
            refine ws_iload_n C d_M_adopt_113 rfl ?_
            refine wm_aldN C hR 5 d_M_adopt_114 rfl rfl (by decide) (show _ < 6 by first | omega | exact okl hO _ _) ?_
            refine ws_top (nI (G2.1 4 v)) (by rw [stl_5]) ?_
            refine ws_iconst C (nI 0) d_M_adopt_115 (by decide) ?_
            refine ws_callVv C w_M_114 (As := [_, _, _, _, _]) (c_M_send hR hO2 (w := prd G2 v) (by omega) (fun x hx => prd_le bv hx)) d_M_adopt_116 rfl rfl hR.1 (Nat.le_of_ble_eq_true rfl) (by decide) (by decide) (by decide) (fun S hR => ?_)
            exact h119 S (by rw [tel, if_pos h67]; exact hR)
        · rw [if_neg (by omega)] at R
          refine ws_iconst C (nI 1) d_M_adopt_60 (by decide) ?_
          exact ws_zret C R d_M_adopt_61 rfl (by decide) (by decide) (by decide) ⟨rfl, hR⟩
      · refine ws_iconst C (nI 0) d_M_adopt_30 (by decide) ?_
        exact ws_zret C R d_M_adopt_31 rfl (by decide) (by decide) (by decide) ⟨by simp [adpF, bI, nI_0, xv, ev, h27], by simp [adpF, xv, ev, h27]; exact hR⟩
end
section
/-! the reference's constructor -/
theorem nf_ref {t : FieldType} (h : (∃ n, t = .object n) ∨ ∃ e, t = .array e) (q : Option Nat) : narrow t (va_rf q) = va_rf q ∧ fits t (va_rf q) = true := by
  rcases h with ⟨n, rfl⟩ | ⟨n, rfl⟩ <;> cases q <;> exact ⟨rfl, rfl⟩
theorem nf_8 {j : Nat} (h : arj j = true) : ∃ e, tyk 8 j = .array e := by
  have : ∀ j, j < 27 → arj j = true → (tyk 8 j = .array .int ∨ tyk 8 j = .array .boolean) := by decide +kernel
  have hj : j < 27 := by
    simp only [arj, Bool.and_eq_true, decide_eq_true_eq] at h
    exact h.1.1.1
  rcases this j hj h with h | h
  · exact ⟨_, h⟩
  · exact ⟨_, h⟩
theorem fin_8 {j : Nat} (h : arj j = true) : (ctb 8 j).2.2.2 = true ∧ (ctb 8 j).1 = "ChainVersionsModel" ∧ rfk (256 + j) = true ∧ (256 + j) / 32 = 8 ∧ (256 + j) % 32 = j := by
  have : ∀ j, j < 27 → arj j = true → ((ctb 8 j).2.2.2 = true ∧ (ctb 8 j).1 = "ChainVersionsModel" ∧ rfk (256 + j) = true ∧ (256 + j) / 32 = 8 ∧ (256 + j) % 32 = j) := by decide +kernel
  have hj : j < 27 := by
    simp only [arj, Bool.and_eq_true, decide_eq_true_eq] at h
    exact h.1.1.1
  exact this j hj h
/-- arrays made so far: number of the field, address -/
def PM (o : Nat) (l : List (Nat × Nat)) (S : Sto) : Prop := sK S o = 8 ∧ (sI S 256 o = 0 ∧ sI S 264 o = 0 ∧ sI S 276 o = 0) ∧ (∀ p ∈ l, arj p.1 = true ∧ sP S (256 + p.1) o = some p.2 ∧ sK S p.2 = akd p.1 ∧ sZ S p.2 = msz p.1 ∧ ∀ i, sE S (akd p.1) p.2 i = 0) ∧ l.Pairwise (fun a b => a.2 ≠ b.2)
theorem akd_pos (j : Nat) : akd j ≠ 0 ∧ akd j ≠ 8 ∧ (akd j = 9 ∨ akd j = 10) := by
  unfold akd
  split <;> decide
theorem PM.step {o q j : Nat} {l : List (Nat × Nat)} {S : Sto} (h : PM o l S) (hq : sK S q = 0) (hj : arj j = true) (hl : ∀ p ∈ l, p.1 ≠ j) : PM o ((j, q) :: l) (setP (newA S q (akd j) (msz j)) (256 + j) o (some q)) := by
  obtain ⟨h1, h2, h3, h4⟩ := h
  have hoq : o ≠ q := fun z => by rw [z, hq] at h1; cases h1
  refine ⟨?_, h2, fun p hp => ?_, ?_⟩
  · show va_up (sK S) q (akd j) o = 8
    rw [va_up, if_neg hoq]; exact h1
  · rcases List.mem_cons.mp hp with rfl | hp
    · refine ⟨hj, ?_, ?_, ?_, fun i => ?_⟩
      · simp [setP, sP, up2]
      · simp [setP, sK, newA, va_up]
      · simp [setP, sZ, newA, va_up]
      · simp [setP, sE, newA]
    · obtain ⟨g1, g2, g3, g4, g5⟩ := h3 p hp
      have hpq : p.2 ≠ q := fun z => by rw [z, hq] at g3; exact (akd_pos p.1).1 g3.symm
      have hne := hl p hp
      refine ⟨g1, ?_, ?_, ?_, fun i => ?_⟩
      · show up2 (sP S) (256 + j) o (some q) (256 + p.1) o = some p.2
        rw [up2, if_neg (by omega)]
        exact g2
      · show va_up (sK S) q (akd j) p.2 = _
        rw [va_up, if_neg hpq]; exact g3
      · show va_up (sZ S) q (msz j) p.2 = _
        rw [va_up, if_neg hpq]; exact g4
      · have : ¬ (akd p.1 = akd j ∧ p.2 = q) := fun z => hpq z.2
        simp only [setP, sE, newA, if_neg this]
        exact g5 i
  · refine List.pairwise_cons.mpr ⟨fun p hp => ?_, h4⟩
    intro z
    have g3 := (h3 p hp).2.2.1
    rw [← z, hq] at g3
    exact (akd_pos p.1).1 g3.symm
section ROWS
variable {F : Fx} {cc : ByteArray} {pc pc' pc'' : Nat} {lv : List (Option Value)} {st : List Value} {S : Sto} {cs ss : Nat} {dF cF sF : Nat} {o : Nat}
theorem wm_newi (C : Cx F cc "ChainVersionsModel" dF cF sF) (hin : (xt F).name = "<init>") {l : List (Nat × Nat)} (h : PM o l S) (j : Nat) {n idx : Nat} (hj : arj j = true) (hk : akd j = 9) (hn : msz j = n) (hn2 : n < 100000) (hl : ∀ p ∈ l, p.1 ≠ j) (d : At cc pc (.newarray .int) 2 pc') (d2 : At cc pc' (.putfield idx) 3 pc'') (hf : FLs "ChainVersionsModel" idx (256 + j)) (hc : Cond.arrayClass .int ∈ TB) (h1 : cs + 1 ≤ cF) (h2 : ss + n ≤ sF)
    (k : ∀ (q : Nat) (S' : Sto), PM o ((j, q) :: l) S' → WS F pc'' lv st S' (cs + 1) (ss + n)) : WS F pc lv (.int (nI n) :: .ref o :: st) S cs ss := by
  subst hn
  obtain ⟨e1, e2, e3, e4, e5⟩ := fin_8 hj
  obtain ⟨et, e6⟩ := nf_8 hj
  refine ws_newi C d hn2 hc h1 h2 (fun q hq => ?_)
  have hst := h.step hq hj hl
  rw [hk] at hst
  have hoq : o ≠ q := fun z => by have := h.1; rw [z, hq] at this; cases this
  refine ws_putFR C hin (some q) rfl d2 hf e3 (by rw [e4, e5]; exact e1) (by rw [e4, e5]; exact e2) (by rw [e4, e5, e6]; exact nf_ref (Or.inr ⟨et, rfl⟩) (some q)) ?_ (k q _ hst)
  rw [e4]
  show va_up (sK S) q 9 o = 8
  rw [va_up, if_neg hoq]; exact h.1
theorem wm_newz (C : Cx F cc "ChainVersionsModel" dF cF sF) (hin : (xt F).name = "<init>") {l : List (Nat × Nat)} (h : PM o l S) (j : Nat) {n idx : Nat} (hj : arj j = true) (hk : akd j = 10) (hn : msz j = n) (hn2 : n < 100000) (hl : ∀ p ∈ l, p.1 ≠ j) (d : At cc pc (.newarray .boolean) 2 pc') (d2 : At cc pc' (.putfield idx) 3 pc'') (hf : FLs "ChainVersionsModel" idx (256 + j)) (hc : Cond.arrayClass .boolean ∈ TB) (h1 : cs + 1 ≤ cF) (h2 : ss + n ≤ sF)
    (k : ∀ (q : Nat) (S' : Sto), PM o ((j, q) :: l) S' → WS F pc'' lv st S' (cs + 1) (ss + n)) : WS F pc lv (.int (nI n) :: .ref o :: st) S cs ss := by
  subst hn
  obtain ⟨e1, e2, e3, e4, e5⟩ := fin_8 hj
  obtain ⟨et, e6⟩ := nf_8 hj
  refine ws_newz C d hn2 hc h1 h2 (fun q hq => ?_)
  have hst := h.step hq hj hl
  rw [hk] at hst
  have hoq : o ≠ q := fun z => by have := h.1; rw [z, hq] at this; cases this
  refine ws_putFR C hin (some q) rfl d2 hf e3 (by rw [e4, e5]; exact e1) (by rw [e4, e5]; exact e2) (by rw [e4, e5, e6]; exact nf_ref (Or.inr ⟨et, rfl⟩) (some q)) ?_ (k q _ hst)
  rw [e4]
  show va_up (sK S) q 10 o = 8
  rw [va_up, if_neg hoq]; exact h.1
end ROWS
theorem pw_eq {l : List (Nat × Nat)} (h : l.Pairwise (fun a b => a.2 ≠ b.2)) {p q : Nat × Nat} (hp : p ∈ l) (hq : q ∈ l) (e : p.2 = q.2) : p = q := by
  induction l with
  | nil => cases hp
  | cons a t ih =>
    obtain ⟨h1, h2⟩ := List.pairwise_cons.mp h
    rcases List.mem_cons.mp hp with hp1 | hp1
    · rcases List.mem_cons.mp hq with hq1 | hq1
      · rw [hp1, hq1]
      · exact absurd (by rw [← hp1]; exact e) (h1 q hq1)
    · rcases List.mem_cons.mp hq with hq1 | hq1
      · exact absurd (by rw [← hq1]; exact e.symm) (h1 p hp1)
      · exact ih h2 hp1 hq1
/-- everything zero -/
def G0 : GS := (fun _ _ => 0, fun _ _ => 0)
theorem PM.done {o : Nat} {l : List (Nat × Nat)} {S : Sto} (h : PM o l S) (ad : Nat → Nat) (had : ∀ j, arj j = true → (j, ad j) ∈ l) : MR o ad G0 S := by
  obtain ⟨h1, h2, h3, h4⟩ := h
  refine ⟨h1, fun j hj => ?_, fun j j' hj hj' e => ?_, ?_, fun j i hj hi => ?_⟩
  · obtain ⟨g1, g2, g3, g4, g5⟩ := h3 _ (had j hj)
    exact ⟨g2, g3, g4⟩
  · have := pw_eq h4 (had j hj) (had j' hj') e
    exact congrArg Prod.fst this
  · rw [h2.1, h2.2.1, h2.2.2]; exact ⟨rfl, rfl, rfl⟩
  · obtain ⟨g1, g2, g3, g4, g5⟩ := h3 _ (had j hj)
    rw [g5 i]
    unfold mv G0
    split <;> rfl
theorem arr_I : Cond.arrayClass .int ∈ TB := by decide +kernel
theorem arr_Z : Cond.arrayClass .boolean ∈ TB := by decide +kernel
theorem obj_1 : Cond.instanceMethod objectInit ∈ TB := by decide +kernel
theorem obj_2 : Cond.code objectInit ⟨#[0xb1]⟩ 1 none ∈ TB := by decide +kernel
/-- the number of nodes at the start -/
def mkN (x : Int32) : Nat := if x < 1 then 1 else if 3 < x then 3 else ix x
/-- the start with m nodes, n of them laid -/
def inT (m n : Nat) : GS := (fun j i => if (j = 1 ∨ j = 2 ∨ j = 3) ∧ i < n then 1 else if j = 0 ∧ i = 0 then m else if j = 8 ∧ i = 0 then 1 else if j = 7 ∧ i = 1 then 2 ^ m - 1 else 0, fun j _ => if j = 29 then -1 else 0)
def iniG (x : Int32) : GS := inT (mkN x) (mkN x)
theorem inT_0 (m : Nat) : (gN (gN (gN G0 0 0 m) 8 0 1) 7 1 (2 ^ m - 1)).1 = (inT m 0).1 := by
  funext j i
  simp only [gN_1, inT, G0]
  have : ¬ ((j = 1 ∨ j = 2 ∨ j = 3) ∧ i < 0) := by omega
  rw [if_neg this]
  by_cases h0 : j = 0 ∧ i = 0
  · rw [if_neg (by omega), if_neg (by omega), if_pos h0, if_pos h0]
  · rw [if_neg h0, if_neg h0]
    by_cases h8 : j = 8 ∧ i = 0
    · rw [if_neg (by omega), if_pos h8, if_pos h8]
    · rw [if_neg h8, if_neg h8]
theorem inT_s {m k : Nat} : (gN (gN (gN (inT m k) 1 k 1) 2 k 1) 3 k 1) = inT m (k + 1) := by
  refine Prod.ext ?_ rfl
  funext j i
  simp only [gN_1, inT]
  by_cases hj : j = 1 ∨ j = 2 ∨ j = 3
  · by_cases hi : i = k
    · subst hi
      rcases hj with rfl | rfl | rfl <;> simp
    · by_cases hk : i < k
      · simp [hj, hi, hk, show i < k + 1 by omega]
      · simp [hj, hi, hk, show ¬ i < k + 1 by omega]
  · simp [hj, show ¬ j = 1 by omega, show ¬ j = 2 by omega, show ¬ j = 3 by omega]
theorem mkN_of (x : Int32) : (1 ≤ mkN x ∧ mkN x ≤ 3) ∧ nI (mkN x) = if x < nI 1 then nI 1 else if nI 3 < x then nI 3 else x := by
  unfold mkN
  have e1 : nI 1 = 1 := rfl
  have e3 : nI 3 = 3 := rfl
  rw [e1, e3]
  by_cases h1 : x < 1
  · rw [if_pos h1, if_pos h1]; exact ⟨by omega, rfl⟩
  · rw [if_neg h1, if_neg h1]
    by_cases h3 : 3 < x
    · rw [if_pos h3, if_pos h3]; exact ⟨by omega, rfl⟩
    · rw [if_neg h3, if_neg h3]
      have h0 : ¬ x < 0 := fun z => h1 (Int32.lt_trans z (by decide))
      obtain ⟨j, hj, rfl⟩ := nI_of2 (M := 3) (n := 3) rfl h0 (Int32.not_lt.mp h3)
      rw [ix_n (by omega)]
      refine ⟨⟨?_, hj⟩, rfl⟩
      by_cases hz : j = 0
      · subst hz; exact absurd (show nI 0 < 1 by decide) h1
      · omega
theorem shl1 {m : Nat} (h : m ≤ 3) : nI 1 <<< (nI m &&& 31) - nI 1 = nI (2 ^ m - 1) := by
  have : ∀ m, m < 4 → nI 1 <<< (nI m &&& 31) - nI 1 = nI (2 ^ m - 1) := by decide +kernel
  exact this m (by omega)
end
section
/-! the reference: its constructor -/
set_option maxHeartbeats 4000000 in
set_option maxRecDepth 100000 in
theorem c_M_init {V : Ev} {o : Nat} {S : Sto} (hK : sK S o = 8) (hI : sI S 256 o = 0 ∧ sI S 264 o = 0 ∧ sI S 276 o = 0) (x : Int32) : CT V mi_M_init 24 11543 [.ref o, .int x] S (Pv (fun S' => ∃ ad, MR o ad (iniG x) S')) := by
  refine CT.of (cc := prog_8_method_1_code) (own := "ChainVersionsModel") (nL := 3) (d := 1) (by decide) rfl rfl rfl rfl (by simp [Value.category]) (Nat.le_of_ble_eq_true rfl) rfl ?_
  intro F hV hn C R
  subst hV
  have hin : (xt F).name = "<init>" := R.2.2.2
  have h : PM o [] S := ⟨hK, hI, fun p hp => absurd hp List.not_mem_nil, List.Pairwise.nil⟩
  refine ws_aload_n C d_M_init_0 rfl ?_
  refine ws_objInit C (tb_at 661 (by decide +kernel) (by decide +kernel)) obj_1 obj_2 d_M_init_1 (by decide) (by decide) ?_
  refine ws_aload_n C d_M_init_4 rfl ?_
  refine ws_bipush C (nI 6) d_M_init_5 (by decide) ?_
  refine wm_newz C hin h 1 (n := 6) rfl rfl rfl (by decide) (by simp) d_M_init_7 d_M_init_9 f_M_7 arr_Z (by decide) (by decide) (fun q1 S h => ?_)
  refine ws_aload_n C d_M_init_12 rfl ?_
  refine ws_bipush C (nI 6) d_M_init_13 (by decide) ?_
  refine wm_newz C hin h 2 (n := 6) rfl rfl rfl (by decide) (by simp) d_M_init_15 d_M_init_17 f_M_13 arr_Z (by decide) (by decide) (fun q2 S h => ?_)
  refine ws_aload_n C d_M_init_20 rfl ?_
  refine ws_bipush C (nI 6) d_M_init_21 (by decide) ?_
  refine wm_newi C hin h 3 (n := 6) rfl rfl rfl (by decide) (by simp) d_M_init_23 d_M_init_25 f_M_16 arr_I (by decide) (by decide) (fun q3 S h => ?_)
  refine ws_aload_n C d_M_init_28 rfl ?_
  refine ws_bipush C (nI 6) d_M_init_29 (by decide) ?_
  refine wm_newi C hin h 4 (n := 6) rfl rfl rfl (by decide) (by simp) d_M_init_31 d_M_init_33 f_M_20 arr_I (by decide) (by decide) (fun q4 S h => ?_)
  refine ws_aload_n C d_M_init_36 rfl ?_
  refine ws_bipush C (nI 6) d_M_init_37 (by decide) ?_
  refine wm_newi C hin h 5 (n := 6) rfl rfl rfl (by decide) (by simp) d_M_init_39 d_M_init_41 f_M_23 arr_I (by decide) (by decide) (fun q5 S h => ?_)
  refine ws_aload_n C d_M_init_44 rfl ?_
  refine ws_bipush C (nI 6) d_M_init_45 (by decide) ?_
  refine wm_newi C hin h 6 (n := 6) rfl rfl rfl (by decide) (by simp) d_M_init_47 d_M_init_49 f_M_26 arr_I (by decide) (by decide) (fun q6 S h => ?_)
  refine ws_aload_n C d_M_init_52 rfl ?_
  refine ws_bipush C (nI 14) d_M_init_53 (by decide) ?_
  refine wm_newi C hin h 7 (n := 14) rfl rfl rfl (by decide) (by simp) d_M_init_55 d_M_init_57 f_M_29 arr_I (by decide) (by decide) (fun q7 S h => ?_)
  refine ws_aload_n C d_M_init_60 rfl ?_
  refine ws_sipush C (nI 768) d_M_init_61 (by decide) ?_
  refine wm_newi C hin h 9 (n := 768) rfl rfl rfl (by decide) (by simp) d_M_init_64 d_M_init_66 f_M_32 arr_I (by decide) (by decide) (fun q9 S h => ?_)
  refine ws_aload_n C d_M_init_69 rfl ?_
  refine ws_sipush C (nI 768) d_M_init_70 (by decide) ?_
  refine wm_newi C hin h 10 (n := 768) rfl rfl rfl (by decide) (by simp) d_M_init_73 d_M_init_75 f_M_35 arr_I (by decide) (by decide) (fun q10 S h => ?_)
  refine ws_aload_n C d_M_init_78 rfl ?_
  refine ws_sipush C (nI 768) d_M_init_79 (by decide) ?_
  refine wm_newi C hin h 11 (n := 768) rfl rfl rfl (by decide) (by simp) d_M_init_82 d_M_init_84 f_M_38 arr_I (by decide) (by decide) (fun q11 S h => ?_)
  refine ws_aload_n C d_M_init_87 rfl ?_
  refine ws_sipush C (nI 768) d_M_init_88 (by decide) ?_
  refine wm_newi C hin h 12 (n := 768) rfl rfl rfl (by decide) (by simp) d_M_init_91 d_M_init_93 f_M_41 arr_I (by decide) (by decide) (fun q12 S h => ?_)
  refine ws_aload_n C d_M_init_96 rfl ?_
  refine ws_iconst C (nI 3) d_M_init_97 (by decide) ?_
  refine wm_newi C hin h 13 (n := 3) rfl rfl rfl (by decide) (by simp) d_M_init_98 d_M_init_100 f_M_44 arr_I (by decide) (by decide) (fun q13 S h => ?_)
  refine ws_aload_n C d_M_init_103 rfl ?_
  refine ws_iconst C (nI 3) d_M_init_104 (by decide) ?_
  refine wm_newi C hin h 14 (n := 3) rfl rfl rfl (by decide) (by simp) d_M_init_105 d_M_init_107 f_M_47 arr_I (by decide) (by decide) (fun q14 S h => ?_)
  refine ws_aload_n C d_M_init_110 rfl ?_
  refine ws_iconst C (nI 3) d_M_init_111 (by decide) ?_
  refine wm_newi C hin h 15 (n := 3) rfl rfl rfl (by decide) (by simp) d_M_init_112 d_M_init_114 f_M_50 arr_I (by decide) (by decide) (fun q15 S h => ?_)
  refine ws_aload_n C d_M_init_117 rfl ?_
  refine ws_iconst C (nI 3) d_M_init_118 (by decide) ?_
  refine wm_newi C hin h 16 (n := 3) rfl rfl rfl (by decide) (by simp) d_M_init_119 d_M_init_121 f_M_53 arr_I (by decide) (by decide) (fun q16 S h => ?_)
  refine ws_aload_n C d_M_init_124 rfl ?_
  refine ws_iconst C (nI 3) d_M_init_125 (by decide) ?_
  refine wm_newi C hin h 17 (n := 3) rfl rfl rfl (by decide) (by simp) d_M_init_126 d_M_init_128 f_M_56 arr_I (by decide) (by decide) (fun q17 S h => ?_)
  refine ws_aload_n C d_M_init_131 rfl ?_
  refine ws_iconst C (nI 3) d_M_init_132 (by decide) ?_
  refine wm_newi C hin h 18 (n := 3) rfl rfl rfl (by decide) (by simp) d_M_init_133 d_M_init_135 f_M_59 arr_I (by decide) (by decide) (fun q18 S h => ?_)
  refine ws_aload_n C d_M_init_138 rfl ?_
  refine ws_iconst C (nI 3) d_M_init_139 (by decide) ?_
  refine wm_newi C hin h 19 (n := 3) rfl rfl rfl (by decide) (by simp) d_M_init_140 d_M_init_142 f_M_62 arr_I (by decide) (by decide) (fun q19 S h => ?_)
  refine ws_aload_n C d_M_init_145 rfl ?_
  refine ws_sipush C (nI 1400) d_M_init_146 (by decide) ?_
  refine wm_newi C hin h 21 (n := 1400) rfl rfl rfl (by decide) (by simp) d_M_init_149 d_M_init_151 f_M_65 arr_I (by decide) (by decide) (fun q21 S h => ?_)
  refine ws_aload_n C d_M_init_154 rfl ?_
  refine ws_sipush C (nI 1400) d_M_init_155 (by decide) ?_
  refine wm_newi C hin h 22 (n := 1400) rfl rfl rfl (by decide) (by simp) d_M_init_158 d_M_init_160 f_M_68 arr_I (by decide) (by decide) (fun q22 S h => ?_)
  refine ws_aload_n C d_M_init_163 rfl ?_
  refine ws_sipush C (nI 1400) d_M_init_164 (by decide) ?_
  refine wm_newi C hin h 23 (n := 1400) rfl rfl rfl (by decide) (by simp) d_M_init_167 d_M_init_169 f_M_71 arr_I (by decide) (by decide) (fun q23 S h => ?_)
  refine ws_aload_n C d_M_init_172 rfl ?_
  refine ws_sipush C (nI 1400) d_M_init_173 (by decide) ?_
  refine wm_newi C hin h 24 (n := 1400) rfl rfl rfl (by decide) (by simp) d_M_init_176 d_M_init_178 f_M_74 arr_I (by decide) (by decide) (fun q24 S h => ?_)
  refine ws_aload_n C d_M_init_181 rfl ?_
  refine ws_sipush C (nI 1400) d_M_init_182 (by decide) ?_
  refine wm_newi C hin h 25 (n := 1400) rfl rfl rfl (by decide) (by simp) d_M_init_185 d_M_init_187 f_M_77 arr_I (by decide) (by decide) (fun q25 S h => ?_)
  refine ws_aload_n C d_M_init_190 rfl ?_
  refine ws_sipush C (nI 1400) d_M_init_191 (by decide) ?_
  refine wm_newi C hin h 26 (n := 1400) rfl rfl rfl (by decide) (by simp) d_M_init_194 d_M_init_196 f_M_80 arr_I (by decide) (by decide) (fun q26 S h => ?_)
  have hR := h.done (fun j => match j with
    | 1 => q1
    | 2 => q2
    | 3 => q3
    | 4 => q4
    | 5 => q5
    | 6 => q6
    | 7 => q7
    | 9 => q9
    | 10 => q10
    | 11 => q11
    | 12 => q12
    | 13 => q13
    | 14 => q14
    | 15 => q15
    | 16 => q16
    | 17 => q17
    | 18 => q18
    | 19 => q19
    | 21 => q21
    | 22 => q22
    | 23 => q23
    | 24 => q24
    | 25 => q25
    | 26 => q26
    | _ => 0) (by
      intro j hj
      have hj27 : j < 27 := by simp only [arj, Bool.and_eq_true, decide_eq_true_eq] at hj; exact hj.1.1.1
      have : j = 1 ∨ j = 2 ∨ j = 3 ∨ j = 4 ∨ j = 5 ∨ j = 6 ∨ j = 7 ∨ j = 9 ∨ j = 10 ∨ j = 11 ∨ j = 12 ∨ j = 13 ∨ j = 14 ∨ j = 15 ∨ j = 16 ∨ j = 17 ∨ j = 18 ∨ j = 19 ∨ j = 21 ∨ j = 22 ∨ j = 23 ∨ j = 24 ∨ j = 25 ∨ j = 26 := by simp [arj] at hj; omega
      rcases this with rfl | rfl | rfl | rfl | rfl | rfl | rfl | rfl | rfl | rfl | rfl | rfl | rfl | rfl | rfl | rfl | rfl | rfl | rfl | rfl | rfl | rfl | rfl | rfl <;> simp)
  generalize (fun j => match j with
    | 1 => q1
    | 2 => q2
    | 3 => q3
    | 4 => q4
    | 5 => q5
    | 6 => q6
    | 7 => q7
    | 9 => q9
    | 10 => q10
    | 11 => q11
    | 12 => q12
    | 13 => q13
    | 14 => q14
    | 15 => q15
    | 16 => q16
    | 17 => q17
    | 18 => q18
    | 19 => q19
    | 21 => q21
    | 22 => q22
    | 23 => q23
    | 24 => q24
    | 25 => q25
    | 26 => q26
    | _ => 0 : Nat → Nat) = ad at hR
  clear h
  obtain ⟨hm, em⟩ := mkN_of x
  have k219 : ∀ y : Int32, y = nI (mkN x) → WS F 219 [some (.ref o), some (.int x), none] [.int y, .ref o] S 24 11543 := by
    intro y hy
    subst hy
    have R : RT F mi_M_init 24 11543 (Pv (fun S' => ∃ ad, MR o ad (inT (mkN x) (mkN x)) S')) := R
    generalize mkN x = m at *
    refine wm_put C hR 0 (by decide) d_M_init_219 f_M_83 (fun S hR => ?_)
    refine ws_aload_n C d_M_init_222 rfl ?_
    refine ws_iconst C (nI 1) d_M_init_223 (by decide) ?_
    refine wm_put C hR 8 (by decide) d_M_init_224 f_M_87 (fun S hR => ?_)
    refine ws_aload_n C d_M_init_227 rfl ?_
    refine wm_arr C hR 7 d_M_init_228 f_M_29 rfl rfl rfl ?_
    refine ws_iconst C (nI 1) d_M_init_231 (by decide) ?_
    refine ws_iconst C (nI 1) d_M_init_232 (by decide) ?_
    refine ws_aload_n C d_M_init_233 rfl ?_
    refine wm_0 C hR d_M_init_234 f_M_83 ?_
    refine ws_top (nI m) (by simp [gN_1, gN_2, gV_1, gV_2]) ?_
    refine ws_ishl C d_M_init_237 ?_
    refine ws_iconst C (nI 1) d_M_init_238 (by decide) ?_
    refine ws_isub C d_M_init_239 ?_
    refine ws_top (nI (2 ^ m - 1)) (shl1 hm.2) ?_
    refine wm_astN C hR 7 d_M_init_240 rfl rfl (by decide) (show _ < 14 by omega) (fun S hR => ?_)
    refine ws_iconst C (nI 0) d_M_init_241 (by decide) ?_
    refine ws_istore_n C d_M_init_242 (by rw [hn]; decide) ?_
    have hR0 : MR o ad (inT m 0) S := hR.same (fun j _ => by rw [inT_0 m]) (fun j hj => by simp only [inT, if_neg (show ¬ j = 29 by omega)]; rfl)
    suffices hL : ∀ n k, k + n = m → ∀ S : Sto, MR o ad (inT m k) S → WS F 243 [some (.ref o), some (.int x), some (.int (nI k))] [] S 24 11543 from hL m 0 (by omega) S hR0
    clear hR hR0
    intro n
    induction n with
    | zero =>
      intro k hk S hR
      have e : k = m := by omega
      subst e
      refine ws_iload_n C d_M_init_243 rfl ?_
      refine ws_aload_n C d_M_init_244 rfl ?_
      refine wm_0 C hR d_M_init_245 f_M_83 ?_
      refine ws_top (nI k) (by simp [inT]) ?_
      refine ws_icmp_geN C d_M_init_248 (by omega) (by omega) (fun h248 => ?_) (fun h248 => ?_)
      · exact ws_vret C R d_M_init_278 rfl (by decide) (by decide) ⟨rfl, ⟨ad, hR⟩⟩
      · omega
    | succ n ih =>
      intro k hk S hR
      refine ws_iload_n C d_M_init_243 rfl ?_
      refine ws_aload_n C d_M_init_244 rfl ?_
      refine wm_0 C hR d_M_init_245 f_M_83 ?_
      refine ws_top (nI m) (by simp [inT]) ?_
      refine ws_icmp_geN C d_M_init_248 (by omega) (by omega) (fun h248 => ?_) (fun h248 => ?_)
      · omega
      · refine ws_aload_n C d_M_init_251 rfl ?_
        refine wm_arr C hR 1 d_M_init_252 f_M_7 rfl rfl rfl ?_
        refine ws_iload_n C d_M_init_255 rfl ?_
        refine ws_iconst C (nI 1) d_M_init_256 (by decide) ?_
        refine wm_zst C hR 1 d_M_init_257 rfl rfl (by decide) (show _ < 6 by omega) (by decide) (fun S hR => ?_)
        refine ws_aload_n C d_M_init_258 rfl ?_
        refine wm_arr C hR 2 d_M_init_259 f_M_13 rfl rfl rfl ?_
        refine ws_iload_n C d_M_init_262 rfl ?_
        refine ws_iconst C (nI 1) d_M_init_263 (by decide) ?_
        refine wm_zst C hR 2 d_M_init_264 rfl rfl (by decide) (show _ < 6 by omega) (by decide) (fun S hR => ?_)
        refine ws_aload_n C d_M_init_265 rfl ?_
        refine wm_arr C hR 3 d_M_init_266 f_M_16 rfl rfl rfl ?_
        refine ws_iload_n C d_M_init_269 rfl ?_
        refine ws_iconst C (nI 1) d_M_init_270 (by decide) ?_
        refine wm_astN C hR 3 d_M_init_271 rfl rfl (by decide) (show _ < 6 by omega) (fun S hR => ?_)
        refine ws_iinc C _ d_M_init_272 rfl (inc1 _) (by rw [hn]; decide) ?_
        refine ws_goto C d_M_init_275 ?_
        exact ih (k + 1) (by omega) S (inT_s ▸ hR)
  refine ws_aload_n C d_M_init_199 rfl ?_
  refine ws_iload_n C d_M_init_200 rfl ?_
  refine ws_iconst C (nI 1) d_M_init_201 (by decide) ?_
  refine ws_icmp_ge C d_M_init_202 (fun h202 => ?_) (fun h202 => ?_)
  · refine ws_iload_n C d_M_init_209 rfl ?_
    refine ws_iconst C (nI 3) d_M_init_210 (by decide) ?_
    refine ws_icmp_le C d_M_init_211 (fun h211 => ?_) (fun h211 => ?_)
    · refine ws_iload_n C d_M_init_218 rfl ?_
      exact k219 _ (by rw [em, if_neg (Int32.not_lt.mpr h202), if_neg (Int32.not_lt.mpr h211)])
    · refine ws_iconst C (nI 3) d_M_init_214 (by decide) ?_
      refine ws_goto C d_M_init_215 ?_
      exact k219 _ (by rw [em, if_neg (Int32.not_lt.mpr h202), if_pos (Int32.not_le.mp h211)])
  · refine ws_iconst C (nI 1) d_M_init_205 (by decide) ?_
    refine ws_goto C d_M_init_206 ?_
    exact k219 _ (by rw [em, if_pos (Int32.not_le.mp h202)])
end
section
/-! the class's cells at a state G. h: addresses by kind (2 clients, 3 configurations, 9 their arrays, 4 nodes, 13 their logs, 6 the object, 1 its list, 11 and 12 its arrays, 15 the message in hand); t: the message in hand (kind, from, to, epoch, one, two); r: addresses of messages, the list's array, the updates' addresses -/
def mem (m : Nat) : List Nat := (List.range 6).filter (fun w => m.testBit w)
def dk (G : GS) (kd k : Nat) : Prop := (kd = 2 ∧ k < 3) ∨ ((kd = 3 ∨ kd = 9) ∧ 1 ≤ k ∧ k ≤ G.1 8 0) ∨ ((kd = 4 ∨ kd = 13) ∧ k < G.1 0 0) ∨ ((kd = 6 ∨ kd = 1 ∨ kd = 11 ∨ kd = 12) ∧ k = 0)
def dm (G : GS) (f k : Nat) : Prop := ((64 ≤ f ∧ f ≤ 70) ∧ k < 3) ∨ (f = 96 ∧ 1 ≤ k ∧ k ≤ G.1 8 0) ∨ ((f = 128 ∨ (131 ≤ f ∧ f ≤ 135)) ∧ k < G.1 0 0) ∨ ((f = 196 ∨ f = 197 ∨ f = 34) ∧ k = 0)
def jn : Nat → Nat
  | 64 => 13
  | 65 => 14
  | 66 => 15
  | 69 => 18
  | 131 => 1
  | 132 => 2
  | 133 => 28
  | 134 => 4
  | 135 => 5
  | 196 => 0
  | 197 => 27
  | 34 => 20
  | _ => 99
def jv : Nat → Nat
  | 67 => 16
  | 68 => 29
  | 70 => 19
  | _ => 99
def xv (G : GS) (f k : Nat) : Int32 := if f = 96 ∨ f = 128 then nI k else if f = 67 ∨ f = 68 ∨ f = 70 then G.2 (jv f) k else nI (G.1 (jn f) k)
def dp (G : GS) (f k : Nat) : Prop := (f = 97 ∧ 1 ≤ k ∧ k ≤ G.1 8 0) ∨ ((f = 129 ∨ f = 130) ∧ k < G.1 0 0) ∨ ((192 ≤ f ∧ f ≤ 195) ∧ k = 0)
def xq (h : Nat → Nat → Nat) (G : GS) (f k : Nat) : Nat := if f = 97 then h 9 k else if f = 129 then h 13 k else if f = 130 then h 3 (G.1 3 k) else if f = 192 then h 11 0 else if f = 193 then h 12 0 else if f = 194 then h 1 0 else h 3 (G.1 8 0)
def UPf (S : Sto) (q k : Nat) (x : Int32) (c r : Nat) : Prop := sK S q = 5 ∧ sI S 160 q = nI k ∧ sI S 161 q = x ∧ sI S 162 q = nI c ∧ sI S 163 q = nI r
def MsgF (S : Sto) (q : Nat) (u : Nat → Nat → Nat) (k v w e a b : Nat) : Prop := sK S q = 7 ∧ sI S 224 q = nI k ∧ sI S 225 q = nI v ∧ sI S 226 q = nI w ∧ sI S 227 q = nI e ∧ (k = 1 → sP S 228 q = some (u v a)) ∧ (k = 2 ∨ k = 4 ∨ k = 5 → sI S 229 q = nI a) ∧ (k = 5 → sI S 230 q = nI b) ∧ (k = 3 → sI S 231 q = nI a) ∧ (k = 3 ∨ k = 4 → sI S 232 q = nI b)
def XK (h : Nat → Nat → Nat) (G : GS) (S : Sto) : Prop := (∀ kd k, dk G kd k → sK S (h kd k) = kd) ∧ ∀ kd k k', (kd = 2 ∨ kd = 4 ∨ kd = 13) → dk G kd k → dk G kd k' → h kd k = h kd k' → k = k'
def XI (h : Nat → Nat → Nat) (G : GS) (S : Sto) : Prop := ∀ f k, dm G f k → sI S f (h (f / 32) k) = xv G f k
def XP (h : Nat → Nat → Nat) (G : GS) (S : Sto) : Prop := ∀ f k, dp G f k → sP S f (h (f / 32) k) = some (xq h G f k)
def XA (h : Nat → Nat → Nat) (G : GS) (S : Sto) : Prop := (sZ S (h 11 0) = 6 ∧ sZ S (h 12 0) = 3 ∧ ∀ v, v < G.1 0 0 → sZ S (h 13 v) = 100) ∧ (∀ e, 1 ≤ e → e ≤ G.1 8 0 → sZ S (h 9 e) = (mem (G.1 7 e)).length ∧ ∀ i m, (mem (G.1 7 e))[i]? = some m → sE S 9 (h 9 e) i = nI m) ∧ (∀ v, v < 6 → sQ S 11 (h 11 0) v = if v < G.1 0 0 then some (h 4 v) else none) ∧ ∀ c, c < 3 → sQ S 12 (h 12 0) c = some (h 2 c)
def XU (h : Nat → Nat → Nat) (u : Nat → Nat → Nat) (G : GS) (S : Sto) : Prop := ∀ v i, v < G.1 0 0 → 1 ≤ i → i ≤ G.1 4 v → sQ S 13 (h 13 v) (i - 1) = some (u v i) ∧ UPf S (u v i) (G.1 9 (128 * v + i)) (G.2 10 (128 * v + i)) (G.1 11 (128 * v + i)) (G.1 12 (128 * v + i))
abbrev Rg : Type := (Nat → Nat) × Nat × (Nat → Nat → Nat)
def XL (z : Nat) (h : Nat → Nat → Nat) (r : Rg) (G : GS) (S : Sto) : Prop := sP S 33 (h 1 0) = some r.2.1 ∧ ((sK S r.2.1 = 14 ∧ G.1 20 0 ≤ sZ S r.2.1 ∧ sZ S r.2.1 ≤ 2200) ∨ (r.2.1 = z ∧ G.1 20 0 = 0)) ∧ ∀ i, i < G.1 20 0 → sQ S 14 r.2.1 i = some (r.1 i) ∧ MsgF S (r.1 i) r.2.2 (G.1 23 i) (G.1 21 i) (G.1 22 i) (G.1 24 i) (G.1 25 i) (G.1 26 i)
def XH (h : Nat → Nat → Nat) (t : Nat → Nat) (u : Nat → Nat → Nat) (S : Sto) : Prop := t 0 ≠ 0 → MsgF S (h 15 0) u (t 0) (t 1) (t 2) (t 3) (t 4) (t 5)
def UV (t : Nat → Nat) (G : GS) : Prop := (∀ i, i < G.1 20 0 → G.1 23 i = 1 → G.1 25 i ≤ G.1 4 (G.1 21 i)) ∧ (t 0 = 1 → t 4 ≤ G.1 4 (t 1))
def XR (z : Nat) (h : Nat → Nat → Nat) (t : Nat → Nat) (r : Rg) (G : GS) (S : Sto) : Prop := XK h G S ∧ XI h G S ∧ XP h G S ∧ XA h G S ∧ XU h r.2.2 G S ∧ XL z h r G S ∧ XH h t r.2.2 S ∧ UV t G
def XE (z : Nat) (h : Nat → Nat → Nat) (t : Nat → Nat) (G : GS) (S : Sto) : Prop := ∃ r, XR z h t r G S
/-- what the class's walks need of the state -/
def WF (G : GS) : Prop := (1 ≤ G.1 0 0 ∧ G.1 0 0 ≤ 6) ∧ (1 ≤ G.1 8 0 ∧ G.1 8 0 ≤ 12) ∧ (∀ v, v < G.1 0 0 → 1 ≤ G.1 3 v ∧ G.1 3 v ≤ G.1 8 0 ∧ isIn G (G.1 3 v) v = true) ∧ (∀ v, G.1 0 0 ≤ v → G.1 1 v = 0) ∧ (∀ e w, e ≤ G.1 8 0 → isIn G e w = true → w < G.1 0 0) ∧ ∀ v, G.1 5 v ≤ G.1 4 v
theorem dkC {G : GS} {k : Nat} (h : k < 3) : dk G 2 k := Or.inl ⟨rfl, h⟩
theorem dkF {G : GS} {k : Nat} (h : 1 ≤ k ∧ k ≤ G.1 8 0) : dk G 3 k := Or.inr (Or.inl ⟨Or.inl rfl, h⟩)
theorem dkM {G : GS} {k : Nat} (h : 1 ≤ k ∧ k ≤ G.1 8 0) : dk G 9 k := Or.inr (Or.inl ⟨Or.inr rfl, h⟩)
theorem dkN {G : GS} {k : Nat} (h : k < G.1 0 0) : dk G 4 k := Or.inr (Or.inr (Or.inl ⟨Or.inl rfl, h⟩))
theorem dkG {G : GS} {k : Nat} (h : k < G.1 0 0) : dk G 13 k := Or.inr (Or.inr (Or.inl ⟨Or.inr rfl, h⟩))
theorem dk6 {G : GS} : dk G 6 0 := Or.inr (Or.inr (Or.inr ⟨Or.inl rfl, rfl⟩))
theorem dk1 {G : GS} : dk G 1 0 := Or.inr (Or.inr (Or.inr ⟨Or.inr (Or.inl rfl), rfl⟩))
theorem dk11 {G : GS} : dk G 11 0 := Or.inr (Or.inr (Or.inr ⟨Or.inr (Or.inr (Or.inl rfl)), rfl⟩))
theorem dk12 {G : GS} : dk G 12 0 := Or.inr (Or.inr (Or.inr ⟨Or.inr (Or.inr (Or.inr rfl)), rfl⟩))
theorem dmC {G : GS} {f k : Nat} (hf : 64 ≤ f ∧ f ≤ 70) (h : k < 3) : dm G f k := Or.inl ⟨hf, h⟩
theorem dmF {G : GS} {k : Nat} (h : 1 ≤ k ∧ k ≤ G.1 8 0) : dm G 96 k := Or.inr (Or.inl ⟨rfl, h⟩)
theorem dmN {G : GS} {f k : Nat} (hf : f = 128 ∨ (131 ≤ f ∧ f ≤ 135)) (h : k < G.1 0 0) : dm G f k := Or.inr (Or.inr (Or.inl ⟨hf, h⟩))
theorem dmX {G : GS} {f : Nat} (hf : f = 196 ∨ f = 197 ∨ f = 34) : dm G f 0 := Or.inr (Or.inr (Or.inr ⟨hf, rfl⟩))
theorem dpF {G : GS} {k : Nat} (h : 1 ≤ k ∧ k ≤ G.1 8 0) : dp G 97 k := Or.inl ⟨rfl, h⟩
theorem dpN {G : GS} {f k : Nat} (hf : f = 129 ∨ f = 130) (h : k < G.1 0 0) : dp G f k := Or.inr (Or.inl ⟨hf, h⟩)
theorem dpX {G : GS} {f : Nat} (hf : 192 ≤ f ∧ f ≤ 195) : dp G f 0 := Or.inr (Or.inr ⟨hf, rfl⟩)
/-- fields of the state that shape the class's cells -/
def shp (j : Nat) : Bool := j == 0 || j == 3 || j == 4 || j == 7 || j == 8 || j == 9 || j == 11 || j == 12 || (20 ≤ j && j ≤ 26)
theorem XR.congr {z : Nat} {h : Nat → Nat → Nat} {t : Nat → Nat} {r : Rg} {G G' : GS} {S S' : Sto} (H : XR z h t r G S) (hG : ∀ j, shp j = true → G'.1 j = G.1 j) (hV : G'.2 10 = G.2 10)
    (hK : ∀ a, sK S a ≠ 0 → sK S' a = sK S a) (hP : ∀ f a, sK S a = f / 32 → sP S' f a = sP S f a) (hE : ∀ k a, sK S a = k → sE S' k a = sE S k a) (hQ : ∀ k a, sK S a = k → sQ S' k a = sQ S k a) (hZ : ∀ a, sK S a ≠ 0 → sZ S' a = sZ S a)
    (hI : ∀ f a, f / 32 = 5 ∨ f / 32 = 7 → sK S a = f / 32 → sI S' f a = sI S f a) (hX : XI h G' S') : XR z h t r G' S' := by
  have g0 := hG 0 rfl
  have g3 := hG 3 rfl
  have g4 := hG 4 rfl
  have g7 := hG 7 rfl
  have g8 := hG 8 rfl
  have g9 := hG 9 rfl
  have g11 := hG 11 rfl
  have g12 := hG 12 rfl
  have g20 := hG 20 rfl
  have g21 := hG 21 rfl
  have g22 := hG 22 rfl
  have g23 := hG 23 rfl
  have g24 := hG 24 rfl
  have g25 := hG 25 rfl
  have g26 := hG 26 rfl
  have edk : ∀ kd k, dk G' kd k = dk G kd k := fun kd k => by unfold dk; rw [g0, g8]
  have edp : ∀ kd k, dp G' kd k = dp G kd k := fun kd k => by unfold dp; rw [g0, g8]
  have exq : ∀ f k, xq h G' f k = xq h G f k := fun f k => by unfold xq; rw [g3, g8]
  obtain ⟨hK0, hI0, hP0, hA0, hU0, hL0, hH0, hV0⟩ := H
  have kk : ∀ kd k, dk G kd k → sK S (h kd k) ≠ 0 := fun kd k hd => by
    rw [hK0.1 kd k hd]
    intro z0
    subst z0
    unfold dk at hd
    omega
  have mf : ∀ q u k v w e a b, MsgF S q u k v w e a b → MsgF S' q u k v w e a b := fun q u k v w e a b hm => by
    obtain ⟨m0, m1, m2, m3, m4, m5, m6, m7, m8, m9⟩ := hm
    have i : ∀ f, f / 32 = 7 → sI S' f q = sI S f q := fun f hf => hI f q (Or.inr hf) (by rw [hf]; exact m0)
    refine ⟨by rw [hK q (by rw [m0]; decide)]; exact m0, by rw [i 224 rfl]; exact m1, by rw [i 225 rfl]; exact m2, by rw [i 226 rfl]; exact m3, by rw [i 227 rfl]; exact m4, fun z => by rw [hP 228 q m0]; exact m5 z, fun z => by rw [i 229 rfl]; exact m6 z, fun z => by rw [i 230 rfl]; exact m7 z, fun z => by rw [i 231 rfl]; exact m8 z, fun z => by rw [i 232 rfl]; exact m9 z⟩
  refine ⟨⟨fun kd k hd => ?_, fun kd k k' hk hd hd' => ?_⟩, hX, fun f k hd => ?_, ⟨⟨?_, ?_, fun v hv => ?_⟩, fun e h1 h2 => ?_, fun v hv => ?_, fun c hc => ?_⟩, fun v i hv h1 h2 => ?_, ⟨?_, ?_, fun i hi => ?_⟩, fun ht => mf _ _ _ _ _ _ _ _ (hH0 ht), ?_⟩
  · rw [edk] at hd
    rw [hK _ (kk kd k hd)]
    exact hK0.1 kd k hd
  · rw [edk] at hd hd'
    exact hK0.2 kd k k' hk hd hd'
  · rw [edp] at hd
    rw [exq, hP f _ ?_]
    · exact hP0 f k hd
    · refine hK0.1 _ _ ?_
      unfold dp at hd
      rcases hd with ⟨rfl, hd⟩ | ⟨rfl | rfl, hd⟩ | ⟨hf, rfl⟩
      · exact dkF hd
      · exact dkN hd
      · exact dkN hd
      · have : f / 32 = 6 := by omega
        rw [this]
        exact dk6
  · rw [hZ _ (kk 11 0 dk11)]; exact hA0.1.1
  · rw [hZ _ (kk 12 0 dk12)]; exact hA0.1.2.1
  · rw [g0] at hv
    rw [hZ _ (kk 13 v (dkG hv))]; exact hA0.1.2.2 v hv
  · rw [g8] at h2
    rw [g7, hZ _ (kk 9 e (dkM ⟨h1, h2⟩)), hE 9 _ (hK0.1 9 e (dkM ⟨h1, h2⟩))]
    exact hA0.2.1 e h1 h2
  · rw [g0, hQ 11 _ (hK0.1 11 0 dk11)]; exact hA0.2.2.1 v hv
  · rw [hQ 12 _ (hK0.1 12 0 dk12)]; exact hA0.2.2.2 c hc
  · rw [g0] at hv
    rw [g4] at h2
    rw [hQ 13 _ (hK0.1 13 v (dkG hv)), g9, g11, g12, hV]
    obtain ⟨u0, u1, u2, u3, u4, u5⟩ := hU0 v i hv h1 h2
    have ii : ∀ f, f / 32 = 5 → sI S' f (r.2.2 v i) = sI S f (r.2.2 v i) := fun f hf => hI f _ (Or.inl hf) (by rw [hf]; exact u1)
    refine ⟨u0, by rw [hK _ (by rw [u1]; decide)]; exact u1, by rw [ii 160 rfl]; exact u2, by rw [ii 161 rfl]; exact u3, by rw [ii 162 rfl]; exact u4, by rw [ii 163 rfl]; exact u5⟩
  · rw [hP 33 _ (hK0.1 1 0 dk1)]; exact hL0.1
  · rw [g20]
    rcases hL0.2.1 with ⟨e1, e2, e3⟩ | e1
    · left
      rw [hK _ (by rw [e1]; decide), hZ _ (by rw [e1]; decide)]
      exact ⟨e1, e2, e3⟩
    · exact Or.inr e1
  · rw [g20] at hi
    rw [g21, g22, g23, g24, g25, g26]
    obtain ⟨q1, q2⟩ := hL0.2.2 i hi
    refine ⟨?_, mf _ _ _ _ _ _ _ _ q2⟩
    rcases hL0.2.1 with ⟨e1, e2, e3⟩ | e1
    · rw [hQ 14 _ e1]; exact q1
    · omega
  · unfold UV
    rw [g20, g23, g25, g4, g21]
    exact hV0
/-- fields of nodes, clients and the object that shape nothing -/
def smp (f : Nat) : Bool := f == 64 || f == 65 || f == 66 || f == 69 || f == 131 || f == 132 || f == 133 || f == 135 || f == 197
theorem smp_ok {f : Nat} (hs : smp f = true) : f < 198 ∧ shp (jn f) = false ∧ ¬ f / 32 = 5 ∧ ¬ f / 32 = 7 ∧ ¬ (f = 96 ∨ f = 128) ∧ ¬ (f = 67 ∨ f = 68 ∨ f = 70) ∧ (∀ f', f' < 198 → jn f' = jn f → f' = f) ∧ (f / 32 = 2 ∨ f / 32 = 4 ∨ f = 197) := by
  have hf : f < 198 := by
    simp only [smp, Bool.or_eq_true, beq_iff_eq] at hs
    omega
  have e : f = 64 ∨ f = 65 ∨ f = 66 ∨ f = 69 ∨ f = 131 ∨ f = 132 ∨ f = 133 ∨ f = 135 ∨ f = 197 := by
    simp only [smp, Bool.or_eq_true, beq_iff_eq] at hs
    omega
  refine ⟨hf, ?_⟩
  rcases e with rfl | rfl | rfl | rfl | rfl | rfl | rfl | rfl | rfl <;> exact ⟨by decide, by decide, by decide, by decide, by decide, by decide +kernel, by decide⟩
theorem dm_lt {G : GS} {f k : Nat} (h : dm G f k) : f < 198 := by unfold dm at h; omega
theorem dm_dk {G : GS} {f k : Nat} (h : dm G f k) : dk G (f / 32) k := by
  unfold dm at h
  rcases h with ⟨hf, h⟩ | ⟨hf, h⟩ | ⟨hf, h⟩ | ⟨hf, h⟩
  · have : f / 32 = 2 := by omega
    rw [this]; exact dkC h
  · subst hf; exact dkF h
  · have : f / 32 = 4 := by omega
    rw [this]; exact dkN h
  · subst h
    rcases hf with rfl | rfl | rfl
    · exact dk6
    · exact dk6
    · exact dk1
theorem XR.putN {z : Nat} {h : Nat → Nat → Nat} {t : Nat → Nat} {r : Rg} {G : GS} {S : Sto} (H : XR z h t r G S) (f k n : Nat) (hs : smp f = true) (hd : dm G f k) : XR z h t r (gN G (jn f) k n) (setI S f (h (f / 32) k) (nI n)) := by
  obtain ⟨h0, h1, h2, h3, h4, h5, h6, h7⟩ := smp_ok hs
  refine H.congr (fun j hj => gN_ne _ (fun z0 => by rw [z0, h1] at hj; cases hj)) rfl (fun _ _ => rfl) (fun _ _ _ => rfl) (fun _ _ _ => rfl) (fun _ _ _ => rfl) (fun _ _ => rfl) (fun f' a hf' _ => ?_) (fun f' k' hd' => ?_)
  · have : ¬ (f' = f ∧ a = h (f / 32) k) := fun z0 => by
      rw [z0.1] at hf'
      exact hf'.elim h2 h3
    simp only [setI, sI, up2, if_neg this]
  · have hd0 : dm G f' k' := by
      unfold dm at hd' ⊢
      rw [gN_ne _ (fun z0 => by rw [← z0] at h1; cases h1), gN_ne _ (fun z0 => by rw [← z0] at h1; cases h1)] at hd'
      exact hd'
    have h0' := dm_lt hd0
    by_cases e : f' = f ∧ k' = k
    · obtain ⟨rfl, rfl⟩ := e
      simp only [setI, sI, up2, and_self, if_true]
      unfold xv
      rw [if_neg h4, if_neg h5, gN_eq]
    · have hne : ¬ (f' = f ∧ h (f' / 32) k' = h (f / 32) k) := fun z0 => by
        obtain ⟨rfl, z2⟩ := z0
        apply e
        refine ⟨rfl, ?_⟩
        rcases h7 with h7 | h7 | h7
        · exact H.1.2 _ _ _ (by omega) (dm_dk hd0) (dm_dk hd) z2
        · exact H.1.2 _ _ _ (by omega) (dm_dk hd0) (dm_dk hd) z2
        · subst h7
          unfold dm at hd0 hd
          omega
      simp only [setI, up2]
      show (if f' = f ∧ h (f' / 32) k' = h (f / 32) k then nI n else sI S f' (h (f' / 32) k')) = _
      rw [if_neg hne, H.2.1 f' k' hd0]
      unfold xv
      by_cases c1 : f' = 96 ∨ f' = 128
      · rw [if_pos c1, if_pos c1]
      · rw [if_neg c1, if_neg c1]
        by_cases c2 : f' = 67 ∨ f' = 68 ∨ f' = 70
        · rw [if_pos c2, if_pos c2]; rfl
        · rw [if_neg c2, if_neg c2, gN_1, if_neg (fun z0 => e ⟨h6 f' h0' z0.1, z0.2⟩)]
theorem XR.putV {z : Nat} {h : Nat → Nat → Nat} {t : Nat → Nat} {r : Rg} {G : GS} {S : Sto} (H : XR z h t r G S) (f k : Nat) (x : Int32) (hs : f = 67 ∨ f = 68 ∨ f = 70) (hd : k < 3) : XR z h t r (gV G (jv f) k x) (setI S f (h 2 k) x) := by
  have hj10 : (10 : Nat) ≠ jv f := by rcases hs with rfl | rfl | rfl <;> decide
  have hf2 : f / 32 = 2 := by omega
  refine H.congr (fun j hj => rfl) (gV_ne _ hj10) (fun _ _ => rfl) (fun _ _ _ => rfl) (fun _ _ _ => rfl) (fun _ _ _ => rfl) (fun _ _ => rfl) (fun f' a hf' _ => ?_) (fun f' k' hd' => ?_)
  · have : ¬ (f' = f ∧ a = h 2 k) := by omega
    simp only [setI, sI, up2, if_neg this]
  · have hd0 : dm G f' k' := hd'
    by_cases e : f' = f ∧ k' = k
    · obtain ⟨rfl, rfl⟩ := e
      have n4 : ¬ (f' = 96 ∨ f' = 128) := by omega
      rw [hf2]
      simp only [setI, sI, up2, and_self, if_true]
      unfold xv
      rw [if_neg n4, if_pos hs, gV_2, if_pos ⟨rfl, rfl⟩]
    · have hne : ¬ (f' = f ∧ h (f' / 32) k' = h 2 k) := fun z0 => by
        obtain ⟨rfl, z2⟩ := z0
        rw [hf2] at z2
        have hd1 := dm_dk hd0
        rw [hf2] at hd1
        exact e ⟨rfl, H.1.2 2 _ _ (by omega) hd1 (dkC hd) z2⟩
      show (if f' = f ∧ h (f' / 32) k' = h 2 k then x else sI S f' (h (f' / 32) k')) = _
      rw [if_neg hne, H.2.1 f' k' hd0]
      unfold xv
      by_cases c1 : f' = 96 ∨ f' = 128
      · rw [if_pos c1, if_pos c1]
      · rw [if_neg c1, if_neg c1]
        by_cases c2 : f' = 67 ∨ f' = 68 ∨ f' = 70
        · rw [if_pos c2, if_pos c2, gV_2, if_neg]
          intro z0
          apply e
          refine ⟨?_, z0.2⟩
          rcases hs with rfl | rfl | rfl <;> rcases c2 with rfl | rfl | rfl <;> first | rfl | (exact absurd z0.1 (by decide))
        · rw [if_neg c2, if_neg c2]; rfl
end
section
/-! rows over the class's cells -/
theorem WF.vw {G : GS} (h : WF G) {v : Nat} (hv : v < G.1 0 0) : 1 ≤ G.1 3 v ∧ G.1 3 v ≤ G.1 8 0 := ⟨(h.2.2.1 v hv).1, (h.2.2.1 v hv).2.1⟩
theorem WF.nw {G : GS} (h : WF G) : 1 ≤ G.1 8 0 ∧ G.1 8 0 ≤ G.1 8 0 := ⟨h.2.1.1, Nat.le_refl _⟩
theorem WF.m6 {G : GS} (h : WF G) {v : Nat} (hv : v < G.1 0 0) : v < 6 := Nat.lt_of_lt_of_le hv h.1.2
theorem WF.c {G G' : GS} (h : WF G) (h0 : G'.1 0 = G.1 0) (h1 : G'.1 1 = G.1 1) (h3 : G'.1 3 = G.1 3) (h7 : G'.1 7 = G.1 7) (h8 : G'.1 8 = G.1 8) (h5 : ∀ v, G'.1 5 v ≤ G'.1 4 v) : WF G' := by
  obtain ⟨a, b, c, d, e, f⟩ := h
  refine ⟨by rw [h0]; exact a, by rw [h8]; exact b, fun v hv => ?_, fun v hv => ?_, fun e w he hw => ?_, h5⟩
  · rw [h0] at hv
    rw [h3, h8, isIn_c h7]
    exact c v hv
  · rw [h0] at hv
    rw [h1]; exact d v hv
  · rw [h8] at he
    rw [isIn_c h7] at hw
    rw [h0]
    exact (‹∀ e w, e ≤ G.1 8 0 → isIn G e w = true → w < G.1 0 0›) e w he hw
section ROWS
variable {F : Fx} {cc : ByteArray} {own : String} {pc pc' tgt : Nat} {lv : List (Option Value)} {st : List Value} {S : Sto} {cs ss : Nat} {dF cF sF : Nat} {z : Nat} {h : Nat → Nat → Nat} {t : Nat → Nat} {G : GS}
theorem wx_getI (C : Cx F cc own dF cF sF) (hR : XE z h t G S) (f k : Nat) (x : Int32) {kd idx : Nat} (d : At cc pc (.getfield idx) 3 pc') (hf : FLs own idx f) (hkd : f / 32 = kd) (hr : rfk f = false) (hd : dm G f k) (hx : xv G f k = x) (kk : WS F pc' lv (.int x :: st) S cs ss) : WS F pc lv (.ref (h kd k) :: st) S cs ss := by
  subst hkd; subst hx
  obtain ⟨r, hR⟩ := hR
  refine ws_getI C d hf hr (hR.1.1 _ _ (dm_dk hd)) ?_
  rw [hR.2.1 f k hd]
  exact kk
theorem dp_dk {G : GS} {f k : Nat} (h : dp G f k) : dk G (f / 32) k := by
  unfold dp at h
  rcases h with ⟨rfl, hd⟩ | ⟨rfl | rfl, hd⟩ | ⟨hf, rfl⟩
  · exact dkF hd
  · exact dkN hd
  · exact dkN hd
  · have : f / 32 = 6 := by omega
    rw [this]
    exact dk6
theorem wx_getP (C : Cx F cc own dF cF sF) (hR : XE z h t G S) (f k b : Nat) {kd idx : Nat} (d : At cc pc (.getfield idx) 3 pc') (hf : FLs own idx f) (hkd : f / 32 = kd) (hr : rfk f = true) (hd : dp G f k) (hx : xq h G f k = b) (kk : WS F pc' lv (.ref b :: st) S cs ss) : WS F pc lv (.ref (h kd k) :: st) S cs ss := by
  subst hkd; subst hx
  obtain ⟨r, hR⟩ := hR
  exact ws_getP C d hf hr (hR.1.1 _ _ (dp_dk hd)) (hR.2.2.1 f k hd) kk
theorem wx_putN (C : Cx F cc own dF cF sF) (hR : XE z h t G S) (f k j : Nat) {n kd idx : Nat} (d : At cc pc (.putfield idx) 3 pc') (hf : FLs own idx f) (hkd : f / 32 = kd) (hj : jn f = j) (hs : smp f = true) (hr : rfk f = false) (hfin : (ctb (f / 32) (f % 32)).2.2.2 = false) (hn : narrow (tyk (f / 32) (f % 32)) (.int (nI n)) = .int (nI n) ∧ fits (tyk (f / 32) (f % 32)) (.int (nI n)) = true) (hd : dm G f k) (kk : ∀ S' : Sto, XE z h t (gN G j k n) S' → WS F pc' lv st S' cs ss) : WS F pc lv (.int (nI n) :: .ref (h kd k) :: st) S cs ss := by
  subst hkd; subst hj
  obtain ⟨r, hR⟩ := hR
  exact ws_putI C d hf hr hfin hn (hR.1.1 _ _ (dm_dk hd)) (kk _ ⟨r, hR.putN f k n hs hd⟩)
theorem wx_putV (C : Cx F cc own dF cF sF) (hR : XE z h t G S) (f k j : Nat) {x : Int32} {idx : Nat} (d : At cc pc (.putfield idx) 3 pc') (hf : FLs own idx f) (hj : jv f = j) (hs : f = 67 ∨ f = 68 ∨ f = 70) (hd : k < 3) (kk : ∀ S' : Sto, XE z h t (gV G j k x) S' → WS F pc' lv st S' cs ss) : WS F pc lv (.int x :: .ref (h 2 k) :: st) S cs ss := by
  subst hj
  obtain ⟨r, hR⟩ := hR
  have hk := hR.1.1 2 k (dkC hd)
  have hp := hR.putV f k x hs hd
  rcases hs with rfl | rfl | rfl
  · exact ws_putI C d hf rfl rfl ⟨rfl, rfl⟩ hk (kk _ ⟨r, hp⟩)
  · exact ws_putI C d hf rfl rfl ⟨rfl, rfl⟩ hk (kk _ ⟨r, hp⟩)
  · exact ws_putI C d hf rfl rfl ⟨rfl, rfl⟩ hk (kk _ ⟨r, hp⟩)
/-- nodes[v] -/
theorem wx_nod (C : Cx F cc own dF cF sF) (hR : XE z h t G S) {v : Nat} (d : At cc pc .aaload 1 pc') (hv : v < 6) (k1 : v < G.1 0 0 → WS F pc' lv (.ref (h 4 v) :: st) S cs ss) (k2 : ¬ v < G.1 0 0 → WS F pc' lv (.null :: st) S cs ss) : WS F pc lv (.int (nI v) :: .ref (h 11 0) :: st) S cs ss := by
  obtain ⟨r, hR⟩ := hR
  have hz := hR.2.2.2.1.1.1
  refine ws_aald C (kd := 11) (by decide) (by decide) d (hR.1.1 11 0 dk11) (by rw [hz]; exact hv) (by rw [hz]; decide) ?_
  rw [hR.2.2.2.1.2.2.1 v hv]
  by_cases hm : v < G.1 0 0
  · rw [if_pos hm]; exact k1 hm
  · rw [if_neg hm]; exact k2 hm
/-- clients[c] -/
theorem wx_cli (C : Cx F cc own dF cF sF) (hR : XE z h t G S) {c : Nat} (d : At cc pc .aaload 1 pc') (hc : c < 3) (k1 : WS F pc' lv (.ref (h 2 c) :: st) S cs ss) : WS F pc lv (.int (nI c) :: .ref (h 12 0) :: st) S cs ss := by
  obtain ⟨r, hR⟩ := hR
  have hz := hR.2.2.2.1.1.2.1
  refine ws_aald C (kd := 12) (by decide) (by decide) d (hR.1.1 12 0 dk12) (by rw [hz]; exact hc) (by rw [hz]; decide) ?_
  rw [hR.2.2.2.1.2.2.2 c hc]
  exact k1
/-- the members of a configuration -/
theorem mem_len (m : Nat) : (mem m).length ≤ 6 := by
  have := List.length_filter_le (fun w => m.testBit w) (List.range 6)
  rw [List.length_range] at this
  exact this
theorem wx_mln (C : Cx F cc own dF cF sF) (hR : XE z h t G S) {e : Nat} (d : At cc pc .arraylength 1 pc') (he : 1 ≤ e ∧ e ≤ G.1 8 0) (k1 : WS F pc' lv (.int (nI (mem (G.1 7 e)).length) :: st) S cs ss) : WS F pc lv (.ref (h 9 e) :: st) S cs ss := by
  obtain ⟨r, hR⟩ := hR
  refine ws_alen C (kd := 9) (by decide) (by decide) d (hR.1.1 9 e (dkM he)) ?_
  rw [(hR.2.2.2.1.2.1 e he.1 he.2).1]
  exact k1
theorem wx_mld (C : Cx F cc own dF cF sF) (hR : XE z h t G S) {e i m : Nat} (d : At cc pc .iaload 1 pc') (he : 1 ≤ e ∧ e ≤ G.1 8 0) (hi : (mem (G.1 7 e))[i]? = some m) (k1 : WS F pc' lv (.int (nI m) :: st) S cs ss) : WS F pc lv (.int (nI i) :: .ref (h 9 e) :: st) S cs ss := by
  obtain ⟨r, hR⟩ := hR
  have hA := hR.2.2.2.1.2.1 e he.1 he.2
  have hl := (List.getElem?_eq_some_iff.mp hi).1
  have h6 := mem_len (G.1 7 e)
  refine ws_iald C d (hR.1.1 9 e (dkM he)) (by rw [hA.1]; exact hl) (by rw [hA.1]; omega) ?_
  rw [hA.2 i m hi]
  exact k1
/-- fields of an update -/
theorem wx_up0 (C : Cx F cc own dF cF sF) {q k c r : Nat} {x : Int32} {idx : Nat} (hU : UPf S q k x c r) (d : At cc pc (.getfield idx) 3 pc') (hf : FLs own idx 160) (kk : WS F pc' lv (.int (nI k) :: st) S cs ss) : WS F pc lv (.ref q :: st) S cs ss := ws_getI C d hf rfl hU.1 (hU.2.1 ▸ kk)
theorem wx_up1 (C : Cx F cc own dF cF sF) {q k c r : Nat} {x : Int32} {idx : Nat} (hU : UPf S q k x c r) (d : At cc pc (.getfield idx) 3 pc') (hf : FLs own idx 161) (kk : WS F pc' lv (.int x :: st) S cs ss) : WS F pc lv (.ref q :: st) S cs ss := ws_getI C d hf rfl hU.1 (hU.2.2.1 ▸ kk)
theorem wx_up2 (C : Cx F cc own dF cF sF) {q k c r : Nat} {x : Int32} {idx : Nat} (hU : UPf S q k x c r) (d : At cc pc (.getfield idx) 3 pc') (hf : FLs own idx 162) (kk : WS F pc' lv (.int (nI c) :: st) S cs ss) : WS F pc lv (.ref q :: st) S cs ss := ws_getI C d hf rfl hU.1 (hU.2.2.2.1 ▸ kk)
theorem wx_up3 (C : Cx F cc own dF cF sF) {q k c r : Nat} {x : Int32} {idx : Nat} (hU : UPf S q k x c r) (d : At cc pc (.getfield idx) 3 pc') (hf : FLs own idx 163) (kk : WS F pc' lv (.int (nI r) :: st) S cs ss) : WS F pc lv (.ref q :: st) S cs ss := ws_getI C d hf rfl hU.1 (hU.2.2.2.2 ▸ kk)
/-- fields of a message -/
theorem wx_msI (C : Cx F cc own dF cF sF) {q idx f : Nat} {x : Int32} (d : At cc pc (.getfield idx) 3 pc') (hf : FLs own idx f) (h7 : f / 32 = 7) (hr : rfk f = false) (hk : sK S q = 7) (hx : sI S f q = x) (kk : WS F pc' lv (.int x :: st) S cs ss) : WS F pc lv (.ref q :: st) S cs ss := ws_getI C d hf hr (hk.trans h7.symm) (hx ▸ kk)
end ROWS
end
section
/-! the class: clients, configurations, nodes: what only reads, and the clients' writes -/
theorem XE.k {z : Nat} {h : Nat → Nat → Nat} {t : Nat → Nat} {G : GS} {S : Sto} (hR : XE z h t G S) {kd k : Nat} (hd : dk G kd k) : sK S (h kd k) = kd := by obtain ⟨r, hR⟩ := hR; exact hR.1.1 kd k hd
set_option maxHeartbeats 4000000 in
set_option maxRecDepth 100000 in
theorem c_Cl_isUnderWay {V : Ev} {h : Nat → Nat → Nat} {t : Nat → Nat} {G : GS} {S : Sto} (hR : XE (vZ V) h t G S) (hO : OK G) {c : Nat} (hc : c < 3) {P : Sto → Prop} (hP : P S) : CT V mi_Cl_isUnderWay 0 0 [.ref (h 2 c)] S (Pi (bI (decide (G.1 13 c % 2 = 1))) P) := by
  refine CT.of (cc := prog_2_method_2_code) (own := "ChainVersions$Client") (nL := 1) (d := 0) (by decide) rfl rfl rfl rfl (by simp [Value.category]) (Nat.le_of_ble_eq_true rfl) rfl ?_
  intro F hV hn C R
  subst hV
  have hb : G.1 13 c ≤ 4 := hO 13 c
  refine ws_aload_n C d_Cl_isUnderWay_0 rfl ?_
  refine wx_getI C hR 64 c (nI (G.1 13 c)) d_Cl_isUnderWay_1 f_Cl_9 rfl rfl (dmC (by decide) hc) rfl ?_
  refine ws_iconst C (nI 1) d_Cl_isUnderWay_4 (by decide) ?_
  refine ws_icmp_eqN C d_Cl_isUnderWay_5 (by first | omega | exact okl hO _ _) (by first | omega | exact okl hO _ _) (fun h5 => ?_) (fun h5 => ?_)
  · refine ws_iconst C (nI 1) d_Cl_isUnderWay_16 (by decide) ?_
    refine ws_goto C d_Cl_isUnderWay_17 ?_
    exact ws_zret C R d_Cl_isUnderWay_21 rfl (by decide) (by decide) (by decide) ⟨by rw [show decide (G.1 13 c % 2 = 1) = true from decide_eq_true (by omega)]; rfl, hP⟩
  · refine ws_aload_n C d_Cl_isUnderWay_8 rfl ?_
    refine wx_getI C hR 64 c (nI (G.1 13 c)) d_Cl_isUnderWay_9 f_Cl_9 rfl rfl (dmC (by decide) hc) rfl ?_
    refine ws_iconst C (nI 3) d_Cl_isUnderWay_12 (by decide) ?_
    refine ws_icmp_neN C d_Cl_isUnderWay_13 (by first | omega | exact okl hO _ _) (by first | omega | exact okl hO _ _) (fun h13 => ?_) (fun h13 => ?_)
    · refine ws_iconst C (nI 0) d_Cl_isUnderWay_20 (by decide) ?_
      exact ws_zret C R d_Cl_isUnderWay_21 rfl (by decide) (by decide) (by decide) ⟨by rw [show decide (G.1 13 c % 2 = 1) = false from decide_eq_false (by omega)]; rfl, hP⟩
    · refine ws_iconst C (nI 1) d_Cl_isUnderWay_16 (by decide) ?_
      refine ws_goto C d_Cl_isUnderWay_17 ?_
      exact ws_zret C R d_Cl_isUnderWay_21 rfl (by decide) (by decide) (by decide) ⟨by rw [show decide (G.1 13 c % 2 = 1) = true from decide_eq_true (by omega)]; rfl, hP⟩
set_option maxHeartbeats 4000000 in
set_option maxRecDepth 100000 in
theorem c_Cl_isDone {V : Ev} {h : Nat → Nat → Nat} {t : Nat → Nat} {G : GS} {S : Sto} (hR : XE (vZ V) h t G S) (hO : OK G) {c : Nat} (hc : c < 3) {P : Sto → Prop} (hP : P S) : CT V mi_Cl_isDone 0 0 [.ref (h 2 c)] S (Pi (bI (G.1 13 c == 2 || G.1 13 c == 4)) P) := by
  refine CT.of (cc := prog_2_method_3_code) (own := "ChainVersions$Client") (nL := 1) (d := 0) (by decide) rfl rfl rfl rfl (by simp [Value.category]) (Nat.le_of_ble_eq_true rfl) rfl ?_
  intro F hV hn C R
  subst hV
  refine ws_aload_n C d_Cl_isDone_0 rfl ?_
  refine wx_getI C hR 64 c (nI (G.1 13 c)) d_Cl_isDone_1 f_Cl_9 rfl rfl (dmC (by decide) hc) rfl ?_
  refine ws_iconst C (nI 2) d_Cl_isDone_4 (by decide) ?_
  refine ws_icmp_eqN C d_Cl_isDone_5 (by first | omega | exact okl hO _ _) (by first | omega | exact okl hO _ _) (fun h5 => ?_) (fun h5 => ?_)
  · refine ws_iconst C (nI 1) d_Cl_isDone_16 (by decide) ?_
    refine ws_goto C d_Cl_isDone_17 ?_
    exact ws_zret C R d_Cl_isDone_21 rfl (by decide) (by decide) (by decide) ⟨by simp [bI, nI_0, nI_one, *], hP⟩
  · refine ws_aload_n C d_Cl_isDone_8 rfl ?_
    refine wx_getI C hR 64 c (nI (G.1 13 c)) d_Cl_isDone_9 f_Cl_9 rfl rfl (dmC (by decide) hc) rfl ?_
    refine ws_iconst C (nI 4) d_Cl_isDone_12 (by decide) ?_
    refine ws_icmp_neN C d_Cl_isDone_13 (by first | omega | exact okl hO _ _) (by first | omega | exact okl hO _ _) (fun h13 => ?_) (fun h13 => ?_)
    · refine ws_iconst C (nI 0) d_Cl_isDone_20 (by decide) ?_
      exact ws_zret C R d_Cl_isDone_21 rfl (by decide) (by decide) (by decide) ⟨by simp [bI, nI_0, nI_one, *], hP⟩
    · refine ws_iconst C (nI 1) d_Cl_isDone_16 (by decide) ?_
      refine ws_goto C d_Cl_isDone_17 ?_
      exact ws_zret C R d_Cl_isDone_21 rfl (by decide) (by decide) (by decide) ⟨by simp [bI, nI_0, nI_one, *], hP⟩
set_option maxHeartbeats 4000000 in
set_option maxRecDepth 100000 in
theorem c_Cl_isReadingAt {V : Ev} {h : Nat → Nat → Nat} {t : Nat → Nat} {G : GS} {S : Sto} (hR : XE (vZ V) h t G S) (hO : OK G) {c : Nat} (hc : c < 3) (x : Int32) {P : Sto → Prop} (hP : P S) : CT V mi_Cl_isReadingAt 0 0 [.ref (h 2 c), .int x] S (Pi (bI (decide (G.1 13 c = 3 ∧ G.2 29 c = x))) P) := by
  refine CT.of (cc := prog_2_method_4_code) (own := "ChainVersions$Client") (nL := 2) (d := 0) (by decide) rfl rfl rfl rfl (by simp [Value.category]) (Nat.le_of_ble_eq_true rfl) rfl ?_
  intro F hV hn C R
  subst hV
  refine ws_aload_n C d_Cl_isReadingAt_0 rfl ?_
  refine wx_getI C hR 64 c (nI (G.1 13 c)) d_Cl_isReadingAt_1 f_Cl_9 rfl rfl (dmC (by decide) hc) rfl ?_
  refine ws_iconst C (nI 3) d_Cl_isReadingAt_4 (by decide) ?_
  refine ws_icmp_neN C d_Cl_isReadingAt_5 (by first | omega | exact okl hO _ _) (by first | omega | exact okl hO _ _) (fun h5 => ?_) (fun h5 => ?_)
  · refine ws_iconst C (nI 0) d_Cl_isReadingAt_20 (by decide) ?_
    exact ws_zret C R d_Cl_isReadingAt_21 rfl (by decide) (by decide) (by decide) ⟨by simp [bI, nI_0, nI_one, *], hP⟩
  · refine ws_aload_n C d_Cl_isReadingAt_8 rfl ?_
    refine wx_getI C hR 68 c (G.2 29 c) d_Cl_isReadingAt_9 f_Cl_15 rfl rfl (dmC (by decide) hc) rfl ?_
    refine ws_iload_n C d_Cl_isReadingAt_12 rfl ?_
    refine ws_icmp_ne C d_Cl_isReadingAt_13 (fun h13 => ?_) (fun h13 => ?_)
    · refine ws_iconst C (nI 0) d_Cl_isReadingAt_20 (by decide) ?_
      exact ws_zret C R d_Cl_isReadingAt_21 rfl (by decide) (by decide) (by decide) ⟨by simp [bI, nI_0, nI_one, *], hP⟩
    · refine ws_iconst C (nI 1) d_Cl_isReadingAt_16 (by decide) ?_
      refine ws_goto C d_Cl_isReadingAt_17 ?_
      exact ws_zret C R d_Cl_isReadingAt_21 rfl (by decide) (by decide) (by decide) ⟨by simp [bI, nI_0, nI_one, *], hP⟩
set_option maxHeartbeats 4000000 in
set_option maxRecDepth 100000 in
theorem c_Cl_beginWrite {V : Ev} {h : Nat → Nat → Nat} {t : Nat → Nat} {G : GS} {S : Sto} (hR : XE (vZ V) h t G S) (hO : OK G) {c k : Nat} {x : Int32} (hc : c < 3) : CT V mi_Cl_beginWrite 0 0 [.ref (h 2 c), .int (nI k), .int x] S (Pv (XE (vZ V) h t (gV (gN (gN (gN G 13 c 1) 14 c (G.1 14 c + 1)) 15 c k) 16 c x))) := by
  refine CT.of (cc := prog_2_method_5_code) (own := "ChainVersions$Client") (nL := 3) (d := 0) (by decide) rfl rfl rfl rfl (by simp [Value.category]) (Nat.le_of_ble_eq_true rfl) rfl ?_
  intro F hV hn C R
  subst hV
  refine ws_aload_n C d_Cl_beginWrite_0 rfl ?_
  refine ws_iconst C (nI 1) d_Cl_beginWrite_1 (by decide) ?_
  refine wx_putN C hR 64 c 13 d_Cl_beginWrite_2 f_Cl_9 rfl rfl rfl rfl rfl ⟨rfl, rfl⟩ (dmC (by decide) hc) (fun S hR => ?_)
  refine ws_aload_n C d_Cl_beginWrite_5 rfl ?_
  refine ws_dup C d_Cl_beginWrite_6 rfl ?_
  refine wx_getI C hR 65 c (nI (G.1 14 c)) d_Cl_beginWrite_7 f_Cl_18 rfl rfl (dmC (by decide) hc) rfl ?_
  refine ws_top (nI (G.1 14 c)) (by simp [gN_1, gN_2, gV_1, gV_2]) ?_
  refine ws_iconst C (nI 1) d_Cl_beginWrite_10 (by decide) ?_
  refine ws_iaddN C d_Cl_beginWrite_11 ?_
  refine wx_putN C hR 65 c 14 d_Cl_beginWrite_12 f_Cl_18 rfl rfl rfl rfl rfl ⟨rfl, rfl⟩ (dmC (by decide) hc) (fun S hR => ?_)
  refine ws_aload_n C d_Cl_beginWrite_15 rfl ?_
  refine ws_iload_n C d_Cl_beginWrite_16 rfl ?_
  refine wx_putN C hR 66 c 15 d_Cl_beginWrite_17 f_Cl_21 rfl rfl rfl rfl rfl ⟨rfl, rfl⟩ (dmC (by decide) hc) (fun S hR => ?_)
  refine ws_aload_n C d_Cl_beginWrite_20 rfl ?_
  refine ws_iload_n C d_Cl_beginWrite_21 rfl ?_
  refine wx_putV C hR 67 c 16 d_Cl_beginWrite_22 f_Cl_24 rfl (by decide) hc (fun S hR => ?_)
  exact ws_vret C R d_Cl_beginWrite_25 rfl (by decide) (by decide) ⟨rfl, hR⟩
set_option maxHeartbeats 4000000 in
set_option maxRecDepth 100000 in
theorem c_Cl_beginRead {V : Ev} {h : Nat → Nat → Nat} {t : Nat → Nat} {G : GS} {S : Sto} (hR : XE (vZ V) h t G S) (hO : OK G) {c k : Nat} (hc : c < 3) : CT V mi_Cl_beginRead 0 0 [.ref (h 2 c), .int (nI k)] S (Pv (XE (vZ V) h t (gN (gV (gN G 13 c 3) 29 c (-1)) 15 c k))) := by
  refine CT.of (cc := prog_2_method_6_code) (own := "ChainVersions$Client") (nL := 2) (d := 0) (by decide) rfl rfl rfl rfl (by simp [Value.category]) (Nat.le_of_ble_eq_true rfl) rfl ?_
  intro F hV hn C R
  subst hV
  refine ws_aload_n C d_Cl_beginRead_0 rfl ?_
  refine ws_iconst C (nI 3) d_Cl_beginRead_1 (by decide) ?_
  refine wx_putN C hR 64 c 13 d_Cl_beginRead_2 f_Cl_9 rfl rfl rfl rfl rfl ⟨rfl, rfl⟩ (dmC (by decide) hc) (fun S hR => ?_)
  refine ws_aload_n C d_Cl_beginRead_5 rfl ?_
  refine ws_iconst C (-1) d_Cl_beginRead_6 (by decide) ?_
  refine wx_putV C hR 68 c 29 d_Cl_beginRead_7 f_Cl_15 rfl (by decide) hc (fun S hR => ?_)
  refine ws_aload_n C d_Cl_beginRead_10 rfl ?_
  refine ws_iload_n C d_Cl_beginRead_11 rfl ?_
  refine wx_putN C hR 66 c 15 d_Cl_beginRead_12 f_Cl_21 rfl rfl rfl rfl rfl ⟨rfl, rfl⟩ (dmC (by decide) hc) (fun S hR => ?_)
  exact ws_vret C R d_Cl_beginRead_15 rfl (by decide) (by decide) ⟨rfl, hR⟩
set_option maxHeartbeats 4000000 in
set_option maxRecDepth 100000 in
theorem c_Cl_finish {V : Ev} {h : Nat → Nat → Nat} {t : Nat → Nat} {G : GS} {S : Sto} (hR : XE (vZ V) h t G S) (hO : OK G) {c s n : Nat} {x : Int32} (hc : c < 3) : CT V mi_Cl_finish 0 0 [.ref (h 2 c), .int (nI s), .int (nI n), .int x] S (Pv (XE (vZ V) h t (gV (gN (gN G 13 c s) 18 c n) 19 c x))) := by
  refine CT.of (cc := prog_2_method_7_code) (own := "ChainVersions$Client") (nL := 4) (d := 0) (by decide) rfl rfl rfl rfl (by simp [Value.category]) (Nat.le_of_ble_eq_true rfl) rfl ?_
  intro F hV hn C R
  subst hV
  refine ws_aload_n C d_Cl_finish_0 rfl ?_
  refine ws_iload_n C d_Cl_finish_1 rfl ?_
  refine wx_putN C hR 64 c 13 d_Cl_finish_2 f_Cl_9 rfl rfl rfl rfl rfl ⟨rfl, rfl⟩ (dmC (by decide) hc) (fun S hR => ?_)
  refine ws_aload_n C d_Cl_finish_5 rfl ?_
  refine ws_iload_n C d_Cl_finish_6 rfl ?_
  refine wx_putN C hR 69 c 18 d_Cl_finish_7 f_Cl_27 rfl rfl rfl rfl rfl ⟨rfl, rfl⟩ (dmC (by decide) hc) (fun S hR => ?_)
  refine ws_aload_n C d_Cl_finish_10 rfl ?_
  refine ws_iload_n C d_Cl_finish_11 rfl ?_
  refine wx_putV C hR 70 c 19 d_Cl_finish_12 f_Cl_30 rfl (by decide) hc (fun S hR => ?_)
  exact ws_vret C R d_Cl_finish_15 rfl (by decide) (by decide) ⟨rfl, hR⟩
def mAt (G : GS) (e : Nat) (x : Int32) : Int32 := if x < 0 then -1 else match (mem (G.1 7 e))[ix x]? with
  | some m => nI m
  | none => -1
theorem mem_at {m i : Nat} (h : i < (mem m).length) : ∃ w, (mem m)[i]? = some w := ⟨_, List.getElem?_eq_getElem h⟩
set_option maxHeartbeats 4000000 in
set_option maxRecDepth 100000 in
theorem c_Cf_memberAt {V : Ev} {h : Nat → Nat → Nat} {t : Nat → Nat} {G : GS} {S : Sto} (hR : XE (vZ V) h t G S) (hO : OK G) {e : Nat} (he : 1 ≤ e ∧ e ≤ G.1 8 0) (x : Int32) {P : Sto → Prop} (hP : P S) : CT V mi_Cf_memberAt 0 0 [.ref (h 3 e), .int x] S (Pi (mAt G e x) P) := by
  refine CT.of (cc := prog_3_method_2_code) (own := "ChainVersions$Configuration") (nL := 2) (d := 0) (by decide) rfl rfl rfl rfl (by simp [Value.category]) (Nat.le_of_ble_eq_true rfl) rfl ?_
  intro F hV hn C R
  subst hV
  refine ws_iload_n C d_Cf_memberAt_0 rfl ?_
  refine ws_if_lt C d_Cf_memberAt_1 (fun h1 => ?_) (fun h1 => ?_)
  · refine ws_iconst C (-1) d_Cf_memberAt_22 (by decide) ?_
    exact ws_iret C R d_Cf_memberAt_23 rfl (by decide) (by decide) ⟨by rw [mAt, if_pos h1], hP⟩
  · obtain ⟨j, hj, rfl⟩ := nI_of h1
    have ej : ix (nI j) = j := ix_n hj
    have hl := mem_len (G.1 7 e)
    refine ws_iload_n C d_Cf_memberAt_4 rfl ?_
    refine ws_aload_n C d_Cf_memberAt_5 rfl ?_
    refine wx_getP C hR 97 e (h 9 e) d_Cf_memberAt_6 f_Cf_15 rfl rfl (dpF he) rfl ?_
    refine wx_mln C hR d_Cf_memberAt_9 he ?_
    refine ws_icmp_geN C d_Cf_memberAt_10 (by omega) (by omega) (fun h10 => ?_) (fun h10 => ?_)
    · refine ws_iconst C (-1) d_Cf_memberAt_22 (by decide) ?_
      exact ws_iret C R d_Cf_memberAt_23 rfl (by decide) (by decide) ⟨by rw [mAt, if_neg h1, ej, List.getElem?_eq_none h10], hP⟩
    · obtain ⟨w, hw⟩ := mem_at (show j < (mem (G.1 7 e)).length by omega)
      refine ws_aload_n C d_Cf_memberAt_13 rfl ?_
      refine wx_getP C hR 97 e (h 9 e) d_Cf_memberAt_14 f_Cf_15 rfl rfl (dpF he) rfl ?_
      refine ws_iload_n C d_Cf_memberAt_17 rfl ?_
      refine wx_mld C hR d_Cf_memberAt_18 he hw ?_
      refine ws_goto C d_Cf_memberAt_19 ?_
      exact ws_iret C R d_Cf_memberAt_23 rfl (by decide) (by decide) ⟨by rw [mAt, if_neg h1, ej, hw], hP⟩
set_option maxHeartbeats 4000000 in
set_option maxRecDepth 100000 in
theorem c_Cf_head {V : Ev} {h : Nat → Nat → Nat} {t : Nat → Nat} {G : GS} {S : Sto} (hR : XE (vZ V) h t G S) (hO : OK G) {e : Nat} (he : 1 ≤ e ∧ e ≤ G.1 8 0) {P : Sto → Prop} (hP : P S) : CT V mi_Cf_head 0 0 [.ref (h 3 e)] S (Pi (mAt G e (nI 0)) P) := by
  refine CT.of (cc := prog_3_method_3_code) (own := "ChainVersions$Configuration") (nL := 1) (d := 1) (by decide) rfl rfl rfl rfl (by simp [Value.category]) (Nat.le_of_ble_eq_true rfl) rfl ?_
  intro F hV hn C R
  subst hV
  refine ws_aload_n C d_Cf_head_0 rfl ?_
  refine ws_iconst C (nI 0) d_Cf_head_1 (by decide) ?_
  refine ws_callVi C w_Cf_19 (As := [_]) (c_Cf_memberAt hR hO he (nI 0) (P := fun S' => S = S') rfl) d_Cf_head_2 rfl rfl (XE.k hR (dkF he)) (Nat.le_of_ble_eq_true rfl) (by decide) (by decide) (by decide) (fun S' hS' => ?_)
  subst hS'
  exact ws_iret C R d_Cf_head_5 rfl (by decide) (by decide) ⟨rfl, hP⟩
set_option maxHeartbeats 4000000 in
set_option maxRecDepth 100000 in
theorem c_Cf_tail {V : Ev} {h : Nat → Nat → Nat} {t : Nat → Nat} {G : GS} {S : Sto} (hR : XE (vZ V) h t G S) (hO : OK G) {e : Nat} (he : 1 ≤ e ∧ e ≤ G.1 8 0) {P : Sto → Prop} (hP : P S) : CT V mi_Cf_tail 0 0 [.ref (h 3 e)] S (Pi (mAt G e (nI (mem (G.1 7 e)).length - nI 1)) P) := by
  refine CT.of (cc := prog_3_method_4_code) (own := "ChainVersions$Configuration") (nL := 1) (d := 1) (by decide) rfl rfl rfl rfl (by simp [Value.category]) (Nat.le_of_ble_eq_true rfl) rfl ?_
  intro F hV hn C R
  subst hV
  refine ws_aload_n C d_Cf_tail_0 rfl ?_
  refine ws_aload_n C d_Cf_tail_1 rfl ?_
  refine wx_getP C hR 97 e (h 9 e) d_Cf_tail_2 f_Cf_15 rfl rfl (dpF he) rfl ?_
  refine wx_mln C hR d_Cf_tail_5 he ?_
  refine ws_iconst C (nI 1) d_Cf_tail_6 (by decide) ?_
  refine ws_isub C d_Cf_tail_7 ?_
  refine ws_callVi C w_Cf_19 (As := [_]) (c_Cf_memberAt hR hO he (nI (mem (G.1 7 e)).length - nI 1) (P := fun S' => S = S') rfl) d_Cf_tail_8 rfl rfl (XE.k hR (dkF he)) (Nat.le_of_ble_eq_true rfl) (by decide) (by decide) (by decide) (fun S' hS' => ?_)
  subst hS'
  exact ws_iret C R d_Cf_tail_11 rfl (by decide) (by decide) ⟨rfl, hP⟩
end
section
/-! configurations as masks of six bits: neighbours, ends, members in order -/
def prdM (m : Nat) : Nat → Option Nat
  | 0 => none
  | w + 1 => if m.testBit w = true then some w else prdM m w
def sucM (m : Nat) : Nat → Option Nat
  | 0 => none
  | n + 1 => if m.testBit (5 - n) = true then some (5 - n) else sucM m n
def mbM (m : Nat) : Nat → Nat → Option Nat
  | 0, _ => none
  | n + 1, k => if m.testBit (5 - n) = true then (if k = 0 then some (5 - n) else mbM m n (k - 1)) else mbM m n k
theorem prdF_M (G : GS) (e n : Nat) : prdF G e n = prdM (G.1 7 e) n := by
  induction n with
  | zero => rfl
  | succ n ih => rw [prdF, prdM, isIn, ih]
theorem sucF_M (G : GS) (e n : Nat) : sucF G e n = sucM (G.1 7 e) n := by
  induction n with
  | zero => rfl
  | succ n ih => rw [sucF, sucM, isIn, ih]
theorem mbN_M (G : GS) (e n : Nat) : ∀ k, mbN G e n k = mbM (G.1 7 e) n k := by
  induction n with
  | zero => intro k; rfl
  | succ n ih => intro k; rw [mbN, mbM, isIn, ih, ih]
theorem mbM_lt {m n : Nat} : ∀ {k x : Nat}, mbM m n k = some x → k < n := by
  induction n with
  | zero => intro k x h; cases h
  | succ n ih =>
    intro k x h
    rw [mbM] at h
    split at h
    · split at h
      · omega
      · have := ih h; omega
    · have := ih h; omega
theorem mk_1 : ∀ m, m < 64 → (mem m)[0]? = sucM m 6 ∧ (mem m)[(mem m).length - 1]? = prdM m 6 := by decide +kernel
def ixo (m v : Nat) : Nat := (mem m).idxOf v
theorem mk_2a : ∀ m, m < 64 → ∀ v, v < 6 → m.testBit v = true → (mem m)[ixo m v]? = some v := by decide +kernel
theorem mk_2b : ∀ m, m < 64 → ∀ v, v < 6 → ixo m v < 7 := by decide +kernel
theorem mk_2c : ∀ m, m < 64 → ∀ v, v < 6 → m.testBit v = true → (mem m)[ixo m v + 1]? = sucM m (5 - v) := by decide +kernel
theorem mk_2d : ∀ m, m < 64 → ∀ v, v < 6 → m.testBit v = true → ixo m v = 0 → prdM m v = none := by decide +kernel
theorem mk_2e : ∀ m, m < 64 → ∀ v, v < 6 → m.testBit v = true → ¬ ixo m v = 0 → (mem m)[ixo m v - 1]? = prdM m v := by decide +kernel
theorem mk_2 (m : Nat) (hm : m < 64) (v : Nat) (hv : v < 6) (hb : m.testBit v = true) : (mem m)[ixo m v]? = some v ∧ ixo m v < 7 ∧ (mem m)[ixo m v + 1]? = sucM m (5 - v) ∧ (ixo m v = 0 → prdM m v = none) ∧ (¬ ixo m v = 0 → (mem m)[ixo m v - 1]? = prdM m v) := ⟨mk_2a m hm v hv hb, mk_2b m hm v hv, mk_2c m hm v hv hb, mk_2d m hm v hv hb, mk_2e m hm v hv hb⟩
theorem mk_3 : ∀ m, m < 64 → ∀ v, v < 6 → ∀ j, j < 6 → j < ixo m v → ¬ (mem m)[j]? = some v := by decide +kernel
theorem mk_4 : ∀ m, m < 64 → ∀ v, v < 6 → m.testBit v = true → ((sucM m 6 = some v ↔ prdM m v = none) ∧ (prdM m 6 = some v ↔ sucM m (5 - v) = none)) := by decide +kernel
theorem mk_5 : ∀ m, m < 64 → ∀ k, k < 6 → (mem m)[k]? = mbM m 6 k := by decide +kernel
theorem mk_6 : ∀ m, m < 64 → (¬ (mem m).length = 0 ↔ ¬ prdM m 6 = none) := by decide +kernel
theorem mem_nth {m : Nat} (hm : m ≤ 63) (k : Nat) : (mem m)[k]? = mbM m 6 k := by
  by_cases hk : k < 6
  · exact mk_5 m (by omega) k hk
  · have h1 : (mem m)[k]? = none := List.getElem?_eq_none (by have := mem_len m; omega)
    rw [h1]
    cases h : mbM m 6 k with
    | none => rfl
    | some x => exact absurd (mbM_lt h) hk
theorem oI_inj {a : Option Nat} {v : Nat} (ha : ∀ x, a = some x → x < 2 ^ 31) (hv : v < 2 ^ 31) : oI a = nI v ↔ a = some v := by
  cases a with
  | none =>
    constructor
    · intro h
      exact absurd (congrArg Int32.toInt h) (by rw [nI_toInt hv]; show (-1 : Int) ≠ _; omega)
    · intro h; cases h
  | some x =>
    show nI x = nI v ↔ _
    rw [nI_eq (ha x rfl) hv]
    exact ⟨fun h => by rw [h], fun h => Option.some.inj h⟩
theorem mAt_o (G : GS) (e i : Nat) (hi : i < 2 ^ 31) : mAt G e (nI i) = oI (mem (G.1 7 e))[i]? := by
  unfold mAt
  rw [if_neg (nI_pos hi), ix_n hi]
  cases (mem (G.1 7 e))[i]? <;> rfl
theorem mAt_hd {G : GS} (hO : OK G) (e : Nat) : mAt G e (nI 0) = oI (sucF G e 6) := by
  have h7 : G.1 7 e ≤ 63 := hO 7 e
  rw [mAt_o G e 0 (by decide), sucF_M, (mk_1 _ (by omega)).1]
theorem mAt_tl {G : GS} (hO : OK G) (e : Nat) : mAt G e (nI (mem (G.1 7 e)).length - nI 1) = oI (tlo G e) := by
  have h7 : G.1 7 e ≤ 63 := hO 7 e
  have hl := mem_len (G.1 7 e)
  have h1 := mk_1 _ (show G.1 7 e < 64 by omega)
  have h6 := mk_6 _ (show G.1 7 e < 64 by omega)
  unfold tlo
  rw [prdF_M]
  by_cases h0 : (mem (G.1 7 e)).length = 0
  · rw [h0]
    have : prdM (G.1 7 e) 6 = none := Decidable.byContradiction (fun z => (h6.mpr z) h0)
    rw [this]
    have e1 : nI 0 - nI 1 = -1 := by decide
    rw [e1]
    rfl
  · rw [nI_sub (by omega), mAt_o _ _ _ (by omega), h1.2]
theorem hd_iff {G : GS} (hO : OK G) {e v : Nat} (hv : v < 6) (hi : isIn G e v = true) : mAt G e (nI 0) = nI v ↔ prdF G e v = none := by
  have h7 : G.1 7 e ≤ 63 := hO 7 e
  rw [mAt_hd hO, oI_inj (fun x hx => by have := (sucF_le hx).1; omega) (by omega), sucF_M, prdF_M]
  exact (mk_4 _ (by omega) v hv hi).1
theorem tl_iff {G : GS} (hO : OK G) {e v : Nat} (hv : v < 6) (hi : isIn G e v = true) : mAt G e (nI (mem (G.1 7 e)).length - nI 1) = nI v ↔ sucF G e (5 - v) = none := by
  have h7 : G.1 7 e ≤ 63 := hO 7 e
  rw [mAt_tl hO, oI_inj (fun x hx => by have := prdF_lt hx; omega) (by omega), tlo, sucF_M, prdF_M]
  exact (mk_4 _ (by omega) v hv hi).2
theorem mAt_mb {G : GS} (hO : OK G) (e : Nat) (x : Int32) : mAt G e x = if x < 0 then -1 else oI (mbN G e 6 (ix x)) := by
  have h7 : G.1 7 e ≤ 63 := hO 7 e
  unfold mAt
  by_cases h : x < 0
  · rw [if_pos h, if_pos h]
  · rw [if_neg h, if_neg h, mem_nth h7, mbN_M]
    cases mbM (G.1 7 e) 6 (ix x) <;> rfl
end
section
/-! the class: neighbours; nodes: what only reads -/
theorem mem_lt {m i w : Nat} (h : (mem m)[i]? = some w) : w < 2 ^ 31 := by
  have h1 := List.mem_of_getElem? h
  have h2 := List.mem_range.mp (List.mem_filter.mp h1).1
  omega
set_option maxHeartbeats 4000000 in
set_option maxRecDepth 100000 in
theorem c_Cf_neighbour_p {V : Ev} {h : Nat → Nat → Nat} {t : Nat → Nat} {G : GS} {S : Sto} (hR : XE (vZ V) h t G S) (hO : OK G) {e : Nat} (he : 1 ≤ e ∧ e ≤ G.1 8 0) {v : Nat} (hv : v < 6) (hi : isIn G e v = true) {P : Sto → Prop} (hP : P S) : CT V mi_Cf_neighbour 0 0 [.ref (h 3 e), .int (nI v), .int (-1)] S (Pi (oI (prdF G e v)) P) := by
  refine CT.of (cc := prog_3_method_5_code) (own := "ChainVersions$Configuration") (nL := 5) (d := 0) (by decide) rfl rfl rfl rfl (by simp [Value.category]) (Nat.le_of_ble_eq_true rfl) rfl ?_
  intro F hV hn C R
  subst hV
  refine ws_iconst C (nI 0) d_Cf_neighbour_0 (by decide) ?_
  refine ws_istore_n C d_Cf_neighbour_1 (by rw [hn]; decide) ?_
  have h7 : G.1 7 e ≤ 63 := hO 7 e
  have hl := mem_len (G.1 7 e)
  obtain ⟨p1, p2, p3, p4, p5⟩ := mk_2 _ (show G.1 7 e < 64 by omega) v hv hi
  have p6 := mk_3 _ (show G.1 7 e < 64 by omega) v hv
  have hpl := (List.getElem?_eq_some_iff.mp p1).1
  generalize ixo (G.1 7 e) v = p at *
  suffices hL : ∀ n i, i + n = p → WS F 2 [some (.ref (h 3 e)), some (.int (nI v)), some (.int (-1)), some (.int (nI i)), none] [] S 0 0 from hL p 0 (by omega)
  intro n
  induction n with
  | zero =>
    intro i hip
    have e1 : i = p := by omega
    subst e1
    refine ws_iload_n C d_Cf_neighbour_2 rfl ?_
    refine ws_aload_n C d_Cf_neighbour_3 rfl ?_
    refine wx_getP C hR 97 e (h 9 e) d_Cf_neighbour_4 f_Cf_15 rfl rfl (dpF he) rfl ?_
    refine wx_mln C hR d_Cf_neighbour_7 he ?_
    refine ws_icmp_geN C d_Cf_neighbour_8 (by omega) (by omega) (fun h8 => ?_) (fun h8 => ?_)
    · omega
    · refine ws_aload_n C d_Cf_neighbour_11 rfl ?_
      refine wx_getP C hR 97 e (h 9 e) d_Cf_neighbour_12 f_Cf_15 rfl rfl (dpF he) rfl ?_
      refine ws_iload_n C d_Cf_neighbour_15 rfl ?_
      refine wx_mld C hR d_Cf_neighbour_16 he p1 ?_
      refine ws_iload_n C d_Cf_neighbour_17 rfl ?_
      refine ws_icmp_neN C d_Cf_neighbour_18 (by omega) (by omega) (fun z => absurd rfl z) (fun _ => ?_)
      refine ws_iload_n C d_Cf_neighbour_21 rfl ?_
      refine ws_iload_n C d_Cf_neighbour_22 rfl ?_
      refine ws_iadd C d_Cf_neighbour_23 ?_
      refine ws_istore C d_Cf_neighbour_24 (by rw [hn]; decide) ?_
      by_cases i0 : i = 0
      · have e2 : nI i + (-1) = -1 := by rw [i0]; decide
        rw [e2]
        refine ws_iload C d_Cf_neighbour_26 rfl ?_
        refine ws_if_ltM C d_Cf_neighbour_28 ?_
        refine ws_iconst C (-1) d_Cf_neighbour_51 (by decide) ?_
        exact ws_iret C R d_Cf_neighbour_52 rfl (by decide) (by decide) ⟨by rw [prdF_M, p4 i0]; rfl, hP⟩
      · have e2 : nI i + (-1) = nI (i - 1) := dec1 (by omega)
        rw [e2]
        have p7 := p5 i0
        obtain ⟨w, hw⟩ := mem_at (show i - 1 < (mem (G.1 7 e)).length by omega)
        refine ws_iload C d_Cf_neighbour_26 rfl ?_
        refine ws_if_ltN C d_Cf_neighbour_28 (by omega) ?_
        refine ws_iload C d_Cf_neighbour_31 rfl ?_
        refine ws_aload_n C d_Cf_neighbour_33 rfl ?_
        refine wx_getP C hR 97 e (h 9 e) d_Cf_neighbour_34 f_Cf_15 rfl rfl (dpF he) rfl ?_
        refine wx_mln C hR d_Cf_neighbour_37 he ?_
        refine ws_icmp_geN C d_Cf_neighbour_38 (by omega) (by omega) (fun h38 => ?_) (fun h38 => ?_)
        · omega
        · refine ws_aload_n C d_Cf_neighbour_41 rfl ?_
          refine wx_getP C hR 97 e (h 9 e) d_Cf_neighbour_42 f_Cf_15 rfl rfl (dpF he) rfl ?_
          refine ws_iload C d_Cf_neighbour_45 rfl ?_
          refine wx_mld C hR d_Cf_neighbour_47 he hw ?_
          refine ws_goto C d_Cf_neighbour_48 ?_
          exact ws_iret C R d_Cf_neighbour_52 rfl (by decide) (by decide) ⟨by rw [prdF_M, ← p7, hw]; rfl, hP⟩
  | succ n ih =>
    intro i hip
    obtain ⟨w, hw⟩ := mem_at (show i < (mem (G.1 7 e)).length by omega)
    have hne := p6 i (by omega) (by omega)
    have hw5 : w < 2 ^ 31 := mem_lt hw
    rw [hw] at hne
    refine ws_iload_n C d_Cf_neighbour_2 rfl ?_
    refine ws_aload_n C d_Cf_neighbour_3 rfl ?_
    refine wx_getP C hR 97 e (h 9 e) d_Cf_neighbour_4 f_Cf_15 rfl rfl (dpF he) rfl ?_
    refine wx_mln C hR d_Cf_neighbour_7 he ?_
    refine ws_icmp_geN C d_Cf_neighbour_8 (by omega) (by omega) (fun h8 => ?_) (fun h8 => ?_)
    · omega
    · refine ws_aload_n C d_Cf_neighbour_11 rfl ?_
      refine wx_getP C hR 97 e (h 9 e) d_Cf_neighbour_12 f_Cf_15 rfl rfl (dpF he) rfl ?_
      refine ws_iload_n C d_Cf_neighbour_15 rfl ?_
      refine wx_mld C hR d_Cf_neighbour_16 he hw ?_
      refine ws_iload_n C d_Cf_neighbour_17 rfl ?_
      refine ws_icmp_neN C d_Cf_neighbour_18 (by omega) (by omega) (fun _ => ?_) (fun z => absurd (congrArg some z) hne)
      refine ws_iinc C _ d_Cf_neighbour_53 rfl (inc1 _) (by rw [hn]; decide) ?_
      refine ws_goto C d_Cf_neighbour_56 ?_
      exact ih (i + 1) (by omega)
set_option maxHeartbeats 4000000 in
set_option maxRecDepth 100000 in
theorem c_Cf_neighbour_s {V : Ev} {h : Nat → Nat → Nat} {t : Nat → Nat} {G : GS} {S : Sto} (hR : XE (vZ V) h t G S) (hO : OK G) {e : Nat} (he : 1 ≤ e ∧ e ≤ G.1 8 0) {v : Nat} (hv : v < 6) (hi : isIn G e v = true) {P : Sto → Prop} (hP : P S) : CT V mi_Cf_neighbour 0 0 [.ref (h 3 e), .int (nI v), .int (nI 1)] S (Pi (oI (sucF G e (5 - v))) P) := by
  refine CT.of (cc := prog_3_method_5_code) (own := "ChainVersions$Configuration") (nL := 5) (d := 0) (by decide) rfl rfl rfl rfl (by simp [Value.category]) (Nat.le_of_ble_eq_true rfl) rfl ?_
  intro F hV hn C R
  subst hV
  refine ws_iconst C (nI 0) d_Cf_neighbour_0 (by decide) ?_
  refine ws_istore_n C d_Cf_neighbour_1 (by rw [hn]; decide) ?_
  have h7 : G.1 7 e ≤ 63 := hO 7 e
  have hl := mem_len (G.1 7 e)
  obtain ⟨p1, p2, p3, p4, p5⟩ := mk_2 _ (show G.1 7 e < 64 by omega) v hv hi
  have p6 := mk_3 _ (show G.1 7 e < 64 by omega) v hv
  have hpl := (List.getElem?_eq_some_iff.mp p1).1
  generalize ixo (G.1 7 e) v = p at *
  suffices hL : ∀ n i, i + n = p → WS F 2 [some (.ref (h 3 e)), some (.int (nI v)), some (.int (nI 1)), some (.int (nI i)), none] [] S 0 0 from hL p 0 (by omega)
  intro n
  induction n with
  | zero =>
    intro i hip
    have e1 : i = p := by omega
    subst e1
    refine ws_iload_n C d_Cf_neighbour_2 rfl ?_
    refine ws_aload_n C d_Cf_neighbour_3 rfl ?_
    refine wx_getP C hR 97 e (h 9 e) d_Cf_neighbour_4 f_Cf_15 rfl rfl (dpF he) rfl ?_
    refine wx_mln C hR d_Cf_neighbour_7 he ?_
    refine ws_icmp_geN C d_Cf_neighbour_8 (by omega) (by omega) (fun h8 => ?_) (fun h8 => ?_)
    · omega
    · refine ws_aload_n C d_Cf_neighbour_11 rfl ?_
      refine wx_getP C hR 97 e (h 9 e) d_Cf_neighbour_12 f_Cf_15 rfl rfl (dpF he) rfl ?_
      refine ws_iload_n C d_Cf_neighbour_15 rfl ?_
      refine wx_mld C hR d_Cf_neighbour_16 he p1 ?_
      refine ws_iload_n C d_Cf_neighbour_17 rfl ?_
      refine ws_icmp_neN C d_Cf_neighbour_18 (by omega) (by omega) (fun z => absurd rfl z) (fun _ => ?_)
      refine ws_iload_n C d_Cf_neighbour_21 rfl ?_
      refine ws_iload_n C d_Cf_neighbour_22 rfl ?_
      refine ws_iaddN C d_Cf_neighbour_23 ?_
      refine ws_istore C d_Cf_neighbour_24 (by rw [hn]; decide) ?_
      cases hq : (mem (G.1 7 e))[i + 1]? with
      | none =>
        have hq1 := List.getElem?_eq_none_iff.mp hq
        refine ws_iload C d_Cf_neighbour_26 rfl ?_
        refine ws_if_ltN C d_Cf_neighbour_28 (by omega) ?_
        refine ws_iload C d_Cf_neighbour_31 rfl ?_
        refine ws_aload_n C d_Cf_neighbour_33 rfl ?_
        refine wx_getP C hR 97 e (h 9 e) d_Cf_neighbour_34 f_Cf_15 rfl rfl (dpF he) rfl ?_
        refine wx_mln C hR d_Cf_neighbour_37 he ?_
        refine ws_icmp_geN C d_Cf_neighbour_38 (by omega) (by omega) (fun h38 => ?_) (fun h38 => ?_)
        · refine ws_iconst C (-1) d_Cf_neighbour_51 (by decide) ?_
          exact ws_iret C R d_Cf_neighbour_52 rfl (by decide) (by decide) ⟨by rw [sucF_M, ← p3, hq]; rfl, hP⟩
        · omega
      | some w =>
        have hq1 := (List.getElem?_eq_some_iff.mp hq).1
        refine ws_iload C d_Cf_neighbour_26 rfl ?_
        refine ws_if_ltN C d_Cf_neighbour_28 (by omega) ?_
        refine ws_iload C d_Cf_neighbour_31 rfl ?_
        refine ws_aload_n C d_Cf_neighbour_33 rfl ?_
        refine wx_getP C hR 97 e (h 9 e) d_Cf_neighbour_34 f_Cf_15 rfl rfl (dpF he) rfl ?_
        refine wx_mln C hR d_Cf_neighbour_37 he ?_
        refine ws_icmp_geN C d_Cf_neighbour_38 (by omega) (by omega) (fun h38 => ?_) (fun h38 => ?_)
        · omega
        · refine ws_aload_n C d_Cf_neighbour_41 rfl ?_
          refine wx_getP C hR 97 e (h 9 e) d_Cf_neighbour_42 f_Cf_15 rfl rfl (dpF he) rfl ?_
          refine ws_iload C d_Cf_neighbour_45 rfl ?_
          refine wx_mld C hR d_Cf_neighbour_47 he hq ?_
          refine ws_goto C d_Cf_neighbour_48 ?_
          exact ws_iret C R d_Cf_neighbour_52 rfl (by decide) (by decide) ⟨by rw [sucF_M, ← p3, hq]; rfl, hP⟩
  | succ n ih =>
    intro i hip
    obtain ⟨w, hw⟩ := mem_at (show i < (mem (G.1 7 e)).length by omega)
    have hne := p6 i (by omega) (by omega)
    have hw5 : w < 2 ^ 31 := mem_lt hw
    rw [hw] at hne
    refine ws_iload_n C d_Cf_neighbour_2 rfl ?_
    refine ws_aload_n C d_Cf_neighbour_3 rfl ?_
    refine wx_getP C hR 97 e (h 9 e) d_Cf_neighbour_4 f_Cf_15 rfl rfl (dpF he) rfl ?_
    refine wx_mln C hR d_Cf_neighbour_7 he ?_
    refine ws_icmp_geN C d_Cf_neighbour_8 (by omega) (by omega) (fun h8 => ?_) (fun h8 => ?_)
    · omega
    · refine ws_aload_n C d_Cf_neighbour_11 rfl ?_
      refine wx_getP C hR 97 e (h 9 e) d_Cf_neighbour_12 f_Cf_15 rfl rfl (dpF he) rfl ?_
      refine ws_iload_n C d_Cf_neighbour_15 rfl ?_
      refine wx_mld C hR d_Cf_neighbour_16 he hw ?_
      refine ws_iload_n C d_Cf_neighbour_17 rfl ?_
      refine ws_icmp_neN C d_Cf_neighbour_18 (by omega) (by omega) (fun _ => ?_) (fun z => absurd (congrArg some z) hne)
      refine ws_iinc C _ d_Cf_neighbour_53 rfl (inc1 _) (by rw [hn]; decide) ?_
      refine ws_goto C d_Cf_neighbour_56 ?_
      exact ih (i + 1) (by omega)
set_option maxHeartbeats 4000000 in
set_option maxRecDepth 100000 in
theorem c_Nd_isHead {V : Ev} {h : Nat → Nat → Nat} {t : Nat → Nat} {G : GS} {S : Sto} (hR : XE (vZ V) h t G S) (hO : OK G) (hW : WF G) {v : Nat} (hv : v < G.1 0 0) {P : Sto → Prop} (hP : P S) : CT V mi_Nd_isHead 0 0 [.ref (h 4 v)] S (Pi (bI (decide (prd G v = none))) P) := by
  refine CT.of (cc := prog_5_method_2_code) (own := "ChainVersions$Node") (nL := 1) (d := 2) (by decide) rfl rfl rfl rfl (by simp [Value.category]) (Nat.le_of_ble_eq_true rfl) rfl ?_
  intro F hV hn C R
  subst hV
  have hv6 := hW.m6 hv
  have hvi := (hW.2.2.1 v hv).2.2
  refine ws_aload_n C d_Nd_isHead_0 rfl ?_
  refine wx_getP C hR 130 v (h 3 (G.1 3 v)) d_Nd_isHead_1 f_Nd_25 rfl rfl (dpN (by decide) hv) rfl ?_
  refine ws_callVi C w_Nd_32 (As := []) (c_Cf_head hR hO (hW.vw hv) (P := fun S' => S = S') rfl) d_Nd_isHead_4 rfl rfl (XE.k hR (dkF (hW.vw hv))) (Nat.le_of_ble_eq_true rfl) (by decide) (by decide) (by decide) (fun S' hS' => ?_)
  subst hS'
  refine ws_aload_n C d_Nd_isHead_7 rfl ?_
  refine wx_getI C hR 128 v (nI v) d_Nd_isHead_8 f_Nd_21 rfl rfl (dmN (by decide) hv) rfl ?_
  refine ws_icmp_ne C d_Nd_isHead_11 (fun h11 => ?_) (fun h11 => ?_)
  · refine ws_iconst C (nI 0) d_Nd_isHead_18 (by decide) ?_
    exact ws_zret C R d_Nd_isHead_19 rfl (by decide) (by decide) (by decide) ⟨by rw [show decide (prd G v = none) = false from decide_eq_false (fun z => h11 ((hd_iff hO hv6 hvi).mpr z))]; rfl, hP⟩
  · refine ws_iconst C (nI 1) d_Nd_isHead_14 (by decide) ?_
    refine ws_goto C d_Nd_isHead_15 ?_
    exact ws_zret C R d_Nd_isHead_19 rfl (by decide) (by decide) (by decide) ⟨by rw [show decide (prd G v = none) = true from decide_eq_true ((hd_iff hO hv6 hvi).mp h11)]; rfl, hP⟩
set_option maxHeartbeats 4000000 in
set_option maxRecDepth 100000 in
theorem c_Nd_isTail {V : Ev} {h : Nat → Nat → Nat} {t : Nat → Nat} {G : GS} {S : Sto} (hR : XE (vZ V) h t G S) (hO : OK G) (hW : WF G) {v : Nat} (hv : v < G.1 0 0) {P : Sto → Prop} (hP : P S) : CT V mi_Nd_isTail 0 0 [.ref (h 4 v)] S (Pi (bI (decide (suc G v = none))) P) := by
  refine CT.of (cc := prog_5_method_3_code) (own := "ChainVersions$Node") (nL := 1) (d := 2) (by decide) rfl rfl rfl rfl (by simp [Value.category]) (Nat.le_of_ble_eq_true rfl) rfl ?_
  intro F hV hn C R
  subst hV
  have hv6 := hW.m6 hv
  have hvi := (hW.2.2.1 v hv).2.2
  refine ws_aload_n C d_Nd_isTail_0 rfl ?_
  refine wx_getP C hR 130 v (h 3 (G.1 3 v)) d_Nd_isTail_1 f_Nd_25 rfl rfl (dpN (by decide) hv) rfl ?_
  refine ws_callVi C w_Nd_38 (As := []) (c_Cf_tail hR hO (hW.vw hv) (P := fun S' => S = S') rfl) d_Nd_isTail_4 rfl rfl (XE.k hR (dkF (hW.vw hv))) (Nat.le_of_ble_eq_true rfl) (by decide) (by decide) (by decide) (fun S' hS' => ?_)
  subst hS'
  refine ws_aload_n C d_Nd_isTail_7 rfl ?_
  refine wx_getI C hR 128 v (nI v) d_Nd_isTail_8 f_Nd_21 rfl rfl (dmN (by decide) hv) rfl ?_
  refine ws_icmp_ne C d_Nd_isTail_11 (fun h11 => ?_) (fun h11 => ?_)
  · refine ws_iconst C (nI 0) d_Nd_isTail_18 (by decide) ?_
    exact ws_zret C R d_Nd_isTail_19 rfl (by decide) (by decide) (by decide) ⟨by rw [show decide (suc G v = none) = false from decide_eq_false (fun z => h11 ((tl_iff hO hv6 hvi).mpr z))]; rfl, hP⟩
  · refine ws_iconst C (nI 1) d_Nd_isTail_14 (by decide) ?_
    refine ws_goto C d_Nd_isTail_15 ?_
    exact ws_zret C R d_Nd_isTail_19 rfl (by decide) (by decide) (by decide) ⟨by rw [show decide (suc G v = none) = true from decide_eq_true ((tl_iff hO hv6 hvi).mp h11)]; rfl, hP⟩
set_option maxHeartbeats 4000000 in
set_option maxRecDepth 100000 in
theorem c_Nd_predecessor {V : Ev} {h : Nat → Nat → Nat} {t : Nat → Nat} {G : GS} {S : Sto} (hR : XE (vZ V) h t G S) (hO : OK G) (hW : WF G) {v : Nat} (hv : v < G.1 0 0) {P : Sto → Prop} (hP : P S) : CT V mi_Nd_predecessor 0 0 [.ref (h 4 v)] S (Pi (oI (prd G v)) P) := by
  refine CT.of (cc := prog_5_method_4_code) (own := "ChainVersions$Node") (nL := 1) (d := 1) (by decide) rfl rfl rfl rfl (by simp [Value.category]) (Nat.le_of_ble_eq_true rfl) rfl ?_
  intro F hV hn C R
  subst hV
  have hv6 := hW.m6 hv
  have hvi := (hW.2.2.1 v hv).2.2
  refine ws_aload_n C d_Nd_predecessor_0 rfl ?_
  refine wx_getP C hR 130 v (h 3 (G.1 3 v)) d_Nd_predecessor_1 f_Nd_25 rfl rfl (dpN (by decide) hv) rfl ?_
  refine ws_aload_n C d_Nd_predecessor_4 rfl ?_
  refine wx_getI C hR 128 v (nI v) d_Nd_predecessor_5 f_Nd_21 rfl rfl (dmN (by decide) hv) rfl ?_
  refine ws_iconst C (-1) d_Nd_predecessor_8 (by decide) ?_
  refine ws_callVi C w_Nd_41 (As := [_, _]) (c_Cf_neighbour_p hR hO (hW.vw hv) hv6 hvi (P := fun S' => S = S') rfl) d_Nd_predecessor_9 rfl rfl (XE.k hR (dkF (hW.vw hv))) (Nat.le_of_ble_eq_true rfl) (by decide) (by decide) (by decide) (fun S' hS' => ?_)
  subst hS'
  exact ws_iret C R d_Nd_predecessor_12 rfl (by decide) (by decide) ⟨rfl, hP⟩
set_option maxHeartbeats 4000000 in
set_option maxRecDepth 100000 in
theorem c_Nd_successor {V : Ev} {h : Nat → Nat → Nat} {t : Nat → Nat} {G : GS} {S : Sto} (hR : XE (vZ V) h t G S) (hO : OK G) (hW : WF G) {v : Nat} (hv : v < G.1 0 0) {P : Sto → Prop} (hP : P S) : CT V mi_Nd_successor 0 0 [.ref (h 4 v)] S (Pi (oI (suc G v)) P) := by
  refine CT.of (cc := prog_5_method_5_code) (own := "ChainVersions$Node") (nL := 1) (d := 1) (by decide) rfl rfl rfl rfl (by simp [Value.category]) (Nat.le_of_ble_eq_true rfl) rfl ?_
  intro F hV hn C R
  subst hV
  have hv6 := hW.m6 hv
  have hvi := (hW.2.2.1 v hv).2.2
  refine ws_aload_n C d_Nd_successor_0 rfl ?_
  refine wx_getP C hR 130 v (h 3 (G.1 3 v)) d_Nd_successor_1 f_Nd_25 rfl rfl (dpN (by decide) hv) rfl ?_
  refine ws_aload_n C d_Nd_successor_4 rfl ?_
  refine wx_getI C hR 128 v (nI v) d_Nd_successor_5 f_Nd_21 rfl rfl (dmN (by decide) hv) rfl ?_
  refine ws_iconst C (nI 1) d_Nd_successor_8 (by decide) ?_
  refine ws_callVi C w_Nd_41 (As := [_, _]) (c_Cf_neighbour_s hR hO (hW.vw hv) hv6 hvi (P := fun S' => S = S') rfl) d_Nd_successor_9 rfl rfl (XE.k hR (dkF (hW.vw hv))) (Nat.le_of_ble_eq_true rfl) (by decide) (by decide) (by decide) (fun S' hS' => ?_)
  subst hS'
  exact ws_iret C R d_Nd_successor_12 rfl (by decide) (by decide) ⟨rfl, hP⟩
set_option maxHeartbeats 4000000 in
set_option maxRecDepth 100000 in
theorem c_Nd_isFull {V : Ev} {h : Nat → Nat → Nat} {t : Nat → Nat} {G : GS} {S : Sto} (hR : XE (vZ V) h t G S) (hO : OK G) (hW : WF G) {v : Nat} (hv : v < G.1 0 0) {P : Sto → Prop} (hP : P S) : CT V mi_Nd_isFull 0 0 [.ref (h 4 v)] S (Pi (bI (decide (8 ≤ G.1 4 v - G.1 5 v ∨ 100 ≤ G.1 4 v))) P) := by
  refine CT.of (cc := prog_5_method_6_code) (own := "ChainVersions$Node") (nL := 1) (d := 0) (by decide) rfl rfl rfl rfl (by simp [Value.category]) (Nat.le_of_ble_eq_true rfl) rfl ?_
  intro F hV hn C R
  subst hV
  have h45 := hW.2.2.2.2.2 v
  have hb4 : G.1 4 v ≤ 100 := hO 4 v
  refine ws_aload_n C d_Nd_isFull_0 rfl ?_
  refine wx_getI C hR 134 v (nI (G.1 4 v)) d_Nd_isFull_1 f_Nd_45 rfl rfl (dmN (by decide) hv) rfl ?_
  refine ws_aload_n C d_Nd_isFull_4 rfl ?_
  refine wx_getI C hR 135 v (nI (G.1 5 v)) d_Nd_isFull_5 f_Nd_48 rfl rfl (dmN (by decide) hv) rfl ?_
  refine ws_isubN C d_Nd_isFull_8 (by first | omega | exact okl hO _ _) ?_
  refine ws_bipush C (nI 8) d_Nd_isFull_9 (by decide) ?_
  refine ws_icmp_geN C d_Nd_isFull_11 (by first | omega | exact okl hO _ _) (by first | omega | exact okl hO _ _) (fun h11 => ?_) (fun h11 => ?_)
  · refine ws_iconst C (nI 1) d_Nd_isFull_23 (by decide) ?_
    refine ws_goto C d_Nd_isFull_24 ?_
    exact ws_zret C R d_Nd_isFull_28 rfl (by decide) (by decide) (by decide) ⟨by rw [show decide (8 ≤ G.1 4 v - G.1 5 v ∨ 100 ≤ G.1 4 v) = true from decide_eq_true (by omega)]; rfl, hP⟩
  · refine ws_aload_n C d_Nd_isFull_14 rfl ?_
    refine wx_getI C hR 134 v (nI (G.1 4 v)) d_Nd_isFull_15 f_Nd_45 rfl rfl (dmN (by decide) hv) rfl ?_
    refine ws_bipush C (nI 100) d_Nd_isFull_18 (by decide) ?_
    refine ws_icmp_ltN C d_Nd_isFull_20 (by first | omega | exact okl hO _ _) (by first | omega | exact okl hO _ _) (fun h20 => ?_) (fun h20 => ?_)
    · refine ws_iconst C (nI 0) d_Nd_isFull_27 (by decide) ?_
      exact ws_zret C R d_Nd_isFull_28 rfl (by decide) (by decide) (by decide) ⟨by rw [show decide (8 ≤ G.1 4 v - G.1 5 v ∨ 100 ≤ G.1 4 v) = false from decide_eq_false (by omega)]; rfl, hP⟩
    · refine ws_iconst C (nI 1) d_Nd_isFull_23 (by decide) ?_
      refine ws_goto C d_Nd_isFull_24 ?_
      exact ws_zret C R d_Nd_isFull_28 rfl (by decide) (by decide) (by decide) ⟨by rw [show decide (8 ≤ G.1 4 v - G.1 5 v ∨ 100 ≤ G.1 4 v) = true from decide_eq_true (by omega)]; rfl, hP⟩
def upA (r : Rg) (G : GS) (v n : Nat) : Option Nat := if 1 ≤ n ∧ n ≤ G.1 4 v then some (r.2.2 v n) else none
theorem upA_s {r : Rg} {G : GS} {v n : Nat} (h : 1 ≤ n ∧ n ≤ G.1 4 v) : upA r G v n = some (r.2.2 v n) := if_pos h
theorem upA_n {r : Rg} {G : GS} {v n : Nat} (h : ¬ (1 ≤ n ∧ n ≤ G.1 4 v)) : upA r G v n = none := if_neg h
set_option maxHeartbeats 4000000 in
set_option maxRecDepth 100000 in
theorem c_Nd_updateAt {V : Ev} {h : Nat → Nat → Nat} {t : Nat → Nat} {G : GS} {S : Sto} {r : Rg} (hR : XR (vZ V) h t r G S) (hO : OK G) {v : Nat} (hv : v < G.1 0 0) {n : Nat} (hn2 : n < 2 ^ 31) {P : Sto → Prop} (hP : P S) : CT V mi_Nd_updateAt 0 0 [.ref (h 4 v), .int (nI n)] S (Pr (upA r G v n) P) := by
  refine CT.of (cc := prog_5_method_8_code) (own := "ChainVersions$Node") (nL := 2) (d := 0) (by decide) rfl rfl rfl rfl (by simp [Value.category]) (Nat.le_of_ble_eq_true rfl) rfl ?_
  intro F hV hn C R
  subst hV
  have hb4 : G.1 4 v ≤ 100 := hO 4 v
  refine ws_iload_n C d_Nd_updateAt_0 rfl ?_
  refine ws_iconst C (nI 1) d_Nd_updateAt_1 (by decide) ?_
  refine ws_icmp_ltN C d_Nd_updateAt_2 (by first | omega | exact okl hO _ _) (by first | omega | exact okl hO _ _) (fun h2 => ?_) (fun h2 => ?_)
  · refine ws_null C d_Nd_updateAt_24 ?_
    exact ws_aret C R d_Nd_updateAt_25 rfl (Or.inl ⟨_, rfl⟩) (Or.inl rfl) (by decide) (by decide) ⟨by rw [upA_n (by omega), va_rf], hP⟩
  · refine ws_iload_n C d_Nd_updateAt_5 rfl ?_
    refine ws_aload_n C d_Nd_updateAt_6 rfl ?_
    refine wx_getI C ⟨r, hR⟩ 134 v (nI (G.1 4 v)) d_Nd_updateAt_7 f_Nd_45 rfl rfl (dmN (by decide) hv) rfl ?_
    refine ws_icmp_gtN C d_Nd_updateAt_10 (by first | omega | exact okl hO _ _) (by first | omega | exact okl hO _ _) (fun h10 => ?_) (fun h10 => ?_)
    · refine ws_null C d_Nd_updateAt_24 ?_
      exact ws_aret C R d_Nd_updateAt_25 rfl (Or.inl ⟨_, rfl⟩) (Or.inl rfl) (by decide) (by decide) ⟨by rw [upA_n (by omega), va_rf], hP⟩
    · refine ws_aload_n C d_Nd_updateAt_13 rfl ?_
      refine wx_getP C ⟨r, hR⟩ 129 v (h 13 v) d_Nd_updateAt_14 f_Nd_11 rfl rfl (dpN (by decide) hv) rfl ?_
      refine ws_iload_n C d_Nd_updateAt_17 rfl ?_
      refine ws_iconst C (nI 1) d_Nd_updateAt_18 (by decide) ?_
      refine ws_isubN C d_Nd_updateAt_19 (by first | omega | exact okl hO _ _) ?_
      obtain ⟨q1, q2⟩ := hR.2.2.2.2.1 v n hv (by omega) (by omega)
      refine ws_aald C (kd := 13) (by decide) (by decide) d_Nd_updateAt_20 (hR.1.1 13 v (dkG hv)) (by rw [hR.2.2.2.1.1.2.2 v hv]; omega) (by rw [hR.2.2.2.1.1.2.2 v hv]; decide) ?_
      rw [q1]
      refine ws_goto C d_Nd_updateAt_21 ?_
      exact ws_aret C R d_Nd_updateAt_25 rfl (Or.inl ⟨_, rfl⟩) (Or.inr ⟨_, rfl⟩) (by decide) (by decide) ⟨by rw [upA_s (by omega)], hP⟩
set_option maxHeartbeats 4000000 in
set_option maxRecDepth 100000 in
theorem c_Nd_valueOf {V : Ev} {h : Nat → Nat → Nat} {t : Nat → Nat} {G : GS} {S : Sto} {r : Rg} (hR : XR (vZ V) h t r G S) (hO : OK G) {v : Nat} (hv : v < G.1 0 0) {n : Nat} (hn2 : n < 2 ^ 31) {P : Sto → Prop} (hP : P S) : CT V mi_Nd_valueOf 0 0 [.ref (h 4 v), .int (nI n)] S (Pi (if 1 ≤ n ∧ n ≤ G.1 4 v then G.2 10 (128 * v + n) else 0) P) := by
  refine CT.of (cc := prog_5_method_9_code) (own := "ChainVersions$Node") (nL := 3) (d := 1) (by decide) rfl rfl rfl rfl (by simp [Value.category]) (Nat.le_of_ble_eq_true rfl) rfl ?_
  intro F hV hn C R
  subst hV
  refine ws_aload_n C d_Nd_valueOf_0 rfl ?_
  refine ws_iload_n C d_Nd_valueOf_1 rfl ?_
  refine ws_callVr C w_Nd_51 (As := [_]) (c_Nd_updateAt hR hO hv hn2 (P := fun S' => S = S') rfl) d_Nd_valueOf_2 rfl rfl (XE.k ⟨r, hR⟩ (dkN hv)) (Nat.le_of_ble_eq_true rfl) (by decide) (by decide) (by decide) (fun S' hS' => ?_)
  subst hS'
  by_cases hu : 1 ≤ n ∧ n ≤ G.1 4 v
  · rw [upA_s hu]
    have hU := (hR.2.2.2.2.1 v n hv hu.1 hu.2).2
    refine ws_astore_n C d_Nd_valueOf_5 (by rw [hn]; decide) ?_
    refine ws_aload_n C d_Nd_valueOf_6 rfl ?_
    refine ws_ifnonnull C d_Nd_valueOf_7 ?_
    refine ws_aload_n C d_Nd_valueOf_14 rfl ?_
    refine wx_up1 C hU d_Nd_valueOf_15 f_Nd_55 ?_
    exact ws_iret C R d_Nd_valueOf_18 rfl (by decide) (by decide) ⟨by rw [if_pos hu], hP⟩
  · rw [upA_n hu]
    refine ws_astore_nN C d_Nd_valueOf_5 (by rw [hn]; decide) ?_
    refine ws_aload_nN C d_Nd_valueOf_6 rfl ?_
    refine ws_ifnonnullN C d_Nd_valueOf_7 ?_
    refine ws_iconst C (nI 0) d_Nd_valueOf_10 (by decide) ?_
    refine ws_goto C d_Nd_valueOf_11 ?_
    exact ws_iret C R d_Nd_valueOf_18 rfl (by decide) (by decide) ⟨by rw [if_neg hu]; rfl, hP⟩
set_option maxHeartbeats 4000000 in
set_option maxRecDepth 100000 in
theorem c_Nd_isOfKey {V : Ev} {h : Nat → Nat → Nat} {t : Nat → Nat} {G : GS} {S : Sto} {r : Rg} (hR : XR (vZ V) h t r G S) (hO : OK G) {v : Nat} (hv : v < G.1 0 0) {n k : Nat} (hn2 : n < 2 ^ 31) (hk : k ≤ 3) {P : Sto → Prop} (hP : P S) : CT V mi_Nd_isOfKey 0 0 [.ref (h 4 v), .int (nI n), .int (nI k)] S (Pi (bI (decide (1 ≤ n ∧ n ≤ G.1 4 v ∧ G.1 9 (128 * v + n) = k))) P) := by
  refine CT.of (cc := prog_5_method_10_code) (own := "ChainVersions$Node") (nL := 4) (d := 1) (by decide) rfl rfl rfl rfl (by simp [Value.category]) (Nat.le_of_ble_eq_true rfl) rfl ?_
  intro F hV hn C R
  subst hV
  refine ws_aload_n C d_Nd_isOfKey_0 rfl ?_
  refine ws_iload_n C d_Nd_isOfKey_1 rfl ?_
  refine ws_callVr C w_Nd_51 (As := [_]) (c_Nd_updateAt hR hO hv hn2 (P := fun S' => S = S') rfl) d_Nd_isOfKey_2 rfl rfl (XE.k ⟨r, hR⟩ (dkN hv)) (Nat.le_of_ble_eq_true rfl) (by decide) (by decide) (by decide) (fun S' hS' => ?_)
  subst hS'
  by_cases hu : 1 ≤ n ∧ n ≤ G.1 4 v
  · rw [upA_s hu]
    have hU := (hR.2.2.2.2.1 v n hv hu.1 hu.2).2
    refine ws_astore_n C d_Nd_isOfKey_5 (by rw [hn]; decide) ?_
    refine ws_aload_n C d_Nd_isOfKey_6 rfl ?_
    refine ws_ifnull C d_Nd_isOfKey_7 ?_
    refine ws_aload_n C d_Nd_isOfKey_10 rfl ?_
    refine wx_up0 C hU d_Nd_isOfKey_11 f_Nd_58 ?_
    refine ws_iload_n C d_Nd_isOfKey_14 rfl ?_
    refine ws_icmp_neN C d_Nd_isOfKey_15 (by first | omega | exact okl hO _ _) (by first | omega | exact okl hO _ _) (fun h15 => ?_) (fun h15 => ?_)
    · refine ws_iconst C (nI 0) d_Nd_isOfKey_22 (by decide) ?_
      exact ws_zret C R d_Nd_isOfKey_23 rfl (by decide) (by decide) (by decide) ⟨by rw [show decide (1 ≤ n ∧ n ≤ G.1 4 v ∧ G.1 9 (128 * v + n) = k) = false from decide_eq_false (fun z => h15 z.2.2)]; rfl, hP⟩
    · refine ws_iconst C (nI 1) d_Nd_isOfKey_18 (by decide) ?_
      refine ws_goto C d_Nd_isOfKey_19 ?_
      exact ws_zret C R d_Nd_isOfKey_23 rfl (by decide) (by decide) (by decide) ⟨by rw [show decide (1 ≤ n ∧ n ≤ G.1 4 v ∧ G.1 9 (128 * v + n) = k) = true from decide_eq_true ⟨hu.1, hu.2, h15⟩]; rfl, hP⟩
  · rw [upA_n hu]
    refine ws_astore_nN C d_Nd_isOfKey_5 (by rw [hn]; decide) ?_
    refine ws_aload_nN C d_Nd_isOfKey_6 rfl ?_
    refine ws_ifnullN C d_Nd_isOfKey_7 ?_
    refine ws_iconst C (nI 0) d_Nd_isOfKey_22 (by decide) ?_
    exact ws_zret C R d_Nd_isOfKey_23 rfl (by decide) (by decide) (by decide) ⟨by rw [show decide (1 ≤ n ∧ n ≤ G.1 4 v ∧ G.1 9 (128 * v + n) = k) = false from decide_eq_false (fun z => hu ⟨z.1, z.2.1⟩)]; rfl, hP⟩
set_option maxHeartbeats 4000000 in
set_option maxRecDepth 100000 in
theorem c_Nd_numberOf {V : Ev} {h : Nat → Nat → Nat} {t : Nat → Nat} {G : GS} {S : Sto} {r : Rg} (hR : XR (vZ V) h t r G S) (hO : OK G) {v : Nat} (hv : v < G.1 0 0) {c : Nat} (hc : c < 3) {P : Sto → Prop} (hP : P S) : CT V mi_Nd_numberOf 0 0 [.ref (h 4 v), .int (nI c), .int (nI (G.1 14 c))] S (Pi (oI (fwF G v c (G.1 4 v) 1)) P) := by
  refine CT.of (cc := prog_5_method_11_code) (own := "ChainVersions$Node") (nL := 5) (d := 1) (by decide) rfl rfl rfl rfl (by simp [Value.category]) (Nat.le_of_ble_eq_true rfl) rfl ?_
  intro F hV hn C R
  subst hV
  have hb4 : G.1 4 v ≤ 100 := hO 4 v
  refine ws_iconst C (nI 1) d_Nd_numberOf_0 (by decide) ?_
  refine ws_istore_n C d_Nd_numberOf_1 (by rw [hn]; decide) ?_
  suffices hL : ∀ m n (y : Option Value), n + m = G.1 4 v + 1 → 1 ≤ n → fwF G v c m n = fwF G v c (G.1 4 v) 1 → WS F 2 [some (.ref (h 4 v)), some (.int (nI c)), some (.int (nI (G.1 14 c))), some (.int (nI n)), y] [] S 0 0 from hL (G.1 4 v) 1 _ (by omega) (by omega) rfl
  intro m
  induction m with
  | zero =>
    intro n y hn1 h1 hp
    refine ws_iload_n C d_Nd_numberOf_2 rfl ?_
    refine ws_aload_n C d_Nd_numberOf_3 rfl ?_
    refine wx_getI C ⟨r, hR⟩ 134 v (nI (G.1 4 v)) d_Nd_numberOf_4 f_Nd_45 rfl rfl (dmN (by decide) hv) rfl ?_
    refine ws_icmp_gtN C d_Nd_numberOf_7 (by first | omega | exact okl hO _ _) (by first | omega | exact okl hO _ _) (fun h7 => ?_) (fun h7 => ?_)
    · refine ws_iconst C (-1) d_Nd_numberOf_48 (by decide) ?_
      exact ws_iret C R d_Nd_numberOf_49 rfl (by decide) (by decide) ⟨by rw [← hp]; rfl, hP⟩
    · omega
  | succ m ih =>
    intro n y hn1 h1 hp
    refine ws_iload_n C d_Nd_numberOf_2 rfl ?_
    refine ws_aload_n C d_Nd_numberOf_3 rfl ?_
    refine wx_getI C ⟨r, hR⟩ 134 v (nI (G.1 4 v)) d_Nd_numberOf_4 f_Nd_45 rfl rfl (dmN (by decide) hv) rfl ?_
    refine ws_icmp_gtN C d_Nd_numberOf_7 (by first | omega | exact okl hO _ _) (by first | omega | exact okl hO _ _) (fun h7 => ?_) (fun h7 => ?_)
    · omega
    · refine ws_aload_n C d_Nd_numberOf_10 rfl ?_
      refine ws_iload_n C d_Nd_numberOf_11 rfl ?_
      refine ws_callVr C w_Nd_51 (As := [_]) (c_Nd_updateAt hR hO hv (show n < 2 ^ 31 by omega) (P := fun S' => S = S') rfl) d_Nd_numberOf_12 rfl rfl (XE.k ⟨r, hR⟩ (dkN hv)) (Nat.le_of_ble_eq_true rfl) (by decide) (by decide) (by decide) (fun S' hS' => ?_)
      subst hS'
      rw [upA_s (show 1 ≤ n ∧ n ≤ G.1 4 v by omega)]
      have hU := (hR.2.2.2.2.1 v n hv (by omega) (by omega)).2
      have hb11 : G.1 11 (128 * v + n) ≤ 2 := hO 11 _
      have hb12 : G.1 12 (128 * v + n) ≤ 600 := hO 12 _
      have hb14 : G.1 14 c ≤ 600 := hO 14 c
      refine ws_astore C d_Nd_numberOf_15 (by rw [hn]; decide) ?_
      refine ws_aload C d_Nd_numberOf_17 rfl ?_
      refine ws_ifnull C d_Nd_numberOf_19 ?_
      refine ws_aload C d_Nd_numberOf_22 rfl ?_
      refine wx_up2 C hU d_Nd_numberOf_24 f_Nd_61 ?_
      refine ws_iload_n C d_Nd_numberOf_27 rfl ?_
      refine ws_icmp_neN C d_Nd_numberOf_28 (by first | omega | exact okl hO _ _) (by first | omega | exact okl hO _ _) (fun h28 => ?_) (fun h28 => ?_)
      · refine ws_iinc C _ d_Nd_numberOf_42 rfl (inc1 _) (by rw [hn]; decide) ?_
        refine ws_goto C d_Nd_numberOf_45 ?_
        exact ih (n + 1) _ (by omega) (by omega) (by rw [← hp, fwF, if_neg (by omega)])
      · refine ws_aload C d_Nd_numberOf_31 rfl ?_
        refine wx_up3 C hU d_Nd_numberOf_33 f_Nd_64 ?_
        refine ws_iload_n C d_Nd_numberOf_36 rfl ?_
        refine ws_icmp_neN C d_Nd_numberOf_37 (by first | omega | exact okl hO _ _) (by first | omega | exact okl hO _ _) (fun h37 => ?_) (fun h37 => ?_)
        · refine ws_iinc C _ d_Nd_numberOf_42 rfl (inc1 _) (by rw [hn]; decide) ?_
          refine ws_goto C d_Nd_numberOf_45 ?_
          exact ih (n + 1) _ (by omega) (by omega) (by rw [← hp, fwF, if_neg (by omega)])
        · refine ws_iload_n C d_Nd_numberOf_40 rfl ?_
          exact ws_iret C R d_Nd_numberOf_41 rfl (by decide) (by decide) ⟨by rw [← hp, fwF, if_pos ⟨h28, h37⟩]; rfl, hP⟩
set_option maxHeartbeats 4000000 in
set_option maxRecDepth 100000 in
theorem c_Nd_cleanVersion {V : Ev} {h : Nat → Nat → Nat} {t : Nat → Nat} {G : GS} {S : Sto} {r : Rg} (hR : XR (vZ V) h t r G S) (hO : OK G) (hW : WF G) {v : Nat} (hv : v < G.1 0 0) {k : Nat} (hk : k ≤ 3) {P : Sto → Prop} (hP : P S) : CT V mi_Nd_cleanVersion 0 0 [.ref (h 4 v), .int (nI k)] S (Pi (nI (clN G v k)) P) := by
  refine CT.of (cc := prog_5_method_12_code) (own := "ChainVersions$Node") (nL := 3) (d := 2) (by decide) rfl rfl rfl rfl (by simp [Value.category]) (Nat.le_of_ble_eq_true rfl) rfl ?_
  intro F hV hn C R
  subst hV
  have hb4 : G.1 4 v ≤ 100 := hO 4 v
  have h45 := hW.2.2.2.2.2 v
  refine ws_aload_n C d_Nd_cleanVersion_0 rfl ?_
  refine wx_getI C ⟨r, hR⟩ 135 v (nI (G.1 5 v)) d_Nd_cleanVersion_1 f_Nd_48 rfl rfl (dmN (by decide) hv) rfl ?_
  refine ws_istore_n C d_Nd_cleanVersion_4 (by rw [hn]; decide) ?_
  suffices hL : ∀ n, n ≤ G.1 4 v → cnF G v k n = clN G v k → WS F 5 [some (.ref (h 4 v)), some (.int (nI k)), some (.int (nI n))] [] S 0 0 from hL _ h45 rfl
  intro n
  induction n with
  | zero =>
    intro hn1 hp
    refine ws_iload_n C d_Nd_cleanVersion_5 rfl ?_
    refine ws_iconst C (nI 1) d_Nd_cleanVersion_6 (by decide) ?_
    refine ws_icmp_ltN C d_Nd_cleanVersion_7 (by first | omega | exact okl hO _ _) (by first | omega | exact okl hO _ _) (fun h7 => ?_) (fun h7 => ?_)
    · refine ws_iconst C (nI 0) d_Nd_cleanVersion_27 (by decide) ?_
      exact ws_iret C R d_Nd_cleanVersion_28 rfl (by decide) (by decide) ⟨by rw [← hp]; rfl, hP⟩
    · omega
  | succ n ih =>
    intro hn1 hp
    refine ws_iload_n C d_Nd_cleanVersion_5 rfl ?_
    refine ws_iconst C (nI 1) d_Nd_cleanVersion_6 (by decide) ?_
    refine ws_icmp_ltN C d_Nd_cleanVersion_7 (by first | omega | exact okl hO _ _) (by first | omega | exact okl hO _ _) (fun h7 => ?_) (fun h7 => ?_)
    · omega
    · refine ws_aload_n C d_Nd_cleanVersion_10 rfl ?_
      refine ws_iload_n C d_Nd_cleanVersion_11 rfl ?_
      refine ws_iload_n C d_Nd_cleanVersion_12 rfl ?_
      refine ws_callVi C w_Nd_67 (As := [_, _]) (c_Nd_isOfKey hR hO hv (show (n + 1) < 2 ^ 31 by omega) hk (P := fun S' => S = S') rfl) d_Nd_cleanVersion_13 rfl rfl (XE.k ⟨r, hR⟩ (dkN hv)) (Nat.le_of_ble_eq_true rfl) (by decide) (by decide) (by decide) (fun S' hS' => ?_)
      subst hS'
      refine ws_if_eqB C d_Nd_cleanVersion_16 (fun h16 => ?_) (fun h16 => ?_)
      · refine ws_iinc C _ d_Nd_cleanVersion_21 rfl (dec1 (by first | omega | exact okl hO _ _)) (by rw [hn]; decide) ?_
        refine ws_goto C d_Nd_cleanVersion_24 ?_
        exact ih (by omega) (by rw [← hp, cnF, if_neg (fun z => (of_decide_eq_false h16) ⟨by omega, hn1, z⟩)])
      · refine ws_iload_n C d_Nd_cleanVersion_19 rfl ?_
        exact ws_iret C R d_Nd_cleanVersion_20 rfl (by decide) (by decide) ⟨by rw [← hp, cnF, if_pos (of_decide_eq_true h16).2.2], hP⟩
set_option maxHeartbeats 4000000 in
set_option maxRecDepth 100000 in
theorem c_Nd_isClean {V : Ev} {h : Nat → Nat → Nat} {t : Nat → Nat} {G : GS} {S : Sto} {r : Rg} (hR : XR (vZ V) h t r G S) (hO : OK G) (hW : WF G) {v : Nat} (hv : v < G.1 0 0) {k : Nat} (hk : k ≤ 3) {P : Sto → Prop} (hP : P S) : CT V mi_Nd_isClean 0 0 [.ref (h 4 v), .int (nI k)] S (Pi (bI (isCl G v k)) P) := by
  refine CT.of (cc := prog_5_method_14_code) (own := "ChainVersions$Node") (nL := 3) (d := 2) (by decide) rfl rfl rfl rfl (by simp [Value.category]) (Nat.le_of_ble_eq_true rfl) rfl ?_
  intro F hV hn C R
  subst hV
  have hb4 : G.1 4 v ≤ 100 := hO 4 v
  have h45 := hW.2.2.2.2.2 v
  refine ws_aload_n C d_Nd_isClean_0 rfl ?_
  refine wx_getI C ⟨r, hR⟩ 135 v (nI (G.1 5 v)) d_Nd_isClean_1 f_Nd_48 rfl rfl (dmN (by decide) hv) rfl ?_
  refine ws_iconst C (nI 1) d_Nd_isClean_4 (by decide) ?_
  refine ws_iaddN C d_Nd_isClean_5 ?_
  refine ws_istore_n C d_Nd_isClean_6 (by rw [hn]; decide) ?_
  suffices hL : ∀ m n, n + m = G.1 4 v + 1 → 1 ≤ n → clF G v k m n = isCl G v k → WS F 7 [some (.ref (h 4 v)), some (.int (nI k)), some (.int (nI n))] [] S 0 0 from hL (G.1 4 v - G.1 5 v) _ (by omega) (by omega) rfl
  intro m
  induction m with
  | zero =>
    intro n hn1 h1 hp
    refine ws_iload_n C d_Nd_isClean_7 rfl ?_
    refine ws_aload_n C d_Nd_isClean_8 rfl ?_
    refine wx_getI C ⟨r, hR⟩ 134 v (nI (G.1 4 v)) d_Nd_isClean_9 f_Nd_45 rfl rfl (dmN (by decide) hv) rfl ?_
    refine ws_icmp_gtN C d_Nd_isClean_12 (by first | omega | exact okl hO _ _) (by first | omega | exact okl hO _ _) (fun h12 => ?_) (fun h12 => ?_)
    · refine ws_iconst C (nI 1) d_Nd_isClean_32 (by decide) ?_
      exact ws_zret C R d_Nd_isClean_33 rfl (by decide) (by decide) (by decide) ⟨by rw [← hp]; rfl, hP⟩
    · omega
  | succ m ih =>
    intro n hn1 h1 hp
    refine ws_iload_n C d_Nd_isClean_7 rfl ?_
    refine ws_aload_n C d_Nd_isClean_8 rfl ?_
    refine wx_getI C ⟨r, hR⟩ 134 v (nI (G.1 4 v)) d_Nd_isClean_9 f_Nd_45 rfl rfl (dmN (by decide) hv) rfl ?_
    refine ws_icmp_gtN C d_Nd_isClean_12 (by first | omega | exact okl hO _ _) (by first | omega | exact okl hO _ _) (fun h12 => ?_) (fun h12 => ?_)
    · omega
    · refine ws_aload_n C d_Nd_isClean_15 rfl ?_
      refine ws_iload_n C d_Nd_isClean_16 rfl ?_
      refine ws_iload_n C d_Nd_isClean_17 rfl ?_
      refine ws_callVi C w_Nd_67 (As := [_, _]) (c_Nd_isOfKey hR hO hv (show n < 2 ^ 31 by omega) hk (P := fun S' => S = S') rfl) d_Nd_isClean_18 rfl rfl (XE.k ⟨r, hR⟩ (dkN hv)) (Nat.le_of_ble_eq_true rfl) (by decide) (by decide) (by decide) (fun S' hS' => ?_)
      subst hS'
      refine ws_if_eqB C d_Nd_isClean_21 (fun h21 => ?_) (fun h21 => ?_)
      · refine ws_iinc C _ d_Nd_isClean_26 rfl (inc1 _) (by rw [hn]; decide) ?_
        refine ws_goto C d_Nd_isClean_29 ?_
        exact ih (n + 1) (by omega) (by omega) (by rw [← hp, clF, if_neg (fun z => (of_decide_eq_false h21) ⟨by omega, by omega, z⟩)])
      · refine ws_iconst C (nI 0) d_Nd_isClean_24 (by decide) ?_
        exact ws_zret C R d_Nd_isClean_25 rfl (by decide) (by decide) (by decide) ⟨by rw [← hp, clF, if_pos (of_decide_eq_true h21).2.2]; rfl, hP⟩
set_option maxHeartbeats 4000000 in
set_option maxRecDepth 100000 in
theorem c_Nd_versionAt {V : Ev} {h : Nat → Nat → Nat} {t : Nat → Nat} {G : GS} {S : Sto} {r : Rg} (hR : XR (vZ V) h t r G S) (hO : OK G) (hW : WF G) {v : Nat} (hv : v < G.1 0 0) {k a : Nat} (hk : k ≤ 3) (ha : a < 2 ^ 31) {P : Sto → Prop} (hP : P S) : CT V mi_Nd_versionAt 0 0 [.ref (h 4 v), .int (nI k), .int (nI a)] S (Pi (nI (vrN G v k (G.1 4 v - G.1 5 v) (G.1 5 v + 1) a (clN G v k))) P) := by
  refine CT.of (cc := prog_5_method_13_code) (own := "ChainVersions$Node") (nL := 6) (d := 3) (by decide) rfl rfl rfl rfl (by simp [Value.category]) (Nat.le_of_ble_eq_true rfl) rfl ?_
  intro F hV hn C R
  subst hV
  have hb4 : G.1 4 v ≤ 100 := hO 4 v
  have h45 := hW.2.2.2.2.2 v
  refine ws_aload_n C d_Nd_versionAt_0 rfl ?_
  refine ws_iload_n C d_Nd_versionAt_1 rfl ?_
  refine ws_callVi C w_Nd_71 (As := [_]) (c_Nd_cleanVersion hR hO hW hv hk (P := fun S' => S = S') rfl) d_Nd_versionAt_2 rfl rfl (XE.k ⟨r, hR⟩ (dkN hv)) (Nat.le_of_ble_eq_true rfl) (by decide) (by decide) (by decide) (fun S' hS' => ?_)
  subst hS'
  refine ws_istore_n C d_Nd_versionAt_5 (by rw [hn]; decide) ?_
  refine ws_iconst C (nI 0) d_Nd_versionAt_6 (by decide) ?_
  refine ws_istore C d_Nd_versionAt_7 (by rw [hn]; decide) ?_
  refine ws_aload_n C d_Nd_versionAt_9 rfl ?_
  refine wx_getI C ⟨r, hR⟩ 135 v (nI (G.1 5 v)) d_Nd_versionAt_10 f_Nd_48 rfl rfl (dmN (by decide) hv) rfl ?_
  refine ws_iconst C (nI 1) d_Nd_versionAt_13 (by decide) ?_
  refine ws_iaddN C d_Nd_versionAt_14 ?_
  refine ws_istore C d_Nd_versionAt_15 (by rw [hn]; decide) ?_
  suffices hL : ∀ m n q x, n + m = G.1 4 v + 1 → 1 ≤ n → q ≤ a → vrN G v k m n (a - q) x = vrN G v k (G.1 4 v - G.1 5 v) (G.1 5 v + 1) a (clN G v k) → WS F 17 [some (.ref (h 4 v)), some (.int (nI k)), some (.int (nI a)), some (.int (nI x)), some (.int (nI q)), some (.int (nI n))] [] S 0 0 from hL (G.1 4 v - G.1 5 v) _ 0 _ (by omega) (by omega) (by omega) rfl
  intro m
  induction m with
  | zero =>
    intro n q x hn1 h1 hq hp
    refine ws_iload C d_Nd_versionAt_17 rfl ?_
    refine ws_aload_n C d_Nd_versionAt_19 rfl ?_
    refine wx_getI C ⟨r, hR⟩ 134 v (nI (G.1 4 v)) d_Nd_versionAt_20 f_Nd_45 rfl rfl (dmN (by decide) hv) rfl ?_
    refine ws_icmp_gtN C d_Nd_versionAt_23 (by first | omega | exact okl hO _ _) (by first | omega | exact okl hO _ _) (fun h23 => ?_) (fun h23 => ?_)
    · refine ws_iload_n C d_Nd_versionAt_54 rfl ?_
      exact ws_iret C R d_Nd_versionAt_55 rfl (by decide) (by decide) ⟨by rw [← hp, vrN], hP⟩
    · omega
  | succ m ih =>
    intro n q x hn1 h1 hq hp
    rw [vrN] at hp
    refine ws_iload C d_Nd_versionAt_17 rfl ?_
    refine ws_aload_n C d_Nd_versionAt_19 rfl ?_
    refine wx_getI C ⟨r, hR⟩ 134 v (nI (G.1 4 v)) d_Nd_versionAt_20 f_Nd_45 rfl rfl (dmN (by decide) hv) rfl ?_
    refine ws_icmp_gtN C d_Nd_versionAt_23 (by first | omega | exact okl hO _ _) (by first | omega | exact okl hO _ _) (fun h23 => ?_) (fun h23 => ?_)
    · omega
    · refine ws_iload C d_Nd_versionAt_26 rfl ?_
      refine ws_iload_n C d_Nd_versionAt_28 rfl ?_
      refine ws_icmp_geN C d_Nd_versionAt_29 (by first | omega | exact okl hO _ _) (by first | omega | exact okl hO _ _) (fun h29 => ?_) (fun h29 => ?_)
      · refine ws_iload_n C d_Nd_versionAt_54 rfl ?_
        exact ws_iret C R d_Nd_versionAt_55 rfl (by decide) (by decide) ⟨by rw [← hp, if_pos (by omega)], hP⟩
      · refine ws_aload_n C d_Nd_versionAt_32 rfl ?_
        refine ws_iload C d_Nd_versionAt_33 rfl ?_
        refine ws_iload_n C d_Nd_versionAt_35 rfl ?_
        refine ws_callVi C w_Nd_67 (As := [_, _]) (c_Nd_isOfKey hR hO hv (show n < 2 ^ 31 by omega) hk (P := fun S' => S = S') rfl) d_Nd_versionAt_36 rfl rfl (XE.k ⟨r, hR⟩ (dkN hv)) (Nat.le_of_ble_eq_true rfl) (by decide) (by decide) (by decide) (fun S' hS' => ?_)
        subst hS'
        refine ws_if_eqB C d_Nd_versionAt_39 (fun h39 => ?_) (fun h39 => ?_)
        · refine ws_iinc C _ d_Nd_versionAt_48 rfl (inc1 _) (by rw [hn]; decide) ?_
          refine ws_goto C d_Nd_versionAt_51 ?_
          exact ih (n + 1) q x (by omega) (by omega) hq (by rw [← hp, if_neg (by omega), if_neg (fun z => (of_decide_eq_false h39) ⟨by omega, by omega, z⟩)])
        · refine ws_iload C d_Nd_versionAt_42 rfl ?_
          refine ws_istore_n C d_Nd_versionAt_44 (by rw [hn]; decide) ?_
          refine ws_iinc C _ d_Nd_versionAt_45 rfl (inc1 _) (by rw [hn]; decide) ?_
          refine ws_iinc C _ d_Nd_versionAt_48 rfl (inc1 _) (by rw [hn]; decide) ?_
          refine ws_goto C d_Nd_versionAt_51 ?_
          exact ih (n + 1) (q + 1) n (by omega) (by omega) (by omega) (by rw [← hp, if_neg (by omega), if_pos (of_decide_eq_true h39).2.2, Nat.sub_sub])
set_option maxHeartbeats 4000000 in
set_option maxRecDepth 100000 in
theorem c_Nd_hasVersion {V : Ev} {h : Nat → Nat → Nat} {t : Nat → Nat} {G : GS} {S : Sto} {r : Rg} (hR : XR (vZ V) h t r G S) (hO : OK G) (hW : WF G) {v : Nat} (hv : v < G.1 0 0) {k n : Nat} (hk : k ≤ 3) (hn2 : n < 2 ^ 31) {P : Sto → Prop} (hP : P S) : CT V mi_Nd_hasVersion 0 0 [.ref (h 4 v), .int (nI k), .int (nI n)] S (Pi (bI (decide (n = clN G v k ∨ (G.1 5 v < n ∧ n ≤ G.1 4 v ∧ G.1 9 (128 * v + n) = k)))) P) := by
  refine CT.of (cc := prog_5_method_15_code) (own := "ChainVersions$Node") (nL := 3) (d := 3) (by decide) rfl rfl rfl rfl (by simp [Value.category]) (Nat.le_of_ble_eq_true rfl) rfl ?_
  intro F hV hn C R
  subst hV
  have hb4 : G.1 4 v ≤ 100 := hO 4 v
  have h45 := hW.2.2.2.2.2 v
  refine ws_iload_n C d_Nd_hasVersion_0 rfl ?_
  refine ws_aload_n C d_Nd_hasVersion_1 rfl ?_
  refine ws_iload_n C d_Nd_hasVersion_2 rfl ?_
  refine ws_callVi C w_Nd_71 (As := [_]) (c_Nd_cleanVersion hR hO hW hv hk (P := fun S' => S = S') rfl) d_Nd_hasVersion_3 rfl rfl (XE.k ⟨r, hR⟩ (dkN hv)) (Nat.le_of_ble_eq_true rfl) (by decide) (by decide) (by decide) (fun S' hS' => ?_)
  subst hS'
  refine ws_icmp_eqN C d_Nd_hasVersion_6 (by first | omega | exact okl hO _ _ | (have := clN_le hO v k; omega)) (by first | omega | exact okl hO _ _ | (have := clN_le hO v k; omega)) (fun h6 => ?_) (fun h6 => ?_)
  · refine ws_iconst C (nI 1) d_Nd_hasVersion_26 (by decide) ?_
    refine ws_goto C d_Nd_hasVersion_27 ?_
    exact ws_zret C R d_Nd_hasVersion_31 rfl (by decide) (by decide) (by decide) ⟨by rw [show decide (n = clN G v k ∨ (G.1 5 v < n ∧ n ≤ G.1 4 v ∧ G.1 9 (128 * v + n) = k)) = true from decide_eq_true (Or.inl h6)]; rfl, hP⟩
  · refine ws_iload_n C d_Nd_hasVersion_9 rfl ?_
    refine ws_aload_n C d_Nd_hasVersion_10 rfl ?_
    refine wx_getI C ⟨r, hR⟩ 135 v (nI (G.1 5 v)) d_Nd_hasVersion_11 f_Nd_48 rfl rfl (dmN (by decide) hv) rfl ?_
    refine ws_icmp_leN C d_Nd_hasVersion_14 (by first | omega | exact okl hO _ _ | (have := clN_le hO v k; omega)) (by first | omega | exact okl hO _ _ | (have := clN_le hO v k; omega)) (fun h14 => ?_) (fun h14 => ?_)
    · refine ws_iconst C (nI 0) d_Nd_hasVersion_30 (by decide) ?_
      exact ws_zret C R d_Nd_hasVersion_31 rfl (by decide) (by decide) (by decide) ⟨by rw [show decide (n = clN G v k ∨ (G.1 5 v < n ∧ n ≤ G.1 4 v ∧ G.1 9 (128 * v + n) = k)) = false from decide_eq_false (by omega)]; rfl, hP⟩
    · refine ws_aload_n C d_Nd_hasVersion_17 rfl ?_
      refine ws_iload_n C d_Nd_hasVersion_18 rfl ?_
      refine ws_iload_n C d_Nd_hasVersion_19 rfl ?_
      refine ws_callVi C w_Nd_67 (As := [_, _]) (c_Nd_isOfKey hR hO hv (show n < 2 ^ 31 by omega) hk (P := fun S' => S = S') rfl) d_Nd_hasVersion_20 rfl rfl (XE.k ⟨r, hR⟩ (dkN hv)) (Nat.le_of_ble_eq_true rfl) (by decide) (by decide) (by decide) (fun S' hS' => ?_)
      subst hS'
      refine ws_if_eqB C d_Nd_hasVersion_23 (fun h23 => ?_) (fun h23 => ?_)
      · refine ws_iconst C (nI 0) d_Nd_hasVersion_30 (by decide) ?_
        exact ws_zret C R d_Nd_hasVersion_31 rfl (by decide) (by decide) (by decide) ⟨by rw [show decide (n = clN G v k ∨ (G.1 5 v < n ∧ n ≤ G.1 4 v ∧ G.1 9 (128 * v + n) = k)) = false from decide_eq_false (fun z => z.elim h6 (fun y => (of_decide_eq_false h23) ⟨by omega, y.2.1, y.2.2⟩))]; rfl, hP⟩
      · refine ws_iconst C (nI 1) d_Nd_hasVersion_26 (by decide) ?_
        refine ws_goto C d_Nd_hasVersion_27 ?_
        exact ws_zret C R d_Nd_hasVersion_31 rfl (by decide) (by decide) (by decide) ⟨by rw [show decide (n = clN G v k ∨ (G.1 5 v < n ∧ n ≤ G.1 4 v ∧ G.1 9 (128 * v + n) = k)) = true from decide_eq_true (Or.inr ⟨by omega, (of_decide_eq_true h23).2⟩)]; rfl, hP⟩
end
