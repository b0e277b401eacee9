section
-- ===== PART A: goes FIRST, ahead of the names: the tables' words, and 'selects' of the private methods out of them =====
/-- a private method of a class that the tables say can be made, by its rows of tables_1 -/
def lw_okq (q : MethodName × Nat) : Prop := (q.1.cls ≠ "java/lang/invoke/MethodHandle" ∧ q.1.cls ≠ "java/lang/invoke/VarHandle") ∧ Cond.instantiable q.1.cls q.2 ∈ tables_1 ∧ Cond.privateMethod q.1 ∈ tables_1 ∧ Cond.instanceMethod q.1 ∈ tables_1
theorem lw_p0 : lw_okq (⟨"ChainVersions", "clientOf", "(I)LChainVersions$Client;"⟩, 6) := ⟨⟨by decide +kernel, by decide +kernel⟩, List.mem_of_getElem? (i := 18) (by decide +kernel), List.mem_of_getElem? (i := 176) (by decide +kernel), List.mem_of_getElem? (i := 177) (by decide +kernel)⟩
theorem lw_p1 : lw_okq (⟨"ChainVersions", "sendWrite", "(ILChainVersions$Client;)I"⟩, 6) := ⟨⟨by decide +kernel, by decide +kernel⟩, List.mem_of_getElem? (i := 18) (by decide +kernel), List.mem_of_getElem? (i := 191) (by decide +kernel), List.mem_of_getElem? (i := 192) (by decide +kernel)⟩
theorem lw_p2 : lw_okq (⟨"ChainVersions", "livingNode", "(I)LChainVersions$Node;"⟩, 6) := ⟨⟨by decide +kernel, by decide +kernel⟩, List.mem_of_getElem? (i := 18) (by decide +kernel), List.mem_of_getElem? (i := 203) (by decide +kernel), List.mem_of_getElem? (i := 204) (by decide +kernel)⟩
theorem lw_p3 : lw_okq (⟨"ChainVersions", "take", "(LChainVersions$Node;LChainVersions$Update;)V"⟩, 6) := ⟨⟨by decide +kernel, by decide +kernel⟩, List.mem_of_getElem? (i := 18) (by decide +kernel), List.mem_of_getElem? (i := 250) (by decide +kernel), List.mem_of_getElem? (i := 251) (by decide +kernel)⟩
theorem lw_p4 : lw_okq (⟨"ChainVersions", "settleAll", "(LChainVersions$Node;)V"⟩, 6) := ⟨⟨by decide +kernel, by decide +kernel⟩, List.mem_of_getElem? (i := 18) (by decide +kernel), List.mem_of_getElem? (i := 266) (by decide +kernel), List.mem_of_getElem? (i := 267) (by decide +kernel)⟩
theorem lw_p5 : lw_okq (⟨"ChainVersions", "finishWrite", "(LChainVersions$Update;I)V"⟩, 6) := ⟨⟨by decide +kernel, by decide +kernel⟩, List.mem_of_getElem? (i := 18) (by decide +kernel), List.mem_of_getElem? (i := 271) (by decide +kernel), List.mem_of_getElem? (i := 272) (by decide +kernel)⟩
theorem lw_p6 : lw_okq (⟨"ChainVersions", "sendAck", "(LChainVersions$Node;)V"⟩, 6) := ⟨⟨by decide +kernel, by decide +kernel⟩, List.mem_of_getElem? (i := 18) (by decide +kernel), List.mem_of_getElem? (i := 279) (by decide +kernel), List.mem_of_getElem? (i := 280) (by decide +kernel)⟩
theorem lw_p7 : lw_okq (⟨"ChainVersions", "send", "(LChainVersions$Message;)V"⟩, 6) := ⟨⟨by decide +kernel, by decide +kernel⟩, List.mem_of_getElem? (i := 18) (by decide +kernel), List.mem_of_getElem? (i := 329) (by decide +kernel), List.mem_of_getElem? (i := 330) (by decide +kernel)⟩
theorem lw_p8 : lw_okq (⟨"java/util/ArrayList", "add", "(Ljava/lang/Object;[Ljava/lang/Object;I)V"⟩, 3) := ⟨⟨by decide +kernel, by decide +kernel⟩, List.mem_of_getElem? (i := 30) (by decide +kernel), List.mem_of_getElem? (i := 337) (by decide +kernel), List.mem_of_getElem? (i := 338) (by decide +kernel)⟩
theorem lw_p9 : lw_okq (⟨"java/util/ArrayList", "grow", "()[Ljava/lang/Object;"⟩, 3) := ⟨⟨by decide +kernel, by decide +kernel⟩, List.mem_of_getElem? (i := 30) (by decide +kernel), List.mem_of_getElem? (i := 341) (by decide +kernel), List.mem_of_getElem? (i := 342) (by decide +kernel)⟩
theorem lw_p10 : lw_okq (⟨"java/util/ArrayList", "grow", "(I)[Ljava/lang/Object;"⟩, 3) := ⟨⟨by decide +kernel, by decide +kernel⟩, List.mem_of_getElem? (i := 30) (by decide +kernel), List.mem_of_getElem? (i := 345) (by decide +kernel), List.mem_of_getElem? (i := 346) (by decide +kernel)⟩
theorem lw_p11 : lw_okq (⟨"ChainVersions", "readyNode", "(I)LChainVersions$Node;"⟩, 6) := ⟨⟨by decide +kernel, by decide +kernel⟩, List.mem_of_getElem? (i := 18) (by decide +kernel), List.mem_of_getElem? (i := 395) (by decide +kernel), List.mem_of_getElem? (i := 396) (by decide +kernel)⟩
theorem lw_p12 : lw_okq (⟨"ChainVersions", "serve", "(ILChainVersions$Client;LChainVersions$Node;)I"⟩, 6) := ⟨⟨by decide +kernel, by decide +kernel⟩, List.mem_of_getElem? (i := 18) (by decide +kernel), List.mem_of_getElem? (i := 403) (by decide +kernel), List.mem_of_getElem? (i := 404) (by decide +kernel)⟩
theorem lw_p13 : lw_okq (⟨"ChainVersions", "firstOnLink", "(II)I"⟩, 6) := ⟨⟨by decide +kernel, by decide +kernel⟩, List.mem_of_getElem? (i := 18) (by decide +kernel), List.mem_of_getElem? (i := 451) (by decide +kernel), List.mem_of_getElem? (i := 452) (by decide +kernel)⟩
theorem lw_p14 : lw_okq (⟨"java/util/ArrayList", "fastRemove", "([Ljava/lang/Object;I)V"⟩, 3) := ⟨⟨by decide +kernel, by decide +kernel⟩, List.mem_of_getElem? (i := 30) (by decide +kernel), List.mem_of_getElem? (i := 481) (by decide +kernel), List.mem_of_getElem? (i := 482) (by decide +kernel)⟩
theorem lw_p15 : lw_okq (⟨"ChainVersions", "receive", "(LChainVersions$Node;LChainVersions$Message;)V"⟩, 6) := ⟨⟨by decide +kernel, by decide +kernel⟩, List.mem_of_getElem? (i := 18) (by decide +kernel), List.mem_of_getElem? (i := 486) (by decide +kernel), List.mem_of_getElem? (i := 487) (by decide +kernel)⟩
def lw_privs_1 : List (MethodName × Nat) := [(⟨"ChainVersions", "clientOf", "(I)LChainVersions$Client;"⟩, 6), (⟨"ChainVersions", "sendWrite", "(ILChainVersions$Client;)I"⟩, 6), (⟨"ChainVersions", "livingNode", "(I)LChainVersions$Node;"⟩, 6), (⟨"ChainVersions", "take", "(LChainVersions$Node;LChainVersions$Update;)V"⟩, 6), (⟨"ChainVersions", "settleAll", "(LChainVersions$Node;)V"⟩, 6), (⟨"ChainVersions", "finishWrite", "(LChainVersions$Update;I)V"⟩, 6), (⟨"ChainVersions", "sendAck", "(LChainVersions$Node;)V"⟩, 6), (⟨"ChainVersions", "send", "(LChainVersions$Message;)V"⟩, 6), (⟨"java/util/ArrayList", "add", "(Ljava/lang/Object;[Ljava/lang/Object;I)V"⟩, 3), (⟨"java/util/ArrayList", "grow", "()[Ljava/lang/Object;"⟩, 3), (⟨"java/util/ArrayList", "grow", "(I)[Ljava/lang/Object;"⟩, 3), (⟨"ChainVersions", "readyNode", "(I)LChainVersions$Node;"⟩, 6), (⟨"ChainVersions", "serve", "(ILChainVersions$Client;LChainVersions$Node;)I"⟩, 6), (⟨"ChainVersions", "firstOnLink", "(II)I"⟩, 6), (⟨"java/util/ArrayList", "fastRemove", "([Ljava/lang/Object;I)V"⟩, 3), (⟨"ChainVersions", "receive", "(LChainVersions$Node;LChainVersions$Message;)V"⟩, 6)]
theorem lw_r1 : ∀ q ∈ lw_privs_1, lw_okq q := List.forall_mem_cons.mpr ⟨lw_p0, List.forall_mem_cons.mpr ⟨lw_p1, List.forall_mem_cons.mpr ⟨lw_p2, List.forall_mem_cons.mpr ⟨lw_p3, List.forall_mem_cons.mpr ⟨lw_p4, List.forall_mem_cons.mpr ⟨lw_p5, List.forall_mem_cons.mpr ⟨lw_p6, List.forall_mem_cons.mpr ⟨lw_p7, List.forall_mem_cons.mpr ⟨lw_p8, List.forall_mem_cons.mpr ⟨lw_p9, List.forall_mem_cons.mpr ⟨lw_p10, List.forall_mem_cons.mpr ⟨lw_p11, List.forall_mem_cons.mpr ⟨lw_p12, List.forall_mem_cons.mpr ⟨lw_p13, List.forall_mem_cons.mpr ⟨lw_p14, List.forall_mem_cons.mpr ⟨lw_p15, fun _ h => absurd h List.not_mem_nil⟩⟩⟩⟩⟩⟩⟩⟩⟩⟩⟩⟩⟩⟩⟩⟩
theorem lw_p16 : lw_okq (⟨"ChainVersions", "settleUpTo", "(LChainVersions$Node;I)V"⟩, 6) := ⟨⟨by decide +kernel, by decide +kernel⟩, List.mem_of_getElem? (i := 18) (by decide +kernel), List.mem_of_getElem? (i := 490) (by decide +kernel), List.mem_of_getElem? (i := 491) (by decide +kernel)⟩
theorem lw_p17 : lw_okq (⟨"ChainVersions", "answer", "(LChainVersions$Node;LChainVersions$Message;)V"⟩, 6) := ⟨⟨by decide +kernel, by decide +kernel⟩, List.mem_of_getElem? (i := 18) (by decide +kernel), List.mem_of_getElem? (i := 494) (by decide +kernel), List.mem_of_getElem? (i := 495) (by decide +kernel)⟩
theorem lw_p18 : lw_okq (⟨"ChainVersions", "useAnswer", "(LChainVersions$Node;LChainVersions$Message;)V"⟩, 6) := ⟨⟨by decide +kernel, by decide +kernel⟩, List.mem_of_getElem? (i := 18) (by decide +kernel), List.mem_of_getElem? (i := 498) (by decide +kernel), List.mem_of_getElem? (i := 499) (by decide +kernel)⟩
theorem lw_p19 : lw_okq (⟨"ChainVersions", "receiveCopy", "(LChainVersions$Node;LChainVersions$Message;)V"⟩, 6) := ⟨⟨by decide +kernel, by decide +kernel⟩, List.mem_of_getElem? (i := 18) (by decide +kernel), List.mem_of_getElem? (i := 511) (by decide +kernel), List.mem_of_getElem? (i := 512) (by decide +kernel)⟩
theorem lw_p20 : lw_okq (⟨"ChainVersions", "madeNode", "(I)LChainVersions$Node;"⟩, 6) := ⟨⟨by decide +kernel, by decide +kernel⟩, List.mem_of_getElem? (i := 18) (by decide +kernel), List.mem_of_getElem? (i := 515) (by decide +kernel), List.mem_of_getElem? (i := 516) (by decide +kernel)⟩
theorem lw_p21 : lw_okq (⟨"ChainVersions", "tellNeighbours", "(LChainVersions$Node;)V"⟩, 6) := ⟨⟨by decide +kernel, by decide +kernel⟩, List.mem_of_getElem? (i := 18) (by decide +kernel), List.mem_of_getElem? (i := 519) (by decide +kernel), List.mem_of_getElem? (i := 520) (by decide +kernel)⟩
theorem lw_p22 : lw_okq (⟨"ChainVersions", "sendCopy", "(LChainVersions$Node;)V"⟩, 6) := ⟨⟨by decide +kernel, by decide +kernel⟩, List.mem_of_getElem? (i := 18) (by decide +kernel), List.mem_of_getElem? (i := 523) (by decide +kernel), List.mem_of_getElem? (i := 524) (by decide +kernel)⟩
theorem lw_p23 : lw_okq (⟨"ChainVersions", "hasOtherReadyNode", "(I)Z"⟩, 6) := ⟨⟨by decide +kernel, by decide +kernel⟩, List.mem_of_getElem? (i := 18) (by decide +kernel), List.mem_of_getElem? (i := 535) (by decide +kernel), List.mem_of_getElem? (i := 536) (by decide +kernel)⟩
theorem lw_p24 : lw_okq (⟨"ChainVersions", "loseMessagesTo", "(II)V"⟩, 6) := ⟨⟨by decide +kernel, by decide +kernel⟩, List.mem_of_getElem? (i := 18) (by decide +kernel), List.mem_of_getElem? (i := 540) (by decide +kernel), List.mem_of_getElem? (i := 541) (by decide +kernel)⟩
theorem lw_p25 : lw_okq (⟨"ChainVersions", "isLongSilent", "(I)Z"⟩, 6) := ⟨⟨by decide +kernel, by decide +kernel⟩, List.mem_of_getElem? (i := 18) (by decide +kernel), List.mem_of_getElem? (i := 559) (by decide +kernel), List.mem_of_getElem? (i := 560) (by decide +kernel)⟩
theorem lw_p26 : lw_okq (⟨"ChainVersions", "withoutSilent", "(I)LChainVersions$Configuration;"⟩, 6) := ⟨⟨by decide +kernel, by decide +kernel⟩, List.mem_of_getElem? (i := 18) (by decide +kernel), List.mem_of_getElem? (i := 563) (by decide +kernel), List.mem_of_getElem? (i := 564) (by decide +kernel)⟩
theorem lw_p27 : lw_okq (⟨"ChainVersions", "serveWaitingReads", "(LChainVersions$Node;)V"⟩, 6) := ⟨⟨by decide +kernel, by decide +kernel⟩, List.mem_of_getElem? (i := 18) (by decide +kernel), List.mem_of_getElem? (i := 571) (by decide +kernel), List.mem_of_getElem? (i := 572) (by decide +kernel)⟩
theorem lw_p28 : lw_okq (⟨"ChainVersionsModel", "sendWrite", "(I)I"⟩, 27) := ⟨⟨by decide +kernel, by decide +kernel⟩, List.mem_of_getElem? (i := 607) (by decide +kernel), List.mem_of_getElem? (i := 703) (by decide +kernel), List.mem_of_getElem? (i := 704) (by decide +kernel)⟩
theorem lw_p29 : lw_okq (⟨"ChainVersionsModel", "isIn", "(II)Z"⟩, 27) := ⟨⟨by decide +kernel, by decide +kernel⟩, List.mem_of_getElem? (i := 607) (by decide +kernel), List.mem_of_getElem? (i := 707) (by decide +kernel), List.mem_of_getElem? (i := 708) (by decide +kernel)⟩
theorem lw_p30 : lw_okq (⟨"ChainVersionsModel", "predecessor", "(I)I"⟩, 27) := ⟨⟨by decide +kernel, by decide +kernel⟩, List.mem_of_getElem? (i := 607) (by decide +kernel), List.mem_of_getElem? (i := 711) (by decide +kernel), List.mem_of_getElem? (i := 712) (by decide +kernel)⟩
theorem lw_p31 : lw_okq (⟨"ChainVersionsModel", "take", "(IIIII)V"⟩, 27) := ⟨⟨by decide +kernel, by decide +kernel⟩, List.mem_of_getElem? (i := 607) (by decide +kernel), List.mem_of_getElem? (i := 715) (by decide +kernel), List.mem_of_getElem? (i := 716) (by decide +kernel)⟩
def lw_privs_2 : List (MethodName × Nat) := [(⟨"ChainVersions", "settleUpTo", "(LChainVersions$Node;I)V"⟩, 6), (⟨"ChainVersions", "answer", "(LChainVersions$Node;LChainVersions$Message;)V"⟩, 6), (⟨"ChainVersions", "useAnswer", "(LChainVersions$Node;LChainVersions$Message;)V"⟩, 6), (⟨"ChainVersions", "receiveCopy", "(LChainVersions$Node;LChainVersions$Message;)V"⟩, 6), (⟨"ChainVersions", "madeNode", "(I)LChainVersions$Node;"⟩, 6), (⟨"ChainVersions", "tellNeighbours", "(LChainVersions$Node;)V"⟩, 6), (⟨"ChainVersions", "sendCopy", "(LChainVersions$Node;)V"⟩, 6), (⟨"ChainVersions", "hasOtherReadyNode", "(I)Z"⟩, 6), (⟨"ChainVersions", "loseMessagesTo", "(II)V"⟩, 6), (⟨"ChainVersions", "isLongSilent", "(I)Z"⟩, 6), (⟨"ChainVersions", "withoutSilent", "(I)LChainVersions$Configuration;"⟩, 6), (⟨"ChainVersions", "serveWaitingReads", "(LChainVersions$Node;)V"⟩, 6), (⟨"ChainVersionsModel", "sendWrite", "(I)I"⟩, 27), (⟨"ChainVersionsModel", "isIn", "(II)Z"⟩, 27), (⟨"ChainVersionsModel", "predecessor", "(I)I"⟩, 27), (⟨"ChainVersionsModel", "take", "(IIIII)V"⟩, 27)]
theorem lw_r2 : ∀ q ∈ lw_privs_2, lw_okq q := List.forall_mem_cons.mpr ⟨lw_p16, List.forall_mem_cons.mpr ⟨lw_p17, List.forall_mem_cons.mpr ⟨lw_p18, List.forall_mem_cons.mpr ⟨lw_p19, List.forall_mem_cons.mpr ⟨lw_p20, List.forall_mem_cons.mpr ⟨lw_p21, List.forall_mem_cons.mpr ⟨lw_p22, List.forall_mem_cons.mpr ⟨lw_p23, List.forall_mem_cons.mpr ⟨lw_p24, List.forall_mem_cons.mpr ⟨lw_p25, List.forall_mem_cons.mpr ⟨lw_p26, List.forall_mem_cons.mpr ⟨lw_p27, List.forall_mem_cons.mpr ⟨lw_p28, List.forall_mem_cons.mpr ⟨lw_p29, List.forall_mem_cons.mpr ⟨lw_p30, List.forall_mem_cons.mpr ⟨lw_p31, fun _ h => absurd h List.not_mem_nil⟩⟩⟩⟩⟩⟩⟩⟩⟩⟩⟩⟩⟩⟩⟩⟩
theorem lw_p32 : lw_okq (⟨"ChainVersionsModel", "successor", "(I)I"⟩, 27) := ⟨⟨by decide +kernel, by decide +kernel⟩, List.mem_of_getElem? (i := 607) (by decide +kernel), List.mem_of_getElem? (i := 719) (by decide +kernel), List.mem_of_getElem? (i := 720) (by decide +kernel)⟩
theorem lw_p33 : lw_okq (⟨"ChainVersionsModel", "settleAll", "(I)V"⟩, 27) := ⟨⟨by decide +kernel, by decide +kernel⟩, List.mem_of_getElem? (i := 607) (by decide +kernel), List.mem_of_getElem? (i := 723) (by decide +kernel), List.mem_of_getElem? (i := 724) (by decide +kernel)⟩
theorem lw_p34 : lw_okq (⟨"ChainVersionsModel", "send", "(IIIII)V"⟩, 27) := ⟨⟨by decide +kernel, by decide +kernel⟩, List.mem_of_getElem? (i := 607) (by decide +kernel), List.mem_of_getElem? (i := 727) (by decide +kernel), List.mem_of_getElem? (i := 728) (by decide +kernel)⟩
theorem lw_p35 : lw_okq (⟨"ChainVersionsModel", "serves", "(I)Z"⟩, 27) := ⟨⟨by decide +kernel, by decide +kernel⟩, List.mem_of_getElem? (i := 607) (by decide +kernel), List.mem_of_getElem? (i := 735) (by decide +kernel), List.mem_of_getElem? (i := 736) (by decide +kernel)⟩
theorem lw_p36 : lw_okq (⟨"ChainVersionsModel", "serve", "(II)I"⟩, 27) := ⟨⟨by decide +kernel, by decide +kernel⟩, List.mem_of_getElem? (i := 607) (by decide +kernel), List.mem_of_getElem? (i := 739) (by decide +kernel), List.mem_of_getElem? (i := 740) (by decide +kernel)⟩
theorem lw_p37 : lw_okq (⟨"ChainVersionsModel", "isClean", "(II)Z"⟩, 27) := ⟨⟨by decide +kernel, by decide +kernel⟩, List.mem_of_getElem? (i := 607) (by decide +kernel), List.mem_of_getElem? (i := 743) (by decide +kernel), List.mem_of_getElem? (i := 744) (by decide +kernel)⟩
theorem lw_p38 : lw_okq (⟨"ChainVersionsModel", "cleanNumber", "(II)I"⟩, 27) := ⟨⟨by decide +kernel, by decide +kernel⟩, List.mem_of_getElem? (i := 607) (by decide +kernel), List.mem_of_getElem? (i := 747) (by decide +kernel), List.mem_of_getElem? (i := 748) (by decide +kernel)⟩
theorem lw_p39 : lw_okq (⟨"ChainVersionsModel", "done", "(III)V"⟩, 27) := ⟨⟨by decide +kernel, by decide +kernel⟩, List.mem_of_getElem? (i := 607) (by decide +kernel), List.mem_of_getElem? (i := 751) (by decide +kernel), List.mem_of_getElem? (i := 752) (by decide +kernel)⟩
theorem lw_p40 : lw_okq (⟨"ChainVersionsModel", "valueAt", "(II)I"⟩, 27) := ⟨⟨by decide +kernel, by decide +kernel⟩, List.mem_of_getElem? (i := 607) (by decide +kernel), List.mem_of_getElem? (i := 755) (by decide +kernel), List.mem_of_getElem? (i := 756) (by decide +kernel)⟩
theorem lw_p41 : lw_okq (⟨"ChainVersionsModel", "tailOf", "(I)I"⟩, 27) := ⟨⟨by decide +kernel, by decide +kernel⟩, List.mem_of_getElem? (i := 607) (by decide +kernel), List.mem_of_getElem? (i := 759) (by decide +kernel), List.mem_of_getElem? (i := 760) (by decide +kernel)⟩
theorem lw_p42 : lw_okq (⟨"ChainVersionsModel", "isDone", "(I)Z"⟩, 27) := ⟨⟨by decide +kernel, by decide +kernel⟩, List.mem_of_getElem? (i := 607) (by decide +kernel), List.mem_of_getElem? (i := 775) (by decide +kernel), List.mem_of_getElem? (i := 776) (by decide +kernel)⟩
theorem lw_p43 : lw_okq (⟨"ChainVersionsModel", "first", "(II)I"⟩, 27) := ⟨⟨by decide +kernel, by decide +kernel⟩, List.mem_of_getElem? (i := 607) (by decide +kernel), List.mem_of_getElem? (i := 787) (by decide +kernel), List.mem_of_getElem? (i := 788) (by decide +kernel)⟩
theorem lw_p44 : lw_okq (⟨"ChainVersionsModel", "strike", "(I)V"⟩, 27) := ⟨⟨by decide +kernel, by decide +kernel⟩, List.mem_of_getElem? (i := 607) (by decide +kernel), List.mem_of_getElem? (i := 791) (by decide +kernel), List.mem_of_getElem? (i := 792) (by decide +kernel)⟩
theorem lw_p45 : lw_okq (⟨"ChainVersionsModel", "act", "(IIIII)V"⟩, 27) := ⟨⟨by decide +kernel, by decide +kernel⟩, List.mem_of_getElem? (i := 607) (by decide +kernel), List.mem_of_getElem? (i := 795) (by decide +kernel), List.mem_of_getElem? (i := 796) (by decide +kernel)⟩
theorem lw_p46 : lw_okq (⟨"ChainVersionsModel", "takeFrom", "(III)V"⟩, 27) := ⟨⟨by decide +kernel, by decide +kernel⟩, List.mem_of_getElem? (i := 607) (by decide +kernel), List.mem_of_getElem? (i := 799) (by decide +kernel), List.mem_of_getElem? (i := 800) (by decide +kernel)⟩
theorem lw_p47 : lw_okq (⟨"ChainVersionsModel", "answer", "(III)V"⟩, 27) := ⟨⟨by decide +kernel, by decide +kernel⟩, List.mem_of_getElem? (i := 607) (by decide +kernel), List.mem_of_getElem? (i := 803) (by decide +kernel), List.mem_of_getElem? (i := 804) (by decide +kernel)⟩
def lw_privs_3 : List (MethodName × Nat) := [(⟨"ChainVersionsModel", "successor", "(I)I"⟩, 27), (⟨"ChainVersionsModel", "settleAll", "(I)V"⟩, 27), (⟨"ChainVersionsModel", "send", "(IIIII)V"⟩, 27), (⟨"ChainVersionsModel", "serves", "(I)Z"⟩, 27), (⟨"ChainVersionsModel", "serve", "(II)I"⟩, 27), (⟨"ChainVersionsModel", "isClean", "(II)Z"⟩, 27), (⟨"ChainVersionsModel", "cleanNumber", "(II)I"⟩, 27), (⟨"ChainVersionsModel", "done", "(III)V"⟩, 27), (⟨"ChainVersionsModel", "valueAt", "(II)I"⟩, 27), (⟨"ChainVersionsModel", "tailOf", "(I)I"⟩, 27), (⟨"ChainVersionsModel", "isDone", "(I)Z"⟩, 27), (⟨"ChainVersionsModel", "first", "(II)I"⟩, 27), (⟨"ChainVersionsModel", "strike", "(I)V"⟩, 27), (⟨"ChainVersionsModel", "act", "(IIIII)V"⟩, 27), (⟨"ChainVersionsModel", "takeFrom", "(III)V"⟩, 27), (⟨"ChainVersionsModel", "answer", "(III)V"⟩, 27)]
theorem lw_r3 : ∀ q ∈ lw_privs_3, lw_okq q := List.forall_mem_cons.mpr ⟨lw_p32, List.forall_mem_cons.mpr ⟨lw_p33, List.forall_mem_cons.mpr ⟨lw_p34, List.forall_mem_cons.mpr ⟨lw_p35, List.forall_mem_cons.mpr ⟨lw_p36, List.forall_mem_cons.mpr ⟨lw_p37, List.forall_mem_cons.mpr ⟨lw_p38, List.forall_mem_cons.mpr ⟨lw_p39, List.forall_mem_cons.mpr ⟨lw_p40, List.forall_mem_cons.mpr ⟨lw_p41, List.forall_mem_cons.mpr ⟨lw_p42, List.forall_mem_cons.mpr ⟨lw_p43, List.forall_mem_cons.mpr ⟨lw_p44, List.forall_mem_cons.mpr ⟨lw_p45, List.forall_mem_cons.mpr ⟨lw_p46, List.forall_mem_cons.mpr ⟨lw_p47, fun _ h => absurd h List.not_mem_nil⟩⟩⟩⟩⟩⟩⟩⟩⟩⟩⟩⟩⟩⟩⟩⟩
theorem lw_p48 : lw_okq (⟨"ChainVersionsModel", "arrive", "(IIII)V"⟩, 27) := ⟨⟨by decide +kernel, by decide +kernel⟩, List.mem_of_getElem? (i := 607) (by decide +kernel), List.mem_of_getElem? (i := 807) (by decide +kernel), List.mem_of_getElem? (i := 808) (by decide +kernel)⟩
theorem lw_p49 : lw_okq (⟨"ChainVersionsModel", "lose", "(II)V"⟩, 27) := ⟨⟨by decide +kernel, by decide +kernel⟩, List.mem_of_getElem? (i := 607) (by decide +kernel), List.mem_of_getElem? (i := 819) (by decide +kernel), List.mem_of_getElem? (i := 820) (by decide +kernel)⟩
def lw_privs_4 : List (MethodName × Nat) := [(⟨"ChainVersionsModel", "arrive", "(IIII)V"⟩, 27), (⟨"ChainVersionsModel", "lose", "(II)V"⟩, 27)]
theorem lw_r4 : ∀ q ∈ lw_privs_4, lw_okq q := List.forall_mem_cons.mpr ⟨lw_p48, List.forall_mem_cons.mpr ⟨lw_p49, fun _ h => absurd h List.not_mem_nil⟩⟩
def lw_privs : List (MethodName × Nat) := lw_privs_1 ++ (lw_privs_2 ++ (lw_privs_3 ++ (lw_privs_4)))
def lw_tbl : List Cond := k2_sels lw_privs ++ tables_1
theorem lw_privs_ok : ∀ q ∈ lw_privs, lw_okq q := by
  show ∀ q ∈ lw_privs_1 ++ (lw_privs_2 ++ (lw_privs_3 ++ (lw_privs_4))), lw_okq q
  exact List.forall_mem_append.mpr ⟨lw_r1, List.forall_mem_append.mpr ⟨lw_r2, List.forall_mem_append.mpr ⟨lw_r3, lw_r4⟩⟩⟩
end
section
/-! stores: what each cell of a world holds, by kind of cell, number of field, address; worlds as stores -/
def up2 {α : Type} (f : Nat → Nat → α) (j i : Nat) (v : α) : Nat → Nat → α := fun j' i' => if j' = j ∧ i' = i then v else f j' i'
def up3 {α : Type} (f : Nat → Nat → Nat → α) (k j i : Nat) (v : α) : Nat → Nat → Nat → α := fun k' j' i' => if k' = k ∧ j' = j ∧ i' = i then v else f k' j' i'
abbrev Sto : Type := (Nat → Nat) × (Nat → Nat → Int32) × (Nat → Nat → Option Nat) × (Nat → Nat → Nat → Int32) × (Nat → Nat → Nat → Option Nat) × (Nat → Nat)
def sK (S : Sto) : Nat → Nat := S.1
def sI (S : Sto) : Nat → Nat → Int32 := S.2.1
def sP (S : Sto) : Nat → Nat → Option Nat := S.2.2.1
def sE (S : Sto) : Nat → Nat → Nat → Int32 := S.2.2.2.1
def sQ (S : Sto) : Nat → Nat → Nat → Option Nat := S.2.2.2.2.1
def sZ (S : Sto) : Nat → Nat := S.2.2.2.2.2
def setI (S : Sto) (f a : Nat) (v : Int32) : Sto := (sK S, up2 (sI S) f a v, sP S, sE S, sQ S, sZ S)
def setP (S : Sto) (f a : Nat) (v : Option Nat) : Sto := (sK S, sI S, up2 (sP S) f a v, sE S, sQ S, sZ S)
def setE (S : Sto) (k a i : Nat) (v : Int32) : Sto := (sK S, sI S, sP S, up3 (sE S) k a i v, sQ S, sZ S)
def setQ (S : Sto) (k a i : Nat) (v : Option Nat) : Sto := (sK S, sI S, sP S, sE S, up3 (sQ S) k a i v, sZ S)
def newO (S : Sto) (q kd : Nat) : Sto := (va_up (sK S) q kd, fun f a => if a = q ∧ f / 32 = kd then 0 else sI S f a, fun f a => if a = q ∧ f / 32 = kd then none else sP S f a, sE S, sQ S, sZ S)
def newA (S : Sto) (q kd n : Nat) : Sto := (va_up (sK S) q kd, sI S, sP S, fun k a i => if k = kd ∧ a = q then 0 else sE S k a i, fun k a i => if k = kd ∧ a = q then none else sQ S k a i, va_up (sZ S) q n)
/-- kinds: 1 ArrayList, 2 Client, 3 Configuration, 4 Node, 5 Update, 6 ChainVersions, 7 Message, 8 ChainVersionsModel; arrays: 9 int, 10 boolean, 11 Node, 12 Client, 13 Update, 14 Object -/
def nf : Nat → Nat
  | 1 => 3
  | 2 => 7
  | 3 => 2
  | 4 => 8
  | 5 => 4
  | 6 => 6
  | 7 => 9
  | 8 => 27
  | _ => 0
def rfk (f : Nat) : Bool := f == 33 || f == 97 || f == 129 || f == 130 || (192 ≤ f && f < 196) || f == 228 || (256 < f && f < 283 && !(f == 264) && !(f == 276))
def fv (S : Sto) (a f : Nat) : Value := if rfk f = true then va_rf (sP S f a) else .int (sI S f a)
def fl (S : Sto) (kd a : Nat) : List Value := (List.range (nf kd)).map (fun k => fv S a (32 * kd + k))
def cel (Y : Nat → ClassId) (S : Sto) (a : Nat) : Option va_E :=
  if sK S a = 0 then none else if sK S a ≤ 8 then some (.inr (sK S a - 1, fl S (sK S a) a))
  else if sK S a ≤ 10 then some (.inl (Y (sK S a - 9), sZ S a, .inl (sE S (sK S a) a)))
  else some (.inl (Y (sK S a - 9), sZ S a, .inr (.inr (.inr (.inr (sQ S (sK S a) a))))))
theorem cel_o {Y : Nat → ClassId} {S : Sto} {a kd : Nat} (h : sK S a = kd) (h0 : 0 < kd) (h8 : kd ≤ 8) : cel Y S a = some (.inr (kd - 1, fl S kd a)) := by
  unfold cel; rw [h, if_neg (by omega), if_pos h8]
theorem cel_i {Y : Nat → ClassId} {S : Sto} {a kd : Nat} (h : sK S a = kd) (h0 : 8 < kd) (h8 : kd ≤ 10) : cel Y S a = some (.inl (Y (kd - 9), sZ S a, .inl (sE S kd a))) := by
  unfold cel; rw [h, if_neg (by omega), if_neg (by omega), if_pos h8]
theorem cel_q {Y : Nat → ClassId} {S : Sto} {a kd : Nat} (h : sK S a = kd) (h0 : 10 < kd) : cel Y S a = some (.inl (Y (kd - 9), sZ S a, .inr (.inr (.inr (.inr (sQ S kd a)))))) := by
  unfold cel; rw [h, if_neg (by omega), if_neg (by omega), if_neg (by omega)]
theorem cel_n {Y : Nat → ClassId} {S : Sto} {a : Nat} (h : cel Y S a = none) : sK S a = 0 := by
  unfold cel at h
  by_cases h0 : sK S a = 0
  · exact h0
  · rw [if_neg h0] at h
    split at h
    · cases h
    · split at h <;> cases h
-- class tables
def T_AL : u_T := fun k => match k with
  | 0 => ("java/util/AbstractList", "modCount", "I", false)
  | 1 => ("java/util/ArrayList", "elementData", "[Ljava/lang/Object;", false)
  | _ => ("java/util/ArrayList", "size", "I", false)
def T_Cl : u_T := fun k => match k with
  | 0 => ("ChainVersions$Client", "state", "I", false)
  | 1 => ("ChainVersions$Client", "writes", "I", false)
  | 2 => ("ChainVersions$Client", "key", "I", false)
  | 3 => ("ChainVersions$Client", "written", "I", false)
  | 4 => ("ChainVersions$Client", "waitsAt", "I", false)
  | 5 => ("ChainVersions$Client", "doneNumber", "I", false)
  | _ => ("ChainVersions$Client", "doneValue", "I", false)
def T_Cf : u_T := fun k => match k with
  | 0 => ("ChainVersions$Configuration", "epoch", "I", true)
  | _ => ("ChainVersions$Configuration", "members", "[I", true)
def T_Nd : u_T := fun k => match k with
  | 0 => ("ChainVersions$Node", "number", "I", true)
  | 1 => ("ChainVersions$Node", "log", "[LChainVersions$Update;", true)
  | 2 => ("ChainVersions$Node", "view", "LChainVersions$Configuration;", false)
  | 3 => ("ChainVersions$Node", "living", "Z", false)
  | 4 => ("ChainVersions$Node", "ready", "Z", false)
  | 5 => ("ChainVersions$Node", "stoppedAt", "I", false)
  | 6 => ("ChainVersions$Node", "length", "I", false)
  | _ => ("ChainVersions$Node", "settled", "I", false)
def T_Up : u_T := fun k => match k with
  | 0 => ("ChainVersions$Update", "key", "I", true)
  | 1 => ("ChainVersions$Update", "value", "I", true)
  | 2 => ("ChainVersions$Update", "client", "I", true)
  | _ => ("ChainVersions$Update", "request", "I", true)
def T_X : u_T := fun k => match k with
  | 0 => ("ChainVersions", "nodes", "[LChainVersions$Node;", true)
  | 1 => ("ChainVersions", "clients", "[LChainVersions$Client;", true)
  | 2 => ("ChainVersions", "underWay", "Ljava/util/ArrayList;", true)
  | 3 => ("ChainVersions", "newest", "LChainVersions$Configuration;", false)
  | 4 => ("ChainVersions", "nodeCount", "I", false)
  | _ => ("ChainVersions", "clock", "I", false)
def T_Mg : u_T := fun k => match k with
  | 0 => ("ChainVersions$Message", "kind", "I", true)
  | 1 => ("ChainVersions$Message", "from", "I", true)
  | 2 => ("ChainVersions$Message", "to", "I", true)
  | 3 => ("ChainVersions$Message", "epoch", "I", true)
  | 4 => ("ChainVersions$Message", "update", "LChainVersions$Update;", false)
  | 5 => ("ChainVersions$Message", "number", "I", false)
  | 6 => ("ChainVersions$Message", "settled", "I", false)
  | 7 => ("ChainVersions$Message", "key", "I", false)
  | _ => ("ChainVersions$Message", "client", "I", false)
def T_M : u_T := fun k => match k with
  | 0 => ("ChainVersionsModel", "made", "I", false)
  | 1 => ("ChainVersionsModel", "living", "[Z", true)
  | 2 => ("ChainVersionsModel", "ready", "[Z", true)
  | 3 => ("ChainVersionsModel", "view", "[I", true)
  | 4 => ("ChainVersionsModel", "length", "[I", true)
  | 5 => ("ChainVersionsModel", "settled", "[I", true)
  | 6 => ("ChainVersionsModel", "silent", "[I", true)
  | 7 => ("ChainVersionsModel", "members", "[I", true)
  | 8 => ("ChainVersionsModel", "newest", "I", false)
  | 9 => ("ChainVersionsModel", "keys", "[I", true)
  | 10 => ("ChainVersionsModel", "values", "[I", true)
  | 11 => ("ChainVersionsModel", "writers", "[I", true)
  | 12 => ("ChainVersionsModel", "numbers", "[I", true)
  | 13 => ("ChainVersionsModel", "status", "[I", true)
  | 14 => ("ChainVersionsModel", "writes", "[I", true)
  | 15 => ("ChainVersionsModel", "key", "[I", true)
  | 16 => ("ChainVersionsModel", "value", "[I", true)
  | 17 => ("ChainVersionsModel", "at", "[I", true)
  | 18 => ("ChainVersionsModel", "number", "[I", true)
  | 19 => ("ChainVersionsModel", "result", "[I", true)
  | 20 => ("ChainVersionsModel", "count", "I", false)
  | 21 => ("ChainVersionsModel", "from", "[I", true)
  | 22 => ("ChainVersionsModel", "to", "[I", true)
  | 23 => ("ChainVersionsModel", "kind", "[I", true)
  | 24 => ("ChainVersionsModel", "epochs", "[I", true)
  | 25 => ("ChainVersionsModel", "one", "[I", true)
  | _ => ("ChainVersionsModel", "two", "[I", true)
def cnm : Nat → String
  | 1 => "java/util/ArrayList"
  | 2 => "ChainVersions$Client"
  | 3 => "ChainVersions$Configuration"
  | 4 => "ChainVersions$Node"
  | 5 => "ChainVersions$Update"
  | 6 => "ChainVersions"
  | 7 => "ChainVersions$Message"
  | _ => "ChainVersionsModel"
def ctb : Nat → u_T
  | 1 => T_AL
  | 2 => T_Cl
  | 3 => T_Cf
  | 4 => T_Nd
  | 5 => T_Up
  | 6 => T_X
  | 7 => T_Mg
  | _ => T_M
def vCl : List vw_C := [(cnm 1, ctb 1, 3), (cnm 2, ctb 2, 7), (cnm 3, ctb 3, 2), (cnm 4, ctb 4, 8), (cnm 5, ctb 5, 4), (cnm 6, ctb 6, 6), (cnm 7, ctb 7, 9), (cnm 8, ctb 8, 27)]
def aty : Nat → FieldType
  | 9 => .int
  | 10 => .boolean
  | 11 => .object "ChainVersions$Node"
  | 12 => .object "ChainVersions$Client"
  | 13 => .object "ChainVersions$Update"
  | _ => .object "java/lang/Object"
def tYs (Y : Nat → ClassId) : List (ClassId × FieldType) := [(Y 0, .int), (Y 1, .boolean), (Y 2, .object "ChainVersions$Node"), (Y 3, .object "ChainVersions$Client"), (Y 4, .object "ChainVersions$Update"), (Y 5, .object "java/lang/Object")]
theorem vCl_at {kd : Nat} (h0 : 0 < kd) (h8 : kd ≤ 8) : vCl[kd - 1]? = some (cnm kd, ctb kd, nf kd) := by
  have : kd = 1 ∨ kd = 2 ∨ kd = 3 ∨ kd = 4 ∨ kd = 5 ∨ kd = 6 ∨ kd = 7 ∨ kd = 8 := by omega
  rcases this with rfl | rfl | rfl | rfl | rfl | rfl | rfl | rfl <;> rfl
theorem tYs_at (Y : Nat → ClassId) {kd : Nat} (h0 : 9 ≤ kd) (h8 : kd ≤ 14) : (tYs Y)[kd - 9]? = some (Y (kd - 9), aty kd) := by
  have : kd = 9 ∨ kd = 10 ∨ kd = 11 ∨ kd = 12 ∨ kd = 13 ∨ kd = 14 := by omega
  rcases this with rfl | rfl | rfl | rfl | rfl | rfl <;> rfl
/-- the heap holds the store's cells, and they lie in A -/
def Wd (D : va_G) (Y : Nat → ClassId) (A : Nat → Prop) (S : Sto) (H : Heap) : Prop := ∀ (a : Nat) (e : va_E), cel Y S a = some e → va_at D vCl (a, e) H ∧ A a
def wl (Y : Nat → ClassId) (S : Sto) (n : Nat) : va_W := (List.range n).filterMap (fun a => (cel Y S a).map (fun e => (a, e)))
theorem wl_in {Y : Nat → ClassId} {S : Sto} {n : Nat} {q : Nat × va_E} : q ∈ wl Y S n ↔ q.1 < n ∧ cel Y S q.1 = some q.2 := by
  unfold wl
  rw [List.mem_filterMap]
  constructor
  · rintro ⟨a, ha, h⟩
    rw [List.mem_range] at ha
    cases hc : cel Y S a with
    | none => rw [hc] at h; cases h
    | some e => rw [hc] at h; cases h; exact ⟨ha, hc⟩
  · rintro ⟨h1, h2⟩
    exact ⟨q.1, List.mem_range.mpr h1, by rw [h2]; rfl⟩
theorem wl_get {D : va_G} {Y : Nat → ClassId} {A : Nat → Prop} {S : Sto} {H : Heap} (h : Wd D Y A S H) {a : Nat} {e : va_E} (he : cel Y S a = some e) : ∃ q : Nat, (wl Y S H.size)[q]? = some (a, e) :=
  List.getElem?_of_mem (wl_in.mpr ⟨(h a e he).1.lt, he⟩)
theorem wl_P {D : va_G} {Y : Nat → ClassId} {A : Nat → Prop} {S : Sto} {H : Heap} (h : Wd D Y A S H) : va_P D vCl (wl Y S H.size) H := fun _ q hk => (h q.1 q.2 (wl_in.mp (List.mem_of_getElem? hk)).2).1
theorem wl_pw (Y : Nat → ClassId) (S : Sto) (n : Nat) : (wl Y S n).Pairwise (fun x y => x.1 < y.1) := by
  unfold wl
  refine List.Pairwise.filterMap _ ?_ (List.pairwise_lt_range (n := n))
  intro a a' haa b hb b' hb'
  cases hc : cel Y S a with
  | none => rw [hc] at hb; cases hb
  | some e =>
    cases hc' : cel Y S a' with
    | none => rw [hc'] at hb'; cases hb'
    | some e' =>
      rw [hc] at hb; rw [hc'] at hb'
      cases hb; cases hb'
      exact haa
theorem wl_D {D : va_G} {Y : Nat → ClassId} {A : Nat → Prop} {S : Sto} {H : Heap} (h : Wd D Y A S H) : va_D A (wl Y S H.size) := by
  refine ⟨fun i j x y hi hj hxy => ?_, fun k q hk => (h q.1 q.2 (wl_in.mp (List.mem_of_getElem? hk)).2).2⟩
  have hp := List.pairwise_iff_getElem.mp (wl_pw Y S H.size)
  obtain ⟨li, ei⟩ := List.getElem?_eq_some_iff.mp hi
  obtain ⟨lj, ej⟩ := List.getElem?_eq_some_iff.mp hj
  rcases Nat.lt_trichotomy i j with hl | hl | hl
  · have := hp i j li lj hl
    rw [ei, ej] at this
    omega
  · exact hl
  · have := hp j i lj li hl
    rw [ei, ej] at this
    omega
theorem wl_set {D : va_G} {Y : Nat → ClassId} {A : Nat → Prop} {S S' : Sto} {H H' : Heap} (h : Wd D Y A S H) {q a : Nat} {e e' : va_E} (hq : (wl Y S H.size)[q]? = some (a, e))
    (hP : va_P D vCl ((wl Y S H.size).set q (a, e')) H') (ha : cel Y S' a = some e') (ho : ∀ b, b ≠ a → cel Y S' b = cel Y S b) : Wd D Y A S' H' := by
  intro b x hb
  have hl := (List.getElem?_eq_some_iff.mp hq).1
  by_cases hba : b = a
  · subst hba
    rw [ha] at hb
    cases hb
    refine ⟨?_, (h b e (wl_in.mp (List.mem_of_getElem? hq)).2).2⟩
    exact hP q _ (List.getElem?_set_self hl)
  · rw [ho b hba] at hb
    obtain ⟨k, hk⟩ := wl_get h hb
    refine ⟨?_, (h b x hb).2⟩
    have hne : q ≠ k := fun z => by
      subst z
      rw [hq] at hk
      cases hk
      exact hba rfl
    exact hP k _ (by rw [List.getElem?_set_ne hne]; exact hk)
theorem wl_push {D : va_G} {Y : Nat → ClassId} {A : Nat → Prop} {S S' : Sto} {H H' : Heap} (h : Wd D Y A S H) {a : Nat} {e' : va_E}
    (hP : va_P D vCl (wl Y S H.size ++ [(a, e')]) H') (hD : va_D A (wl Y S H.size ++ [(a, e')])) (ha : cel Y S' a = some e') (ho : ∀ b, b ≠ a → cel Y S' b = cel Y S b) : Wd D Y A S' H' ∧ sK S a = 0 := by
  have hlast : (wl Y S H.size ++ [(a, e')])[(wl Y S H.size).length]? = some (a, e') := by simp
  have hno : cel Y S a = none := by
    cases hc : cel Y S a with
    | none => rfl
    | some e =>
      obtain ⟨k, hk⟩ := wl_get h hc
      have hl := (List.getElem?_eq_some_iff.mp hk).1
      have := hD.1 k _ (a, e) _ (by rw [List.getElem?_append_left hl]; exact hk) hlast rfl
      omega
  refine ⟨fun b x hb => ?_, cel_n hno⟩
  by_cases hba : b = a
  · subst hba
    rw [ha] at hb
    cases hb
    exact ⟨hP _ _ hlast, hD.2 _ _ hlast⟩
  · rw [ho b hba] at hb
    obtain ⟨k, hk⟩ := wl_get h hb
    have hl := (List.getElem?_eq_some_iff.mp hk).1
    have hk' : (wl Y S H.size ++ [(a, e')])[k]? = some (b, x) := by rw [List.getElem?_append_left hl]; exact hk
    exact ⟨hP k _ hk', hD.2 k _ hk'⟩
theorem fl_get {S : Sto} {kd a k : Nat} (hk : k < nf kd) : (fl S kd a)[k]? = some (fv S a (32 * kd + k)) := by
  unfold fl
  rw [List.getElem?_map, List.getElem?_range hk]
  rfl
theorem fl_len (S : Sto) (kd a : Nat) : (fl S kd a).length = nf kd := by unfold fl; rw [List.length_map, List.length_range]
theorem nf_le (kd : Nat) : nf kd ≤ 27 := by
  unfold nf
  split <;> omega
theorem fv_I {S : Sto} {a f : Nat} (h : rfk f = false) : fv S a f = .int (sI S f a) := by unfold fv; rw [h]; rfl
theorem fv_P {S : Sto} {a f : Nat} (h : rfk f = true) : fv S a f = va_rf (sP S f a) := by unfold fv; rw [h]; rfl
theorem fl_setI {S : Sto} {kd a k : Nat} {x : Int32} (hk : k < nf kd) (hr : rfk (32 * kd + k) = false) : (fl S kd a).set k (.int x) = fl (setI S (32 * kd + k) a x) kd a := by
  apply List.ext_getElem?
  intro j
  by_cases hj : j < nf kd
  · rw [fl_get hj]
    by_cases hjk : j = k
    · subst hjk
      rw [List.getElem?_set_self (by rw [fl_len]; exact hj), fv_I hr]
      simp [setI, sI, up2]
    · rw [List.getElem?_set_ne (fun z => hjk z.symm), fl_get hj]
      unfold fv
      by_cases h : rfk (32 * kd + j) = true
      · rw [if_pos h, if_pos h]; rfl
      · rw [if_neg h, if_neg h]
        simp [setI, sI, up2, hjk]
  · rw [List.getElem?_eq_none (by rw [List.length_set, fl_len]; omega), List.getElem?_eq_none (by rw [fl_len]; omega)]
theorem fl_setP {S : Sto} {kd a k : Nat} {x : Option Nat} (hk : k < nf kd) (hr : rfk (32 * kd + k) = true) : (fl S kd a).set k (va_rf x) = fl (setP S (32 * kd + k) a x) kd a := by
  apply List.ext_getElem?
  intro j
  by_cases hj : j < nf kd
  · rw [fl_get hj]
    by_cases hjk : j = k
    · subst hjk
      rw [List.getElem?_set_self (by rw [fl_len]; exact hj), fv_P hr]
      simp [setP, sP, up2]
    · rw [List.getElem?_set_ne (fun z => hjk z.symm), fl_get hj]
      unfold fv
      by_cases h : rfk (32 * kd + j) = true
      · rw [if_pos h, if_pos h]
        simp [setP, sP, up2, hjk]
      · rw [if_neg h, if_neg h]; rfl
  · rw [List.getElem?_eq_none (by rw [List.length_set, fl_len]; omega), List.getElem?_eq_none (by rw [fl_len]; omega)]
theorem cel_congr {Y : Nat → ClassId} {S S' : Sto} {b : Nat} (hK : sK S' b = sK S b) (hI : ∀ f, sI S' f b = sI S f b) (hP : ∀ f, sP S' f b = sP S f b) (hE : ∀ k, sE S' k b = sE S k b) (hQ : ∀ k, sQ S' k b = sQ S k b) (hZ : sZ S' b = sZ S b) : cel Y S' b = cel Y S b := by
  have hfl : ∀ kd, fl S' kd b = fl S kd b := fun kd => by
    unfold fl
    refine List.map_congr_left (fun k _ => ?_)
    unfold fv
    rw [hI, hP]
  unfold cel
  rw [hK, hZ, hE, hQ, hfl]
end
section
/-! the judgement WS: the machine at a place of a method, with locals, stack and store; a row an instruction -/
def TB : List Cond := lw_tbl.filter goodWord
theorem tb_in {w : Cond} (h : w ∈ lw_tbl) (g : goodWord w = true) : w ∈ TB := List.mem_filter.mpr ⟨h, g⟩
theorem tb_at {w : Cond} (i : Nat) (h : lw_tbl[i]? = some w) (g : goodWord w = true) : w ∈ TB := tb_in (List.mem_of_getElem? h) g
theorem tb_good {big : List Cond} (hb : ∀ w ∈ TB, w ∈ big) {y : MethodName} {cc : ByteArray} {mL : Nat} {ret : Option FieldType} (hc : Cond.code y cc mL ret ∈ TB) : GoodIn big (Cond.code y cc mL ret :: TB) := by
  intro w hw
  have h : w ∈ TB := by
    rcases List.mem_cons.mp hw with rfl | h
    · exact hc
    · exact h
  exact ⟨hb w h, good_of_word (List.mem_filter.mp h).2⟩
/-- locals: a value at each place, or nothing said -/
def LH (ls : Array Slot) (nL : Nat) (lv : List (Option Value)) : Prop := ls.size = nL ∧ lv_wf ls ∧ ∀ (i : Nat) (v : Value), lv[i]? = some (some v) → v.category = 1 ∧ ls[i]? = some (.val v)
def lvl (lv : List (Option Value)) : List (Nat × Value) := (List.range lv.length).filterMap (fun i => match lv[i]? with
  | some (some v) => some (i, v)
  | _ => none)
theorem lvl_in {lv : List (Option Value)} {q : Nat × Value} : q ∈ lvl lv ↔ lv[q.1]? = some (some q.2) := by
  unfold lvl
  rw [List.mem_filterMap]
  constructor
  · rintro ⟨i, hi, h⟩
    split at h
    · rename_i v hv
      cases h
      exact hv
    · cases h
  · intro h
    refine ⟨q.1, List.mem_range.mpr (List.getElem?_eq_some_iff.mp h).1, ?_⟩
    rw [h]
theorem LH.has {ls : Array Slot} {nL : Nat} {lv : List (Option Value)} (h : LH ls nL lv) : lv_has ls nL (lvl lv) := ⟨h.1, h.2.1, fun q hq => (h.2.2 q.1 q.2 (lvl_in.mp hq)).2⟩
theorem LH.set {ls ls' : Array Slot} {nL i : Nat} {lv : List (Option Value)} {v : Value} (h : LH ls nL lv) (hc : v.category = 1)
    (h' : lv_has ls' nL ((i, v) :: (lvl lv).filter (fun q => !(q.1 == i) && !(q.1 + 1 == i && q.2.category == 2)))) : LH ls' nL (lv.set i (some v)) := by
  refine ⟨h'.1, h'.2.1, fun j w hj => ?_⟩
  by_cases hji : j = i
  · subst hji
    have hl : j < lv.length := by
      have := (List.getElem?_eq_some_iff.mp hj).1
      rwa [List.length_set] at this
    rw [List.getElem?_set_self hl] at hj
    cases hj
    exact ⟨hc, h'.2.2 _ List.mem_cons_self⟩
  · rw [List.getElem?_set_ne (fun z => hji z.symm)] at hj
    have h1 := h.2.2 j w hj
    refine ⟨h1.1, h'.2.2 (j, w) (List.mem_cons_of_mem _ (List.mem_filter.mpr ⟨lvl_in.mpr hj, ?_⟩))⟩
    simp [hji, h1.1]
abbrev Ev : Type := Launch × va_G × (Nat → ClassId) × (Nat → Prop) × Nat
abbrev Fx : Type := Ev × (Program × Env × Room × State × MethodId × Array Value × List Frame) × (Method × Code × (State → Prop)) × Nat
abbrev vL (V : Ev) : Launch := V.1
abbrev vD (V : Ev) : va_G := V.2.1
abbrev vY (V : Ev) : Nat → ClassId := V.2.2.1
abbrev vA (V : Ev) : Nat → Prop := V.2.2.2.1
/-- the address of ArrayList's shared empty array -/
abbrev vZ (V : Ev) : Nat := V.2.2.2.2
abbrev xl (F : Fx) : Launch := vL F.1
abbrev xD (F : Fx) : va_G := vD F.1
abbrev xY (F : Fx) : Nat → ClassId := vY F.1
abbrev xA (F : Fx) : Nat → Prop := vA F.1
abbrev xz (F : Fx) : Nat := vZ F.1
abbrev xp (F : Fx) : Program := F.2.1.1
abbrev xe (F : Fx) : Env := F.2.1.2.1
abbrev xR (F : Fx) : Room := F.2.1.2.2.1
abbrev xs (F : Fx) : State := F.2.1.2.2.2.1
abbrev xm (F : Fx) : MethodId := F.2.1.2.2.2.2.1
abbrev xa (F : Fx) : Array Value := F.2.1.2.2.2.2.2.1
abbrev xb (F : Fx) : List Frame := F.2.1.2.2.2.2.2.2
abbrev xt (F : Fx) : Method := F.2.2.1.1
abbrev xc (F : Fx) : Code := F.2.2.1.2.1
abbrev xQ (F : Fx) : State → Prop := F.2.2.1.2.2
abbrev xn (F : Fx) : Nat := F.2.2.2
def WS (F : Fx) (pc : Nat) (lv : List (Option Value)) (st : List Value) (S : Sto) (cs ss : Nat) : Prop :=
  ∀ (ls : Array Slot) (H : Heap) (locs : List Loc), LH ls (xn F) lv → Wd (xD F) (xY F) (xA F) S H → va_S (xA F) (xs F).heap H locs → W (xp F) (xl F) (xe F) (xR F) (xs F) (xm F) (xa F) (xb F) (xt F) (xc F) H locs cs ss (xQ F) (F0 (xm F) pc ls st)
/-- the static that a new ArrayList holds: an array of no elements, outside A -/
def ZT (z : Nat) (A : Nat → Prop) (U : State) (H : Heap) : Prop := va_Z "java/util/ArrayList" "DEFAULTCAPACITY_EMPTY_ELEMENTDATA" "[Ljava/lang/Object;" (.ref z) A U H ∧ va_T (.object "java/lang/Object") z 0 (fun _ => .null) A U H
/-- words that a warming keeps, but not as words -/
def EX (U : State) : Prop := va_Nw (.castable "ChainVersions$Message" "java/lang/Object") U ∧ (va_AO "ChainVersions$Node" U ∧ va_AO "ChainVersions$Client" U ∧ va_AO "ChainVersions$Update" U ∧ va_AO "java/lang/Object" U) ∧ va_Nw (.methodLinkNest "ChainVersions" 53 ⟨"ChainVersions$Client", "<init>", "()V"⟩ "ChainVersions") U ∧ va_Nw (.declares ⟨"java/lang/Object", "getClass", "()Ljava/lang/Class;"⟩) U
theorem EX.warm {s U : State} (hW : s.WarmedH U.vm) (h : EX s) : EX U := ⟨va_Nw.warmC hW h.1, ⟨h.2.1.1.moved hW.alike, h.2.1.2.1.moved hW.alike, h.2.1.2.2.1.moved hW.alike, h.2.1.2.2.2.moved hW.alike⟩, va_Nw.warmM hW h.2.2.1, va_Nw.warmD hW h.2.2.2⟩
theorem EX.same {s U : State} (hv : s.vm = U.vm) (h : EX s) : EX U := ⟨va_Nw.same rfl hv h.1, ⟨h.2.1.1.moved (hv ▸ Vm.Alike.refl s.vm), h.2.1.2.1.moved (hv ▸ Vm.Alike.refl s.vm), h.2.1.2.2.1.moved (hv ▸ Vm.Alike.refl s.vm), h.2.1.2.2.2.moved (hv ▸ Vm.Alike.refl s.vm)⟩, va_Nw.same rfl hv h.2.2.1, va_Nw.same rfl hv h.2.2.2⟩
def KK (D : va_G) (Y : Nat → ClassId) (A : Nat → Prop) (z : Nat) (U : State) (H : Heap) : Prop := va_K D vCl (tYs Y) U ∧ ZT z A U H ∧ (∀ q, H.size ≤ q → A q) ∧ EX U
/-- what stays the same over a method's walk -/
def Cx (F : Fx) (cc : ByteArray) (own : String) (dF cF sF : Nat) : Prop := (dF ≤ (xR F).frames ∧ 39 * dF ≤ (xR F).locals ∧ (xR F).cells = cF ∧ (xR F).slots = sF) ∧ (xp F).tables.exec = Jvm.exec ∧ (xc F).code = cc ∧ (xc F).maxLocals = xn F ∧ (xs F).vm.findClass own = some (xm F).cls ∧ (∀ w ∈ TB, w.before (xa F) (xs F) = true) ∧ KK (xD F) (xY F) (xA F) (xz F) (xs F) (xs F).heap
section ROWS
variable {F : Fx} {cc : ByteArray} {own : String} {pc pc' tgt : Nat} {lv : List (Option Value)} {st : List Value} {S : Sto} {cs ss : Nat} {dF cF sF : Nat}
theorem Cx.x (C : Cx F cc own dF cF sF) : (xp F).tables.exec = Jvm.exec := C.2.1
theorem Cx.b (C : Cx F cc own dF cF sF) : (xc F).code = cc := C.2.2.1
theorem Cx.ml (C : Cx F cc own dF cF sF) : (xc F).maxLocals = xn F := C.2.2.2.1
theorem Cx.o (C : Cx F cc own dF cF sF) : (xs F).vm.findClass own = some (xm F).cls := C.2.2.2.2.1
theorem Cx.t (C : Cx F cc own dF cF sF) {w : Cond} (h : w ∈ TB) : w.before (xa F) (xs F) = true := C.2.2.2.2.2.1 w h
theorem Cx.k (C : Cx F cc own dF cF sF) : va_K (xD F) vCl (tYs (xY F)) (xs F) := C.2.2.2.2.2.2.1
theorem Cx.z (C : Cx F cc own dF cF sF) : ZT (xz F) (xA F) (xs F) (xs F).heap := C.2.2.2.2.2.2.2.1
theorem Cx.A (C : Cx F cc own dF cF sF) : ∀ q, (xs F).heap.size ≤ q → xA F q := C.2.2.2.2.2.2.2.2.1
theorem Cx.E (C : Cx F cc own dF cF sF) : EX (xs F) := C.2.2.2.2.2.2.2.2.2
def At (cc : ByteArray) (pc : Nat) (i : Instr) (n pc' : Nat) : Prop := decode cc pc = .ok (i, n) ∧ pc + n = pc'
def AtC (cc : ByteArray) (pc : Nat) (i : Int → Instr) (tgt pc' : Nat) : Prop := ∃ off : Int, decode cc pc = .ok (i off, 3) ∧ (pc : Int) + off = (tgt : Int) ∧ pc + 3 = pc'
-- constants
theorem ws_iconst (C : Cx F cc own dF cF sF) {n : Int} (v : Int32) (d : At cc pc (.iconst n) 1 pc') (hv : Int32.ofInt n = v) (k : WS F pc' lv (.int v :: st) S cs ss) : WS F pc lv st S cs ss := by
  obtain ⟨d, rfl⟩ := d
  intro ls H locs hl hw hS
  exact lv_iconst C.x C.b d hv (k ls H locs hl hw hS)
theorem ws_bipush (C : Cx F cc own dF cF sF) {n : Int} (v : Int32) (d : At cc pc (.bipush n) 2 pc') (hv : (Int8.ofInt n).toInt32 = v) (k : WS F pc' lv (.int v :: st) S cs ss) : WS F pc lv st S cs ss := by
  obtain ⟨d, rfl⟩ := d
  intro ls H locs hl hw hS
  exact lv_bipush C.x C.b d hv (k ls H locs hl hw hS)
theorem ws_sipush (C : Cx F cc own dF cF sF) {n : Int} (v : Int32) (d : At cc pc (.sipush n) 3 pc') (hv : (Int16.ofInt n).toInt32 = v) (k : WS F pc' lv (.int v :: st) S cs ss) : WS F pc lv st S cs ss := by
  obtain ⟨d, rfl⟩ := d
  intro ls H locs hl hw hS
  exact lv_sipush C.x C.b d hv (k ls H locs hl hw hS)
theorem ws_null (C : Cx F cc own dF cF sF) (d : At cc pc .aconst_null 1 pc') (k : WS F pc' lv (.null :: st) S cs ss) : WS F pc lv st S cs ss := by
  obtain ⟨d, rfl⟩ := d
  intro ls H locs hl hw hS
  exact lv_null C.x C.b d (k ls H locs hl hw hS)
-- locals
theorem ws_iload_n (C : Cx F cc own dF cF sF) {i : Fin 4} {x : Int32} (d : At cc pc (.iload_n i) 1 pc') (h : lv[(i : Nat)]? = some (some (.int x))) (k : WS F pc' lv (.int x :: st) S cs ss) : WS F pc lv st S cs ss := by
  obtain ⟨d, rfl⟩ := d
  intro ls H locs hl hw hS
  exact lv_iload_n C.x C.b d rfl (hl.2.2 _ _ h).2 (k ls H locs hl hw hS)
theorem ws_iload (C : Cx F cc own dF cF sF) {i : Nat} {x : Int32} (d : At cc pc (.iload i) 2 pc') (h : lv[i]? = some (some (.int x))) (k : WS F pc' lv (.int x :: st) S cs ss) : WS F pc lv st S cs ss := by
  obtain ⟨d, rfl⟩ := d
  intro ls H locs hl hw hS
  exact lv_iload C.x C.b d (hl.2.2 _ _ h).2 (k ls H locs hl hw hS)
theorem ws_aload_n (C : Cx F cc own dF cF sF) {i : Fin 4} {x : Nat} (d : At cc pc (.aload_n i) 1 pc') (h : lv[(i : Nat)]? = some (some (.ref x))) (k : WS F pc' lv (.ref x :: st) S cs ss) : WS F pc lv st S cs ss := by
  obtain ⟨d, rfl⟩ := d
  intro ls H locs hl hw hS
  exact lv_aload_n C.x C.b d rfl (hl.2.2 _ _ h).2 (k ls H locs hl hw hS)
theorem ws_aload (C : Cx F cc own dF cF sF) {i : Nat} {x : Nat} (d : At cc pc (.aload i) 2 pc') (h : lv[i]? = some (some (.ref x))) (k : WS F pc' lv (.ref x :: st) S cs ss) : WS F pc lv st S cs ss := by
  obtain ⟨d, rfl⟩ := d
  intro ls H locs hl hw hS
  exact lv_aload C.x C.b d (hl.2.2 _ _ h).2 (k ls H locs hl hw hS)
theorem ws_aload_nN (C : Cx F cc own dF cF sF) {i : Fin 4} (d : At cc pc (.aload_n i) 1 pc') (h : lv[(i : Nat)]? = some (some .null)) (k : WS F pc' lv (.null :: st) S cs ss) : WS F pc lv st S cs ss := by
  obtain ⟨d, rfl⟩ := d
  intro ls H locs hl hw hS
  exact lv_aload_nN C.x C.b d rfl (hl.2.2 _ _ h).2 (k ls H locs hl hw hS)
theorem ws_aloadN (C : Cx F cc own dF cF sF) {i : Nat} (d : At cc pc (.aload i) 2 pc') (h : lv[i]? = some (some .null)) (k : WS F pc' lv (.null :: st) S cs ss) : WS F pc lv st S cs ss := by
  obtain ⟨d, rfl⟩ := d
  intro ls H locs hl hw hS
  exact lv_aloadN C.x C.b d (hl.2.2 _ _ h).2 (k ls H locs hl hw hS)
theorem ws_istore_n (C : Cx F cc own dF cF sF) {i : Fin 4} {x : Int32} (d : At cc pc (.istore_n i) 1 pc') (hn : (i : Nat) < xn F) (k : WS F pc' (lv.set (i : Nat) (some (.int x))) st S cs ss) : WS F pc lv (.int x :: st) S cs ss := by
  obtain ⟨d, rfl⟩ := d
  intro ls H locs hl hw hS
  exact lv_istore_n C.x C.b d rfl hl.has hn rfl (fun ls' h' => k ls' H locs (hl.set rfl h') hw hS)
theorem ws_istore (C : Cx F cc own dF cF sF) {i : Nat} {x : Int32} (d : At cc pc (.istore i) 2 pc') (hn : i < xn F) (k : WS F pc' (lv.set i (some (.int x))) st S cs ss) : WS F pc lv (.int x :: st) S cs ss := by
  obtain ⟨d, rfl⟩ := d
  intro ls H locs hl hw hS
  exact lv_istore C.x C.b d hl.has hn rfl (fun ls' h' => k ls' H locs (hl.set rfl h') hw hS)
theorem ws_astore_n (C : Cx F cc own dF cF sF) {i : Fin 4} {x : Nat} (d : At cc pc (.astore_n i) 1 pc') (hn : (i : Nat) < xn F) (k : WS F pc' (lv.set (i : Nat) (some (.ref x))) st S cs ss) : WS F pc lv (.ref x :: st) S cs ss := by
  obtain ⟨d, rfl⟩ := d
  intro ls H locs hl hw hS
  exact lv_astore_n C.x C.b d rfl hl.has hn rfl (fun ls' h' => k ls' H locs (hl.set rfl h') hw hS)
theorem ws_astore (C : Cx F cc own dF cF sF) {i : Nat} {x : Nat} (d : At cc pc (.astore i) 2 pc') (hn : i < xn F) (k : WS F pc' (lv.set i (some (.ref x))) st S cs ss) : WS F pc lv (.ref x :: st) S cs ss := by
  obtain ⟨d, rfl⟩ := d
  intro ls H locs hl hw hS
  exact lv_astore C.x C.b d hl.has hn rfl (fun ls' h' => k ls' H locs (hl.set rfl h') hw hS)
theorem ws_astore_nN (C : Cx F cc own dF cF sF) {i : Fin 4} (d : At cc pc (.astore_n i) 1 pc') (hn : (i : Nat) < xn F) (k : WS F pc' (lv.set (i : Nat) (some .null)) st S cs ss) : WS F pc lv (.null :: st) S cs ss := by
  obtain ⟨d, rfl⟩ := d
  intro ls H locs hl hw hS
  exact lv_astore_nN C.x C.b d rfl hl.has hn rfl (fun ls' h' => k ls' H locs (hl.set rfl h') hw hS)
theorem ws_astoreN (C : Cx F cc own dF cF sF) {i : Nat} (d : At cc pc (.astore i) 2 pc') (hn : i < xn F) (k : WS F pc' (lv.set i (some .null)) st S cs ss) : WS F pc lv (.null :: st) S cs ss := by
  obtain ⟨d, rfl⟩ := d
  intro ls H locs hl hw hS
  exact lv_astoreN C.x C.b d hl.has hn rfl (fun ls' h' => k ls' H locs (hl.set rfl h') hw hS)
theorem ws_iinc (C : Cx F cc own dF cF sF) {i : Nat} {n : Int} {x : Int32} (v : Int32) (d : At cc pc (.iinc i n) 3 pc') (h : lv[i]? = some (some (.int x))) (hv : x + Int32.ofInt n = v) (hn : i < xn F) (k : WS F pc' (lv.set i (some (.int v))) st S cs ss) : WS F pc lv st S cs ss := by
  obtain ⟨d, rfl⟩ := d
  intro ls H locs hl hw hS
  obtain ⟨q, hq⟩ := List.getElem?_of_mem (lvl_in (q := (i, .int x)).mpr h)
  exact lv_iinc C.x C.b d hl.has hq hv hn rfl (fun ls' h' => k ls' H locs (hl.set rfl h') hw hS)
-- stack
theorem ws_dup (C : Cx F cc own dF cF sF) {v : Value} (d : At cc pc .dup 1 pc') (hv : v.category = 1) (k : WS F pc' lv (v :: v :: st) S cs ss) : WS F pc lv (v :: st) S cs ss := by
  obtain ⟨d, rfl⟩ := d
  intro ls H locs hl hw hS
  exact lv_dup C.x C.b d hv (k ls H locs hl hw hS)
theorem ws_pop (C : Cx F cc own dF cF sF) {v : Value} (d : At cc pc .pop 1 pc') (hv : v.category = 1) (k : WS F pc' lv st S cs ss) : WS F pc lv (v :: st) S cs ss := by
  obtain ⟨d, rfl⟩ := d
  intro ls H locs hl hw hS
  exact lv_pop C.x C.b d hv (k ls H locs hl hw hS)
theorem ws_dup_x1 (C : Cx F cc own dF cF sF) {v w : Value} (d : At cc pc .dup_x1 1 pc') (hv : v.category = 1) (hw' : w.category = 1) (k : WS F pc' lv (v :: w :: v :: st) S cs ss) : WS F pc lv (v :: w :: st) S cs ss := by
  obtain ⟨d, rfl⟩ := d
  intro ls H locs hl hw hS
  exact lv_dup_x1 C.x C.b d hv hw' (k ls H locs hl hw hS)
theorem ws_dup2 (C : Cx F cc own dF cF sF) {v w : Value} (d : At cc pc .dup2 1 pc') (hv : v.category = 1) (hw' : w.category = 1) (k : WS F pc' lv (v :: w :: v :: w :: st) S cs ss) : WS F pc lv (v :: w :: st) S cs ss := by
  obtain ⟨d, rfl⟩ := d
  intro ls H locs hl hw hS
  exact lv_dup2_11 C.x C.b d hv hw' (k ls H locs hl hw hS)
theorem ws_top {x : Int32} (y : Int32) (h : x = y) (k : WS F pc lv (.int y :: st) S cs ss) : WS F pc lv (.int x :: st) S cs ss := h ▸ k
theorem ws_sto {S' : Sto} (h : S = S') (k : WS F pc lv st S' cs ss) : WS F pc lv st S cs ss := h ▸ k
theorem ws_lv {lv' : List (Option Value)} (h : lv = lv') (k : WS F pc lv' st S cs ss) : WS F pc lv st S cs ss := h ▸ k
theorem ws_less {lv' : List (Option Value)} (h : ∀ (i : Nat) (v : Value), lv'[i]? = some (some v) → lv[i]? = some (some v)) (k : WS F pc lv' st S cs ss) : WS F pc lv st S cs ss := fun ls H locs hl hw hS => k ls H locs ⟨hl.1, hl.2.1, fun i v hv => hl.2.2 i v (h i v hv)⟩ hw hS
theorem ws_widen {cs' ss' : Nat} (h1 : cs ≤ cs') (h2 : ss ≤ ss') (k : WS F pc lv st S cs' ss') : WS F pc lv st S cs ss := fun ls H locs hl hw hS => W.widen h1 h2 (k ls H locs hl hw hS)
-- arithmetic
theorem ws_iadd (C : Cx F cc own dF cF sF) {x y : Int32} (d : At cc pc .iadd 1 pc') (k : WS F pc' lv (.int (x + y) :: st) S cs ss) : WS F pc lv (.int y :: .int x :: st) S cs ss := by
  obtain ⟨d, rfl⟩ := d
  intro ls H locs hl hw hS
  exact lv_iadd C.x C.b d (k ls H locs hl hw hS)
theorem ws_isub (C : Cx F cc own dF cF sF) {x y : Int32} (d : At cc pc .isub 1 pc') (k : WS F pc' lv (.int (x - y) :: st) S cs ss) : WS F pc lv (.int y :: .int x :: st) S cs ss := by
  obtain ⟨d, rfl⟩ := d
  intro ls H locs hl hw hS
  exact lv_isub C.x C.b d (k ls H locs hl hw hS)
theorem ws_imul (C : Cx F cc own dF cF sF) {x y : Int32} (d : At cc pc .imul 1 pc') (k : WS F pc' lv (.int (x * y) :: st) S cs ss) : WS F pc lv (.int y :: .int x :: st) S cs ss := by
  obtain ⟨d, rfl⟩ := d
  intro ls H locs hl hw hS
  exact lv_imul C.x C.b d (k ls H locs hl hw hS)
theorem ws_iand (C : Cx F cc own dF cF sF) {x y : Int32} (d : At cc pc .iand 1 pc') (k : WS F pc' lv (.int (x &&& y) :: st) S cs ss) : WS F pc lv (.int y :: .int x :: st) S cs ss := by
  obtain ⟨d, rfl⟩ := d
  intro ls H locs hl hw hS
  exact lv_iand C.x C.b d (k ls H locs hl hw hS)
theorem ws_ior (C : Cx F cc own dF cF sF) {x y : Int32} (d : At cc pc .ior 1 pc') (k : WS F pc' lv (.int (x ||| y) :: st) S cs ss) : WS F pc lv (.int y :: .int x :: st) S cs ss := by
  obtain ⟨d, rfl⟩ := d
  intro ls H locs hl hw hS
  exact lv_ior C.x C.b d (k ls H locs hl hw hS)
theorem ws_ixor (C : Cx F cc own dF cF sF) {x y : Int32} (d : At cc pc .ixor 1 pc') (k : WS F pc' lv (.int (x ^^^ y) :: st) S cs ss) : WS F pc lv (.int y :: .int x :: st) S cs ss := by
  obtain ⟨d, rfl⟩ := d
  intro ls H locs hl hw hS
  exact lv_ixor C.x C.b d (k ls H locs hl hw hS)
theorem ws_ishl (C : Cx F cc own dF cF sF) {x y : Int32} (d : At cc pc .ishl 1 pc') (k : WS F pc' lv (.int (x <<< (y &&& 31)) :: st) S cs ss) : WS F pc lv (.int y :: .int x :: st) S cs ss := by
  obtain ⟨d, rfl⟩ := d
  intro ls H locs hl hw hS
  exact lv_ishl C.x C.b d (k ls H locs hl hw hS)
theorem ws_ishr (C : Cx F cc own dF cF sF) {x y : Int32} (d : At cc pc .ishr 1 pc') (k : WS F pc' lv (.int (x >>> (y &&& 31)) :: st) S cs ss) : WS F pc lv (.int y :: .int x :: st) S cs ss := by
  obtain ⟨d, rfl⟩ := d
  intro ls H locs hl hw hS
  exact lv_ishr C.x C.b d (k ls H locs hl hw hS)
theorem nI_mul (a b : Nat) : nI a * nI b = nI (a * b) := (Int32.ofNat_mul a b).symm
theorem nI_sub {a b : Nat} (h : b ≤ a) : nI a - nI b = nI (a - b) := by
  have : nI a = nI (a - b) + nI b := by rw [nI_add]; congr 1; omega
  rw [this, Int32.add_sub_cancel]
theorem ws_iaddN (C : Cx F cc own dF cF sF) {x y : Nat} (d : At cc pc .iadd 1 pc') (k : WS F pc' lv (.int (nI (x + y)) :: st) S cs ss) : WS F pc lv (.int (nI y) :: .int (nI x) :: st) S cs ss := ws_iadd C d (ws_top _ (nI_add x y) k)
theorem ws_isubN (C : Cx F cc own dF cF sF) {x y : Nat} (d : At cc pc .isub 1 pc') (h : y ≤ x) (k : WS F pc' lv (.int (nI (x - y)) :: st) S cs ss) : WS F pc lv (.int (nI y) :: .int (nI x) :: st) S cs ss := ws_isub C d (ws_top _ (nI_sub h) k)
theorem ws_imulN (C : Cx F cc own dF cF sF) {x y : Nat} (d : At cc pc .imul 1 pc') (k : WS F pc' lv (.int (nI (x * y)) :: st) S cs ss) : WS F pc lv (.int (nI y) :: .int (nI x) :: st) S cs ss := ws_imul C d (ws_top _ (nI_mul x y) k)
-- branches
theorem ws_goto (C : Cx F cc own dF cF sF) (d : AtC cc pc .goto tgt pc') (k : WS F tgt lv st S cs ss) : WS F pc lv st S cs ss := by
  obtain ⟨off, d, ht, -⟩ := d
  intro ls H locs hl hw hS
  exact lv_goto C.x C.b d ht (k ls H locs hl hw hS)
theorem ws_if_eq (C : Cx F cc own dF cF sF) {x : Int32} (d : AtC cc pc (.ifCond .eq) tgt pc') (kt : x = 0 → WS F tgt lv st S cs ss) (kf : ¬ x = 0 → WS F pc' lv st S cs ss) : WS F pc lv (.int x :: st) S cs ss := by
  obtain ⟨off, d, ht, rfl⟩ := d
  intro ls H locs hl hw hS
  exact lv_if_eq C.x C.b d ht (fun h => kt h ls H locs hl hw hS) (fun h => kf h ls H locs hl hw hS)
theorem ws_icmp_eq (C : Cx F cc own dF cF sF) {x y : Int32} (d : AtC cc pc (.if_icmp .eq) tgt pc') (kt : x = y → WS F tgt lv st S cs ss) (kf : ¬ x = y → WS F pc' lv st S cs ss) : WS F pc lv (.int y :: .int x :: st) S cs ss := by
  obtain ⟨off, d, ht, rfl⟩ := d
  intro ls H locs hl hw hS
  exact lv_icmp_eq C.x C.b d ht (fun h => kt h ls H locs hl hw hS) (fun h => kf h ls H locs hl hw hS)
theorem ws_if_ne (C : Cx F cc own dF cF sF) {x : Int32} (d : AtC cc pc (.ifCond .ne) tgt pc') (kt : ¬ x = 0 → WS F tgt lv st S cs ss) (kf : x = 0 → WS F pc' lv st S cs ss) : WS F pc lv (.int x :: st) S cs ss := by
  obtain ⟨off, d, ht, rfl⟩ := d
  intro ls H locs hl hw hS
  exact lv_if_ne C.x C.b d ht (fun h => kt h ls H locs hl hw hS) (fun h => kf h ls H locs hl hw hS)
theorem ws_icmp_ne (C : Cx F cc own dF cF sF) {x y : Int32} (d : AtC cc pc (.if_icmp .ne) tgt pc') (kt : ¬ x = y → WS F tgt lv st S cs ss) (kf : x = y → WS F pc' lv st S cs ss) : WS F pc lv (.int y :: .int x :: st) S cs ss := by
  obtain ⟨off, d, ht, rfl⟩ := d
  intro ls H locs hl hw hS
  exact lv_icmp_ne C.x C.b d ht (fun h => kt h ls H locs hl hw hS) (fun h => kf h ls H locs hl hw hS)
theorem ws_if_lt (C : Cx F cc own dF cF sF) {x : Int32} (d : AtC cc pc (.ifCond .lt) tgt pc') (kt : x < 0 → WS F tgt lv st S cs ss) (kf : ¬ x < 0 → WS F pc' lv st S cs ss) : WS F pc lv (.int x :: st) S cs ss := by
  obtain ⟨off, d, ht, rfl⟩ := d
  intro ls H locs hl hw hS
  exact lv_if_lt C.x C.b d ht (fun h => kt h ls H locs hl hw hS) (fun h => kf h ls H locs hl hw hS)
theorem ws_icmp_lt (C : Cx F cc own dF cF sF) {x y : Int32} (d : AtC cc pc (.if_icmp .lt) tgt pc') (kt : x < y → WS F tgt lv st S cs ss) (kf : ¬ x < y → WS F pc' lv st S cs ss) : WS F pc lv (.int y :: .int x :: st) S cs ss := by
  obtain ⟨off, d, ht, rfl⟩ := d
  intro ls H locs hl hw hS
  exact lv_icmp_lt C.x C.b d ht (fun h => kt h ls H locs hl hw hS) (fun h => kf h ls H locs hl hw hS)
theorem ws_if_ge (C : Cx F cc own dF cF sF) {x : Int32} (d : AtC cc pc (.ifCond .ge) tgt pc') (kt : 0 ≤ x → WS F tgt lv st S cs ss) (kf : ¬ 0 ≤ x → WS F pc' lv st S cs ss) : WS F pc lv (.int x :: st) S cs ss := by
  obtain ⟨off, d, ht, rfl⟩ := d
  intro ls H locs hl hw hS
  exact lv_if_ge C.x C.b d ht (fun h => kt h ls H locs hl hw hS) (fun h => kf h ls H locs hl hw hS)
theorem ws_icmp_ge (C : Cx F cc own dF cF sF) {x y : Int32} (d : AtC cc pc (.if_icmp .ge) tgt pc') (kt : y ≤ x → WS F tgt lv st S cs ss) (kf : ¬ y ≤ x → WS F pc' lv st S cs ss) : WS F pc lv (.int y :: .int x :: st) S cs ss := by
  obtain ⟨off, d, ht, rfl⟩ := d
  intro ls H locs hl hw hS
  exact lv_icmp_ge C.x C.b d ht (fun h => kt h ls H locs hl hw hS) (fun h => kf h ls H locs hl hw hS)
theorem ws_if_gt (C : Cx F cc own dF cF sF) {x : Int32} (d : AtC cc pc (.ifCond .gt) tgt pc') (kt : 0 < x → WS F tgt lv st S cs ss) (kf : ¬ 0 < x → WS F pc' lv st S cs ss) : WS F pc lv (.int x :: st) S cs ss := by
  obtain ⟨off, d, ht, rfl⟩ := d
  intro ls H locs hl hw hS
  exact lv_if_gt C.x C.b d ht (fun h => kt h ls H locs hl hw hS) (fun h => kf h ls H locs hl hw hS)
theorem ws_icmp_gt (C : Cx F cc own dF cF sF) {x y : Int32} (d : AtC cc pc (.if_icmp .gt) tgt pc') (kt : y < x → WS F tgt lv st S cs ss) (kf : ¬ y < x → WS F pc' lv st S cs ss) : WS F pc lv (.int y :: .int x :: st) S cs ss := by
  obtain ⟨off, d, ht, rfl⟩ := d
  intro ls H locs hl hw hS
  exact lv_icmp_gt C.x C.b d ht (fun h => kt h ls H locs hl hw hS) (fun h => kf h ls H locs hl hw hS)
theorem ws_if_le (C : Cx F cc own dF cF sF) {x : Int32} (d : AtC cc pc (.ifCond .le) tgt pc') (kt : x ≤ 0 → WS F tgt lv st S cs ss) (kf : ¬ x ≤ 0 → WS F pc' lv st S cs ss) : WS F pc lv (.int x :: st) S cs ss := by
  obtain ⟨off, d, ht, rfl⟩ := d
  intro ls H locs hl hw hS
  exact lv_if_le C.x C.b d ht (fun h => kt h ls H locs hl hw hS) (fun h => kf h ls H locs hl hw hS)
theorem ws_icmp_le (C : Cx F cc own dF cF sF) {x y : Int32} (d : AtC cc pc (.if_icmp .le) tgt pc') (kt : x ≤ y → WS F tgt lv st S cs ss) (kf : ¬ x ≤ y → WS F pc' lv st S cs ss) : WS F pc lv (.int y :: .int x :: st) S cs ss := by
  obtain ⟨off, d, ht, rfl⟩ := d
  intro ls H locs hl hw hS
  exact lv_icmp_le C.x C.b d ht (fun h => kt h ls H locs hl hw hS) (fun h => kf h ls H locs hl hw hS)
theorem ws_icmp_eqN (C : Cx F cc own dF cF sF) {x y : Nat} (d : AtC cc pc (.if_icmp .eq) tgt pc') (hx : x < 2 ^ 31) (hy : y < 2 ^ 31) (kt : x = y → WS F tgt lv st S cs ss) (kf : ¬ x = y → WS F pc' lv st S cs ss) : WS F pc lv (.int (nI y) :: .int (nI x) :: st) S cs ss :=
  ws_icmp_eq C d (fun h => kt ((nI_eq hx hy).mp h)) (fun h => kf (fun z => h ((nI_eq hx hy).mpr z)))
theorem ws_icmp_neN (C : Cx F cc own dF cF sF) {x y : Nat} (d : AtC cc pc (.if_icmp .ne) tgt pc') (hx : x < 2 ^ 31) (hy : y < 2 ^ 31) (kt : ¬ x = y → WS F tgt lv st S cs ss) (kf : x = y → WS F pc' lv st S cs ss) : WS F pc lv (.int (nI y) :: .int (nI x) :: st) S cs ss :=
  ws_icmp_ne C d (fun h => kt (fun z => h (congrArg nI z))) (fun h => kf ((nI_eq hx hy).mp h))
theorem ws_icmp_ltN (C : Cx F cc own dF cF sF) {x y : Nat} (d : AtC cc pc (.if_icmp .lt) tgt pc') (hx : x < 2 ^ 31) (hy : y < 2 ^ 31) (kt : x < y → WS F tgt lv st S cs ss) (kf : ¬ x < y → WS F pc' lv st S cs ss) : WS F pc lv (.int (nI y) :: .int (nI x) :: st) S cs ss :=
  ws_icmp_lt C d (fun h => kt ((nI_ltI hx hy).mp h)) (fun h => kf (fun z => h ((nI_ltI hx hy).mpr z)))
theorem ws_icmp_geN (C : Cx F cc own dF cF sF) {x y : Nat} (d : AtC cc pc (.if_icmp .ge) tgt pc') (hx : x < 2 ^ 31) (hy : y < 2 ^ 31) (kt : y ≤ x → WS F tgt lv st S cs ss) (kf : ¬ y ≤ x → WS F pc' lv st S cs ss) : WS F pc lv (.int (nI y) :: .int (nI x) :: st) S cs ss :=
  ws_icmp_ge C d (fun h => kt ((nI_leI hy hx).mp h)) (fun h => kf (fun z => h ((nI_leI hy hx).mpr z)))
theorem ws_icmp_gtN (C : Cx F cc own dF cF sF) {x y : Nat} (d : AtC cc pc (.if_icmp .gt) tgt pc') (hx : x < 2 ^ 31) (hy : y < 2 ^ 31) (kt : y < x → WS F tgt lv st S cs ss) (kf : ¬ y < x → WS F pc' lv st S cs ss) : WS F pc lv (.int (nI y) :: .int (nI x) :: st) S cs ss :=
  ws_icmp_gt C d (fun h => kt ((nI_ltI hy hx).mp h)) (fun h => kf (fun z => h ((nI_ltI hy hx).mpr z)))
theorem ws_icmp_leN (C : Cx F cc own dF cF sF) {x y : Nat} (d : AtC cc pc (.if_icmp .le) tgt pc') (hx : x < 2 ^ 31) (hy : y < 2 ^ 31) (kt : x ≤ y → WS F tgt lv st S cs ss) (kf : ¬ x ≤ y → WS F pc' lv st S cs ss) : WS F pc lv (.int (nI y) :: .int (nI x) :: st) S cs ss :=
  ws_icmp_le C d (fun h => kt ((nI_leI hx hy).mp h)) (fun h => kf (fun z => h ((nI_leI hx hy).mpr z)))
theorem nI_z {n : Nat} (h : n < 2 ^ 31) : nI n = 0 ↔ n = 0 := nI_eq (b := 0) h (by decide)
theorem nI_lz {n : Nat} (h : n < 2 ^ 31) : 0 < nI n ↔ 0 < n := nI_ltI (a := 0) (by decide) h
theorem nI_zl {n : Nat} (h : n < 2 ^ 31) : nI n ≤ 0 ↔ n = 0 := by
  have := nI_leI (a := n) (b := 0) h (by decide)
  exact this.trans ⟨fun z => by omega, fun z => by omega⟩
theorem ws_if_eqN (C : Cx F cc own dF cF sF) {x : Nat} (d : AtC cc pc (.ifCond .eq) tgt pc') (hx : x < 2 ^ 31) (kt : x = 0 → WS F tgt lv st S cs ss) (kf : ¬ x = 0 → WS F pc' lv st S cs ss) : WS F pc lv (.int (nI x) :: st) S cs ss :=
  ws_if_eq C d (fun h => kt ((nI_z hx).mp h)) (fun h => kf (fun z => h ((nI_z hx).mpr z)))
theorem ws_if_neN (C : Cx F cc own dF cF sF) {x : Nat} (d : AtC cc pc (.ifCond .ne) tgt pc') (hx : x < 2 ^ 31) (kt : ¬ x = 0 → WS F tgt lv st S cs ss) (kf : x = 0 → WS F pc' lv st S cs ss) : WS F pc lv (.int (nI x) :: st) S cs ss :=
  ws_if_ne C d (fun h => kt (fun z => h ((nI_z hx).mpr z))) (fun h => kf ((nI_z hx).mp h))
theorem ws_if_gtN (C : Cx F cc own dF cF sF) {x : Nat} (d : AtC cc pc (.ifCond .gt) tgt pc') (hx : x < 2 ^ 31) (kt : 0 < x → WS F tgt lv st S cs ss) (kf : x = 0 → WS F pc' lv st S cs ss) : WS F pc lv (.int (nI x) :: st) S cs ss :=
  ws_if_gt C d (fun h => kt ((nI_lz hx).mp h)) (fun h => kf (by have hh : ¬ 0 < x := fun z => h ((nI_lz hx).mpr z); omega))
theorem ws_if_leN (C : Cx F cc own dF cF sF) {x : Nat} (d : AtC cc pc (.ifCond .le) tgt pc') (hx : x < 2 ^ 31) (kt : x = 0 → WS F tgt lv st S cs ss) (kf : 0 < x → WS F pc' lv st S cs ss) : WS F pc lv (.int (nI x) :: st) S cs ss :=
  ws_if_le C d (fun h => kt ((nI_zl hx).mp h)) (fun h => kf (by have hh : ¬ x = 0 := fun z => h ((nI_zl hx).mpr z); omega))
/-- a number that is not below zero -/
theorem ws_if_ltN (C : Cx F cc own dF cF sF) {x : Nat} (d : AtC cc pc (.ifCond .lt) tgt pc') (hx : x < 2 ^ 31) (kf : WS F pc' lv st S cs ss) : WS F pc lv (.int (nI x) :: st) S cs ss :=
  ws_if_lt C d (fun h => absurd h (nI_pos hx)) (fun _ => kf)
theorem ws_if_geN (C : Cx F cc own dF cF sF) {x : Nat} (d : AtC cc pc (.ifCond .ge) tgt pc') (hx : x < 2 ^ 31) (kt : WS F tgt lv st S cs ss) : WS F pc lv (.int (nI x) :: st) S cs ss :=
  ws_if_ge C d (fun _ => kt) (fun h => absurd (nI_pos' hx) h)
/-- -1 -/
theorem ws_if_ltM (C : Cx F cc own dF cF sF) (d : AtC cc pc (.ifCond .lt) tgt pc') (kt : WS F tgt lv st S cs ss) : WS F pc lv (.int (-1) :: st) S cs ss :=
  ws_if_lt C d (fun _ => kt) (fun h => absurd (show (-1 : Int32) < 0 by decide) h)
theorem ws_if_geM (C : Cx F cc own dF cF sF) (d : AtC cc pc (.ifCond .ge) tgt pc') (kf : WS F pc' lv st S cs ss) : WS F pc lv (.int (-1) :: st) S cs ss :=
  ws_if_ge C d (fun h => absurd h (show ¬ (0 : Int32) ≤ -1 by decide)) (fun _ => kf)
def bI (b : Bool) : Int32 := if b = true then 1 else 0
theorem bI_t : bI true = 1 := rfl
theorem bI_f : bI false = 0 := rfl
theorem bI_0 (b : Bool) : bI b = 0 ↔ b = false := by cases b <;> decide
theorem ws_if_eqB (C : Cx F cc own dF cF sF) {b : Bool} (d : AtC cc pc (.ifCond .eq) tgt pc') (kt : b = false → WS F tgt lv st S cs ss) (kf : b = true → WS F pc' lv st S cs ss) : WS F pc lv (.int (bI b) :: st) S cs ss :=
  ws_if_eq C d (fun h => kt ((bI_0 b).mp h)) (fun h => kf (by cases b; exact absurd rfl h; rfl))
theorem ws_if_neB (C : Cx F cc own dF cF sF) {b : Bool} (d : AtC cc pc (.ifCond .ne) tgt pc') (kt : b = true → WS F tgt lv st S cs ss) (kf : b = false → WS F pc' lv st S cs ss) : WS F pc lv (.int (bI b) :: st) S cs ss :=
  ws_if_ne C d (fun h => kt (by cases b; exact absurd rfl h; rfl)) (fun h => kf ((bI_0 b).mp h))
theorem ws_ifnull (C : Cx F cc own dF cF sF) {x : Nat} (d : AtC cc pc .ifnull tgt pc') (k : WS F pc' lv st S cs ss) : WS F pc lv (.ref x :: st) S cs ss := by
  obtain ⟨off, d, ht, rfl⟩ := d
  intro ls H locs hl hw hS
  exact lv_ifnull C.x C.b d (k ls H locs hl hw hS)
theorem ws_ifnullN (C : Cx F cc own dF cF sF) (d : AtC cc pc .ifnull tgt pc') (k : WS F tgt lv st S cs ss) : WS F pc lv (.null :: st) S cs ss := by
  obtain ⟨off, d, ht, rfl⟩ := d
  intro ls H locs hl hw hS
  exact lv_ifnullN C.x C.b d ht (k ls H locs hl hw hS)
theorem ws_ifnonnull (C : Cx F cc own dF cF sF) {x : Nat} (d : AtC cc pc .ifnonnull tgt pc') (k : WS F tgt lv st S cs ss) : WS F pc lv (.ref x :: st) S cs ss := by
  obtain ⟨off, d, ht, rfl⟩ := d
  intro ls H locs hl hw hS
  exact lv_ifnonnull C.x C.b d ht (k ls H locs hl hw hS)
theorem ws_ifnonnullN (C : Cx F cc own dF cF sF) (d : AtC cc pc .ifnonnull tgt pc') (k : WS F pc' lv st S cs ss) : WS F pc lv (.null :: st) S cs ss := by
  obtain ⟨off, d, ht, rfl⟩ := d
  intro ls H locs hl hw hS
  exact lv_ifnonnullN C.x C.b d (k ls H locs hl hw hS)
/-- tableswitch at a number of its table, and beside it -/
theorem ws_tabIn (C : Cx F cc own dF cF sF) {df lo hi : Int} {offs : Array Int} {len : Nat} {x : Int32} (off : Int) (d : decode cc pc = .ok (.tableswitch df lo hi offs, len)) (h1 : ¬ x.toInt < lo) (h2 : ¬ hi < x.toInt) (ho : offs[(x.toInt - lo).toNat]? = some off) (ht : (pc : Int) + off = (tgt : Int)) (k : WS F tgt lv st S cs ss) : WS F pc lv (.int x :: st) S cs ss := by
  intro ls H locs hl hw hS
  exact lv_tableIn C.x C.b d h1 h2 ho ht (k ls H locs hl hw hS)
theorem ws_tabOut (C : Cx F cc own dF cF sF) {df lo hi : Int} {offs : Array Int} {len : Nat} {x : Int32} (d : decode cc pc = .ok (.tableswitch df lo hi offs, len)) (h : x.toInt < lo ∨ hi < x.toInt) (ht : (pc : Int) + df = (tgt : Int)) (k : WS F tgt lv st S cs ss) : WS F pc lv (.int x :: st) S cs ss := by
  intro ls H locs hl hw hS
  exact lv_tableOut C.x C.b d h ht (k ls H locs hl hw hS)
end ROWS
end
section
/-! fields, arrays, new cells -/
def tyk (kd k : Nat) : FieldType := (parseFieldDescriptor (ctb kd k).2.2.1).getD .int
theorem tyk_ok (kd : Nat) (h0 : 0 < kd) (h8 : kd ≤ 8) : ∀ k, k < nf kd → parseFieldDescriptor (ctb kd k).2.2.1 = some (tyk kd k) := by
  have : kd = 1 ∨ kd = 2 ∨ kd = 3 ∨ kd = 4 ∨ kd = 5 ∨ kd = 6 ∨ kd = 7 ∨ kd = 8 := by omega
  rcases this with rfl | rfl | rfl | rfl | rfl | rfl | rfl | rfl <;> decide +kernel
theorem nmk_ok (kd : Nat) (h0 : 0 < kd) (h8 : kd ≤ 8) : ∀ a, a < nf kd → ∀ b, b < nf kd → a ≠ b → (ctb kd a).2.1 ≠ (ctb kd b).2.1 := by
  have : kd = 1 ∨ kd = 2 ∨ kd = 3 ∨ kd = 4 ∨ kd = 5 ∨ kd = 6 ∨ kd = 7 ∨ kd = 8 := by omega
  rcases this with rfl | rfl | rfl | rfl | rfl | rfl | rfl | rfl <;> decide +kernel
theorem dfk_ok (kd : Nat) (h0 : 0 < kd) (h8 : kd ≤ 8) : ∀ k, k < nf kd → defaultValue (tyk kd k) = if rfk (32 * kd + k) = true then .null else .int 0 := by
  have : kd = 1 ∨ kd = 2 ∨ kd = 3 ∨ kd = 4 ∨ kd = 5 ∨ kd = 6 ∨ kd = 7 ∨ kd = 8 := by omega
  rcases this with rfl | rfl | rfl | rfl | rfl | rfl | rfl | rfl <;> decide +kernel
theorem lys_1 : ∀ w ∈ u_ws (cnm 1) (ctb 1) (nf 1), w ∈ TB := by decide +kernel
theorem lys_2 : ∀ w ∈ u_ws (cnm 2) (ctb 2) (nf 2), w ∈ TB := by decide +kernel
theorem lys_3 : ∀ w ∈ u_ws (cnm 3) (ctb 3) (nf 3), w ∈ TB := by decide +kernel
theorem lys_4 : ∀ w ∈ u_ws (cnm 4) (ctb 4) (nf 4), w ∈ TB := by decide +kernel
theorem lys_5 : ∀ w ∈ u_ws (cnm 5) (ctb 5) (nf 5), w ∈ TB := by decide +kernel
theorem lys_6 : ∀ w ∈ u_ws (cnm 6) (ctb 6) (nf 6), w ∈ TB := by decide +kernel
theorem lys_7 : ∀ w ∈ u_ws (cnm 7) (ctb 7) (nf 7), w ∈ TB := by decide +kernel
theorem lys_8 : ∀ w ∈ u_ws (cnm 8) (ctb 8) (nf 8), w ∈ TB := by decide +kernel
end
section
/-! rows: fields, arrays, new cells, calls, returns -/
theorem lys {kd : Nat} (h0 : 0 < kd) (h8 : kd ≤ 8) : ∀ w ∈ u_ws (cnm kd) (ctb kd) (nf kd), w ∈ TB := by
  have : kd = 1 ∨ kd = 2 ∨ kd = 3 ∨ kd = 4 ∨ kd = 5 ∨ kd = 6 ∨ kd = 7 ∨ kd = 8 := by omega
  rcases this with rfl | rfl | rfl | rfl | rfl | rfl | rfl | rfl
  · exact lys_1
  · exact lys_2
  · exact lys_3
  · exact lys_4
  · exact lys_5
  · exact lys_6
  · exact lys_7
  · exact lys_8
/-- a field by its number: f = 32 * kd + k; the word that links it; whether it is final -/
def FLk (own : String) (idx f : Nat) (ref : String) : Prop := Cond.fieldLink own idx ref (ctb (f / 32) (f % 32)).2.1 (ctb (f / 32) (f % 32)).2.2.1 ∈ TB ∧ 0 < f / 32 ∧ f / 32 ≤ 8 ∧ f % 32 < nf (f / 32)
def FLs (own : String) (idx f : Nat) : Prop := ∃ ref : String, FLk own idx f ref ∧ ((ctb (f / 32) (f % 32)).1 = ref ∨ Cond.sameField ref (ctb (f / 32) (f % 32)).1 (ctb (f / 32) (f % 32)).2.1 (ctb (f / 32) (f % 32)).2.2.1 ∈ TB)
theorem cel_up {Y : Nat → ClassId} {S : Sto} {a f : Nat} {x : Int32} : ∀ b, b ≠ a → cel Y (setI S f a x) b = cel Y S b := fun b hb => cel_congr rfl (fun g => by simp [setI, sI, up2, hb]) (fun _ => rfl) (fun _ => rfl) (fun _ => rfl) rfl
theorem cel_upP {Y : Nat → ClassId} {S : Sto} {a f : Nat} {x : Option Nat} : ∀ b, b ≠ a → cel Y (setP S f a x) b = cel Y S b := fun b hb => cel_congr rfl (fun _ => rfl) (fun g => by simp [setP, sP, up2, hb]) (fun _ => rfl) (fun _ => rfl) rfl
theorem cel_upE {Y : Nat → ClassId} {S : Sto} {k a i : Nat} {x : Int32} : ∀ b, b ≠ a → cel Y (setE S k a i x) b = cel Y S b := fun b hb => cel_congr rfl (fun _ => rfl) (fun _ => rfl) (fun g => by funext j; simp [setE, sE, up3, hb]) (fun _ => rfl) rfl
theorem cel_upQ {Y : Nat → ClassId} {S : Sto} {k a i : Nat} {x : Option Nat} : ∀ b, b ≠ a → cel Y (setQ S k a i x) b = cel Y S b := fun b hb => cel_congr rfl (fun _ => rfl) (fun _ => rfl) (fun _ => rfl) (fun g => by funext j; simp [setQ, sQ, up3, hb]) rfl
theorem cel_nO {Y : Nat → ClassId} {S : Sto} {q kd : Nat} : ∀ b, b ≠ q → cel Y (newO S q kd) b = cel Y S b := fun b hb => cel_congr (by simp [newO, sK, va_up, hb]) (fun g => by simp [newO, sI, hb]) (fun g => by simp [newO, sP, hb]) (fun _ => rfl) (fun _ => rfl) rfl
theorem cel_nA {Y : Nat → ClassId} {S : Sto} {q kd n : Nat} : ∀ b, b ≠ q → cel Y (newA S q kd n) b = cel Y S b := fun b hb => cel_congr (by simp [newA, sK, va_up, hb]) (fun _ => rfl) (fun _ => rfl) (fun g => by funext j; simp [newA, sE, hb]) (fun g => by funext j; simp [newA, sQ, hb]) (by simp [newA, sZ, va_up, hb])
section ROWS
variable {F : Fx} {cc : ByteArray} {own : String} {pc pc' tgt : Nat} {lv : List (Option Value)} {st : List Value} {S : Sto} {cs ss : Nat} {dF cF sF : Nat}
theorem fls_link (C : Cx F cc own dF cF sF) {idx f : Nat} (h : FLs own idx f) : ∃ ref : String, (Cond.fieldLink own idx ref (ctb (f / 32) (f % 32)).2.1 (ctb (f / 32) (f % 32)).2.2.1).before (xa F) (xs F) = true ∧ (∀ x, (xs F).fieldFound? (ctb (f / 32) (f % 32)).1 (ctb (f / 32) (f % 32)).2.1 (ctb (f / 32) (f % 32)).2.2.1 = some x → (xs F).fieldFound? ref (ctb (f / 32) (f % 32)).2.1 (ctb (f / 32) (f % 32)).2.2.1 = some x) ∧ 0 < f / 32 ∧ f / 32 ≤ 8 ∧ f % 32 < nf (f / 32) := by
  obtain ⟨ref, ⟨h1, h2, h3, h4⟩, h5⟩ := h
  refine ⟨ref, C.t h1, ?_, h2, h3, h4⟩
  rcases h5 with h5 | h5
  · intro x hx
    rw [← h5]
    exact hx
  · exact u_same (C.t h5)
theorem f_eq (f : Nat) : 32 * (f / 32) + f % 32 = f := Nat.div_add_mod f 32
theorem ws_getI (C : Cx F cc own dF cF sF) {idx f a : Nat} (d : At cc pc (.getfield idx) 3 pc') (h : FLs own idx f) (hr : rfk f = false) (hk : sK S a = f / 32) (k : WS F pc' lv (.int (sI S f a) :: st) S cs ss) : WS F pc lv (.ref a :: st) S cs ss := by
  obtain ⟨d, rfl⟩ := d
  obtain ⟨ref, h1, h2, h3, h4, h5⟩ := fls_link C h
  intro ls H locs hl hw hS
  obtain ⟨q, hq⟩ := wl_get hw (cel_o hk h3 h4)
  refine va_get (D := xD F) C.x C.b (Ts := TB) C.2.2.2.2.2.1 (lys h3 h4) C.o C.k (wl_P hw) q hq (vCl_at h3 h4) (f % 32) h5 h1 h2 (v := .int (sI S f a)) ?_ d (k ls H locs hl hw hS)
  rw [fl_get h5, f_eq, fv_I hr]
theorem ws_getP (C : Cx F cc own dF cF sF) {idx f a b : Nat} (d : At cc pc (.getfield idx) 3 pc') (h : FLs own idx f) (hr : rfk f = true) (hk : sK S a = f / 32) (hb : sP S f a = some b) (k : WS F pc' lv (.ref b :: st) S cs ss) : WS F pc lv (.ref a :: st) S cs ss := by
  obtain ⟨d, rfl⟩ := d
  obtain ⟨ref, h1, h2, h3, h4, h5⟩ := fls_link C h
  intro ls H locs hl hw hS
  obtain ⟨q, hq⟩ := wl_get hw (cel_o hk h3 h4)
  refine va_get (D := xD F) C.x C.b (Ts := TB) C.2.2.2.2.2.1 (lys h3 h4) C.o C.k (wl_P hw) q hq (vCl_at h3 h4) (f % 32) h5 h1 h2 (v := .ref b) ?_ d (k ls H locs hl hw hS)
  rw [fl_get h5, f_eq, fv_P hr, hb]
  rfl
theorem ws_getN (C : Cx F cc own dF cF sF) {idx f a : Nat} (d : At cc pc (.getfield idx) 3 pc') (h : FLs own idx f) (hr : rfk f = true) (hk : sK S a = f / 32) (hb : sP S f a = none) (k : WS F pc' lv (.null :: st) S cs ss) : WS F pc lv (.ref a :: st) S cs ss := by
  obtain ⟨d, rfl⟩ := d
  obtain ⟨ref, h1, h2, h3, h4, h5⟩ := fls_link C h
  intro ls H locs hl hw hS
  obtain ⟨q, hq⟩ := wl_get hw (cel_o hk h3 h4)
  refine va_get (D := xD F) C.x C.b (Ts := TB) C.2.2.2.2.2.1 (lys h3 h4) C.o C.k (wl_P hw) q hq (vCl_at h3 h4) (f % 32) h5 h1 h2 (v := .null) ?_ d (k ls H locs hl hw hS)
  rw [fl_get h5, f_eq, fv_P hr, hb]
  rfl
/-- int-like fields that are not final -/
theorem ws_putI (C : Cx F cc own dF cF sF) {idx f a : Nat} {x : Int32} (d : At cc pc (.putfield idx) 3 pc') (h : FLs own idx f) (hr : rfk f = false) (hf : (ctb (f / 32) (f % 32)).2.2.2 = false) (hn : narrow (tyk (f / 32) (f % 32)) (.int x) = .int x ∧ fits (tyk (f / 32) (f % 32)) (.int x) = true) (hk : sK S a = f / 32) (k : WS F pc' lv st (setI S f a x) cs ss) : WS F pc lv (.int x :: .ref a :: st) S cs ss := by
  obtain ⟨d, rfl⟩ := d
  obtain ⟨ref, h1, h2, h3, h4, h5⟩ := fls_link C h
  intro ls H locs hl hw hS
  obtain ⟨q, hq⟩ := wl_get hw (cel_o hk h3 h4)
  refine va_put (D := xD F) C.x C.b (Ts := TB) C.2.2.2.2.2.1 (lys h3 h4) (tyk (f / 32)) (tyk_ok _ h3 h4) (nmk_ok _ h3 h4) C.o C.k (wl_P hw) (wl_D hw) hS q hq (vCl_at h3 h4) (f % 32) h5 h1 h2 hf (tyk_ok _ h3 h4 _ h5) hn.1 hn.2 (by rw [fl_len]; exact h5) d (fun H1 locs1 hP1 _ hS1 => k ls H1 locs1 hl ?_ hS1)
  refine wl_set hw hq hP1 ?_ cel_up
  have hk' : sK (setI S f a x) a = f / 32 := hk
  rw [cel_o hk' h3 h4, fl_setI h5 (by rw [f_eq]; exact hr), f_eq]
theorem ws_putR (C : Cx F cc own dF cF sF) {idx f a : Nat} (x : Option Nat) {v : Value} (hv : va_rf x = v) (d : At cc pc (.putfield idx) 3 pc') (h : FLs own idx f) (hr : rfk f = true) (hf : (ctb (f / 32) (f % 32)).2.2.2 = false) (hn : narrow (tyk (f / 32) (f % 32)) v = v ∧ fits (tyk (f / 32) (f % 32)) v = true) (hk : sK S a = f / 32) (k : WS F pc' lv st (setP S f a x) cs ss) : WS F pc lv (v :: .ref a :: st) S cs ss := by
  subst hv
  obtain ⟨d, rfl⟩ := d
  obtain ⟨ref, h1, h2, h3, h4, h5⟩ := fls_link C h
  intro ls H locs hl hw hS
  obtain ⟨q, hq⟩ := wl_get hw (cel_o hk h3 h4)
  refine va_put (D := xD F) C.x C.b (Ts := TB) C.2.2.2.2.2.1 (lys h3 h4) (tyk (f / 32)) (tyk_ok _ h3 h4) (nmk_ok _ h3 h4) C.o C.k (wl_P hw) (wl_D hw) hS q hq (vCl_at h3 h4) (f % 32) h5 h1 h2 hf (tyk_ok _ h3 h4 _ h5) hn.1 hn.2 (by rw [fl_len]; exact h5) d (fun H1 locs1 hP1 _ hS1 => k ls H1 locs1 hl ?_ hS1)
  refine wl_set hw hq hP1 ?_ cel_upP
  have hk' : sK (setP S f a x) a = f / 32 := hk
  rw [cel_o hk' h3 h4, fl_setP h5 (by rw [f_eq]; exact hr), f_eq]
/-- final fields, in the constructor -/
theorem ws_putFI (C : Cx F cc own dF cF sF) (hin : (xt F).name = "<init>") {idx f a : Nat} {x : Int32} (d : At cc pc (.putfield idx) 3 pc') (h : FLs own idx f) (hr : rfk f = false) (hf : (ctb (f / 32) (f % 32)).2.2.2 = true) (ho : (ctb (f / 32) (f % 32)).1 = own) (hn : narrow (tyk (f / 32) (f % 32)) (.int x) = .int x ∧ fits (tyk (f / 32) (f % 32)) (.int x) = true) (hk : sK S a = f / 32) (k : WS F pc' lv st (setI S f a x) cs ss) : WS F pc lv (.int x :: .ref a :: st) S cs ss := by
  obtain ⟨d, rfl⟩ := d
  obtain ⟨ref, h1, h2, h3, h4, h5⟩ := fls_link C h
  intro ls H locs hl hw hS
  obtain ⟨q, hq⟩ := wl_get hw (cel_o hk h3 h4)
  refine va_putF (D := xD F) C.x C.b (Ts := TB) C.2.2.2.2.2.1 (lys h3 h4) (tyk (f / 32)) (tyk_ok _ h3 h4) (nmk_ok _ h3 h4) C.o C.k (wl_P hw) (wl_D hw) hS q hq (vCl_at h3 h4) (f % 32) h5 h1 h2 hf hin ho (tyk_ok _ h3 h4 _ h5) hn.1 hn.2 (by rw [fl_len]; exact h5) d (fun H1 locs1 hP1 _ hS1 => k ls H1 locs1 hl ?_ hS1)
  refine wl_set hw hq hP1 ?_ cel_up
  have hk' : sK (setI S f a x) a = f / 32 := hk
  rw [cel_o hk' h3 h4, fl_setI h5 (by rw [f_eq]; exact hr), f_eq]
theorem ws_putFR (C : Cx F cc own dF cF sF) (hin : (xt F).name = "<init>") {idx f a : Nat} (x : Option Nat) {v : Value} (hv : va_rf x = v) (d : At cc pc (.putfield idx) 3 pc') (h : FLs own idx f) (hr : rfk f = true) (hf : (ctb (f / 32) (f % 32)).2.2.2 = true) (ho : (ctb (f / 32) (f % 32)).1 = own) (hn : narrow (tyk (f / 32) (f % 32)) v = v ∧ fits (tyk (f / 32) (f % 32)) v = true) (hk : sK S a = f / 32) (k : WS F pc' lv st (setP S f a x) cs ss) : WS F pc lv (v :: .ref a :: st) S cs ss := by
  subst hv
  obtain ⟨d, rfl⟩ := d
  obtain ⟨ref, h1, h2, h3, h4, h5⟩ := fls_link C h
  intro ls H locs hl hw hS
  obtain ⟨q, hq⟩ := wl_get hw (cel_o hk h3 h4)
  refine va_putF (D := xD F) C.x C.b (Ts := TB) C.2.2.2.2.2.1 (lys h3 h4) (tyk (f / 32)) (tyk_ok _ h3 h4) (nmk_ok _ h3 h4) C.o C.k (wl_P hw) (wl_D hw) hS q hq (vCl_at h3 h4) (f % 32) h5 h1 h2 hf hin ho (tyk_ok _ h3 h4 _ h5) hn.1 hn.2 (by rw [fl_len]; exact h5) d (fun H1 locs1 hP1 _ hS1 => k ls H1 locs1 hl ?_ hS1)
  refine wl_set hw hq hP1 ?_ cel_upP
  have hk' : sK (setP S f a x) a = f / 32 := hk
  rw [cel_o hk' h3 h4, fl_setP h5 (by rw [f_eq]; exact hr), f_eq]
-- arrays
theorem ws_iald (C : Cx F cc own dF cF sF) {a i : Nat} (d : At cc pc .iaload 1 pc') (hk : sK S a = 9) (hi : i < sZ S a) (hz : sZ S a < 2 ^ 31) (k : WS F pc' lv (.int (sE S 9 a i) :: st) S cs ss) : WS F pc lv (.int (nI i) :: .ref a :: st) S cs ss := by
  obtain ⟨d, rfl⟩ := d
  intro ls H locs hl hw hS
  obtain ⟨q, hq⟩ := wl_get hw (cel_i hk (by decide) (by decide))
  refine va_iald C.x C.b C.k (wl_P hw) q 0 hq rfl (vp_in_nI hi hz) d ?_
  rw [nI_clamp (by omega)]
  exact k ls H locs hl hw hS
theorem ws_zald (C : Cx F cc own dF cF sF) {a i : Nat} (d : At cc pc .baload 1 pc') (hk : sK S a = 10) (hi : i < sZ S a) (hz : sZ S a < 2 ^ 31) (k : WS F pc' lv (.int (sE S 10 a i) :: st) S cs ss) : WS F pc lv (.int (nI i) :: .ref a :: st) S cs ss := by
  obtain ⟨d, rfl⟩ := d
  intro ls H locs hl hw hS
  obtain ⟨q, hq⟩ := wl_get hw (cel_i hk (by decide) (by decide))
  refine va_zald C.x C.b C.k (wl_P hw) q 1 hq rfl (vp_in_nI hi hz) d ?_
  rw [nI_clamp (by omega)]
  exact k ls H locs hl hw hS
theorem ws_aald (C : Cx F cc own dF cF sF) {a i kd : Nat} (h0 : 11 ≤ kd) (h1 : kd ≤ 14) (d : At cc pc .aaload 1 pc') (hk : sK S a = kd) (hi : i < sZ S a) (hz : sZ S a < 2 ^ 31) (k : WS F pc' lv (va_rf (sQ S kd a i) :: st) S cs ss) : WS F pc lv (.int (nI i) :: .ref a :: st) S cs ss := by
  obtain ⟨d, rfl⟩ := d
  intro ls H locs hl hw hS
  obtain ⟨q, hq⟩ := wl_get hw (cel_q hk (by omega))
  have hty : ∃ Cn, aty kd = .object Cn := by
    have : kd = 11 ∨ kd = 12 ∨ kd = 13 ∨ kd = 14 := by omega
    rcases this with rfl | rfl | rfl | rfl <;> exact ⟨_, rfl⟩
  obtain ⟨Cn, hCn⟩ := hty
  refine va_aldq C.x C.b C.k (wl_P hw) q (kd - 9) hq (by rw [tYs_at _ (by omega) h1, hCn]) (vp_in_nI hi hz) d ?_
  rw [nI_clamp (by omega)]
  exact k ls H locs hl hw hS
theorem ws_alen (C : Cx F cc own dF cF sF) {a kd : Nat} (h0 : 9 ≤ kd) (h1 : kd ≤ 14) (d : At cc pc .arraylength 1 pc') (hk : sK S a = kd) (k : WS F pc' lv (.int (nI (sZ S a)) :: st) S cs ss) : WS F pc lv (.ref a :: st) S cs ss := by
  obtain ⟨d, rfl⟩ := d
  intro ls H locs hl hw hS
  by_cases h10 : kd ≤ 10
  · obtain ⟨q, hq⟩ := wl_get hw (cel_i hk (by omega) h10)
    exact va_alen C.x C.b C.k (wl_P hw) q (kd - 9) hq (tYs_at _ h0 h1) rfl d (k ls H locs hl hw hS)
  · obtain ⟨q, hq⟩ := wl_get hw (cel_q hk (by omega))
    exact va_alen C.x C.b C.k (wl_P hw) q (kd - 9) hq (tYs_at _ h0 h1) rfl d (k ls H locs hl hw hS)
theorem upd_E {S : Sto} {k a i : Nat} {x : Int32} : upd (sE S k a) i x = sE (setE S k a i x) k a := by
  funext j
  simp [upd, setE, sE, up3]
theorem upd_Q {S : Sto} {k a i : Nat} {x : Option Nat} : va_up (sQ S k a) i x = sQ (setQ S k a i x) k a := by
  funext j
  simp [va_up, setQ, sQ, up3]
theorem ws_iast (C : Cx F cc own dF cF sF) {a i : Nat} {x : Int32} (d : At cc pc .iastore 1 pc') (hk : sK S a = 9) (hi : i < sZ S a) (hz : sZ S a < 2 ^ 31) (k : WS F pc' lv st (setE S 9 a i x) cs ss) : WS F pc lv (.int x :: .int (nI i) :: .ref a :: st) S cs ss := by
  obtain ⟨d, rfl⟩ := d
  intro ls H locs hl hw hS
  obtain ⟨q, hq⟩ := wl_get hw (cel_i hk (by decide) (by decide))
  refine va_iast C.x C.b C.k (wl_P hw) (wl_D hw) hS q 0 hq rfl (vp_in_nI hi hz) d (fun H1 locs1 hP1 _ hS1 => k ls H1 locs1 hl ?_ hS1)
  rw [nI_clamp (by omega), upd_E] at hP1
  refine wl_set hw hq hP1 ?_ cel_upE
  have hk' : sK (setE S 9 a i x) a = 9 := hk
  rw [cel_i hk' (by decide) (by decide)]
  rfl
theorem ws_zast (C : Cx F cc own dF cF sF) {a i : Nat} {x : Int32} (d : At cc pc .bastore 1 pc') (hx : vp_nar .boolean x = x) (hk : sK S a = 10) (hi : i < sZ S a) (hz : sZ S a < 2 ^ 31) (k : WS F pc' lv st (setE S 10 a i x) cs ss) : WS F pc lv (.int x :: .int (nI i) :: .ref a :: st) S cs ss := by
  obtain ⟨d, rfl⟩ := d
  intro ls H locs hl hw hS
  obtain ⟨q, hq⟩ := wl_get hw (cel_i hk (by decide) (by decide))
  refine va_zast C.x C.b C.k (wl_P hw) (wl_D hw) hS q 1 hq rfl (vp_in_nI hi hz) d (fun H1 locs1 hP1 _ hS1 => k ls H1 locs1 hl ?_ hS1)
  rw [nI_clamp (by omega), hx, upd_E] at hP1
  refine wl_set hw hq hP1 ?_ cel_upE
  have hk' : sK (setE S 10 a i x) a = 10 := hk
  rw [cel_i hk' (by decide) (by decide)]
  rfl
/-- an object into an array of its own class -/
theorem ws_aast (C : Cx F cc own dF cF sF) {a i b kd ko : Nat} (d : At cc pc .aastore 1 pc') (hko : (kd = 11 ∧ ko = 4) ∨ (kd = 12 ∧ ko = 2) ∨ (kd = 13 ∧ ko = 5)) (hk : sK S a = kd) (hb : sK S b = ko) (hi : i < sZ S a) (hz : sZ S a < 2 ^ 31) (k : WS F pc' lv st (setQ S kd a i (some b)) cs ss) : WS F pc lv (.ref b :: .int (nI i) :: .ref a :: st) S cs ss := by
  obtain ⟨d, rfl⟩ := d
  intro ls H locs hl hw hS
  have hkd : 11 ≤ kd ∧ kd ≤ 14 ∧ 0 < ko ∧ ko ≤ 8 := by omega
  obtain ⟨q, hq⟩ := wl_get hw (cel_q hk (by omega))
  obtain ⟨q2, hq2⟩ := wl_get hw (cel_o hb (by omega) (by omega))
  refine va_astq C.x C.b C.k (wl_P hw) (wl_D hw) hS q (kd - 9) q2 (ko - 1) hq ?_ hq2 (vCl_at (by omega) (by omega)) (vp_in_nI hi hz) d (fun H1 locs1 hP1 _ hS1 => k ls H1 locs1 hl ?_ hS1)
  · rw [tYs_at _ (by omega) (by omega)]
    rcases hko with ⟨rfl, rfl⟩ | ⟨rfl, rfl⟩ | ⟨rfl, rfl⟩ <;> rfl
  rw [nI_clamp (by omega), upd_Q] at hP1
  refine wl_set hw hq hP1 ?_ cel_upQ
  have hk' : sK (setQ S kd a i (some b)) a = kd := hk
  rw [cel_q hk' (by omega)]
  rfl
theorem ws_aastN (C : Cx F cc own dF cF sF) {a i kd : Nat} (d : At cc pc .aastore 1 pc') (h0 : 11 ≤ kd) (h1 : kd ≤ 14) (hk : sK S a = kd) (hi : i < sZ S a) (hz : sZ S a < 2 ^ 31) (k : WS F pc' lv st (setQ S kd a i none) cs ss) : WS F pc lv (.null :: .int (nI i) :: .ref a :: st) S cs ss := by
  obtain ⟨d, rfl⟩ := d
  intro ls H locs hl hw hS
  obtain ⟨q, hq⟩ := wl_get hw (cel_q hk (by omega))
  have hty : ∃ Cn, aty kd = .object Cn := by
    have : kd = 11 ∨ kd = 12 ∨ kd = 13 ∨ kd = 14 := by omega
    rcases this with rfl | rfl | rfl | rfl <;> exact ⟨_, rfl⟩
  obtain ⟨Cn, hCn⟩ := hty
  refine va_astqN C.x C.b C.k (wl_P hw) (wl_D hw) hS q (kd - 9) hq (by rw [tYs_at _ (by omega) h1, hCn]) (vp_in_nI hi hz) d (fun H1 locs1 hP1 _ hS1 => k ls H1 locs1 hl ?_ hS1)
  rw [nI_clamp (by omega), upd_Q] at hP1
  refine wl_set hw hq hP1 ?_ cel_upQ
  have hk' : sK (setQ S kd a i none) a = kd := hk
  rw [cel_q hk' (by omega)]
  rfl
/-- a Message into an array of Objects -/
theorem ws_aastO (C : Cx F cc own dF cF sF) {a i b : Nat} (d : At cc pc .aastore 1 pc') (hk : sK S a = 14) (hb : sK S b = 7) (hi : i < sZ S a) (hz : sZ S a < 2 ^ 31) (k : WS F pc' lv st (setQ S 14 a i (some b)) cs ss) : WS F pc lv (.ref b :: .int (nI i) :: .ref a :: st) S cs ss := by
  obtain ⟨d, rfl⟩ := d
  intro ls H locs hl hw hS
  obtain ⟨q, hq⟩ := wl_get hw (cel_q hk (by omega))
  obtain ⟨q2, hq2⟩ := wl_get hw (cel_o hb (by decide) (by decide))
  refine va_astqO (E := "java/lang/Object") C.x C.b C.k (wl_P hw) (wl_D hw) hS q 5 q2 6 hq rfl C.E.1 hq2 (vCl_at (kd := 7) (by decide) (by decide)) (vp_in_nI hi hz) d (fun H1 locs1 hP1 _ hS1 => k ls H1 locs1 hl ?_ hS1)
  rw [nI_clamp (by omega), upd_Q] at hP1
  refine wl_set hw hq hP1 ?_ cel_upQ
  have hk' : sK (setQ S 14 a i (some b)) a = 14 := hk
  rw [cel_q hk' (by omega)]
  rfl
-- new cells
theorem ws_new (C : Cx F cc own dF cF sF) {idx kd n : Nat} (d : At cc pc (.new idx) 3 pc') (h0 : 0 < kd) (h8 : kd ≤ 8) (hn : nf kd = n) (hc : Cond.classLink own idx (cnm kd) ∈ TB) (hi : Cond.instantiable (cnm kd) (nf kd) ∈ TB) (hini : Cond.initialized (cnm kd) ∈ TB) (h1 : cs + 1 ≤ cF) (h2 : ss + n ≤ sF)
    (k : ∀ q, sK S q = 0 → WS F pc' lv (.ref q :: st) (newO S q kd) (cs + 1) (ss + n)) : WS F pc lv st S cs ss := by
  subst hn
  obtain ⟨d, rfl⟩ := d
  intro ls H locs hl hw hS
  refine va_new (D := xD F) C.x C.b (Ts := TB) C.2.2.2.2.2.1 (lys h0 h8) (tyk kd) (tyk_ok _ h0 h8) C.o (C.t hc) (C.t hi) (C.t hini) C.k (wl_P hw) (wl_D hw) hS C.A (vCl_at h0 h8) (fs := (List.range (nf kd)).map (fun j => defaultValue (tyk kd j))) ?_ (by rw [C.1.2.2.1]; exact h1) (by rw [C.1.2.2.2]; exact h2) d (fun q H1 hP1 hD1 hS1 => ?_)
  · intro j hj
    show _ = List.getD _ _ _
    rw [List.getD_eq_getElem?_getD, List.getElem?_map, List.getElem?_range hj]
    rfl
  have hcel : cel (xY F) (newO S q kd) q = some (.inr (kd - 1, (List.range (nf kd)).map (fun j => defaultValue (tyk kd j)))) := by
    have hk' : sK (newO S q kd) q = kd := by simp [newO, sK, va_up]
    rw [cel_o hk' h0 h8]
    congr 3
    unfold fl
    refine List.map_congr_left (fun j hj => ?_)
    rw [List.mem_range] at hj
    rw [dfk_ok kd h0 h8 j hj]
    unfold fv
    have e : (32 * kd + j) / 32 = kd := by have := nf_le kd; omega
    by_cases hr : rfk (32 * kd + j) = true
    · rw [if_pos hr, if_pos hr]
      simp [newO, sP, e, va_rf]
    · rw [if_neg hr, if_neg hr]
      simp [newO, sI, e]
  obtain ⟨w1, w2⟩ := wl_push (S' := newO S q kd) hw hP1 hD1 hcel cel_nO
  exact k q w2 ls H1 locs hl w1 hS1
theorem arr_cls (C : Cx F cc own dF cF sF) {kd : Nat} (h0 : 9 ≤ kd) (h1 : kd ≤ 14) {cA : ClassId} (h : va_K (xD F) vCl (tYs (xY F) ++ [(cA, aty kd)]) (xs F)) : cA = xY F (kd - 9) := by
  have e1 := (h.2 6 (cA, aty kd) (by simp [tYs])).2
  have e2 := (C.k.2 (kd - 9) _ (tYs_at (xY F) h0 h1)).2
  have : kd = 9 ∨ kd = 10 ∨ kd = 11 ∨ kd = 12 ∨ kd = 13 ∨ kd = 14 := by omega
  rcases this with rfl | rfl | rfl | rfl | rfl | rfl
  · exact Option.some.inj (e1.symm.trans e2)
  · exact Option.some.inj (e1.symm.trans e2)
  all_goals
    obtain ⟨_, _, _, _, _, q1⟩ := e1
    obtain ⟨_, _, _, _, _, q2⟩ := e2
    exact Option.some.inj (q1.symm.trans q2)
theorem ws_newi (C : Cx F cc own dF cF sF) {n : Nat} (d : At cc pc (.newarray .int) 2 pc') (hn : n < 100000) (hc : Cond.arrayClass .int ∈ TB) (h1 : cs + 1 ≤ cF) (h2 : ss + n ≤ sF)
    (k : ∀ q, sK S q = 0 → WS F pc' lv (.ref q :: st) (newA S q 9 n) (cs + 1) (ss + n)) : WS F pc lv (.int (nI n) :: st) S cs ss := by
  obtain ⟨d, rfl⟩ := d
  intro ls H locs hl hw hS
  refine va_newa (atype := .int) (ty := .int) (N' := n) (a0 := (n, .inl (fun _ => 0))) C.x C.b (C.t hc) rfl C.k (wl_P hw) (wl_D hw) hS C.A (fun cA => rfl) (nI_pos (by omega)) (nI_clamp (by omega)) (by show n * 4 ≤ _; omega) (by rw [C.1.2.2.1]; exact h1) (by rw [C.1.2.2.2]; exact h2) d (fun q cA H1 hK1 hP1 hD1 hS1 => ?_)
  have hcA := arr_cls C (kd := 9) (by decide) (by decide) hK1
  subst hcA
  have hcel : cel (xY F) (newA S q 9 n) q = some (.inl (xY F (9 - 9), n, .inl (fun _ => 0))) := by
    have hk' : sK (newA S q 9 n) q = 9 := by simp [newA, sK, va_up]
    rw [cel_i hk' (by decide) (by decide)]
    have e1 : sZ (newA S q 9 n) q = n := by simp [newA, sZ, va_up]
    have e2 : sE (newA S q 9 n) 9 q = fun _ => 0 := by funext j; simp [newA, sE]
    rw [e1, e2]
  obtain ⟨w1, w2⟩ := wl_push (S' := newA S q 9 n) hw hP1 hD1 hcel cel_nA
  exact k q w2 ls H1 locs hl w1 hS1
theorem ws_newz (C : Cx F cc own dF cF sF) {n : Nat} (d : At cc pc (.newarray .boolean) 2 pc') (hn : n < 100000) (hc : Cond.arrayClass .boolean ∈ TB) (h1 : cs + 1 ≤ cF) (h2 : ss + n ≤ sF)
    (k : ∀ q, sK S q = 0 → WS F pc' lv (.ref q :: st) (newA S q 10 n) (cs + 1) (ss + n)) : WS F pc lv (.int (nI n) :: st) S cs ss := by
  obtain ⟨d, rfl⟩ := d
  intro ls H locs hl hw hS
  refine va_newa (atype := .boolean) (ty := .boolean) (N' := n) (a0 := (n, .inl (fun _ => 0))) C.x C.b (C.t hc) rfl C.k (wl_P hw) (wl_D hw) hS C.A (fun cA => rfl) (nI_pos (by omega)) (nI_clamp (by omega)) (by show n * 1 ≤ _; omega) (by rw [C.1.2.2.1]; exact h1) (by rw [C.1.2.2.2]; exact h2) d (fun q cA H1 hK1 hP1 hD1 hS1 => ?_)
  have hcA := arr_cls C (kd := 10) (by decide) (by decide) hK1
  subst hcA
  have hcel : cel (xY F) (newA S q 10 n) q = some (.inl (xY F (10 - 9), n, .inl (fun _ => 0))) := by
    have hk' : sK (newA S q 10 n) q = 10 := by simp [newA, sK, va_up]
    rw [cel_i hk' (by decide) (by decide)]
    have e1 : sZ (newA S q 10 n) q = n := by simp [newA, sZ, va_up]
    have e2 : sE (newA S q 10 n) 10 q = fun _ => 0 := by funext j; simp [newA, sE]
    rw [e1, e2]
  obtain ⟨w1, w2⟩ := wl_push (S' := newA S q 10 n) hw hP1 hD1 hcel cel_nA
  exact k q w2 ls H1 locs hl w1 hS1
theorem ws_newq (C : Cx F cc own dF cF sF) {idx n kd : Nat} {Cn : String} (d : At cc pc (.anewarray idx) 3 pc') (hn : n < 100000) (h0 : 11 ≤ kd) (h14 : kd ≤ 14) (hC : aty kd = .object Cn) (hc : Cond.classLink own idx Cn ∈ TB) (ha : va_AO Cn (xs F)) (h1 : cs + 1 ≤ cF) (h2 : ss + n ≤ sF)
    (k : ∀ q, sK S q = 0 → WS F pc' lv (.ref q :: st) (newA S q kd n) (cs + 1) (ss + n)) : WS F pc lv (.int (nI n) :: st) S cs ss := by
  obtain ⟨d, rfl⟩ := d
  intro ls H locs hl hw hS
  refine va_newq (N' := n) C.x C.b C.o (C.t hc) ha C.k (wl_P hw) (wl_D hw) hS C.A (nI_pos (by omega)) (nI_clamp (by omega)) (by omega) (by rw [C.1.2.2.1]; exact h1) (by rw [C.1.2.2.2]; exact h2) d (fun q cA H1 hK1 hP1 hD1 hS1 => ?_)
  have hcA := arr_cls C (kd := kd) (by omega) (by omega) (by rw [hC]; exact hK1)
  subst hcA
  have hcel : cel (xY F) (newA S q kd n) q = some (.inl (xY F (kd - 9), n, .inr (.inr (.inr (.inr (fun _ => none)))))) := by
    have hk' : sK (newA S q kd n) q = kd := by simp [newA, sK, va_up]
    rw [cel_q hk' (by omega)]
    have e1 : sZ (newA S q kd n) q = n := by simp [newA, sZ, va_up]
    have e2 : sQ (newA S q kd n) kd q = fun _ => none := by funext j; simp [newA, sQ]
    rw [e1, e2]
  obtain ⟨w1, w2⟩ := wl_push (S' := newA S q kd n) hw hP1 hD1 hcel cel_nA
  exact k q w2 ls H1 locs hl w1 hS1
end ROWS
end
section
/-! contracts, calls, returns -/
/-- a method: name, code, locals, what it returns, how deep its calls go -/
abbrev MI : Type := MethodName × ByteArray × Nat × Option FieldType × Nat
def rmD (d mc ms : Nat) : Room := { frames := d, cells := mc, slots := ms, locals := 39 * d }
def QcT (Post : Option Value → Sto → Prop) (V : Ev) : Array Value → State → Outcome → State → Prop := fun _ st oc t => (∃ (v : Option Value) (S' : Sto), oc = .returned v ∧ Post v S' ∧ Wd (vD V) (vY V) (vA V) S' t.heap) ∧ va_F (vA V) st t
/-- the contract: from store S with arguments av, method mi returns with Post, at most mc new cells of ms slots -/
def CT (V : Ev) (mi : MI) (mc ms : Nat) (av : List Value) (S : Sto) (Post : Option Value → Sto → Prop) : Prop :=
  Met (vL V) mi.1 (Cond.code mi.1 mi.2.1 mi.2.2.1 mi.2.2.2.1 :: TB) (rmD mi.2.2.2.2 mc ms) (va_Pc av (fun U => Wd (vD V) (vY V) (vA V) S U.heap ∧ KK (vD V) (vY V) (vA V) (vZ V) U U.heap)) (QcT Post V) mc ms (vA V)
/-- the end of a walk -/
def RT (F : Fx) (mi : MI) (mc ms : Nat) (Post : Option Value → Sto → Prop) : Prop := xQ F = MQ (xb F) (QcT Post F.1) (xa F) (xs F) mc ms (xA F) ∧ (xt F).sig.returnType = mi.2.2.2.1 ∧ (xt F).locks = false ∧ (xt F).name = mi.1.name
theorem LH.entry {av : List Value} {n : Nat} (h1 : ∀ v ∈ av, v.category = 1) (hn : av.length ≤ n) : LH ((lg_sl av ++ List.replicate (n - (lg_sl av).length) Slot.unset).toArray) n (av.map some) := by
  have hsl : ∀ l : List Value, (∀ v ∈ l, v.category = 1) → lg_sl l = l.map Slot.val := by
    intro l
    induction l with
    | nil => intro _; rfl
    | cons v t ih =>
      intro h
      have hv : ¬ v.category = 2 := by rw [h v List.mem_cons_self]; decide
      have := ih (fun w hw => h w (List.mem_cons_of_mem _ hw))
      unfold lg_sl at this ⊢
      rw [List.flatMap_cons, this, if_neg hv]
      rfl
  have e := hsl av h1
  have hlen : (lg_sl av).length ≤ n := by rw [e, List.length_map]; exact hn
  have hh := lv_entry av hlen
  refine ⟨hh.1, hh.2.1, fun i v hi => ?_⟩
  rw [List.getElem?_map] at hi
  cases hav : av[i]? with
  | none => rw [hav] at hi; cases hi
  | some w =>
    rw [hav] at hi
    cases hi
    refine ⟨h1 v (List.mem_of_getElem? hav), ?_⟩
    have hl := (List.getElem?_eq_some_iff.mp hav).1
    rw [e]
    rw [List.getElem?_toArray, List.getElem?_append_left (by rw [List.length_map]; exact hl), List.getElem?_map, hav]
    rfl
theorem LH.more {ls : Array Slot} {n k : Nat} {lv : List (Option Value)} (h : LH ls n lv) : LH ls n (lv ++ List.replicate k none) := ⟨h.1, h.2.1, fun i v hi => by
  by_cases hl : i < lv.length
  · rw [List.getElem?_append_left hl] at hi
    exact h.2.2 i v hi
  · rw [List.getElem?_append_right (by omega)] at hi
    have := List.mem_of_getElem? hi
    have := List.eq_of_mem_replicate this
    cases this⟩
theorem CT.of {V : Ev} {mi : MI} {mc ms : Nat} {av : List Value} {S : Sto} {Post : Option Value → Sto → Prop} {cc : ByteArray} {own : String} {nL d : Nat} {lv : List (Option Value)} (hy : plainName mi.1.cls = true) (hcc : mi.2.1 = cc) (hown : mi.1.cls = own) (hnL : mi.2.2.1 = nL) (hd : mi.2.2.2.2 = d) (h1 : ∀ v ∈ av, v.category = 1) (hn : av.length ≤ nL) (hlv : lv = av.map some ++ List.replicate (nL - av.length) none)
    (body : ∀ F : Fx, F.1 = V → xn F = nL → Cx F cc own d mc ms → RT F mi mc ms Post → WS F 0 lv [] S 0 0) : CT V mi mc ms av S Post := by
  subst hcc; subst hown; subst hnL; subst hd; subst hlv
  refine Met.ofW (cc := mi.2.1) (maxL := mi.2.2.1) (ret := mi.2.2.2.1) hy rfl ?_
  intro p e s m args below meth c s₁ B hml hv
  obtain ⟨rfl, hW, hK⟩ := hv
  have hts : ∀ w ∈ TB, w.before av.toArray s = true := fun w hw => atoms_spec (ws := Cond.code mi.1 mi.2.1 mi.2.2.1 mi.2.2.2.1 :: TB) B.pre w (List.mem_cons_of_mem _ hw)
  have k := body (V, (p, e, rmD mi.2.2.2.2 mc ms, s, m, av.toArray, below), (meth, c, MQ below (QcT Post V) av.toArray s mc ms (vA V)), mi.2.2.1) rfl rfl
    ⟨⟨Nat.le_refl _, Nat.le_refl _, rfl, rfl⟩, B.exec, B.bytes, hml, findClass_of_methodNamed B.named, hts, hK⟩ ⟨rfl, B.returns, B.notSynchronized, (name_of_methodNamed B.named B.method).1⟩
  rw [lg_entry_eq]
  exact k _ s.heap [] (LH.entry h1 hn).more hW va_S.rf
section ROWS
variable {F : Fx} {cc : ByteArray} {own : String} {pc pc' tgt : Nat} {lv : List (Option Value)} {st : List Value} {S : Sto} {cs ss : Nat} {dF cF sF : Nat} {mi : MI} {mc ms : Nat} {Post : Option Value → Sto → Prop}
theorem ws_iret (C : Cx F cc own dF cF sF) (R : RT F mi mc ms Post) (d : At cc pc .ireturn 1 pc') (hr : mi.2.2.2.1 = some .int) {v : Int32} (hc : cs ≤ mc) (hs : ss ≤ ms) (h : Post (some (.int v)) S) : WS F pc lv [.int v] S cs ss := by
  intro ls H locs hl hw hS
  refine W.widen hc hs ?_
  rw [R.1]
  exact W.iret C.x C.b (R.2.1.trans hr) (fun t ht hW => ⟨⟨_, S, rfl, h, by rw [ht]; exact hw⟩, hS.F ht⟩) hS.2.2 d.1 R.2.2.1
theorem ws_zret (C : Cx F cc own dF cF sF) (R : RT F mi mc ms Post) (d : At cc pc .ireturn 1 pc') (hr : mi.2.2.2.1 = some .boolean) {v : Int32} (hv : v = 0 ∨ v = 1) (hc : cs ≤ mc) (hs : ss ≤ ms) (h : Post (some (.int v)) S) : WS F pc lv [.int v] S cs ss := by
  intro ls H locs hl hw hS
  refine W.widen hc hs ?_
  rw [R.1]
  exact W.zret C.x C.b (R.2.1.trans hr) (by rcases hv with rfl | rfl <;> rfl) (fun t ht hW => ⟨⟨_, S, rfl, h, by rw [ht]; exact hw⟩, hS.F ht⟩) hS.2.2 d.1 R.2.2.1
theorem ws_vret (C : Cx F cc own dF cF sF) (R : RT F mi mc ms Post) (d : At cc pc .return_ 1 pc') (hr : mi.2.2.2.1 = none) (hc : cs ≤ mc) (hs : ss ≤ ms) (h : Post none S) : WS F pc lv [] S cs ss := by
  intro ls H locs hl hw hS
  refine W.widen hc hs ?_
  rw [R.1]
  exact W.vret C.x C.b (R.2.1.trans hr) (fun t ht hW => ⟨⟨_, S, rfl, h, by rw [ht]; exact hw⟩, hS.F ht⟩) hS.2.2 d.1 R.2.2.1
theorem ws_aret (C : Cx F cc own dF cF sF) (R : RT F mi mc ms Post) (d : At cc pc .areturn 1 pc') {rt : FieldType} (hr : mi.2.2.2.1 = some rt) (hrt : (∃ n, rt = .object n) ∨ ∃ t, rt = .array t) {v : Value} (hv : v = .null ∨ ∃ a, v = .ref a) (hc : cs ≤ mc) (hs : ss ≤ ms) (h : Post (some v) S) : WS F pc lv [v] S cs ss := by
  intro ls H locs hl hw hS
  refine W.widen hc hs ?_
  rw [R.1]
  exact W.aret C.x C.b (R.2.1.trans hr) hrt hv (fun t ht hW => ⟨⟨_, S, rfl, h, by rw [ht]; exact hw⟩, hS.F ht⟩) hS.2.2 d.1 R.2.2.1
/-- words of a call -/
def cOK (mi : MI) (n : Nat) : Prop := Cond.code mi.1 mi.2.1 mi.2.2.1 mi.2.2.2.1 ∈ TB ∧ Cond.initialized mi.1.cls ∈ TB ∧ mi.1.cls ≠ "java/lang/invoke/MethodHandle" ∧ mi.1.cls ≠ "java/lang/invoke/VarHandle" ∧ (parseMethodDescriptor mi.1.desc).map (fun d => d.parameters.length) = some n ∧ mi.2.2.1 ≤ 20
def cV (own : String) (idx kd : Nat) (mi : MI) (n : Nat) : Prop := cOK mi n ∧ Cond.methodLink own idx mi.1 ∈ TB ∧ Cond.instanceMethod mi.1 ∈ TB ∧ Cond.selects (cnm kd) mi.1 mi.1 ∈ TB ∧ 0 < kd ∧ kd ≤ 8
def cS (own : String) (idx : Nat) (mi : MI) (n : Nat) : Prop := cOK mi n ∧ Cond.methodLink own idx mi.1 ∈ TB ∧ Cond.static mi.1 ∈ TB
def cI (own : String) (idx : Nat) (mi : MI) (n : Nat) : Prop := cOK mi n ∧ Cond.methodLink own idx mi.1 ∈ TB ∧ Cond.instanceMethod mi.1 ∈ TB ∧ mi.1.name = "<init>" ∧ mi.2.2.2.1 = none
theorem cB (C : Cx F cc own dF cF sF) {idx n : Nat} (h : cOK mi n) (hl : Cond.methodLink own idx mi.1 ∈ TB) (hd : mi.2.2.2.2 < dF) : CallB (xR F) (xs F) (xa F) own idx mi.1 mi.2.1 mi.2.2.1 mi.2.2.2.1 (Cond.code mi.1 mi.2.1 mi.2.2.1 mi.2.2.2.1 :: TB) (rmD mi.2.2.2.2 mc ms) mc ms n := by
  obtain ⟨h1, h2, h3, h4, h5, h6⟩ := h
  refine callB_of n C.2.2.2.2.2.1 (tb_good (fun _ h => h) h1) rfl rfl rfl (C.t h2) (C.t hl) ⟨h3, h4, h5⟩ ⟨?_, ?_⟩
  · show mi.2.2.2.2 + 1 ≤ _
    have := C.1.1
    omega
  · show 8 + (mi.2.2.1 + 11) + 39 * mi.2.2.2.2 ≤ _
    have := C.1.2.1
    omega
theorem kk_pre (C : Cx F cc own dF cF sF) {H : Heap} {locs : List Loc} (hw : Wd (xD F) (xY F) (xA F) S H) (hS : va_S (xA F) (xs F).heap H locs) (av : List Value) : PreS (xs F) H (va_Pc av (fun U => Wd (vD F.1) (vY F.1) (vA F.1) S U.heap ∧ KK (vD F.1) (vY F.1) (vA F.1) (vZ F.1) U U.heap)) av := by
  refine ⟨fun a U g mk q => ?_, fun U hU hW => ?_⟩
  · obtain ⟨q0, q1, q2, q3, q4, q5⟩ := q
    exact ⟨q0, q1, va_K.moved (u := U) (U := U.calling g mk a) (Vm.Alike.refl U.vm) q2, ⟨va_Z.moved (u := U) (U := U.calling g mk a) (Vm.Alike.refl U.vm) q3.1, va_T.moved (u := U) (U := U.calling g mk a) (Vm.Alike.refl U.vm) q3.2⟩, q4, EX.same (s := U) (U := U.calling g mk a) rfl q5⟩
  · have hsz : ∀ a : Nat, a < (xs F).heap.size → ¬ xA F a → H[a]? = (xs F).heap[a]? := fun a h1 h2 => hS.2.1 a h1 h2
    refine ⟨rfl, by rw [hU]; exact hw, va_K.moved hW.alike C.k, ⟨?_, ?_⟩, fun q hq => C.A q (Nat.le_trans hS.1 (by rw [hU] at hq; exact hq)), C.E.warm hW⟩
    · rw [hU]; exact (C.z.1.kept hsz).moved hW.alike
    · rw [hU]; exact (C.z.2.kept hsz).moved hW.alike
theorem ws_back (C : Cx F cc own dF cF sF) {H : Heap} {locs : List Loc} {ls : Array Slot} {st0 rest : List Value} {av : Array Value} (hl : LH ls (xn F) lv) (hS : va_S (xA F) (xs F).heap H locs)
    (hr : va_Run (xp F) (xl F) (xe F) (xR F) (xs F) (xm F) (xa F) (xb F) (xt F) (xc F) H locs cs ss mc ms (F0 (xm F) pc ls st0) rest (QcT Post F.1 av) (vA F.1))
    (k : ∀ (v : Option Value) (S' : Sto), Post v S' → WS F (pc + 3) lv (v.toList ++ rest) S' (cs + mc) (ss + ms)) : W (xp F) (xl F) (xe F) (xR F) (xs F) (xm F) (xa F) (xb F) (xt F) (xc F) H locs cs ss (xQ F) (F0 (xm F) pc ls st0) := by
  intro T hT X
  obtain ⟨v, st₀, t, T', L, h0, X', hL, e1, e2, ⟨⟨v', S', hv, hp, hw'⟩, hz, hk⟩, st⟩ := hr T hT X
  cases hv
  rw [h0] at hz hk
  obtain ⟨t2, a1, b1⟩ := k v S' hp ls T'.heap (locs ++ L) hl (by rw [e1]; exact hw')
    ⟨Nat.le_trans hS.1 (by rw [e1]; exact hz), fun q h1 h2 => by rw [e1, hk q (Nat.lt_of_lt_of_le h1 hS.1) h2]; exact hS.2.1 q h1 h2, fun q hq => by
      rcases List.mem_append.mp hq with h | h
      · exact hS.2.2 q h
      · exact hL q h⟩ T' rfl X'
  exact ⟨t2, st t2 a1, b1⟩
theorem ws_callV (C : Cx F cc own dF cF sF) {idx kd n b : Nat} {As rest : List Value} (hw0 : cV own idx kd mi n) (hM : CT F.1 mi mc ms (.ref b :: As) S Post) (d : At cc pc (.invokevirtual idx) 3 pc') (hst : st = As.reverse ++ .ref b :: rest) (hn : As.length = n) (hb : sK S b = kd) (hroom : (rest.map fun v => v.category).sum ≤ 8) (hd : mi.2.2.2.2 < dF) (hc : cs + mc ≤ cF) (hs : ss + ms ≤ sF)
    (k : ∀ (v : Option Value) (S' : Sto), Post v S' → WS F pc' lv (v.toList ++ rest) S' (cs + mc) (ss + ms)) : WS F pc lv st S cs ss := by
  obtain ⟨d, rfl⟩ := d
  obtain ⟨w1, w2, w3, w4, w5, w6⟩ := hw0
  intro ls H locs hl hw hS
  obtain ⟨q, hq⟩ := wl_get hw (cel_o hb w5 w6)
  have hpre := kk_pre C hw hS (.ref b :: As)
  refine ws_back C hl hS (va_runV ⟨C.x, C.b, C.ml, C.o, C.2.2.2.2.2.1⟩ hM ⟨cB C w1 w2 hd, C.t w3, C.t w4⟩ ⟨hpre.1, va_recv C.k (wl_P hw) (vCl_at w5 w6) hq, hpre.2⟩ rfl hn hl.1 hst (lv_room hroom) d ⟨by rw [C.1.2.2.1]; exact hc, by rw [C.1.2.2.2]; exact hs⟩) k
theorem ws_callS (C : Cx F cc own dF cF sF) {idx n : Nat} {As rest : List Value} (hw0 : cS own idx mi n) (hM : CT F.1 mi mc ms As S Post) (d : At cc pc (.invokestatic idx) 3 pc') (hst : st = As.reverse ++ rest) (hn : As.length = n) (hroom : (rest.map fun v => v.category).sum ≤ 8) (hd : mi.2.2.2.2 < dF) (hc : cs + mc ≤ cF) (hs : ss + ms ≤ sF)
    (k : ∀ (v : Option Value) (S' : Sto), Post v S' → WS F pc' lv (v.toList ++ rest) S' (cs + mc) (ss + ms)) : WS F pc lv st S cs ss := by
  obtain ⟨d, rfl⟩ := d
  obtain ⟨w1, w2, w3⟩ := hw0
  intro ls H locs hl hw hS
  exact ws_back C hl hS (va_runS ⟨C.x, C.b, C.ml, C.o, C.2.2.2.2.2.1⟩ hM ⟨cB C w1 w2 hd, C.t w3⟩ (kk_pre C hw hS As) rfl hn hl.1 hst (lv_room hroom) d ⟨by rw [C.1.2.2.1]; exact hc, by rw [C.1.2.2.2]; exact hs⟩) k
theorem ws_callI (C : Cx F cc own dF cF sF) {idx n b : Nat} {As rest : List Value} (hw0 : cI own idx mi n) (hM : CT F.1 mi mc ms (.ref b :: As) S Post) (d : At cc pc (.invokespecial idx) 3 pc') (hst : st = As.reverse ++ .ref b :: rest) (hn : As.length = n) (hroom : (rest.map fun v => v.category).sum ≤ 8) (hd : mi.2.2.2.2 < dF) (hc : cs + mc ≤ cF) (hs : ss + ms ≤ sF)
    (k : ∀ (v : Option Value) (S' : Sto), Post v S' → WS F pc' lv (v.toList ++ rest) S' (cs + mc) (ss + ms)) : WS F pc lv st S cs ss := by
  obtain ⟨d, rfl⟩ := d
  obtain ⟨w1, w2, w3, w4, w5⟩ := hw0
  intro ls H locs hl hw hS
  have hcb := cB (mc := mc) (ms := ms) C w1 w2 hd
  rw [w5] at hcb
  have hM' : Met (vL F.1) mi.1 (Cond.code mi.1 mi.2.1 mi.2.2.1 none :: TB) (rmD mi.2.2.2.2 mc ms) (va_Pc (.ref b :: As) (fun U => Wd (vD F.1) (vY F.1) (vA F.1) S U.heap ∧ KK (vD F.1) (vY F.1) (vA F.1) (vZ F.1) U U.heap)) (QcT Post F.1) mc ms (vA F.1) := by
    unfold CT at hM
    rw [w5] at hM
    exact hM
  exact ws_back C hl hS (va_runI ⟨C.x, C.b, C.ml, C.o, C.2.2.2.2.2.1⟩ hM' ⟨hcb, w4, C.t w3⟩ (kk_pre C hw hS (.ref b :: As)) rfl hn hl.1 hst (lv_room hroom) d ⟨by rw [C.1.2.2.1]; exact hc, by rw [C.1.2.2.2]; exact hs⟩) k
theorem ws_objInit (C : Cx F cc own dF cF sF) {idx a : Nat} (hl0 : Cond.methodLink own idx objectInit ∈ TB) (h1 : Cond.instanceMethod objectInit ∈ TB) (h2 : Cond.code objectInit ⟨#[0xb1]⟩ 1 none ∈ TB) (d : At cc pc (.invokespecial idx) 3 pc') (hroom : (st.map fun v => v.category).sum ≤ 8) (hd : 0 < dF) (k : WS F pc' lv st S cs ss) : WS F pc lv (.ref a :: st) S cs ss := by
  obtain ⟨d, rfl⟩ := d
  intro ls H locs hl hw hS
  have hlr := lv_room (m := xm F) (pc := pc) (ls := ls) (rest := .ref a :: st) hroom
  refine W.objInit C.x C.b C.o (C.t hl0) (C.t h1) (C.t h2) rfl (by rw [C.ml]; exact hl.1) (a := a) (rest := st) rfl d ?_ ?_ (k ls H locs hl hw hS)
  · have := C.1.1; omega
  · have := C.1.2.1; omega
end ROWS
end
