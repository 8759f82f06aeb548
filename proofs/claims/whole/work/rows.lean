section
-- ===== PART A: goes FIRST, ahead of the names: the tables' words, and 'selects' of the private methods out of them =====
/-- a private method of a class that the tables say can be made, by its rows of tables_1 -/
def lw_okq (q : MethodName × Nat) : Prop := (q.1.cls ≠ "java/lang/invoke/MethodHandle" ∧ q.1.cls ≠ "java/lang/invoke/VarHandle") ∧ Cond.instantiable q.1.cls q.2 ∈ tables_1 ∧ Cond.privateMethod q.1 ∈ tables_1 ∧ Cond.instanceMethod q.1 ∈ tables_1
theorem lw_p0 : lw_okq (⟨"LinkTimes", "putBytes", "(I)V"⟩, 15) := ⟨⟨by decide +kernel, by decide +kernel⟩, List.mem_of_getElem? (i := 22) (by decide +kernel), List.mem_of_getElem? (i := 447) (by decide +kernel), List.mem_of_getElem? (i := 448) (by decide +kernel)⟩
theorem lw_p1 : lw_okq (⟨"LinkTimes", "refuse", "(I)I"⟩, 15) := ⟨⟨by decide +kernel, by decide +kernel⟩, List.mem_of_getElem? (i := 22) (by decide +kernel), List.mem_of_getElem? (i := 455) (by decide +kernel), List.mem_of_getElem? (i := 456) (by decide +kernel)⟩
theorem lw_p2 : lw_okq (⟨"LinkTimes$Reader", "readLine", "()Z"⟩, 14) := ⟨⟨by decide +kernel, by decide +kernel⟩, List.mem_of_getElem? (i := 128) (by decide +kernel), List.mem_of_getElem? (i := 470) (by decide +kernel), List.mem_of_getElem? (i := 471) (by decide +kernel)⟩
theorem lw_p3 : lw_okq (⟨"LinkTimes$Reader", "advance", "()V"⟩, 14) := ⟨⟨by decide +kernel, by decide +kernel⟩, List.mem_of_getElem? (i := 128) (by decide +kernel), List.mem_of_getElem? (i := 474) (by decide +kernel), List.mem_of_getElem? (i := 475) (by decide +kernel)⟩
theorem lw_p4 : lw_okq (⟨"LinkTimes$Reader", "takeWord", "()V"⟩, 14) := ⟨⟨by decide +kernel, by decide +kernel⟩, List.mem_of_getElem? (i := 128) (by decide +kernel), List.mem_of_getElem? (i := 481) (by decide +kernel), List.mem_of_getElem? (i := 482) (by decide +kernel)⟩
theorem lw_p5 : lw_okq (⟨"LinkTimes$Reader", "takeWhole", "()V"⟩, 14) := ⟨⟨by decide +kernel, by decide +kernel⟩, List.mem_of_getElem? (i := 128) (by decide +kernel), List.mem_of_getElem? (i := 488) (by decide +kernel), List.mem_of_getElem? (i := 489) (by decide +kernel)⟩
theorem lw_p6 : lw_okq (⟨"LinkTimes$Reader", "isWord", "(Ljava/lang/String;)Z"⟩, 14) := ⟨⟨by decide +kernel, by decide +kernel⟩, List.mem_of_getElem? (i := 128) (by decide +kernel), List.mem_of_getElem? (i := 493) (by decide +kernel), List.mem_of_getElem? (i := 494) (by decide +kernel)⟩
theorem lw_p7 : lw_okq (⟨"LinkTimes$Reader", "fail", "(I)Z"⟩, 14) := ⟨⟨by decide +kernel, by decide +kernel⟩, List.mem_of_getElem? (i := 128) (by decide +kernel), List.mem_of_getElem? (i := 545) (by decide +kernel), List.mem_of_getElem? (i := 546) (by decide +kernel)⟩
theorem lw_p8 : lw_okq (⟨"LinkTimes$Reader", "readSpan", "()Z"⟩, 14) := ⟨⟨by decide +kernel, by decide +kernel⟩, List.mem_of_getElem? (i := 128) (by decide +kernel), List.mem_of_getElem? (i := 549) (by decide +kernel), List.mem_of_getElem? (i := 550) (by decide +kernel)⟩
theorem lw_p9 : lw_okq (⟨"LinkTimes$Reader", "expectWord", "(Ljava/lang/String;)Z"⟩, 14) := ⟨⟨by decide +kernel, by decide +kernel⟩, List.mem_of_getElem? (i := 128) (by decide +kernel), List.mem_of_getElem? (i := 554) (by decide +kernel), List.mem_of_getElem? (i := 555) (by decide +kernel)⟩
theorem lw_p10 : lw_okq (⟨"LinkTimes$Reader", "expectWhole", "(II)Z"⟩, 14) := ⟨⟨by decide +kernel, by decide +kernel⟩, List.mem_of_getElem? (i := 128) (by decide +kernel), List.mem_of_getElem? (i := 558) (by decide +kernel), List.mem_of_getElem? (i := 559) (by decide +kernel)⟩
theorem lw_p11 : lw_okq (⟨"LinkTimes$Reader", "hasRoom", "(II)Z"⟩, 14) := ⟨⟨by decide +kernel, by decide +kernel⟩, List.mem_of_getElem? (i := 128) (by decide +kernel), List.mem_of_getElem? (i := 563) (by decide +kernel), List.mem_of_getElem? (i := 564) (by decide +kernel)⟩
theorem lw_p12 : lw_okq (⟨"LinkTimes$Reader", "readSpot", "()Z"⟩, 14) := ⟨⟨by decide +kernel, by decide +kernel⟩, List.mem_of_getElem? (i := 128) (by decide +kernel), List.mem_of_getElem? (i := 567) (by decide +kernel), List.mem_of_getElem? (i := 568) (by decide +kernel)⟩
theorem lw_p13 : lw_okq (⟨"LinkTimes$Reader", "expectNewName", "()Z"⟩, 14) := ⟨⟨by decide +kernel, by decide +kernel⟩, List.mem_of_getElem? (i := 128) (by decide +kernel), List.mem_of_getElem? (i := 571) (by decide +kernel), List.mem_of_getElem? (i := 572) (by decide +kernel)⟩
theorem lw_p14 : lw_okq (⟨"LinkTimes$Reader", "isName", "()Z"⟩, 14) := ⟨⟨by decide +kernel, by decide +kernel⟩, List.mem_of_getElem? (i := 128) (by decide +kernel), List.mem_of_getElem? (i := 575) (by decide +kernel), List.mem_of_getElem? (i := 576) (by decide +kernel)⟩
theorem lw_p15 : lw_okq (⟨"LinkTimes$Reader", "find", "([II)I"⟩, 14) := ⟨⟨by decide +kernel, by decide +kernel⟩, List.mem_of_getElem? (i := 128) (by decide +kernel), List.mem_of_getElem? (i := 581) (by decide +kernel), List.mem_of_getElem? (i := 582) (by decide +kernel)⟩
def lw_privs_1 : List (MethodName × Nat) := [(⟨"LinkTimes", "putBytes", "(I)V"⟩, 15), (⟨"LinkTimes", "refuse", "(I)I"⟩, 15), (⟨"LinkTimes$Reader", "readLine", "()Z"⟩, 14), (⟨"LinkTimes$Reader", "advance", "()V"⟩, 14), (⟨"LinkTimes$Reader", "takeWord", "()V"⟩, 14), (⟨"LinkTimes$Reader", "takeWhole", "()V"⟩, 14), (⟨"LinkTimes$Reader", "isWord", "(Ljava/lang/String;)Z"⟩, 14), (⟨"LinkTimes$Reader", "fail", "(I)Z"⟩, 14), (⟨"LinkTimes$Reader", "readSpan", "()Z"⟩, 14), (⟨"LinkTimes$Reader", "expectWord", "(Ljava/lang/String;)Z"⟩, 14), (⟨"LinkTimes$Reader", "expectWhole", "(II)Z"⟩, 14), (⟨"LinkTimes$Reader", "hasRoom", "(II)Z"⟩, 14), (⟨"LinkTimes$Reader", "readSpot", "()Z"⟩, 14), (⟨"LinkTimes$Reader", "expectNewName", "()Z"⟩, 14), (⟨"LinkTimes$Reader", "isName", "()Z"⟩, 14), (⟨"LinkTimes$Reader", "find", "([II)I"⟩, 14)]
theorem lw_r1 : ∀ q ∈ lw_privs_1, lw_okq q := List.forall_mem_cons.mpr ⟨lw_p0, List.forall_mem_cons.mpr ⟨lw_p1, List.forall_mem_cons.mpr ⟨lw_p2, List.forall_mem_cons.mpr ⟨lw_p3, List.forall_mem_cons.mpr ⟨lw_p4, List.forall_mem_cons.mpr ⟨lw_p5, List.forall_mem_cons.mpr ⟨lw_p6, List.forall_mem_cons.mpr ⟨lw_p7, List.forall_mem_cons.mpr ⟨lw_p8, List.forall_mem_cons.mpr ⟨lw_p9, List.forall_mem_cons.mpr ⟨lw_p10, List.forall_mem_cons.mpr ⟨lw_p11, List.forall_mem_cons.mpr ⟨lw_p12, List.forall_mem_cons.mpr ⟨lw_p13, List.forall_mem_cons.mpr ⟨lw_p14, List.forall_mem_cons.mpr ⟨lw_p15, fun _ h => absurd h List.not_mem_nil⟩⟩⟩⟩⟩⟩⟩⟩⟩⟩⟩⟩⟩⟩⟩⟩
theorem lw_p16 : lw_okq (⟨"LinkTimes$Reader", "readName", "()Z"⟩, 14) := ⟨⟨by decide +kernel, by decide +kernel⟩, List.mem_of_getElem? (i := 128) (by decide +kernel), List.mem_of_getElem? (i := 591) (by decide +kernel), List.mem_of_getElem? (i := 592) (by decide +kernel)⟩
theorem lw_p17 : lw_okq (⟨"LinkTimes$Reader", "readEnds", "()Z"⟩, 14) := ⟨⟨by decide +kernel, by decide +kernel⟩, List.mem_of_getElem? (i := 128) (by decide +kernel), List.mem_of_getElem? (i := 595) (by decide +kernel), List.mem_of_getElem? (i := 596) (by decide +kernel)⟩
theorem lw_p18 : lw_okq (⟨"LinkTimes$Reader", "expectTold", "([II)I"⟩, 14) := ⟨⟨by decide +kernel, by decide +kernel⟩, List.mem_of_getElem? (i := 128) (by decide +kernel), List.mem_of_getElem? (i := 599) (by decide +kernel), List.mem_of_getElem? (i := 600) (by decide +kernel)⟩
theorem lw_p19 : lw_okq (⟨"LinkTimes$Reader", "readTimes", "()Z"⟩, 14) := ⟨⟨by decide +kernel, by decide +kernel⟩, List.mem_of_getElem? (i := 128) (by decide +kernel), List.mem_of_getElem? (i := 603) (by decide +kernel), List.mem_of_getElem? (i := 604) (by decide +kernel)⟩
theorem lw_p20 : lw_okq (⟨"LinkTimes", "answer", "(I)I"⟩, 15) := ⟨⟨by decide +kernel, by decide +kernel⟩, List.mem_of_getElem? (i := 22) (by decide +kernel), List.mem_of_getElem? (i := 626) (by decide +kernel), List.mem_of_getElem? (i := 627) (by decide +kernel)⟩
theorem lw_p21 : lw_okq (⟨"LinkTimes$Net", "take", "(LLinkTimes$Desk;Z)V"⟩, 10) := ⟨⟨by decide +kernel, by decide +kernel⟩, List.mem_of_getElem? (i := 199) (by decide +kernel), List.mem_of_getElem? (i := 679) (by decide +kernel), List.mem_of_getElem? (i := 680) (by decide +kernel)⟩
theorem lw_p22 : lw_okq (⟨"LinkTimes$Net", "keepOrder", "(I)V"⟩, 10) := ⟨⟨by decide +kernel, by decide +kernel⟩, List.mem_of_getElem? (i := 199) (by decide +kernel), List.mem_of_getElem? (i := 683) (by decide +kernel), List.mem_of_getElem? (i := 684) (by decide +kernel)⟩
theorem lw_p23 : lw_okq (⟨"LinkTimes$Net", "sort", "()V"⟩, 10) := ⟨⟨by decide +kernel, by decide +kernel⟩, List.mem_of_getElem? (i := 199) (by decide +kernel), List.mem_of_getElem? (i := 687) (by decide +kernel), List.mem_of_getElem? (i := 688) (by decide +kernel)⟩
theorem lw_p24 : lw_okq (⟨"LinkTimes$Net", "isBehind", "(II)Z"⟩, 10) := ⟨⟨by decide +kernel, by decide +kernel⟩, List.mem_of_getElem? (i := 199) (by decide +kernel), List.mem_of_getElem? (i := 691) (by decide +kernel), List.mem_of_getElem? (i := 692) (by decide +kernel)⟩
theorem lw_p25 : lw_okq (⟨"LinkTimes$Net", "group", "()V"⟩, 10) := ⟨⟨by decide +kernel, by decide +kernel⟩, List.mem_of_getElem? (i := 199) (by decide +kernel), List.mem_of_getElem? (i := 695) (by decide +kernel), List.mem_of_getElem? (i := 696) (by decide +kernel)⟩
theorem lw_p26 : lw_okq (⟨"LinkTimes", "seekBest", "(III)I"⟩, 15) := ⟨⟨by decide +kernel, by decide +kernel⟩, List.mem_of_getElem? (i := 22) (by decide +kernel), List.mem_of_getElem? (i := 703) (by decide +kernel), List.mem_of_getElem? (i := 704) (by decide +kernel)⟩
theorem lw_p27 : lw_okq (⟨"LinkTimes", "lookAtPair", "(IIZ)I"⟩, 15) := ⟨⟨by decide +kernel, by decide +kernel⟩, List.mem_of_getElem? (i := 22) (by decide +kernel), List.mem_of_getElem? (i := 710) (by decide +kernel), List.mem_of_getElem? (i := 711) (by decide +kernel)⟩
theorem lw_p28 : lw_okq (⟨"LinkTimes", "isRefused", "(I)Z"⟩, 15) := ⟨⟨by decide +kernel, by decide +kernel⟩, List.mem_of_getElem? (i := 22) (by decide +kernel), List.mem_of_getElem? (i := 714) (by decide +kernel), List.mem_of_getElem? (i := 715) (by decide +kernel)⟩
theorem lw_p29 : lw_okq (⟨"LinkTimes$Search", "aimFrom", "(LLinkTimes$Net;II)V"⟩, 6) := ⟨⟨by decide +kernel, by decide +kernel⟩, List.mem_of_getElem? (i := 268) (by decide +kernel), List.mem_of_getElem? (i := 731) (by decide +kernel), List.mem_of_getElem? (i := 732) (by decide +kernel)⟩
theorem lw_p30 : lw_okq (⟨"LinkTimes$Search", "offer", "(III)V"⟩, 6) := ⟨⟨by decide +kernel, by decide +kernel⟩, List.mem_of_getElem? (i := 268) (by decide +kernel), List.mem_of_getElem? (i := 744) (by decide +kernel), List.mem_of_getElem? (i := 745) (by decide +kernel)⟩
theorem lw_p31 : lw_okq (⟨"LinkTimes$Search", "isBetter", "(III)Z"⟩, 6) := ⟨⟨by decide +kernel, by decide +kernel⟩, List.mem_of_getElem? (i := 268) (by decide +kernel), List.mem_of_getElem? (i := 748) (by decide +kernel), List.mem_of_getElem? (i := 749) (by decide +kernel)⟩
def lw_privs_2 : List (MethodName × Nat) := [(⟨"LinkTimes$Reader", "readName", "()Z"⟩, 14), (⟨"LinkTimes$Reader", "readEnds", "()Z"⟩, 14), (⟨"LinkTimes$Reader", "expectTold", "([II)I"⟩, 14), (⟨"LinkTimes$Reader", "readTimes", "()Z"⟩, 14), (⟨"LinkTimes", "answer", "(I)I"⟩, 15), (⟨"LinkTimes$Net", "take", "(LLinkTimes$Desk;Z)V"⟩, 10), (⟨"LinkTimes$Net", "keepOrder", "(I)V"⟩, 10), (⟨"LinkTimes$Net", "sort", "()V"⟩, 10), (⟨"LinkTimes$Net", "isBehind", "(II)Z"⟩, 10), (⟨"LinkTimes$Net", "group", "()V"⟩, 10), (⟨"LinkTimes", "seekBest", "(III)I"⟩, 15), (⟨"LinkTimes", "lookAtPair", "(IIZ)I"⟩, 15), (⟨"LinkTimes", "isRefused", "(I)Z"⟩, 15), (⟨"LinkTimes$Search", "aimFrom", "(LLinkTimes$Net;II)V"⟩, 6), (⟨"LinkTimes$Search", "offer", "(III)V"⟩, 6), (⟨"LinkTimes$Search", "isBetter", "(III)Z"⟩, 6)]
theorem lw_r2 : ∀ q ∈ lw_privs_2, lw_okq q := List.forall_mem_cons.mpr ⟨lw_p16, List.forall_mem_cons.mpr ⟨lw_p17, List.forall_mem_cons.mpr ⟨lw_p18, List.forall_mem_cons.mpr ⟨lw_p19, List.forall_mem_cons.mpr ⟨lw_p20, List.forall_mem_cons.mpr ⟨lw_p21, List.forall_mem_cons.mpr ⟨lw_p22, List.forall_mem_cons.mpr ⟨lw_p23, List.forall_mem_cons.mpr ⟨lw_p24, List.forall_mem_cons.mpr ⟨lw_p25, List.forall_mem_cons.mpr ⟨lw_p26, List.forall_mem_cons.mpr ⟨lw_p27, List.forall_mem_cons.mpr ⟨lw_p28, List.forall_mem_cons.mpr ⟨lw_p29, List.forall_mem_cons.mpr ⟨lw_p30, List.forall_mem_cons.mpr ⟨lw_p31, fun _ h => absurd h List.not_mem_nil⟩⟩⟩⟩⟩⟩⟩⟩⟩⟩⟩⟩⟩⟩⟩⟩
theorem lw_p32 : lw_okq (⟨"LinkTimes$Search", "trace", "(LLinkTimes$Net;II)Z"⟩, 6) := ⟨⟨by decide +kernel, by decide +kernel⟩, List.mem_of_getElem? (i := 268) (by decide +kernel), List.mem_of_getElem? (i := 752) (by decide +kernel), List.mem_of_getElem? (i := 753) (by decide +kernel)⟩
theorem lw_p33 : lw_okq (⟨"LinkTimes$Search", "pickFirst", "(LLinkTimes$Net;II)I"⟩, 6) := ⟨⟨by decide +kernel, by decide +kernel⟩, List.mem_of_getElem? (i := 268) (by decide +kernel), List.mem_of_getElem? (i := 756) (by decide +kernel), List.mem_of_getElem? (i := 757) (by decide +kernel)⟩
theorem lw_p34 : lw_okq (⟨"LinkTimes$Search", "isBetterFirst", "(LLinkTimes$Net;II)Z"⟩, 6) := ⟨⟨by decide +kernel, by decide +kernel⟩, List.mem_of_getElem? (i := 268) (by decide +kernel), List.mem_of_getElem? (i := 760) (by decide +kernel), List.mem_of_getElem? (i := 761) (by decide +kernel)⟩
theorem lw_p35 : lw_okq (⟨"LinkTimes", "seekTrades", "(IIII)I"⟩, 15) := ⟨⟨by decide +kernel, by decide +kernel⟩, List.mem_of_getElem? (i := 22) (by decide +kernel), List.mem_of_getElem? (i := 792) (by decide +kernel), List.mem_of_getElem? (i := 793) (by decide +kernel)⟩
theorem lw_p36 : lw_okq (⟨"LinkTimes$Bargains", "add", "(III)V"⟩, 6) := ⟨⟨by decide +kernel, by decide +kernel⟩, List.mem_of_getElem? (i := 368) (by decide +kernel), List.mem_of_getElem? (i := 800) (by decide +kernel), List.mem_of_getElem? (i := 801) (by decide +kernel)⟩
theorem lw_p37 : lw_okq (⟨"LinkTimes$Bargains", "allowOneMore", "(LLinkTimes$Net;I)Z"⟩, 6) := ⟨⟨by decide +kernel, by decide +kernel⟩, List.mem_of_getElem? (i := 368) (by decide +kernel), List.mem_of_getElem? (i := 805) (by decide +kernel), List.mem_of_getElem? (i := 806) (by decide +kernel)⟩
theorem lw_p38 : lw_okq (⟨"LinkTimes$Bargains", "soonestWith", "(LLinkTimes$Net;II)I"⟩, 6) := ⟨⟨by decide +kernel, by decide +kernel⟩, List.mem_of_getElem? (i := 368) (by decide +kernel), List.mem_of_getElem? (i := 809) (by decide +kernel), List.mem_of_getElem? (i := 810) (by decide +kernel)⟩
theorem lw_p39 : lw_okq (⟨"LinkTimes$Bargains", "soonestFrom", "(LLinkTimes$Net;II)I"⟩, 6) := ⟨⟨by decide +kernel, by decide +kernel⟩, List.mem_of_getElem? (i := 368) (by decide +kernel), List.mem_of_getElem? (i := 816) (by decide +kernel), List.mem_of_getElem? (i := 817) (by decide +kernel)⟩
theorem lw_p40 : lw_okq (⟨"LinkTimes$Bargains", "latestStart", "(LLinkTimes$Net;III)I"⟩, 6) := ⟨⟨by decide +kernel, by decide +kernel⟩, List.mem_of_getElem? (i := 368) (by decide +kernel), List.mem_of_getElem? (i := 820) (by decide +kernel), List.mem_of_getElem? (i := 821) (by decide +kernel)⟩
theorem lw_p41 : lw_okq (⟨"LinkTimes", "collectSteps", "(II)V"⟩, 15) := ⟨⟨by decide +kernel, by decide +kernel⟩, List.mem_of_getElem? (i := 22) (by decide +kernel), List.mem_of_getElem? (i := 837) (by decide +kernel), List.mem_of_getElem? (i := 838) (by decide +kernel)⟩
theorem lw_p42 : lw_okq (⟨"LinkTimes$Steps", "consider", "(III)V"⟩, 4) := ⟨⟨by decide +kernel, by decide +kernel⟩, List.mem_of_getElem? (i := 345) (by decide +kernel), List.mem_of_getElem? (i := 847) (by decide +kernel), List.mem_of_getElem? (i := 848) (by decide +kernel)⟩
theorem lw_p43 : lw_okq (⟨"LinkTimes$Flood", "rideOn", "(LLinkTimes$Net;I)V"⟩, 2) := ⟨⟨by decide +kernel, by decide +kernel⟩, List.mem_of_getElem? (i := 331) (by decide +kernel), List.mem_of_getElem? (i := 865) (by decide +kernel), List.mem_of_getElem? (i := 866) (by decide +kernel)⟩
theorem lw_p44 : lw_okq (⟨"LinkTimes", "soonestAt", "(III)I"⟩, 15) := ⟨⟨by decide +kernel, by decide +kernel⟩, List.mem_of_getElem? (i := 22) (by decide +kernel), List.mem_of_getElem? (i := 885) (by decide +kernel), List.mem_of_getElem? (i := 886) (by decide +kernel)⟩
theorem lw_p45 : lw_okq (⟨"LinkTimes", "hasUnlikeSpots", "(II)Z"⟩, 15) := ⟨⟨by decide +kernel, by decide +kernel⟩, List.mem_of_getElem? (i := 22) (by decide +kernel), List.mem_of_getElem? (i := 893) (by decide +kernel), List.mem_of_getElem? (i := 894) (by decide +kernel)⟩
theorem lw_p46 : lw_okq (⟨"LinkTimes", "lookAtUnlike", "(III)I"⟩, 15) := ⟨⟨by decide +kernel, by decide +kernel⟩, List.mem_of_getElem? (i := 22) (by decide +kernel), List.mem_of_getElem? (i := 921) (by decide +kernel), List.mem_of_getElem? (i := 922) (by decide +kernel)⟩
theorem lw_p47 : lw_okq (⟨"LinkTimes", "lookAtDesk", "(I)I"⟩, 15) := ⟨⟨by decide +kernel, by decide +kernel⟩, List.mem_of_getElem? (i := 22) (by decide +kernel), List.mem_of_getElem? (i := 937) (by decide +kernel), List.mem_of_getElem? (i := 938) (by decide +kernel)⟩
def lw_privs_3 : List (MethodName × Nat) := [(⟨"LinkTimes$Search", "trace", "(LLinkTimes$Net;II)Z"⟩, 6), (⟨"LinkTimes$Search", "pickFirst", "(LLinkTimes$Net;II)I"⟩, 6), (⟨"LinkTimes$Search", "isBetterFirst", "(LLinkTimes$Net;II)Z"⟩, 6), (⟨"LinkTimes", "seekTrades", "(IIII)I"⟩, 15), (⟨"LinkTimes$Bargains", "add", "(III)V"⟩, 6), (⟨"LinkTimes$Bargains", "allowOneMore", "(LLinkTimes$Net;I)Z"⟩, 6), (⟨"LinkTimes$Bargains", "soonestWith", "(LLinkTimes$Net;II)I"⟩, 6), (⟨"LinkTimes$Bargains", "soonestFrom", "(LLinkTimes$Net;II)I"⟩, 6), (⟨"LinkTimes$Bargains", "latestStart", "(LLinkTimes$Net;III)I"⟩, 6), (⟨"LinkTimes", "collectSteps", "(II)V"⟩, 15), (⟨"LinkTimes$Steps", "consider", "(III)V"⟩, 4), (⟨"LinkTimes$Flood", "rideOn", "(LLinkTimes$Net;I)V"⟩, 2), (⟨"LinkTimes", "soonestAt", "(III)I"⟩, 15), (⟨"LinkTimes", "hasUnlikeSpots", "(II)Z"⟩, 15), (⟨"LinkTimes", "lookAtUnlike", "(III)I"⟩, 15), (⟨"LinkTimes", "lookAtDesk", "(I)I"⟩, 15)]
theorem lw_r3 : ∀ q ∈ lw_privs_3, lw_okq q := List.forall_mem_cons.mpr ⟨lw_p32, List.forall_mem_cons.mpr ⟨lw_p33, List.forall_mem_cons.mpr ⟨lw_p34, List.forall_mem_cons.mpr ⟨lw_p35, List.forall_mem_cons.mpr ⟨lw_p36, List.forall_mem_cons.mpr ⟨lw_p37, List.forall_mem_cons.mpr ⟨lw_p38, List.forall_mem_cons.mpr ⟨lw_p39, List.forall_mem_cons.mpr ⟨lw_p40, List.forall_mem_cons.mpr ⟨lw_p41, List.forall_mem_cons.mpr ⟨lw_p42, List.forall_mem_cons.mpr ⟨lw_p43, List.forall_mem_cons.mpr ⟨lw_p44, List.forall_mem_cons.mpr ⟨lw_p45, List.forall_mem_cons.mpr ⟨lw_p46, List.forall_mem_cons.mpr ⟨lw_p47, fun _ h => absurd h List.not_mem_nil⟩⟩⟩⟩⟩⟩⟩⟩⟩⟩⟩⟩⟩⟩⟩⟩
theorem lw_p48 : lw_okq (⟨"LinkTimes$Search", "addTurns", "(LLinkTimes$Net;)V"⟩, 6) := ⟨⟨by decide +kernel, by decide +kernel⟩, List.mem_of_getElem? (i := 268) (by decide +kernel), List.mem_of_getElem? (i := 949) (by decide +kernel), List.mem_of_getElem? (i := 950) (by decide +kernel)⟩
theorem lw_p49 : lw_okq (⟨"LinkTimes", "lookAtHanging", "(IIII)I"⟩, 15) := ⟨⟨by decide +kernel, by decide +kernel⟩, List.mem_of_getElem? (i := 22) (by decide +kernel), List.mem_of_getElem? (i := 961) (by decide +kernel), List.mem_of_getElem? (i := 962) (by decide +kernel)⟩
theorem lw_p50 : lw_okq (⟨"LinkTimes", "countReasons", "(III)I"⟩, 15) := ⟨⟨by decide +kernel, by decide +kernel⟩, List.mem_of_getElem? (i := 22) (by decide +kernel), List.mem_of_getElem? (i := 985) (by decide +kernel), List.mem_of_getElem? (i := 986) (by decide +kernel)⟩
theorem lw_p51 : lw_okq (⟨"LinkTimes", "setOff", "(IZ)I"⟩, 15) := ⟨⟨by decide +kernel, by decide +kernel⟩, List.mem_of_getElem? (i := 22) (by decide +kernel), List.mem_of_getElem? (i := 1001) (by decide +kernel), List.mem_of_getElem? (i := 1002) (by decide +kernel)⟩
theorem lw_p52 : lw_okq (⟨"LinkTimes$Log", "forgetOldest", "()V"⟩, 4) := ⟨⟨by decide +kernel, by decide +kernel⟩, List.mem_of_getElem? (i := 179) (by decide +kernel), List.mem_of_getElem? (i := 1009) (by decide +kernel), List.mem_of_getElem? (i := 1010) (by decide +kernel)⟩
theorem lw_p53 : lw_okq (⟨"java/lang/Throwable", "fillInStackTrace", "(I)Ljava/lang/Throwable;"⟩, 6) := ⟨⟨by decide +kernel, by decide +kernel⟩, List.mem_of_getElem? (i := 1102) (by decide +kernel), List.mem_of_getElem? (i := 1100) (by decide +kernel), List.mem_of_getElem? (i := 1101) (by decide +kernel)⟩
theorem lw_p54 : lw_okq (⟨"LinkTimesModel", "laysWord", "(I)V"⟩, 42) := ⟨⟨by decide +kernel, by decide +kernel⟩, List.mem_of_getElem? (i := 1127) (by decide +kernel), List.mem_of_getElem? (i := 1269) (by decide +kernel), List.mem_of_getElem? (i := 1270) (by decide +kernel)⟩
theorem lw_p55 : lw_okq (⟨"LinkTimesModel", "isRefused", "(I)Z"⟩, 42) := ⟨⟨by decide +kernel, by decide +kernel⟩, List.mem_of_getElem? (i := 1127) (by decide +kernel), List.mem_of_getElem? (i := 1280) (by decide +kernel), List.mem_of_getElem? (i := 1281) (by decide +kernel)⟩
theorem lw_p56 : lw_okq (⟨"LinkTimesModel", "readAll", "(I)Z"⟩, 42) := ⟨⟨by decide +kernel, by decide +kernel⟩, List.mem_of_getElem? (i := 1127) (by decide +kernel), List.mem_of_getElem? (i := 1284) (by decide +kernel), List.mem_of_getElem? (i := 1285) (by decide +kernel)⟩
theorem lw_p57 : lw_okq (⟨"LinkTimesModel", "goesOn", "()V"⟩, 42) := ⟨⟨by decide +kernel, by decide +kernel⟩, List.mem_of_getElem? (i := 1127) (by decide +kernel), List.mem_of_getElem? (i := 1288) (by decide +kernel), List.mem_of_getElem? (i := 1289) (by decide +kernel)⟩
theorem lw_p58 : lw_okq (⟨"LinkTimesModel", "see", "(I)I"⟩, 42) := ⟨⟨by decide +kernel, by decide +kernel⟩, List.mem_of_getElem? (i := 1127) (by decide +kernel), List.mem_of_getElem? (i := 1292) (by decide +kernel), List.mem_of_getElem? (i := 1293) (by decide +kernel)⟩
theorem lw_p59 : lw_okq (⟨"LinkTimesModel", "readLine", "()Z"⟩, 42) := ⟨⟨by decide +kernel, by decide +kernel⟩, List.mem_of_getElem? (i := 1127) (by decide +kernel), List.mem_of_getElem? (i := 1296) (by decide +kernel), List.mem_of_getElem? (i := 1297) (by decide +kernel)⟩
theorem lw_p60 : lw_okq (⟨"LinkTimesModel", "isWord", "(Ljava/lang/String;)Z"⟩, 42) := ⟨⟨by decide +kernel, by decide +kernel⟩, List.mem_of_getElem? (i := 1127) (by decide +kernel), List.mem_of_getElem? (i := 1301) (by decide +kernel), List.mem_of_getElem? (i := 1302) (by decide +kernel)⟩
theorem lw_p61 : lw_okq (⟨"LinkTimesModel", "readDesk", "()Z"⟩, 42) := ⟨⟨by decide +kernel, by decide +kernel⟩, List.mem_of_getElem? (i := 1127) (by decide +kernel), List.mem_of_getElem? (i := 1307) (by decide +kernel), List.mem_of_getElem? (i := 1308) (by decide +kernel)⟩
theorem lw_p62 : lw_okq (⟨"LinkTimesModel", "errs", "(I)Z"⟩, 42) := ⟨⟨by decide +kernel, by decide +kernel⟩, List.mem_of_getElem? (i := 1127) (by decide +kernel), List.mem_of_getElem? (i := 1311) (by decide +kernel), List.mem_of_getElem? (i := 1312) (by decide +kernel)⟩
theorem lw_p63 : lw_okq (⟨"LinkTimesModel", "after", "(Ljava/lang/String;III)Z"⟩, 42) := ⟨⟨by decide +kernel, by decide +kernel⟩, List.mem_of_getElem? (i := 1127) (by decide +kernel), List.mem_of_getElem? (i := 1316) (by decide +kernel), List.mem_of_getElem? (i := 1317) (by decide +kernel)⟩
def lw_privs_4 : List (MethodName × Nat) := [(⟨"LinkTimes$Search", "addTurns", "(LLinkTimes$Net;)V"⟩, 6), (⟨"LinkTimes", "lookAtHanging", "(IIII)I"⟩, 15), (⟨"LinkTimes", "countReasons", "(III)I"⟩, 15), (⟨"LinkTimes", "setOff", "(IZ)I"⟩, 15), (⟨"LinkTimes$Log", "forgetOldest", "()V"⟩, 4), (⟨"java/lang/Throwable", "fillInStackTrace", "(I)Ljava/lang/Throwable;"⟩, 6), (⟨"LinkTimesModel", "laysWord", "(I)V"⟩, 42), (⟨"LinkTimesModel", "isRefused", "(I)Z"⟩, 42), (⟨"LinkTimesModel", "readAll", "(I)Z"⟩, 42), (⟨"LinkTimesModel", "goesOn", "()V"⟩, 42), (⟨"LinkTimesModel", "see", "(I)I"⟩, 42), (⟨"LinkTimesModel", "readLine", "()Z"⟩, 42), (⟨"LinkTimesModel", "isWord", "(Ljava/lang/String;)Z"⟩, 42), (⟨"LinkTimesModel", "readDesk", "()Z"⟩, 42), (⟨"LinkTimesModel", "errs", "(I)Z"⟩, 42), (⟨"LinkTimesModel", "after", "(Ljava/lang/String;III)Z"⟩, 42)]
theorem lw_r4 : ∀ q ∈ lw_privs_4, lw_okq q := List.forall_mem_cons.mpr ⟨lw_p48, List.forall_mem_cons.mpr ⟨lw_p49, List.forall_mem_cons.mpr ⟨lw_p50, List.forall_mem_cons.mpr ⟨lw_p51, List.forall_mem_cons.mpr ⟨lw_p52, List.forall_mem_cons.mpr ⟨lw_p53, List.forall_mem_cons.mpr ⟨lw_p54, List.forall_mem_cons.mpr ⟨lw_p55, List.forall_mem_cons.mpr ⟨lw_p56, List.forall_mem_cons.mpr ⟨lw_p57, List.forall_mem_cons.mpr ⟨lw_p58, List.forall_mem_cons.mpr ⟨lw_p59, List.forall_mem_cons.mpr ⟨lw_p60, List.forall_mem_cons.mpr ⟨lw_p61, List.forall_mem_cons.mpr ⟨lw_p62, List.forall_mem_cons.mpr ⟨lw_p63, fun _ h => absurd h List.not_mem_nil⟩⟩⟩⟩⟩⟩⟩⟩⟩⟩⟩⟩⟩⟩⟩⟩
theorem lw_p64 : lw_okq (⟨"LinkTimesModel", "lays", "(III)Z"⟩, 42) := ⟨⟨by decide +kernel, by decide +kernel⟩, List.mem_of_getElem? (i := 1127) (by decide +kernel), List.mem_of_getElem? (i := 1320) (by decide +kernel), List.mem_of_getElem? (i := 1321) (by decide +kernel)⟩
theorem lw_p65 : lw_okq (⟨"LinkTimesModel", "readSpot", "()Z"⟩, 42) := ⟨⟨by decide +kernel, by decide +kernel⟩, List.mem_of_getElem? (i := 1127) (by decide +kernel), List.mem_of_getElem? (i := 1325) (by decide +kernel), List.mem_of_getElem? (i := 1326) (by decide +kernel)⟩
theorem lw_p66 : lw_okq (⟨"LinkTimesModel", "begins", "(Z)Z"⟩, 42) := ⟨⟨by decide +kernel, by decide +kernel⟩, List.mem_of_getElem? (i := 1127) (by decide +kernel), List.mem_of_getElem? (i := 1329) (by decide +kernel), List.mem_of_getElem? (i := 1330) (by decide +kernel)⟩
theorem lw_p67 : lw_okq (⟨"LinkTimesModel", "takesNew", "([JI)Z"⟩, 42) := ⟨⟨by decide +kernel, by decide +kernel⟩, List.mem_of_getElem? (i := 1127) (by decide +kernel), List.mem_of_getElem? (i := 1333) (by decide +kernel), List.mem_of_getElem? (i := 1334) (by decide +kernel)⟩
theorem lw_p68 : lw_okq (⟨"LinkTimesModel", "isName", "()Z"⟩, 42) := ⟨⟨by decide +kernel, by decide +kernel⟩, List.mem_of_getElem? (i := 1127) (by decide +kernel), List.mem_of_getElem? (i := 1337) (by decide +kernel), List.mem_of_getElem? (i := 1338) (by decide +kernel)⟩
theorem lw_p69 : lw_okq (⟨"LinkTimesModel", "spelt", "()J"⟩, 42) := ⟨⟨by decide +kernel, by decide +kernel⟩, List.mem_of_getElem? (i := 1127) (by decide +kernel), List.mem_of_getElem? (i := 1343) (by decide +kernel), List.mem_of_getElem? (i := 1344) (by decide +kernel)⟩
theorem lw_p70 : lw_okq (⟨"LinkTimesModel", "readOneLine", "()Z"⟩, 42) := ⟨⟨by decide +kernel, by decide +kernel⟩, List.mem_of_getElem? (i := 1127) (by decide +kernel), List.mem_of_getElem? (i := 1354) (by decide +kernel), List.mem_of_getElem? (i := 1355) (by decide +kernel)⟩
theorem lw_p71 : lw_okq (⟨"LinkTimesModel", "readLink", "()Z"⟩, 42) := ⟨⟨by decide +kernel, by decide +kernel⟩, List.mem_of_getElem? (i := 1127) (by decide +kernel), List.mem_of_getElem? (i := 1358) (by decide +kernel), List.mem_of_getElem? (i := 1359) (by decide +kernel)⟩
theorem lw_p72 : lw_okq (⟨"LinkTimesModel", "namesLink", "([JII)Z"⟩, 42) := ⟨⟨by decide +kernel, by decide +kernel⟩, List.mem_of_getElem? (i := 1127) (by decide +kernel), List.mem_of_getElem? (i := 1362) (by decide +kernel), List.mem_of_getElem? (i := 1363) (by decide +kernel)⟩
theorem lw_p73 : lw_okq (⟨"LinkTimesModel", "afterLink", "(Ljava/lang/String;III)Z"⟩, 42) := ⟨⟨by decide +kernel, by decide +kernel⟩, List.mem_of_getElem? (i := 1127) (by decide +kernel), List.mem_of_getElem? (i := 1367) (by decide +kernel), List.mem_of_getElem? (i := 1368) (by decide +kernel)⟩
theorem lw_p74 : lw_okq (⟨"LinkTimesModel", "laysLink", "(III)Z"⟩, 42) := ⟨⟨by decide +kernel, by decide +kernel⟩, List.mem_of_getElem? (i := 1127) (by decide +kernel), List.mem_of_getElem? (i := 1371) (by decide +kernel), List.mem_of_getElem? (i := 1372) (by decide +kernel)⟩
theorem lw_p75 : lw_okq (⟨"LinkTimesModel", "no", "(I)I"⟩, 42) := ⟨⟨by decide +kernel, by decide +kernel⟩, List.mem_of_getElem? (i := 1127) (by decide +kernel), List.mem_of_getElem? (i := 1384) (by decide +kernel), List.mem_of_getElem? (i := 1385) (by decide +kernel)⟩
theorem lw_p76 : lw_okq (⟨"LinkTimesModel", "runMany", "()I"⟩, 42) := ⟨⟨by decide +kernel, by decide +kernel⟩, List.mem_of_getElem? (i := 1127) (by decide +kernel), List.mem_of_getElem? (i := 1406) (by decide +kernel), List.mem_of_getElem? (i := 1407) (by decide +kernel)⟩
theorem lw_p77 : lw_okq (⟨"LinkTimesModel", "runs", "(I)Z"⟩, 42) := ⟨⟨by decide +kernel, by decide +kernel⟩, List.mem_of_getElem? (i := 1127) (by decide +kernel), List.mem_of_getElem? (i := 1410) (by decide +kernel), List.mem_of_getElem? (i := 1411) (by decide +kernel)⟩
theorem lw_p78 : lw_okq (⟨"LinkTimesModel", "isSpot", "(I)Z"⟩, 42) := ⟨⟨by decide +kernel, by decide +kernel⟩, List.mem_of_getElem? (i := 1127) (by decide +kernel), List.mem_of_getElem? (i := 1418) (by decide +kernel), List.mem_of_getElem? (i := 1419) (by decide +kernel)⟩
theorem lw_p79 : lw_okq (⟨"LinkTimesModel", "runsBy", "(II)I"⟩, 42) := ⟨⟨by decide +kernel, by decide +kernel⟩, List.mem_of_getElem? (i := 1127) (by decide +kernel), List.mem_of_getElem? (i := 1422) (by decide +kernel), List.mem_of_getElem? (i := 1423) (by decide +kernel)⟩
def lw_privs_5 : List (MethodName × Nat) := [(⟨"LinkTimesModel", "lays", "(III)Z"⟩, 42), (⟨"LinkTimesModel", "readSpot", "()Z"⟩, 42), (⟨"LinkTimesModel", "begins", "(Z)Z"⟩, 42), (⟨"LinkTimesModel", "takesNew", "([JI)Z"⟩, 42), (⟨"LinkTimesModel", "isName", "()Z"⟩, 42), (⟨"LinkTimesModel", "spelt", "()J"⟩, 42), (⟨"LinkTimesModel", "readOneLine", "()Z"⟩, 42), (⟨"LinkTimesModel", "readLink", "()Z"⟩, 42), (⟨"LinkTimesModel", "namesLink", "([JII)Z"⟩, 42), (⟨"LinkTimesModel", "afterLink", "(Ljava/lang/String;III)Z"⟩, 42), (⟨"LinkTimesModel", "laysLink", "(III)Z"⟩, 42), (⟨"LinkTimesModel", "no", "(I)I"⟩, 42), (⟨"LinkTimesModel", "runMany", "()I"⟩, 42), (⟨"LinkTimesModel", "runs", "(I)Z"⟩, 42), (⟨"LinkTimesModel", "isSpot", "(I)Z"⟩, 42), (⟨"LinkTimesModel", "runsBy", "(II)I"⟩, 42)]
theorem lw_r5 : ∀ q ∈ lw_privs_5, lw_okq q := List.forall_mem_cons.mpr ⟨lw_p64, List.forall_mem_cons.mpr ⟨lw_p65, List.forall_mem_cons.mpr ⟨lw_p66, List.forall_mem_cons.mpr ⟨lw_p67, List.forall_mem_cons.mpr ⟨lw_p68, List.forall_mem_cons.mpr ⟨lw_p69, List.forall_mem_cons.mpr ⟨lw_p70, List.forall_mem_cons.mpr ⟨lw_p71, List.forall_mem_cons.mpr ⟨lw_p72, List.forall_mem_cons.mpr ⟨lw_p73, List.forall_mem_cons.mpr ⟨lw_p74, List.forall_mem_cons.mpr ⟨lw_p75, List.forall_mem_cons.mpr ⟨lw_p76, List.forall_mem_cons.mpr ⟨lw_p77, List.forall_mem_cons.mpr ⟨lw_p78, List.forall_mem_cons.mpr ⟨lw_p79, fun _ h => absurd h List.not_mem_nil⟩⟩⟩⟩⟩⟩⟩⟩⟩⟩⟩⟩⟩⟩⟩⟩
theorem lw_p80 : lw_okq (⟨"LinkTimesModel", "isOne", "(I)Z"⟩, 42) := ⟨⟨by decide +kernel, by decide +kernel⟩, List.mem_of_getElem? (i := 1127) (by decide +kernel), List.mem_of_getElem? (i := 1430) (by decide +kernel), List.mem_of_getElem? (i := 1431) (by decide +kernel)⟩
theorem lw_p81 : lw_okq (⟨"LinkTimesModel", "leavesAt", "(I)I"⟩, 42) := ⟨⟨by decide +kernel, by decide +kernel⟩, List.mem_of_getElem? (i := 1127) (by decide +kernel), List.mem_of_getElem? (i := 1434) (by decide +kernel), List.mem_of_getElem? (i := 1435) (by decide +kernel)⟩
theorem lw_p82 : lw_okq (⟨"LinkTimesModel", "arrivesAt", "(I)I"⟩, 42) := ⟨⟨by decide +kernel, by decide +kernel⟩, List.mem_of_getElem? (i := 1127) (by decide +kernel), List.mem_of_getElem? (i := 1438) (by decide +kernel), List.mem_of_getElem? (i := 1439) (by decide +kernel)⟩
theorem lw_p83 : lw_okq (⟨"LinkTimesModel", "wayWhy", "(III)I"⟩, 42) := ⟨⟨by decide +kernel, by decide +kernel⟩, List.mem_of_getElem? (i := 1127) (by decide +kernel), List.mem_of_getElem? (i := 1450) (by decide +kernel), List.mem_of_getElem? (i := 1451) (by decide +kernel)⟩
theorem lw_p84 : lw_okq (⟨"LinkTimesModel", "best", "(III)I"⟩, 42) := ⟨⟨by decide +kernel, by decide +kernel⟩, List.mem_of_getElem? (i := 1127) (by decide +kernel), List.mem_of_getElem? (i := 1457) (by decide +kernel), List.mem_of_getElem? (i := 1458) (by decide +kernel)⟩
theorem lw_p85 : lw_okq (⟨"LinkTimesModel", "laysGoal", "(I)V"⟩, 42) := ⟨⟨by decide +kernel, by decide +kernel⟩, List.mem_of_getElem? (i := 1127) (by decide +kernel), List.mem_of_getElem? (i := 1461) (by decide +kernel), List.mem_of_getElem? (i := 1462) (by decide +kernel)⟩
theorem lw_p86 : lw_okq (⟨"LinkTimesModel", "sorts", "()V"⟩, 42) := ⟨⟨by decide +kernel, by decide +kernel⟩, List.mem_of_getElem? (i := 1127) (by decide +kernel), List.mem_of_getElem? (i := 1465) (by decide +kernel), List.mem_of_getElem? (i := 1466) (by decide +kernel)⟩
theorem lw_p87 : lw_okq (⟨"LinkTimesModel", "comesNext", "(II)V"⟩, 42) := ⟨⟨by decide +kernel, by decide +kernel⟩, List.mem_of_getElem? (i := 1127) (by decide +kernel), List.mem_of_getElem? (i := 1469) (by decide +kernel), List.mem_of_getElem? (i := 1470) (by decide +kernel)⟩
theorem lw_p88 : lw_okq (⟨"LinkTimesModel", "canFollow", "(II)Z"⟩, 42) := ⟨⟨by decide +kernel, by decide +kernel⟩, List.mem_of_getElem? (i := 1127) (by decide +kernel), List.mem_of_getElem? (i := 1473) (by decide +kernel), List.mem_of_getElem? (i := 1474) (by decide +kernel)⟩
theorem lw_p89 : lw_okq (⟨"LinkTimesModel", "turns", "(II)I"⟩, 42) := ⟨⟨by decide +kernel, by decide +kernel⟩, List.mem_of_getElem? (i := 1127) (by decide +kernel), List.mem_of_getElem? (i := 1477) (by decide +kernel), List.mem_of_getElem? (i := 1478) (by decide +kernel)⟩
theorem lw_p90 : lw_okq (⟨"LinkTimesModel", "isLessRow", "(II)Z"⟩, 42) := ⟨⟨by decide +kernel, by decide +kernel⟩, List.mem_of_getElem? (i := 1127) (by decide +kernel), List.mem_of_getElem? (i := 1481) (by decide +kernel), List.mem_of_getElem? (i := 1482) (by decide +kernel)⟩
theorem lw_p91 : lw_okq (⟨"LinkTimesModel", "firstOf", "(II)I"⟩, 42) := ⟨⟨by decide +kernel, by decide +kernel⟩, List.mem_of_getElem? (i := 1127) (by decide +kernel), List.mem_of_getElem? (i := 1485) (by decide +kernel), List.mem_of_getElem? (i := 1486) (by decide +kernel)⟩
theorem lw_p92 : lw_okq (⟨"LinkTimesModel", "isBetter", "(II)Z"⟩, 42) := ⟨⟨by decide +kernel, by decide +kernel⟩, List.mem_of_getElem? (i := 1127) (by decide +kernel), List.mem_of_getElem? (i := 1489) (by decide +kernel), List.mem_of_getElem? (i := 1490) (by decide +kernel)⟩
theorem lw_p93 : lw_okq (⟨"LinkTimesModel", "begins", "(III)I"⟩, 42) := ⟨⟨by decide +kernel, by decide +kernel⟩, List.mem_of_getElem? (i := 1127) (by decide +kernel), List.mem_of_getElem? (i := 1497) (by decide +kernel), List.mem_of_getElem? (i := 1498) (by decide +kernel)⟩
theorem lw_p94 : lw_okq (⟨"LinkTimesModel", "laysWithin", "(II)V"⟩, 42) := ⟨⟨by decide +kernel, by decide +kernel⟩, List.mem_of_getElem? (i := 1127) (by decide +kernel), List.mem_of_getElem? (i := 1517) (by decide +kernel), List.mem_of_getElem? (i := 1518) (by decide +kernel)⟩
theorem lw_p95 : lw_okq (⟨"LinkTimesModel", "soonest", "(II)I"⟩, 42) := ⟨⟨by decide +kernel, by decide +kernel⟩, List.mem_of_getElem? (i := 1127) (by decide +kernel), List.mem_of_getElem? (i := 1521) (by decide +kernel), List.mem_of_getElem? (i := 1522) (by decide +kernel)⟩
def lw_privs_6 : List (MethodName × Nat) := [(⟨"LinkTimesModel", "isOne", "(I)Z"⟩, 42), (⟨"LinkTimesModel", "leavesAt", "(I)I"⟩, 42), (⟨"LinkTimesModel", "arrivesAt", "(I)I"⟩, 42), (⟨"LinkTimesModel", "wayWhy", "(III)I"⟩, 42), (⟨"LinkTimesModel", "best", "(III)I"⟩, 42), (⟨"LinkTimesModel", "laysGoal", "(I)V"⟩, 42), (⟨"LinkTimesModel", "sorts", "()V"⟩, 42), (⟨"LinkTimesModel", "comesNext", "(II)V"⟩, 42), (⟨"LinkTimesModel", "canFollow", "(II)Z"⟩, 42), (⟨"LinkTimesModel", "turns", "(II)I"⟩, 42), (⟨"LinkTimesModel", "isLessRow", "(II)Z"⟩, 42), (⟨"LinkTimesModel", "firstOf", "(II)I"⟩, 42), (⟨"LinkTimesModel", "isBetter", "(II)Z"⟩, 42), (⟨"LinkTimesModel", "begins", "(III)I"⟩, 42), (⟨"LinkTimesModel", "laysWithin", "(II)V"⟩, 42), (⟨"LinkTimesModel", "soonest", "(II)I"⟩, 42)]
theorem lw_r6 : ∀ q ∈ lw_privs_6, lw_okq q := List.forall_mem_cons.mpr ⟨lw_p80, List.forall_mem_cons.mpr ⟨lw_p81, List.forall_mem_cons.mpr ⟨lw_p82, List.forall_mem_cons.mpr ⟨lw_p83, List.forall_mem_cons.mpr ⟨lw_p84, List.forall_mem_cons.mpr ⟨lw_p85, List.forall_mem_cons.mpr ⟨lw_p86, List.forall_mem_cons.mpr ⟨lw_p87, List.forall_mem_cons.mpr ⟨lw_p88, List.forall_mem_cons.mpr ⟨lw_p89, List.forall_mem_cons.mpr ⟨lw_p90, List.forall_mem_cons.mpr ⟨lw_p91, List.forall_mem_cons.mpr ⟨lw_p92, List.forall_mem_cons.mpr ⟨lw_p93, List.forall_mem_cons.mpr ⟨lw_p94, List.forall_mem_cons.mpr ⟨lw_p95, fun _ h => absurd h List.not_mem_nil⟩⟩⟩⟩⟩⟩⟩⟩⟩⟩⟩⟩⟩⟩⟩⟩
theorem lw_p96 : lw_okq (⟨"LinkTimesModel", "soonestBy", "(III)I"⟩, 42) := ⟨⟨by decide +kernel, by decide +kernel⟩, List.mem_of_getElem? (i := 1127) (by decide +kernel), List.mem_of_getElem? (i := 1525) (by decide +kernel), List.mem_of_getElem? (i := 1526) (by decide +kernel)⟩
theorem lw_p97 : lw_okq (⟨"LinkTimesModel", "laysTrades", "(III)V"⟩, 42) := ⟨⟨by decide +kernel, by decide +kernel⟩, List.mem_of_getElem? (i := 1127) (by decide +kernel), List.mem_of_getElem? (i := 1533) (by decide +kernel), List.mem_of_getElem? (i := 1534) (by decide +kernel)⟩
theorem lw_p98 : lw_okq (⟨"LinkTimesModel", "latestOf", "(IIII)I"⟩, 42) := ⟨⟨by decide +kernel, by decide +kernel⟩, List.mem_of_getElem? (i := 1127) (by decide +kernel), List.mem_of_getElem? (i := 1541) (by decide +kernel), List.mem_of_getElem? (i := 1542) (by decide +kernel)⟩
theorem lw_p99 : lw_okq (⟨"LinkTimesModel", "areUnlike", "(II)Z"⟩, 42) := ⟨⟨by decide +kernel, by decide +kernel⟩, List.mem_of_getElem? (i := 1127) (by decide +kernel), List.mem_of_getElem? (i := 1573) (by decide +kernel), List.mem_of_getElem? (i := 1574) (by decide +kernel)⟩
theorem lw_p100 : lw_okq (⟨"LinkTimesModel", "laysOthers", "(III)V"⟩, 42) := ⟨⟨by decide +kernel, by decide +kernel⟩, List.mem_of_getElem? (i := 1127) (by decide +kernel), List.mem_of_getElem? (i := 1577) (by decide +kernel), List.mem_of_getElem? (i := 1578) (by decide +kernel)⟩
theorem lw_p101 : lw_okq (⟨"LinkTimesModel", "laysAside", "()V"⟩, 42) := ⟨⟨by decide +kernel, by decide +kernel⟩, List.mem_of_getElem? (i := 1127) (by decide +kernel), List.mem_of_getElem? (i := 1581) (by decide +kernel), List.mem_of_getElem? (i := 1582) (by decide +kernel)⟩
theorem lw_p102 : lw_okq (⟨"LinkTimesModel", "takesBack", "()V"⟩, 42) := ⟨⟨by decide +kernel, by decide +kernel⟩, List.mem_of_getElem? (i := 1127) (by decide +kernel), List.mem_of_getElem? (i := 1585) (by decide +kernel), List.mem_of_getElem? (i := 1586) (by decide +kernel)⟩
theorem lw_p103 : lw_okq (⟨"LinkTimesModel", "isAsked", "(I)Z"⟩, 42) := ⟨⟨by decide +kernel, by decide +kernel⟩, List.mem_of_getElem? (i := 1127) (by decide +kernel), List.mem_of_getElem? (i := 1597) (by decide +kernel), List.mem_of_getElem? (i := 1598) (by decide +kernel)⟩
theorem lw_p104 : lw_okq (⟨"LinkTimesModel", "laysPairs", "(I)V"⟩, 42) := ⟨⟨by decide +kernel, by decide +kernel⟩, List.mem_of_getElem? (i := 1127) (by decide +kernel), List.mem_of_getElem? (i := 1601) (by decide +kernel), List.mem_of_getElem? (i := 1602) (by decide +kernel)⟩
theorem lw_p105 : lw_okq (⟨"LinkTimesModel", "laysSteps", "(II)V"⟩, 42) := ⟨⟨by decide +kernel, by decide +kernel⟩, List.mem_of_getElem? (i := 1127) (by decide +kernel), List.mem_of_getElem? (i := 1617) (by decide +kernel), List.mem_of_getElem? (i := 1618) (by decide +kernel)⟩
theorem lw_p106 : lw_okq (⟨"LinkTimesModel", "beginsStep", "(II)Z"⟩, 42) := ⟨⟨by decide +kernel, by decide +kernel⟩, List.mem_of_getElem? (i := 1127) (by decide +kernel), List.mem_of_getElem? (i := 1621) (by decide +kernel), List.mem_of_getElem? (i := 1622) (by decide +kernel)⟩
theorem lw_p107 : lw_okq (⟨"LinkTimesModel", "without", "(IIII)I"⟩, 42) := ⟨⟨by decide +kernel, by decide +kernel⟩, List.mem_of_getElem? (i := 1127) (by decide +kernel), List.mem_of_getElem? (i := 1641) (by decide +kernel), List.mem_of_getElem? (i := 1642) (by decide +kernel)⟩
theorem lw_p108 : lw_okq (⟨"LinkTimesModel", "causes", "(III)I"⟩, 42) := ⟨⟨by decide +kernel, by decide +kernel⟩, List.mem_of_getElem? (i := 1127) (by decide +kernel), List.mem_of_getElem? (i := 1657) (by decide +kernel), List.mem_of_getElem? (i := 1658) (by decide +kernel)⟩
theorem lw_p109 : lw_okq (⟨"LinkTimesModel", "puts", "(II)I"⟩, 42) := ⟨⟨by decide +kernel, by decide +kernel⟩, List.mem_of_getElem? (i := 1127) (by decide +kernel), List.mem_of_getElem? (i := 1665) (by decide +kernel), List.mem_of_getElem? (i := 1666) (by decide +kernel)⟩
theorem lw_p110 : lw_okq (⟨"LinkTimesModel", "keeps", "()V"⟩, 42) := ⟨⟨by decide +kernel, by decide +kernel⟩, List.mem_of_getElem? (i := 1127) (by decide +kernel), List.mem_of_getElem? (i := 1669) (by decide +kernel), List.mem_of_getElem? (i := 1670) (by decide +kernel)⟩
theorem lw_p111 : lw_okq (⟨"LinkTimesModel", "lateMany", "()I"⟩, 42) := ⟨⟨by decide +kernel, by decide +kernel⟩, List.mem_of_getElem? (i := 1127) (by decide +kernel), List.mem_of_getElem? (i := 1705) (by decide +kernel), List.mem_of_getElem? (i := 1706) (by decide +kernel)⟩
def lw_privs_7 : List (MethodName × Nat) := [(⟨"LinkTimesModel", "soonestBy", "(III)I"⟩, 42), (⟨"LinkTimesModel", "laysTrades", "(III)V"⟩, 42), (⟨"LinkTimesModel", "latestOf", "(IIII)I"⟩, 42), (⟨"LinkTimesModel", "areUnlike", "(II)Z"⟩, 42), (⟨"LinkTimesModel", "laysOthers", "(III)V"⟩, 42), (⟨"LinkTimesModel", "laysAside", "()V"⟩, 42), (⟨"LinkTimesModel", "takesBack", "()V"⟩, 42), (⟨"LinkTimesModel", "isAsked", "(I)Z"⟩, 42), (⟨"LinkTimesModel", "laysPairs", "(I)V"⟩, 42), (⟨"LinkTimesModel", "laysSteps", "(II)V"⟩, 42), (⟨"LinkTimesModel", "beginsStep", "(II)Z"⟩, 42), (⟨"LinkTimesModel", "without", "(IIII)I"⟩, 42), (⟨"LinkTimesModel", "causes", "(III)I"⟩, 42), (⟨"LinkTimesModel", "puts", "(II)I"⟩, 42), (⟨"LinkTimesModel", "keeps", "()V"⟩, 42), (⟨"LinkTimesModel", "lateMany", "()I"⟩, 42)]
theorem lw_r7 : ∀ q ∈ lw_privs_7, lw_okq q := List.forall_mem_cons.mpr ⟨lw_p96, List.forall_mem_cons.mpr ⟨lw_p97, List.forall_mem_cons.mpr ⟨lw_p98, List.forall_mem_cons.mpr ⟨lw_p99, List.forall_mem_cons.mpr ⟨lw_p100, List.forall_mem_cons.mpr ⟨lw_p101, List.forall_mem_cons.mpr ⟨lw_p102, List.forall_mem_cons.mpr ⟨lw_p103, List.forall_mem_cons.mpr ⟨lw_p104, List.forall_mem_cons.mpr ⟨lw_p105, List.forall_mem_cons.mpr ⟨lw_p106, List.forall_mem_cons.mpr ⟨lw_p107, List.forall_mem_cons.mpr ⟨lw_p108, List.forall_mem_cons.mpr ⟨lw_p109, List.forall_mem_cons.mpr ⟨lw_p110, List.forall_mem_cons.mpr ⟨lw_p111, fun _ h => absurd h List.not_mem_nil⟩⟩⟩⟩⟩⟩⟩⟩⟩⟩⟩⟩⟩⟩⟩⟩
def lw_privs : List (MethodName × Nat) := lw_privs_1 ++ (lw_privs_2 ++ (lw_privs_3 ++ (lw_privs_4 ++ (lw_privs_5 ++ (lw_privs_6 ++ (lw_privs_7))))))
def lw_tbl : List Cond := k2_sels lw_privs ++ tables_1
theorem lw_privs_ok : ∀ q ∈ lw_privs, lw_okq q := by
  show ∀ q ∈ lw_privs_1 ++ (lw_privs_2 ++ (lw_privs_3 ++ (lw_privs_4 ++ (lw_privs_5 ++ (lw_privs_6 ++ (lw_privs_7)))))), lw_okq q
  exact List.forall_mem_append.mpr ⟨lw_r1, List.forall_mem_append.mpr ⟨lw_r2, List.forall_mem_append.mpr ⟨lw_r3, List.forall_mem_append.mpr ⟨lw_r4, List.forall_mem_append.mpr ⟨lw_r5, List.forall_mem_append.mpr ⟨lw_r6, lw_r7⟩⟩⟩⟩⟩⟩
-- ===== end of PART A; then your names; then what follows =====
end
section
/-! names of the program's classes and methods: written by wip/whole/gen.py out of the printed names -/
abbrev mM : Type := MethodName × ByteArray × Nat × Option FieldType × List (Nat × Instr × Nat)
/-- the words of the tables that stay true as the machine warms -/
def t0_ws : List Cond := lw_tbl.filter goodWord
theorem tm {w : Cond} (i : Nat) (h : lw_tbl[i]? = some w) (g : goodWord w = true) : w ∈ t0_ws := List.mem_filter.mpr ⟨List.mem_of_getElem? h, g⟩
theorem all_app {α : Type} {P : α → Prop} {a b : List α} (ha : ∀ q ∈ a, P q) (hb : ∀ q ∈ b, P q) : ∀ q ∈ a ++ b, P q := fun q h => (List.mem_append.mp h).elim (ha q) (hb q)
def mOK (m : mM) : Prop := plainName m.1.cls = true ∧ Cond.code m.1 m.2.1 m.2.2.1 m.2.2.2.1 ∈ t0_ws ∧ (∀ q ∈ m.2.2.2.2, decode m.2.1 q.1 = .ok q.2) ∧ Cond.initialized m.1.cls ∈ t0_ws ∧ m.1.cls ≠ "java/lang/invoke/MethodHandle" ∧ m.1.cls ≠ "java/lang/invoke/VarHandle"
def mVt (m : mM) : Prop := Cond.instanceMethod m.1 ∈ t0_ws ∧ Cond.selects m.1.cls m.1 m.1 ∈ t0_ws

def RX0 : String := "LinkTimes$Bargains"
def TX0 : u_T := fun k => match k with
  | 0 => ("LinkTimes$Bargains", "count", "I", false)
  | 1 => ("LinkTimes$Bargains", "ends", "[I", true)
  | 2 => ("LinkTimes$Bargains", "turns", "[I", true)
  | 3 => ("LinkTimes$Bargains", "starts", "[I", true)
  | 4 => ("LinkTimes$Bargains", "now", "[I", false)
  | _ => ("LinkTimes$Bargains", "fewer", "[I", false)
def tyX0 : Nat → FieldType := fun k => match k with
  | 0 => .int
  | 1 => .array .int
  | 2 => .array .int
  | 3 => .array .int
  | 4 => .array .int
  | _ => .array .int
theorem nmX0 : ∀ a, a < 6 → ∀ b, b < 6 → a ≠ b → (TX0 a).2.1 ≠ (TX0 b).2.1 := by decide +kernel
theorem tyX0_ok : ∀ k, k < 6 → parseFieldDescriptor (TX0 k).2.2.1 = some (tyX0 k) := by decide +kernel
theorem inX0 : ∀ w ∈ u_ws RX0 TX0 6, w ∈ t0_ws := by decide +kernel
def RX1 : String := "LinkTimes$Desk"
def TX1 : u_T := fun k => match k with
  | 0 => ("LinkTimes$Desk", "span", "I", false)
  | 1 => ("LinkTimes$Desk", "spotCount", "I", false)
  | 2 => ("LinkTimes$Desk", "lineCount", "I", false)
  | 3 => ("LinkTimes$Desk", "linkCount", "I", false)
  | 4 => ("LinkTimes$Desk", "count", "I", false)
  | 5 => ("LinkTimes$Desk", "gap", "[I", true)
  | 6 => ("LinkTimes$Desk", "patience", "[I", true)
  | 7 => ("LinkTimes$Desk", "line", "[I", true)
  | 8 => ("LinkTimes$Desk", "from", "[I", true)
  | 9 => ("LinkTimes$Desk", "to", "[I", true)
  | 10 => ("LinkTimes$Desk", "start", "[I", true)
  | 11 => ("LinkTimes$Desk", "lasts", "[I", true)
  | 12 => ("LinkTimes$Desk", "late", "[I", true)
  | 13 => ("LinkTimes$Desk", "link", "[I", true)
  | _ => ("LinkTimes$Desk", "off", "[Z", true)
def tyX1 : Nat → FieldType := fun k => match k with
  | 0 => .int
  | 1 => .int
  | 2 => .int
  | 3 => .int
  | 4 => .int
  | 5 => .array .int
  | 6 => .array .int
  | 7 => .array .int
  | 8 => .array .int
  | 9 => .array .int
  | 10 => .array .int
  | 11 => .array .int
  | 12 => .array .int
  | 13 => .array .int
  | _ => .array .boolean
theorem nmX1 : ∀ a, a < 15 → ∀ b, b < 15 → a ≠ b → (TX1 a).2.1 ≠ (TX1 b).2.1 := by decide +kernel
theorem tyX1_ok : ∀ k, k < 15 → parseFieldDescriptor (TX1 k).2.2.1 = some (tyX1 k) := by decide +kernel
theorem inX1 : ∀ w ∈ u_ws RX1 TX1 15, w ∈ t0_ws := by decide +kernel
def RX2 : String := "LinkTimes$Flood"
def TX2 : u_T := fun k => match k with
  | 0 => ("LinkTimes$Flood", "soonest", "[I", true)
  | _ => ("LinkTimes$Flood", "caught", "[Z", true)
def tyX2 : Nat → FieldType := fun k => match k with
  | 0 => .array .int
  | _ => .array .boolean
theorem nmX2 : ∀ a, a < 2 → ∀ b, b < 2 → a ≠ b → (TX2 a).2.1 ≠ (TX2 b).2.1 := by decide +kernel
theorem tyX2_ok : ∀ k, k < 2 → parseFieldDescriptor (TX2 k).2.2.1 = some (tyX2 k) := by decide +kernel
theorem inX2 : ∀ w ∈ u_ws RX2 TX2 2, w ∈ t0_ws := by decide +kernel
def RX3 : String := "LinkTimes$Log"
def TX3 : u_T := fun k => match k with
  | 0 => ("LinkTimes$Log", "kept", "I", false)
  | 1 => ("LinkTimes$Log", "kinds", "[I", true)
  | 2 => ("LinkTimes$Log", "whose", "[I", true)
  | _ => ("LinkTimes$Log", "was", "[I", true)
def tyX3 : Nat → FieldType := fun k => match k with
  | 0 => .int
  | 1 => .array .int
  | 2 => .array .int
  | _ => .array .int
theorem nmX3 : ∀ a, a < 4 → ∀ b, b < 4 → a ≠ b → (TX3 a).2.1 ≠ (TX3 b).2.1 := by decide +kernel
theorem tyX3_ok : ∀ k, k < 4 → parseFieldDescriptor (TX3 k).2.2.1 = some (tyX3 k) := by decide +kernel
theorem inX3 : ∀ w ∈ u_ws RX3 TX3 4, w ∈ t0_ws := by decide +kernel
def RX4 : String := "LinkTimes$Net"
def TX4 : u_T := fun k => match k with
  | 0 => ("LinkTimes$Net", "count", "I", false)
  | 1 => ("LinkTimes$Net", "leave", "[I", true)
  | 2 => ("LinkTimes$Net", "arrive", "[I", true)
  | 3 => ("LinkTimes$Net", "runs", "[Z", true)
  | 4 => ("LinkTimes$Net", "order", "[I", true)
  | 5 => ("LinkTimes$Net", "bySpot", "[I", true)
  | 6 => ("LinkTimes$Net", "first", "[I", true)
  | 7 => ("LinkTimes$Net", "desk", "LLinkTimes$Desk;", false)
  | 8 => ("LinkTimes$Net", "gap", "[I", true)
  | _ => ("LinkTimes$Net", "patience", "[I", true)
def tyX4 : Nat → FieldType := fun k => match k with
  | 0 => .int
  | 1 => .array .int
  | 2 => .array .int
  | 3 => .array .boolean
  | 4 => .array .int
  | 5 => .array .int
  | 6 => .array .int
  | 7 => .object "LinkTimes$Desk"
  | 8 => .array .int
  | _ => .array .int
theorem nmX4 : ∀ a, a < 10 → ∀ b, b < 10 → a ≠ b → (TX4 a).2.1 ≠ (TX4 b).2.1 := by decide +kernel
theorem tyX4_ok : ∀ k, k < 10 → parseFieldDescriptor (TX4 k).2.2.1 = some (tyX4 k) := by decide +kernel
theorem inX4 : ∀ w ∈ u_ws RX4 TX4 10, w ∈ t0_ws := by decide +kernel
def RX5 : String := "LinkTimes$Reader"
def TX5 : u_T := fun k => match k with
  | 0 => ("LinkTimes$Reader", "fault", "I", false)
  | 1 => ("LinkTimes$Reader", "place", "I", false)
  | 2 => ("LinkTimes$Reader", "text", "[B", true)
  | 3 => ("LinkTimes$Reader", "length", "I", false)
  | 4 => ("LinkTimes$Reader", "desk", "LLinkTimes$Desk;", false)
  | 5 => ("LinkTimes$Reader", "spotNames", "[I", true)
  | 6 => ("LinkTimes$Reader", "lineNames", "[I", true)
  | 7 => ("LinkTimes$Reader", "linkLine", "I", false)
  | 8 => ("LinkTimes$Reader", "linkFrom", "I", false)
  | 9 => ("LinkTimes$Reader", "linkTo", "I", false)
  | 10 => ("LinkTimes$Reader", "kind", "I", false)
  | 11 => ("LinkTimes$Reader", "start", "I", false)
  | 12 => ("LinkTimes$Reader", "stop", "I", false)
  | _ => ("LinkTimes$Reader", "value", "I", false)
def tyX5 : Nat → FieldType := fun k => match k with
  | 0 => .int
  | 1 => .int
  | 2 => .array .byte
  | 3 => .int
  | 4 => .object "LinkTimes$Desk"
  | 5 => .array .int
  | 6 => .array .int
  | 7 => .int
  | 8 => .int
  | 9 => .int
  | 10 => .int
  | 11 => .int
  | 12 => .int
  | _ => .int
theorem nmX5 : ∀ a, a < 14 → ∀ b, b < 14 → a ≠ b → (TX5 a).2.1 ≠ (TX5 b).2.1 := by decide +kernel
theorem tyX5_ok : ∀ k, k < 14 → parseFieldDescriptor (TX5 k).2.2.1 = some (tyX5 k) := by decide +kernel
theorem inX5 : ∀ w ∈ u_ws RX5 TX5 14, w ∈ t0_ws := by decide +kernel
def RX6 : String := "LinkTimes$Search"
def TX6 : u_T := fun k => match k with
  | 0 => ("LinkTimes$Search", "way", "LLinkTimes$Way;", true)
  | 1 => ("LinkTimes$Search", "turnsAt", "[I", true)
  | 2 => ("LinkTimes$Search", "end", "[I", true)
  | 3 => ("LinkTimes$Search", "turns", "[I", true)
  | 4 => ("LinkTimes$Search", "length", "[I", true)
  | _ => ("LinkTimes$Search", "next", "[I", true)
def tyX6 : Nat → FieldType := fun k => match k with
  | 0 => .object "LinkTimes$Way"
  | 1 => .array .int
  | 2 => .array .int
  | 3 => .array .int
  | 4 => .array .int
  | _ => .array .int
theorem nmX6 : ∀ a, a < 6 → ∀ b, b < 6 → a ≠ b → (TX6 a).2.1 ≠ (TX6 b).2.1 := by decide +kernel
theorem tyX6_ok : ∀ k, k < 6 → parseFieldDescriptor (TX6 k).2.2.1 = some (tyX6 k) := by decide +kernel
theorem inX6 : ∀ w ∈ u_ws RX6 TX6 6, w ∈ t0_ws := by decide +kernel
def RX7 : String := "LinkTimes$Steps"
def TX7 : u_T := fun k => match k with
  | 0 => ("LinkTimes$Steps", "count", "I", false)
  | 1 => ("LinkTimes$Steps", "starts", "[I", true)
  | 2 => ("LinkTimes$Steps", "ends", "[I", true)
  | _ => ("LinkTimes$Steps", "turns", "[I", true)
def tyX7 : Nat → FieldType := fun k => match k with
  | 0 => .int
  | 1 => .array .int
  | 2 => .array .int
  | _ => .array .int
theorem nmX7 : ∀ a, a < 4 → ∀ b, b < 4 → a ≠ b → (TX7 a).2.1 ≠ (TX7 b).2.1 := by decide +kernel
theorem tyX7_ok : ∀ k, k < 4 → parseFieldDescriptor (TX7 k).2.2.1 = some (tyX7 k) := by decide +kernel
theorem inX7 : ∀ w ∈ u_ws RX7 TX7 4, w ∈ t0_ws := by decide +kernel
def RX8 : String := "LinkTimes$Way"
def TX8 : u_T := fun k => match k with
  | 0 => ("LinkTimes$Way", "count", "I", false)
  | 1 => ("LinkTimes$Way", "start", "I", false)
  | 2 => ("LinkTimes$Way", "end", "I", false)
  | 3 => ("LinkTimes$Way", "turns", "I", false)
  | _ => ("LinkTimes$Way", "row", "[I", true)
def tyX8 : Nat → FieldType := fun k => match k with
  | 0 => .int
  | 1 => .int
  | 2 => .int
  | 3 => .int
  | _ => .array .int
theorem nmX8 : ∀ a, a < 5 → ∀ b, b < 5 → a ≠ b → (TX8 a).2.1 ≠ (TX8 b).2.1 := by decide +kernel
theorem tyX8_ok : ∀ k, k < 5 → parseFieldDescriptor (TX8 k).2.2.1 = some (tyX8 k) := by decide +kernel
theorem inX8 : ∀ w ∈ u_ws RX8 TX8 5, w ∈ t0_ws := by decide +kernel
def RX9 : String := "LinkTimes"
def TX9 : u_T := fun k => match k with
  | 0 => ("LinkTimes", "tape", "[B", true)
  | 1 => ("LinkTimes", "used", "I", false)
  | 2 => ("LinkTimes", "current", "LLinkTimes$Desk;", false)
  | 3 => ("LinkTimes", "draft", "LLinkTimes$Desk;", false)
  | 4 => ("LinkTimes", "reader", "LLinkTimes$Reader;", true)
  | 5 => ("LinkTimes", "log", "LLinkTimes$Log;", true)
  | 6 => ("LinkTimes", "net", "LLinkTimes$Net;", true)
  | 7 => ("LinkTimes", "search", "LLinkTimes$Search;", true)
  | 8 => ("LinkTimes", "flood", "LLinkTimes$Flood;", true)
  | 9 => ("LinkTimes", "mateFlood", "LLinkTimes$Flood;", true)
  | 10 => ("LinkTimes", "profile", "LLinkTimes$Steps;", true)
  | 11 => ("LinkTimes", "bargains", "LLinkTimes$Bargains;", true)
  | 12 => ("LinkTimes", "refusal", "I", false)
  | 13 => ("LinkTimes", "lastFault", "I", false)
  | _ => ("LinkTimes", "faultPlace", "I", false)
def tyX9 : Nat → FieldType := fun k => match k with
  | 0 => .array .byte
  | 1 => .int
  | 2 => .object "LinkTimes$Desk"
  | 3 => .object "LinkTimes$Desk"
  | 4 => .object "LinkTimes$Reader"
  | 5 => .object "LinkTimes$Log"
  | 6 => .object "LinkTimes$Net"
  | 7 => .object "LinkTimes$Search"
  | 8 => .object "LinkTimes$Flood"
  | 9 => .object "LinkTimes$Flood"
  | 10 => .object "LinkTimes$Steps"
  | 11 => .object "LinkTimes$Bargains"
  | 12 => .int
  | 13 => .int
  | _ => .int
theorem nmX9 : ∀ a, a < 15 → ∀ b, b < 15 → a ≠ b → (TX9 a).2.1 ≠ (TX9 b).2.1 := by decide +kernel
theorem tyX9_ok : ∀ k, k < 15 → parseFieldDescriptor (TX9 k).2.2.1 = some (tyX9 k) := by decide +kernel
theorem inX9 : ∀ w ∈ u_ws RX9 TX9 15, w ∈ t0_ws := by decide +kernel
def RX10 : String := "LinkTimesModel"
def TX10 : u_T := fun k => match k with
  | 0 => ("LinkTimesModel", "thrown", "I", false)
  | 1 => ("LinkTimesModel", "trouble", "I", false)
  | 2 => ("LinkTimesModel", "fault", "I", false)
  | 3 => ("LinkTimesModel", "where", "I", false)
  | 4 => ("LinkTimesModel", "tape", "[I", true)
  | 5 => ("LinkTimesModel", "taped", "I", false)
  | 6 => ("LinkTimesModel", "row", "[I", true)
  | 7 => ("LinkTimesModel", "read", "[I", true)
  | 8 => ("LinkTimesModel", "aside", "[I", true)
  | 9 => ("LinkTimesModel", "kept", "[I", true)
  | 10 => ("LinkTimesModel", "actMany", "I", false)
  | 11 => ("LinkTimesModel", "isTold", "Z", false)
  | 12 => ("LinkTimesModel", "textLong", "I", false)
  | 13 => ("LinkTimesModel", "place", "I", false)
  | 14 => ("LinkTimesModel", "spot", "I", false)
  | 15 => ("LinkTimesModel", "token", "I", false)
  | 16 => ("LinkTimesModel", "whole", "I", false)
  | 17 => ("LinkTimesModel", "readFault", "I", false)
  | 18 => ("LinkTimesModel", "readPlace", "I", false)
  | 19 => ("LinkTimesModel", "hasDesk", "Z", false)
  | 20 => ("LinkTimesModel", "spotNames", "[J", true)
  | 21 => ("LinkTimesModel", "lineNames", "[J", true)
  | 22 => ("LinkTimesModel", "link", "[I", true)
  | 23 => ("LinkTimesModel", "there", "[I", true)
  | 24 => ("LinkTimesModel", "changesBy", "[I", true)
  | 25 => ("LinkTimesModel", "ridesBy", "[I", true)
  | 26 => ("LinkTimesModel", "nextBy", "[I", true)
  | 27 => ("LinkTimesModel", "sorted", "[I", true)
  | 28 => ("LinkTimesModel", "sortedMany", "I", false)
  | 29 => ("LinkTimesModel", "thereBy", "[I", true)
  | 30 => ("LinkTimesModel", "tradeAt", "[I", true)
  | 31 => ("LinkTimesModel", "tradeChanges", "[I", true)
  | 32 => ("LinkTimesModel", "tradeMany", "I", false)
  | 33 => ("LinkTimesModel", "stepLeaves", "[I", true)
  | 34 => ("LinkTimesModel", "stepArrives", "[I", true)
  | 35 => ("LinkTimesModel", "stepChanges", "[I", true)
  | 36 => ("LinkTimesModel", "stepMany", "I", false)
  | 37 => ("LinkTimesModel", "otherAt", "[I", true)
  | 38 => ("LinkTimesModel", "otherMany", "I", false)
  | 39 => ("LinkTimesModel", "turnsAt", "[I", true)
  | 40 => ("LinkTimesModel", "pairMany", "I", false)
  | _ => ("LinkTimesModel", "longest", "I", false)
def tyX10 : Nat → FieldType := fun k => match k with
  | 0 => .int
  | 1 => .int
  | 2 => .int
  | 3 => .int
  | 4 => .array .int
  | 5 => .int
  | 6 => .array .int
  | 7 => .array .int
  | 8 => .array .int
  | 9 => .array .int
  | 10 => .int
  | 11 => .boolean
  | 12 => .int
  | 13 => .int
  | 14 => .int
  | 15 => .int
  | 16 => .int
  | 17 => .int
  | 18 => .int
  | 19 => .boolean
  | 20 => .array .long
  | 21 => .array .long
  | 22 => .array .int
  | 23 => .array .int
  | 24 => .array .int
  | 25 => .array .int
  | 26 => .array .int
  | 27 => .array .int
  | 28 => .int
  | 29 => .array .int
  | 30 => .array .int
  | 31 => .array .int
  | 32 => .int
  | 33 => .array .int
  | 34 => .array .int
  | 35 => .array .int
  | 36 => .int
  | 37 => .array .int
  | 38 => .int
  | 39 => .array .int
  | 40 => .int
  | _ => .int
theorem nmX10 : ∀ a, a < 42 → ∀ b, b < 42 → a ≠ b → (TX10 a).2.1 ≠ (TX10 b).2.1 := by decide +kernel
theorem tyX10_ok : ∀ k, k < 42 → parseFieldDescriptor (TX10 k).2.2.1 = some (tyX10 k) := by decide +kernel
theorem inX10 : ∀ w ∈ u_ws RX10 TX10 42, w ∈ t0_ws := by decide +kernel
abbrev vwCl : List vw_C := [(RX0, TX0, 6), (RX1, TX1, 15), (RX2, TX2, 2), (RX3, TX3, 4), (RX4, TX4, 10), (RX5, TX5, 14), (RX6, TX6, 6), (RX7, TX7, 4), (RX8, TX8, 5), (RX9, TX9, 15), (RX10, TX10, 42)]
def tyCl (c : Nat) : Nat → FieldType := match c with
  | 0 => tyX0
  | 1 => tyX1
  | 2 => tyX2
  | 3 => tyX3
  | 4 => tyX4
  | 5 => tyX5
  | 6 => tyX6
  | 7 => tyX7
  | 8 => tyX8
  | 9 => tyX9
  | _ => tyX10
theorem ok_cl : ∀ (ci : Nat) (q : vw_C), vwCl[ci]? = some q → (∀ w ∈ u_ws q.1 q.2.1 q.2.2, w ∈ t0_ws) ∧ (∀ a, a < q.2.2 → ∀ b, b < q.2.2 → a ≠ b → (q.2.1 a).2.1 ≠ (q.2.1 b).2.1) ∧ (∀ k, k < q.2.2 → parseFieldDescriptor (q.2.1 k).2.2.1 = some (tyCl ci k)) := by
  intro ci q h
  match ci, h with
  | 0, h => cases h; exact ⟨inX0, nmX0, tyX0_ok⟩
  | 1, h => cases h; exact ⟨inX1, nmX1, tyX1_ok⟩
  | 2, h => cases h; exact ⟨inX2, nmX2, tyX2_ok⟩
  | 3, h => cases h; exact ⟨inX3, nmX3, tyX3_ok⟩
  | 4, h => cases h; exact ⟨inX4, nmX4, tyX4_ok⟩
  | 5, h => cases h; exact ⟨inX5, nmX5, tyX5_ok⟩
  | 6, h => cases h; exact ⟨inX6, nmX6, tyX6_ok⟩
  | 7, h => cases h; exact ⟨inX7, nmX7, tyX7_ok⟩
  | 8, h => cases h; exact ⟨inX8, nmX8, tyX8_ok⟩
  | 9, h => cases h; exact ⟨inX9, nmX9, tyX9_ok⟩
  | 10, h => cases h; exact ⟨inX10, nmX10, tyX10_ok⟩
  | k + 11, h => simp [vwCl] at h
/-- entry idx of class own names field k of class ci -/
def mFL (own : String) (idx ci k : Nat) : Prop := ∃ (C : String) (T : u_T) (N : Nat), vwCl[ci]? = some (C, T, N) ∧ k < N ∧ Cond.fieldLink own idx C (T k).2.1 (T k).2.2.1 ∈ t0_ws ∧ (T k).1 = C
end
section
def t_Ba_init_0 : List (Nat × Instr × Nat) := [(0, (.aload_n 0, 1)), (1, (.invokespecial 3, 3)), (4, (.aload_n 0, 1)), (5, (.bipush 120, 2)), (7, (.newarray .int, 2)), (9, (.putfield 9, 3)), (12, (.aload_n 0, 1)), (13, (.bipush 120, 2)), (15, (.newarray .int, 2)), (17, (.putfield 15, 3)), (20, (.aload_n 0, 1)), (21, (.bipush 120, 2)), (23, (.newarray .int, 2)), (25, (.putfield 18, 3)), (28, (.aload_n 0, 1)), (29, (.bipush 120, 2)), (31, (.newarray .int, 2)), (33, (.putfield 21, 3)), (36, (.aload_n 0, 1)), (37, (.bipush 120, 2)), (39, (.newarray .int, 2)), (41, (.putfield 24, 3)), (44, (.return_, 1))]
theorem t_Ba_init_0_ok : ∀ q ∈ t_Ba_init_0, decode prog_2_method_1_code q.1 = .ok q.2 := by decide +kernel
def m_Ba_init : mM := (⟨"LinkTimes$Bargains", "<init>", "()V"⟩, prog_2_method_1_code, 1, none, t_Ba_init_0)
theorem ok_Ba_init : mOK m_Ba_init := ⟨by decide, tm 483 (by decide +kernel) rfl, t_Ba_init_0_ok, tm 122 (by decide +kernel) rfl, by decide, by decide⟩
theorem in_Ba_init : Cond.instanceMethod m_Ba_init.1 ∈ t0_ws := tm 482 (by decide +kernel) rfl
def t_Ba_collect_0 : List (Nat × Instr × Nat) := [(0, (.aload_n 0, 1)), (1, (.iconst 0, 1)), (2, (.putfield 27, 3)), (5, (.iload_n 2, 1)), (6, (.iload_n 3, 1)), (7, (.if_icmp .ne 13, 3)), (10, (.aload_n 0, 1)), (11, (.iload 4, 2)), (13, (.iconst 0, 1)), (14, (.iload 4, 2)), (16, (.invokevirtual 31, 3)), (19, (.return_, 1)), (20, (.iconst 0, 1)), (21, (.istore 6, 2)), (23, (.iload 6, 2)), (25, (.aload_n 1, 1)), (26, (.getfield 35, 3)), (29, (.if_icmp .ge 18, 3)), (32, (.aload_n 0, 1)), (33, (.getfield 21, 3)), (36, (.iload 6, 2)), (38, (.ldc 38, 2)), (40, (.iastore, 1)), (41, (.iinc 6 1, 3)), (44, (.goto (-21), 3)), (47, (.ldc 38, 2)), (49, (.istore 6, 2)), (51, (.iconst 1, 1)), (52, (.istore 7, 2)), (54, (.iconst 0, 1)), (55, (.istore 8, 2)), (57, (.iload 7, 2)), (59, (.ifCond .eq 63, 3)), (62, (.iload 8, 2)), (64, (.iload 5, 2)), (66, (.if_icmp .gt 56, 3)), (69, (.aload_n 0, 1)), (70, (.aload_n 1, 1)), (71, (.iload_n 3, 1)), (72, (.invokevirtual 39, 3)), (75, (.istore 7, 2)), (77, (.aload_n 0, 1)), (78, (.aload_n 1, 1)), (79, (.iload_n 2, 1)), (80, (.iload 4, 2)), (82, (.invokevirtual 43, 3)), (85, (.istore 9, 2)), (87, (.iload 9, 2)), (89, (.iload 6, 2)), (91, (.if_icmp .ge 25, 3))]
theorem t_Ba_collect_0_ok : ∀ q ∈ t_Ba_collect_0, decode prog_2_method_2_code q.1 = .ok q.2 := by decide +kernel
def t_Ba_collect_1 : List (Nat × Instr × Nat) := [(94, (.iload 9, 2)), (96, (.istore 6, 2)), (98, (.aload_n 0, 1)), (99, (.iload 9, 2)), (101, (.iload 8, 2)), (103, (.aload_n 0, 1)), (104, (.aload_n 1, 1)), (105, (.iload_n 2, 1)), (106, (.iload 4, 2)), (108, (.iload 9, 2)), (110, (.invokevirtual 47, 3)), (113, (.invokevirtual 31, 3)), (116, (.iinc 8 1, 3)), (119, (.goto (-62), 3)), (122, (.return_, 1))]
theorem t_Ba_collect_1_ok : ∀ q ∈ t_Ba_collect_1, decode prog_2_method_2_code q.1 = .ok q.2 := by decide +kernel
def m_Ba_collect : mM := (⟨"LinkTimes$Bargains", "collect", "(LLinkTimes$Net;IIII)V"⟩, prog_2_method_2_code, 10, none, t_Ba_collect_0 ++ t_Ba_collect_1)
theorem ok_Ba_collect : mOK m_Ba_collect := ⟨by decide, tm 910 (by decide +kernel) rfl, all_app (t_Ba_collect_0_ok) t_Ba_collect_1_ok, tm 122 (by decide +kernel) rfl, by decide, by decide⟩
theorem vm_Ba_collect : mVt m_Ba_collect := ⟨tm 908 (by decide +kernel) rfl, tm 909 (by decide +kernel) rfl⟩
def t_Ba_add_0 : List (Nat × Instr × Nat) := [(0, (.aload_n 0, 1)), (1, (.getfield 27, 3)), (4, (.bipush 120, 2)), (6, (.if_icmp .ge 43, 3)), (9, (.aload_n 0, 1)), (10, (.getfield 9, 3)), (13, (.aload_n 0, 1)), (14, (.getfield 27, 3)), (17, (.iload_n 1, 1)), (18, (.iastore, 1)), (19, (.aload_n 0, 1)), (20, (.getfield 15, 3)), (23, (.aload_n 0, 1)), (24, (.getfield 27, 3)), (27, (.iload_n 2, 1)), (28, (.iastore, 1)), (29, (.aload_n 0, 1)), (30, (.getfield 18, 3)), (33, (.aload_n 0, 1)), (34, (.getfield 27, 3)), (37, (.iload_n 3, 1)), (38, (.iastore, 1)), (39, (.aload_n 0, 1)), (40, (.dup, 1)), (41, (.getfield 27, 3)), (44, (.iconst 1, 1)), (45, (.iadd, 1)), (46, (.putfield 27, 3)), (49, (.return_, 1))]
theorem t_Ba_add_0_ok : ∀ q ∈ t_Ba_add_0, decode prog_2_method_3_code q.1 = .ok q.2 := by decide +kernel
def m_Ba_add : mM := (⟨"LinkTimes$Bargains", "add", "(III)V"⟩, prog_2_method_3_code, 4, none, t_Ba_add_0)
theorem ok_Ba_add : mOK m_Ba_add := ⟨by decide, tm 914 (by decide +kernel) rfl, t_Ba_add_0_ok, tm 122 (by decide +kernel) rfl, by decide, by decide⟩
theorem vm_Ba_add : mVt m_Ba_add := ⟨tm 913 (by decide +kernel) rfl, tm 36 (by decide +kernel) rfl⟩
def t_Ba_allowOneMore_0 : List (Nat × Instr × Nat) := [(0, (.aload_n 0, 1)), (1, (.getfield 21, 3)), (4, (.astore_n 3, 1)), (5, (.aload_n 0, 1)), (6, (.aload_n 0, 1)), (7, (.getfield 24, 3)), (10, (.putfield 21, 3)), (13, (.aload_n 0, 1)), (14, (.aload_n 3, 1)), (15, (.putfield 24, 3)), (18, (.iconst 0, 1)), (19, (.istore 4, 2)), (21, (.aload_n 1, 1)), (22, (.getfield 35, 3)), (25, (.iconst 1, 1)), (26, (.isub, 1)), (27, (.istore 5, 2)), (29, (.iload 5, 2)), (31, (.ifCond .lt 77, 3)), (34, (.aload_n 1, 1)), (35, (.getfield 51, 3)), (38, (.iload 5, 2)), (40, (.iaload, 1)), (41, (.istore 6, 2)), (43, (.aload_n 0, 1)), (44, (.getfield 21, 3)), (47, (.iload 6, 2)), (49, (.aload_n 1, 1)), (50, (.getfield 54, 3)), (53, (.iload 6, 2)), (55, (.baload, 1)), (56, (.ifCond .eq 14, 3)), (59, (.aload_n 0, 1)), (60, (.aload_n 1, 1)), (61, (.iload 6, 2)), (63, (.iload_n 2, 1)), (64, (.invokevirtual 58, 3)), (67, (.goto 5, 3)), (70, (.ldc 38, 2)), (72, (.iastore, 1)), (73, (.iload 4, 2)), (75, (.ifCond .ne 20, 3)), (78, (.aload_n 0, 1)), (79, (.getfield 21, 3)), (82, (.iload 6, 2)), (84, (.iaload, 1)), (85, (.aload_n 0, 1)), (86, (.getfield 24, 3)), (89, (.iload 6, 2)), (91, (.iaload, 1))]
theorem t_Ba_allowOneMore_0_ok : ∀ q ∈ t_Ba_allowOneMore_0, decode prog_2_method_4_code q.1 = .ok q.2 := by decide +kernel
def t_Ba_allowOneMore_1 : List (Nat × Instr × Nat) := [(92, (.if_icmp .eq 7, 3)), (95, (.iconst 1, 1)), (96, (.goto 4, 3)), (99, (.iconst 0, 1)), (100, (.istore 4, 2)), (102, (.iinc 5 (-1), 3)), (105, (.goto (-76), 3)), (108, (.iload 4, 2)), (110, (.ireturn, 1))]
theorem t_Ba_allowOneMore_1_ok : ∀ q ∈ t_Ba_allowOneMore_1, decode prog_2_method_4_code q.1 = .ok q.2 := by decide +kernel
def m_Ba_allowOneMore : mM := (⟨"LinkTimes$Bargains", "allowOneMore", "(LLinkTimes$Net;I)Z"⟩, prog_2_method_4_code, 7, (some .boolean), t_Ba_allowOneMore_0 ++ t_Ba_allowOneMore_1)
theorem ok_Ba_allowOneMore : mOK m_Ba_allowOneMore := ⟨by decide, tm 919 (by decide +kernel) rfl, all_app (t_Ba_allowOneMore_0_ok) t_Ba_allowOneMore_1_ok, tm 122 (by decide +kernel) rfl, by decide, by decide⟩
theorem vm_Ba_allowOneMore : mVt m_Ba_allowOneMore := ⟨tm 918 (by decide +kernel) rfl, tm 37 (by decide +kernel) rfl⟩
def t_Ba_soonestWith_0 : List (Nat × Instr × Nat) := [(0, (.aload_n 1, 1)), (1, (.getfield 61, 3)), (4, (.getfield 65, 3)), (7, (.iload_n 2, 1)), (8, (.iaload, 1)), (9, (.istore 4, 2)), (11, (.iload 4, 2)), (13, (.iload_n 3, 1)), (14, (.if_icmp .ne 10, 3)), (17, (.aload_n 1, 1)), (18, (.getfield 70, 3)), (21, (.iload_n 2, 1)), (22, (.iaload, 1)), (23, (.ireturn, 1)), (24, (.ldc 38, 2)), (26, (.istore 5, 2)), (28, (.aload_n 1, 1)), (29, (.getfield 73, 3)), (32, (.iload 4, 2)), (34, (.iaload, 1)), (35, (.istore 6, 2)), (37, (.iload 6, 2)), (39, (.aload_n 1, 1)), (40, (.getfield 73, 3)), (43, (.iload 4, 2)), (45, (.iconst 1, 1)), (46, (.iadd, 1)), (47, (.iaload, 1)), (48, (.if_icmp .ge 62, 3)), (51, (.aload_n 1, 1)), (52, (.getfield 76, 3)), (55, (.iload 6, 2)), (57, (.iaload, 1)), (58, (.istore 7, 2)), (60, (.aload_n 1, 1)), (61, (.iload_n 2, 1)), (62, (.iload 7, 2)), (64, (.invokevirtual 79, 3)), (67, (.ifCond .eq 37, 3)), (70, (.iload 5, 2)), (72, (.aload_n 1, 1)), (73, (.iload_n 2, 1)), (74, (.iload 7, 2)), (76, (.invokevirtual 83, 3)), (79, (.ifCond .eq 13, 3)), (82, (.aload_n 0, 1)), (83, (.getfield 24, 3)), (86, (.iload 7, 2)), (88, (.iaload, 1)), (89, (.goto 10, 3))]
theorem t_Ba_soonestWith_0_ok : ∀ q ∈ t_Ba_soonestWith_0, decode prog_2_method_5_code q.1 = .ok q.2 := by decide +kernel
def t_Ba_soonestWith_1 : List (Nat × Instr × Nat) := [(92, (.aload_n 0, 1)), (93, (.getfield 21, 3)), (96, (.iload 7, 2)), (98, (.iaload, 1)), (99, (.invokestatic 86, 3)), (102, (.istore 5, 2)), (104, (.iinc 6 1, 3)), (107, (.goto (-70), 3)), (110, (.iload 5, 2)), (112, (.ireturn, 1))]
theorem t_Ba_soonestWith_1_ok : ∀ q ∈ t_Ba_soonestWith_1, decode prog_2_method_5_code q.1 = .ok q.2 := by decide +kernel
def m_Ba_soonestWith : mM := (⟨"LinkTimes$Bargains", "soonestWith", "(LLinkTimes$Net;II)I"⟩, prog_2_method_5_code, 8, (some .int), t_Ba_soonestWith_0 ++ t_Ba_soonestWith_1)
theorem ok_Ba_soonestWith : mOK m_Ba_soonestWith := ⟨by decide, tm 923 (by decide +kernel) rfl, all_app (t_Ba_soonestWith_0_ok) t_Ba_soonestWith_1_ok, tm 122 (by decide +kernel) rfl, by decide, by decide⟩
theorem vm_Ba_soonestWith : mVt m_Ba_soonestWith := ⟨tm 922 (by decide +kernel) rfl, tm 38 (by decide +kernel) rfl⟩
def t_Ba_soonestFrom_0 : List (Nat × Instr × Nat) := [(0, (.ldc 38, 2)), (2, (.istore 4, 2)), (4, (.aload_n 1, 1)), (5, (.getfield 73, 3)), (8, (.iload_n 2, 1)), (9, (.iaload, 1)), (10, (.istore 5, 2)), (12, (.iload 5, 2)), (14, (.aload_n 1, 1)), (15, (.getfield 73, 3)), (18, (.iload_n 2, 1)), (19, (.iconst 1, 1)), (20, (.iadd, 1)), (21, (.iaload, 1)), (22, (.if_icmp .ge 43, 3)), (25, (.aload_n 1, 1)), (26, (.getfield 76, 3)), (29, (.iload 5, 2)), (31, (.iaload, 1)), (32, (.istore 6, 2)), (34, (.aload_n 1, 1)), (35, (.getfield 92, 3)), (38, (.iload 6, 2)), (40, (.iaload, 1)), (41, (.iload_n 3, 1)), (42, (.if_icmp .lt 17, 3)), (45, (.iload 4, 2)), (47, (.aload_n 0, 1)), (48, (.getfield 21, 3)), (51, (.iload 6, 2)), (53, (.iaload, 1)), (54, (.invokestatic 86, 3)), (57, (.istore 4, 2)), (59, (.iinc 5 1, 3)), (62, (.goto (-50), 3)), (65, (.iload 4, 2)), (67, (.ireturn, 1))]
theorem t_Ba_soonestFrom_0_ok : ∀ q ∈ t_Ba_soonestFrom_0, decode prog_2_method_6_code q.1 = .ok q.2 := by decide +kernel
def m_Ba_soonestFrom : mM := (⟨"LinkTimes$Bargains", "soonestFrom", "(LLinkTimes$Net;II)I"⟩, prog_2_method_6_code, 7, (some .int), t_Ba_soonestFrom_0)
theorem ok_Ba_soonestFrom : mOK m_Ba_soonestFrom := ⟨by decide, tm 930 (by decide +kernel) rfl, t_Ba_soonestFrom_0_ok, tm 122 (by decide +kernel) rfl, by decide, by decide⟩
theorem vm_Ba_soonestFrom : mVt m_Ba_soonestFrom := ⟨tm 929 (by decide +kernel) rfl, tm 39 (by decide +kernel) rfl⟩
def t_Ba_latestStart_0 : List (Nat × Instr × Nat) := [(0, (.iload_n 3, 1)), (1, (.istore 5, 2)), (3, (.aload_n 1, 1)), (4, (.getfield 73, 3)), (7, (.iload_n 2, 1)), (8, (.iaload, 1)), (9, (.istore 6, 2)), (11, (.iload 6, 2)), (13, (.aload_n 1, 1)), (14, (.getfield 73, 3)), (17, (.iload_n 2, 1)), (18, (.iconst 1, 1)), (19, (.iadd, 1)), (20, (.iaload, 1)), (21, (.if_icmp .ge 44, 3)), (24, (.aload_n 1, 1)), (25, (.getfield 76, 3)), (28, (.iload 6, 2)), (30, (.iaload, 1)), (31, (.istore 7, 2)), (33, (.aload_n 0, 1)), (34, (.getfield 21, 3)), (37, (.iload 7, 2)), (39, (.iaload, 1)), (40, (.iload 4, 2)), (42, (.if_icmp .ne 17, 3)), (45, (.iload 5, 2)), (47, (.aload_n 1, 1)), (48, (.getfield 92, 3)), (51, (.iload 7, 2)), (53, (.iaload, 1)), (54, (.invokestatic 95, 3)), (57, (.istore 5, 2)), (59, (.iinc 6 1, 3)), (62, (.goto (-51), 3)), (65, (.iload 5, 2)), (67, (.ireturn, 1))]
theorem t_Ba_latestStart_0_ok : ∀ q ∈ t_Ba_latestStart_0, decode prog_2_method_7_code q.1 = .ok q.2 := by decide +kernel
def m_Ba_latestStart : mM := (⟨"LinkTimes$Bargains", "latestStart", "(LLinkTimes$Net;III)I"⟩, prog_2_method_7_code, 8, (some .int), t_Ba_latestStart_0)
theorem ok_Ba_latestStart : mOK m_Ba_latestStart := ⟨by decide, tm 934 (by decide +kernel) rfl, t_Ba_latestStart_0_ok, tm 122 (by decide +kernel) rfl, by decide, by decide⟩
theorem vm_Ba_latestStart : mVt m_Ba_latestStart := ⟨tm 933 (by decide +kernel) rfl, tm 40 (by decide +kernel) rfl⟩
def t_De_init_0 : List (Nat × Instr × Nat) := [(0, (.aload_n 0, 1)), (1, (.invokespecial 3, 3)), (4, (.aload_n 0, 1)), (5, (.bipush 10, 2)), (7, (.newarray .int, 2)), (9, (.putfield 9, 3)), (12, (.aload_n 0, 1)), (13, (.bipush 10, 2)), (15, (.newarray .int, 2)), (17, (.putfield 15, 3)), (20, (.aload_n 0, 1)), (21, (.bipush 120, 2)), (23, (.newarray .int, 2)), (25, (.putfield 18, 3)), (28, (.aload_n 0, 1)), (29, (.bipush 120, 2)), (31, (.newarray .int, 2)), (33, (.putfield 21, 3)), (36, (.aload_n 0, 1)), (37, (.bipush 120, 2)), (39, (.newarray .int, 2)), (41, (.putfield 24, 3)), (44, (.aload_n 0, 1)), (45, (.bipush 120, 2)), (47, (.newarray .int, 2)), (49, (.putfield 27, 3)), (52, (.aload_n 0, 1)), (53, (.bipush 120, 2)), (55, (.newarray .int, 2)), (57, (.putfield 30, 3)), (60, (.aload_n 0, 1)), (61, (.bipush 120, 2)), (63, (.newarray .int, 2)), (65, (.putfield 33, 3)), (68, (.aload_n 0, 1)), (69, (.bipush 120, 2)), (71, (.newarray .int, 2)), (73, (.putfield 36, 3)), (76, (.aload_n 0, 1)), (77, (.bipush 120, 2)), (79, (.newarray .boolean, 2)), (81, (.putfield 39, 3)), (84, (.return_, 1))]
theorem t_De_init_0_ok : ∀ q ∈ t_De_init_0, decode prog_3_method_1_code q.1 = .ok q.2 := by decide +kernel
def m_De_init : mM := (⟨"LinkTimes$Desk", "<init>", "()V"⟩, prog_3_method_1_code, 1, none, t_De_init_0)
theorem ok_De_init : mOK m_De_init := ⟨by decide, tm 145 (by decide +kernel) rfl, t_De_init_0_ok, tm 114 (by decide +kernel) rfl, by decide, by decide⟩
theorem in_De_init : Cond.instanceMethod m_De_init.1 ∈ t0_ws := tm 144 (by decide +kernel) rfl
def t_De_clear_0 : List (Nat × Instr × Nat) := [(0, (.aload_n 0, 1)), (1, (.iconst 0, 1)), (2, (.putfield 43, 3)), (5, (.aload_n 0, 1)), (6, (.iconst 0, 1)), (7, (.putfield 47, 3)), (10, (.aload_n 0, 1)), (11, (.iconst 0, 1)), (12, (.putfield 50, 3)), (15, (.aload_n 0, 1)), (16, (.iconst 0, 1)), (17, (.putfield 53, 3)), (20, (.aload_n 0, 1)), (21, (.iconst 0, 1)), (22, (.putfield 56, 3)), (25, (.return_, 1))]
theorem t_De_clear_0_ok : ∀ q ∈ t_De_clear_0, decode prog_3_method_2_code q.1 = .ok q.2 := by decide +kernel
def m_De_clear : mM := (⟨"LinkTimes$Desk", "clear", "()V"⟩, prog_3_method_2_code, 1, none, t_De_clear_0)
theorem ok_De_clear : mOK m_De_clear := ⟨by decide, tm 580 (by decide +kernel) rfl, t_De_clear_0_ok, tm 114 (by decide +kernel) rfl, by decide, by decide⟩
theorem vm_De_clear : mVt m_De_clear := ⟨tm 578 (by decide +kernel) rfl, tm 579 (by decide +kernel) rfl⟩
def t_De_isTold_0 : List (Nat × Instr × Nat) := [(0, (.aload_n 0, 1)), (1, (.getfield 47, 3)), (4, (.ifCond .le 7, 3)), (7, (.iconst 1, 1)), (8, (.goto 4, 3)), (11, (.iconst 0, 1)), (12, (.ireturn, 1))]
theorem t_De_isTold_0_ok : ∀ q ∈ t_De_isTold_0, decode prog_3_method_3_code q.1 = .ok q.2 := by decide +kernel
def m_De_isTold : mM := (⟨"LinkTimes$Desk", "isTold", "()Z"⟩, prog_3_method_3_code, 1, (some .boolean), t_De_isTold_0)
theorem ok_De_isTold : mOK m_De_isTold := ⟨by decide, tm 732 (by decide +kernel) rfl, t_De_isTold_0_ok, tm 114 (by decide +kernel) rfl, by decide, by decide⟩
theorem vm_De_isTold : mVt m_De_isTold := ⟨tm 730 (by decide +kernel) rfl, tm 731 (by decide +kernel) rfl⟩
def t_De_hasSpot_0 : List (Nat × Instr × Nat) := [(0, (.iload_n 1, 1)), (1, (.ifCond .lt 15, 3)), (4, (.iload_n 1, 1)), (5, (.aload_n 0, 1)), (6, (.getfield 47, 3)), (9, (.if_icmp .ge 7, 3)), (12, (.iconst 1, 1)), (13, (.goto 4, 3)), (16, (.iconst 0, 1)), (17, (.ireturn, 1))]
theorem t_De_hasSpot_0_ok : ∀ q ∈ t_De_hasSpot_0, decode prog_3_method_4_code q.1 = .ok q.2 := by decide +kernel
def m_De_hasSpot : mM := (⟨"LinkTimes$Desk", "hasSpot", "(I)Z"⟩, prog_3_method_4_code, 2, (some .boolean), t_De_hasSpot_0)
theorem ok_De_hasSpot : mOK m_De_hasSpot := ⟨by decide, tm 765 (by decide +kernel) rfl, t_De_hasSpot_0_ok, tm 114 (by decide +kernel) rfl, by decide, by decide⟩
theorem vm_De_hasSpot : mVt m_De_hasSpot := ⟨tm 763 (by decide +kernel) rfl, tm 764 (by decide +kernel) rfl⟩
def t_De_hasLine_0 : List (Nat × Instr × Nat) := [(0, (.iload_n 1, 1)), (1, (.ifCond .lt 15, 3)), (4, (.iload_n 1, 1)), (5, (.aload_n 0, 1)), (6, (.getfield 50, 3)), (9, (.if_icmp .ge 7, 3)), (12, (.iconst 1, 1)), (13, (.goto 4, 3)), (16, (.iconst 0, 1)), (17, (.ireturn, 1))]
theorem t_De_hasLine_0_ok : ∀ q ∈ t_De_hasLine_0, decode prog_3_method_5_code q.1 = .ok q.2 := by decide +kernel
def m_De_hasLine : mM := (⟨"LinkTimes$Desk", "hasLine", "(I)Z"⟩, prog_3_method_5_code, 2, (some .boolean), t_De_hasLine_0)
theorem ok_De_hasLine : mOK m_De_hasLine := ⟨by decide, tm 1147 (by decide +kernel) rfl, t_De_hasLine_0_ok, tm 114 (by decide +kernel) rfl, by decide, by decide⟩
theorem vm_De_hasLine : mVt m_De_hasLine := ⟨tm 1145 (by decide +kernel) rfl, tm 1146 (by decide +kernel) rfl⟩
def t_De_hasDeparture_0 : List (Nat × Instr × Nat) := [(0, (.iload_n 1, 1)), (1, (.ifCond .lt 15, 3)), (4, (.iload_n 1, 1)), (5, (.aload_n 0, 1)), (6, (.getfield 56, 3)), (9, (.if_icmp .ge 7, 3)), (12, (.iconst 1, 1)), (13, (.goto 4, 3)), (16, (.iconst 0, 1)), (17, (.ireturn, 1))]
theorem t_De_hasDeparture_0_ok : ∀ q ∈ t_De_hasDeparture_0, decode prog_3_method_6_code q.1 = .ok q.2 := by decide +kernel
def m_De_hasDeparture : mM := (⟨"LinkTimes$Desk", "hasDeparture", "(I)Z"⟩, prog_3_method_6_code, 2, (some .boolean), t_De_hasDeparture_0)
theorem ok_De_hasDeparture : mOK m_De_hasDeparture := ⟨by decide, tm 781 (by decide +kernel) rfl, t_De_hasDeparture_0_ok, tm 114 (by decide +kernel) rfl, by decide, by decide⟩
theorem vm_De_hasDeparture : mVt m_De_hasDeparture := ⟨tm 779 (by decide +kernel) rfl, tm 780 (by decide +kernel) rfl⟩
def t_De_addSpot_0 : List (Nat × Instr × Nat) := [(0, (.aload_n 0, 1)), (1, (.getfield 47, 3)), (4, (.bipush 10, 2)), (6, (.if_icmp .ge 33, 3)), (9, (.aload_n 0, 1)), (10, (.getfield 9, 3)), (13, (.aload_n 0, 1)), (14, (.getfield 47, 3)), (17, (.iload_n 1, 1)), (18, (.iastore, 1)), (19, (.aload_n 0, 1)), (20, (.getfield 15, 3)), (23, (.aload_n 0, 1)), (24, (.getfield 47, 3)), (27, (.iload_n 2, 1)), (28, (.iastore, 1)), (29, (.aload_n 0, 1)), (30, (.dup, 1)), (31, (.getfield 47, 3)), (34, (.iconst 1, 1)), (35, (.iadd, 1)), (36, (.putfield 47, 3)), (39, (.return_, 1))]
theorem t_De_addSpot_0_ok : ∀ q ∈ t_De_addSpot_0, decode prog_3_method_7_code q.1 = .ok q.2 := by decide +kernel
def m_De_addSpot : mM := (⟨"LinkTimes$Desk", "addSpot", "(II)V"⟩, prog_3_method_7_code, 3, none, t_De_addSpot_0)
theorem ok_De_addSpot : mOK m_De_addSpot := ⟨by decide, tm 701 (by decide +kernel) rfl, t_De_addSpot_0_ok, tm 114 (by decide +kernel) rfl, by decide, by decide⟩
theorem vm_De_addSpot : mVt m_De_addSpot := ⟨tm 699 (by decide +kernel) rfl, tm 700 (by decide +kernel) rfl⟩
def t_De_addDeparture_0 : List (Nat × Instr × Nat) := [(0, (.aload_n 0, 1)), (1, (.getfield 56, 3)), (4, (.bipush 120, 2)), (6, (.if_icmp .ge 96, 3)), (9, (.aload_n 0, 1)), (10, (.getfield 18, 3)), (13, (.aload_n 0, 1)), (14, (.getfield 56, 3)), (17, (.iload_n 1, 1)), (18, (.iastore, 1)), (19, (.aload_n 0, 1)), (20, (.getfield 21, 3)), (23, (.aload_n 0, 1)), (24, (.getfield 56, 3)), (27, (.iload_n 2, 1)), (28, (.iastore, 1)), (29, (.aload_n 0, 1)), (30, (.getfield 24, 3)), (33, (.aload_n 0, 1)), (34, (.getfield 56, 3)), (37, (.iload_n 3, 1)), (38, (.iastore, 1)), (39, (.aload_n 0, 1)), (40, (.getfield 27, 3)), (43, (.aload_n 0, 1)), (44, (.getfield 56, 3)), (47, (.iload 4, 2)), (49, (.iastore, 1)), (50, (.aload_n 0, 1)), (51, (.getfield 30, 3)), (54, (.aload_n 0, 1)), (55, (.getfield 56, 3)), (58, (.iload 5, 2)), (60, (.iastore, 1)), (61, (.aload_n 0, 1)), (62, (.getfield 33, 3)), (65, (.aload_n 0, 1)), (66, (.getfield 56, 3)), (69, (.iconst 0, 1)), (70, (.iastore, 1)), (71, (.aload_n 0, 1)), (72, (.getfield 36, 3)), (75, (.aload_n 0, 1)), (76, (.getfield 56, 3)), (79, (.iload 6, 2)), (81, (.iastore, 1)), (82, (.aload_n 0, 1)), (83, (.getfield 39, 3)), (86, (.aload_n 0, 1)), (87, (.getfield 56, 3))]
theorem t_De_addDeparture_0_ok : ∀ q ∈ t_De_addDeparture_0, decode prog_3_method_8_code q.1 = .ok q.2 := by decide +kernel
def t_De_addDeparture_1 : List (Nat × Instr × Nat) := [(90, (.iconst 0, 1)), (91, (.bastore, 1)), (92, (.aload_n 0, 1)), (93, (.dup, 1)), (94, (.getfield 56, 3)), (97, (.iconst 1, 1)), (98, (.iadd, 1)), (99, (.putfield 56, 3)), (102, (.return_, 1))]
theorem t_De_addDeparture_1_ok : ∀ q ∈ t_De_addDeparture_1, decode prog_3_method_8_code q.1 = .ok q.2 := by decide +kernel
def m_De_addDeparture : mM := (⟨"LinkTimes$Desk", "addDeparture", "(IIIIII)V"⟩, prog_3_method_8_code, 7, none, t_De_addDeparture_0 ++ t_De_addDeparture_1)
theorem ok_De_addDeparture : mOK m_De_addDeparture := ⟨by decide, tm 728 (by decide +kernel) rfl, all_app (t_De_addDeparture_0_ok) t_De_addDeparture_1_ok, tm 114 (by decide +kernel) rfl, by decide, by decide⟩
theorem vm_De_addDeparture : mVt m_De_addDeparture := ⟨tm 726 (by decide +kernel) rfl, tm 727 (by decide +kernel) rfl⟩
def t_De_runningCount_0 : List (Nat × Instr × Nat) := [(0, (.iconst 0, 1)), (1, (.istore_n 1, 1)), (2, (.iconst 0, 1)), (3, (.istore_n 2, 1)), (4, (.iload_n 2, 1)), (5, (.aload_n 0, 1)), (6, (.getfield 56, 3)), (9, (.if_icmp .ge 26, 3)), (12, (.iload_n 1, 1)), (13, (.aload_n 0, 1)), (14, (.getfield 39, 3)), (17, (.iload_n 2, 1)), (18, (.baload, 1)), (19, (.ifCond .eq 7, 3)), (22, (.iconst 0, 1)), (23, (.goto 4, 3)), (26, (.iconst 1, 1)), (27, (.iadd, 1)), (28, (.istore_n 1, 1)), (29, (.iinc 2 1, 3)), (32, (.goto (-28), 3)), (35, (.iload_n 1, 1)), (36, (.ireturn, 1))]
theorem t_De_runningCount_0_ok : ∀ q ∈ t_De_runningCount_0, decode prog_3_method_9_code q.1 = .ok q.2 := by decide +kernel
def m_De_runningCount : mM := (⟨"LinkTimes$Desk", "runningCount", "()I"⟩, prog_3_method_9_code, 3, (some .int), t_De_runningCount_0)
theorem ok_De_runningCount : mOK m_De_runningCount := ⟨by decide, tm 757 (by decide +kernel) rfl, t_De_runningCount_0_ok, tm 114 (by decide +kernel) rfl, by decide, by decide⟩
theorem vm_De_runningCount : mVt m_De_runningCount := ⟨tm 755 (by decide +kernel) rfl, tm 756 (by decide +kernel) rfl⟩
def t_De_lateCount_0 : List (Nat × Instr × Nat) := [(0, (.iconst 0, 1)), (1, (.istore_n 1, 1)), (2, (.iconst 0, 1)), (3, (.istore_n 2, 1)), (4, (.iload_n 2, 1)), (5, (.aload_n 0, 1)), (6, (.getfield 56, 3)), (9, (.if_icmp .ge 26, 3)), (12, (.iload_n 1, 1)), (13, (.aload_n 0, 1)), (14, (.getfield 33, 3)), (17, (.iload_n 2, 1)), (18, (.iaload, 1)), (19, (.ifCond .le 7, 3)), (22, (.iconst 1, 1)), (23, (.goto 4, 3)), (26, (.iconst 0, 1)), (27, (.iadd, 1)), (28, (.istore_n 1, 1)), (29, (.iinc 2 1, 3)), (32, (.goto (-28), 3)), (35, (.iload_n 1, 1)), (36, (.ireturn, 1))]
theorem t_De_lateCount_0_ok : ∀ q ∈ t_De_lateCount_0, decode prog_3_method_10_code q.1 = .ok q.2 := by decide +kernel
def m_De_lateCount : mM := (⟨"LinkTimes$Desk", "lateCount", "()I"⟩, prog_3_method_10_code, 3, (some .int), t_De_lateCount_0)
theorem ok_De_lateCount : mOK m_De_lateCount := ⟨by decide, tm 1164 (by decide +kernel) rfl, t_De_lateCount_0_ok, tm 114 (by decide +kernel) rfl, by decide, by decide⟩
theorem vm_De_lateCount : mVt m_De_lateCount := ⟨tm 1162 (by decide +kernel) rfl, tm 1163 (by decide +kernel) rfl⟩
def t_De_countFrom_0 : List (Nat × Instr × Nat) := [(0, (.iconst 0, 1)), (1, (.istore_n 2, 1)), (2, (.iconst 0, 1)), (3, (.istore_n 3, 1)), (4, (.iload_n 3, 1)), (5, (.aload_n 0, 1)), (6, (.getfield 56, 3)), (9, (.if_icmp .ge 36, 3)), (12, (.iload_n 2, 1)), (13, (.aload_n 0, 1)), (14, (.getfield 39, 3)), (17, (.iload_n 3, 1)), (18, (.baload, 1)), (19, (.ifCond .ne 17, 3)), (22, (.aload_n 0, 1)), (23, (.getfield 21, 3)), (26, (.iload_n 3, 1)), (27, (.iaload, 1)), (28, (.iload_n 1, 1)), (29, (.if_icmp .ne 7, 3)), (32, (.iconst 1, 1)), (33, (.goto 4, 3)), (36, (.iconst 0, 1)), (37, (.iadd, 1)), (38, (.istore_n 2, 1)), (39, (.iinc 3 1, 3)), (42, (.goto (-38), 3)), (45, (.iload_n 2, 1)), (46, (.ireturn, 1))]
theorem t_De_countFrom_0_ok : ∀ q ∈ t_De_countFrom_0, decode prog_3_method_11_code q.1 = .ok q.2 := by decide +kernel
def m_De_countFrom : mM := (⟨"LinkTimes$Desk", "countFrom", "(I)I"⟩, prog_3_method_11_code, 4, (some .int), t_De_countFrom_0)
theorem ok_De_countFrom : mOK m_De_countFrom := ⟨by decide, tm 769 (by decide +kernel) rfl, t_De_countFrom_0_ok, tm 114 (by decide +kernel) rfl, by decide, by decide⟩
theorem vm_De_countFrom : mVt m_De_countFrom := ⟨tm 767 (by decide +kernel) rfl, tm 768 (by decide +kernel) rfl⟩
def t_De_countTo_0 : List (Nat × Instr × Nat) := [(0, (.iconst 0, 1)), (1, (.istore_n 2, 1)), (2, (.iconst 0, 1)), (3, (.istore_n 3, 1)), (4, (.iload_n 3, 1)), (5, (.aload_n 0, 1)), (6, (.getfield 56, 3)), (9, (.if_icmp .ge 36, 3)), (12, (.iload_n 2, 1)), (13, (.aload_n 0, 1)), (14, (.getfield 39, 3)), (17, (.iload_n 3, 1)), (18, (.baload, 1)), (19, (.ifCond .ne 17, 3)), (22, (.aload_n 0, 1)), (23, (.getfield 24, 3)), (26, (.iload_n 3, 1)), (27, (.iaload, 1)), (28, (.iload_n 1, 1)), (29, (.if_icmp .ne 7, 3)), (32, (.iconst 1, 1)), (33, (.goto 4, 3)), (36, (.iconst 0, 1)), (37, (.iadd, 1)), (38, (.istore_n 2, 1)), (39, (.iinc 3 1, 3)), (42, (.goto (-38), 3)), (45, (.iload_n 2, 1)), (46, (.ireturn, 1))]
theorem t_De_countTo_0_ok : ∀ q ∈ t_De_countTo_0, decode prog_3_method_12_code q.1 = .ok q.2 := by decide +kernel
def m_De_countTo : mM := (⟨"LinkTimes$Desk", "countTo", "(I)I"⟩, prog_3_method_12_code, 4, (some .int), t_De_countTo_0)
theorem ok_De_countTo : mOK m_De_countTo := ⟨by decide, tm 773 (by decide +kernel) rfl, t_De_countTo_0_ok, tm 114 (by decide +kernel) rfl, by decide, by decide⟩
theorem vm_De_countTo : mVt m_De_countTo := ⟨tm 771 (by decide +kernel) rfl, tm 772 (by decide +kernel) rfl⟩
def t_Fl_init_0 : List (Nat × Instr × Nat) := [(0, (.aload_n 0, 1)), (1, (.invokespecial 3, 3)), (4, (.aload_n 0, 1)), (5, (.bipush 10, 2)), (7, (.newarray .int, 2)), (9, (.putfield 9, 3)), (12, (.aload_n 0, 1)), (13, (.bipush 120, 2)), (15, (.newarray .boolean, 2)), (17, (.putfield 15, 3)), (20, (.return_, 1))]
theorem t_Fl_init_0_ok : ∀ q ∈ t_Fl_init_0, decode prog_4_method_1_code q.1 = .ok q.2 := by decide +kernel
def m_Fl_init : mM := (⟨"LinkTimes$Flood", "<init>", "()V"⟩, prog_4_method_1_code, 1, none, t_Fl_init_0)
theorem ok_Fl_init : mOK m_Fl_init := ⟨by decide, tm 446 (by decide +kernel) rfl, t_Fl_init_0_ok, tm 120 (by decide +kernel) rfl, by decide, by decide⟩
theorem in_Fl_init : Cond.instanceMethod m_Fl_init.1 ∈ t0_ws := tm 445 (by decide +kernel) rfl
def t_Fl_spread_0 : List (Nat × Instr × Nat) := [(0, (.iconst 0, 1)), (1, (.istore 4, 2)), (3, (.iload 4, 2)), (5, (.aload_n 1, 1)), (6, (.getfield 19, 3)), (9, (.getfield 25, 3)), (12, (.if_icmp .ge 18, 3)), (15, (.aload_n 0, 1)), (16, (.getfield 9, 3)), (19, (.iload 4, 2)), (21, (.ldc 31, 2)), (23, (.iastore, 1)), (24, (.iinc 4 1, 3)), (27, (.goto (-24), 3)), (30, (.iconst 0, 1)), (31, (.istore 4, 2)), (33, (.iload 4, 2)), (35, (.aload_n 1, 1)), (36, (.getfield 32, 3)), (39, (.if_icmp .ge 46, 3)), (42, (.aload_n 0, 1)), (43, (.getfield 15, 3)), (46, (.iload 4, 2)), (48, (.aload_n 1, 1)), (49, (.getfield 19, 3)), (52, (.getfield 35, 3)), (55, (.iload 4, 2)), (57, (.iaload, 1)), (58, (.iload_n 2, 1)), (59, (.if_icmp .ne 18, 3)), (62, (.aload_n 1, 1)), (63, (.getfield 38, 3)), (66, (.iload 4, 2)), (68, (.iaload, 1)), (69, (.iload_n 3, 1)), (70, (.if_icmp .lt 7, 3)), (73, (.iconst 1, 1)), (74, (.goto 4, 3)), (77, (.iconst 0, 1)), (78, (.bastore, 1)), (79, (.iinc 4 1, 3)), (82, (.goto (-49), 3)), (85, (.iconst 0, 1)), (86, (.istore 4, 2)), (88, (.iload 4, 2)), (90, (.aload_n 1, 1)), (91, (.getfield 32, 3)), (94, (.if_icmp .ge 45, 3)), (97, (.aload_n 1, 1)), (98, (.getfield 41, 3))]
theorem t_Fl_spread_0_ok : ∀ q ∈ t_Fl_spread_0, decode prog_4_method_2_code q.1 = .ok q.2 := by decide +kernel
def t_Fl_spread_1 : List (Nat × Instr × Nat) := [(101, (.iload 4, 2)), (103, (.iaload, 1)), (104, (.istore 5, 2)), (106, (.aload_n 1, 1)), (107, (.getfield 44, 3)), (110, (.iload 5, 2)), (112, (.baload, 1)), (113, (.ifCond .eq 20, 3)), (116, (.aload_n 0, 1)), (117, (.getfield 15, 3)), (120, (.iload 5, 2)), (122, (.baload, 1)), (123, (.ifCond .eq 10, 3)), (126, (.aload_n 0, 1)), (127, (.aload_n 1, 1)), (128, (.iload 5, 2)), (130, (.invokevirtual 47, 3)), (133, (.iinc 4 1, 3)), (136, (.goto (-48), 3)), (139, (.aload_n 0, 1)), (140, (.getfield 9, 3)), (143, (.iload_n 2, 1)), (144, (.iload_n 3, 1)), (145, (.iastore, 1)), (146, (.return_, 1))]
theorem t_Fl_spread_1_ok : ∀ q ∈ t_Fl_spread_1, decode prog_4_method_2_code q.1 = .ok q.2 := by decide +kernel
def m_Fl_spread : mM := (⟨"LinkTimes$Flood", "spread", "(LLinkTimes$Net;II)V"⟩, prog_4_method_2_code, 6, none, t_Fl_spread_0 ++ t_Fl_spread_1)
theorem ok_Fl_spread : mOK m_Fl_spread := ⟨by decide, tm 974 (by decide +kernel) rfl, all_app (t_Fl_spread_0_ok) t_Fl_spread_1_ok, tm 120 (by decide +kernel) rfl, by decide, by decide⟩
theorem vm_Fl_spread : mVt m_Fl_spread := ⟨tm 972 (by decide +kernel) rfl, tm 973 (by decide +kernel) rfl⟩
def t_Fl_rideOn_0 : List (Nat × Instr × Nat) := [(0, (.aload_n 1, 1)), (1, (.getfield 19, 3)), (4, (.getfield 51, 3)), (7, (.iload_n 2, 1)), (8, (.iaload, 1)), (9, (.istore_n 3, 1)), (10, (.aload_n 0, 1)), (11, (.getfield 9, 3)), (14, (.iload_n 3, 1)), (15, (.aload_n 0, 1)), (16, (.getfield 9, 3)), (19, (.iload_n 3, 1)), (20, (.iaload, 1)), (21, (.aload_n 1, 1)), (22, (.getfield 54, 3)), (25, (.iload_n 2, 1)), (26, (.iaload, 1)), (27, (.invokestatic 57, 3)), (30, (.iastore, 1)), (31, (.aload_n 1, 1)), (32, (.getfield 63, 3)), (35, (.iload_n 3, 1)), (36, (.iaload, 1)), (37, (.istore 4, 2)), (39, (.iload 4, 2)), (41, (.aload_n 1, 1)), (42, (.getfield 63, 3)), (45, (.iload_n 3, 1)), (46, (.iconst 1, 1)), (47, (.iadd, 1)), (48, (.iaload, 1)), (49, (.if_icmp .ge 36, 3)), (52, (.aload_n 1, 1)), (53, (.getfield 66, 3)), (56, (.iload 4, 2)), (58, (.iaload, 1)), (59, (.istore 5, 2)), (61, (.aload_n 1, 1)), (62, (.iload_n 2, 1)), (63, (.iload 5, 2)), (65, (.invokevirtual 69, 3)), (68, (.ifCond .eq 11, 3)), (71, (.aload_n 0, 1)), (72, (.getfield 15, 3)), (75, (.iload 5, 2)), (77, (.iconst 1, 1)), (78, (.bastore, 1)), (79, (.iinc 4 1, 3)), (82, (.goto (-43), 3)), (85, (.return_, 1))]
theorem t_Fl_rideOn_0_ok : ∀ q ∈ t_Fl_rideOn_0, decode prog_4_method_3_code q.1 = .ok q.2 := by decide +kernel
def m_Fl_rideOn : mM := (⟨"LinkTimes$Flood", "rideOn", "(LLinkTimes$Net;I)V"⟩, prog_4_method_3_code, 6, none, t_Fl_rideOn_0)
theorem ok_Fl_rideOn : mOK m_Fl_rideOn := ⟨by decide, tm 979 (by decide +kernel) rfl, t_Fl_rideOn_0_ok, tm 120 (by decide +kernel) rfl, by decide, by decide⟩
theorem vm_Fl_rideOn : mVt m_Fl_rideOn := ⟨tm 978 (by decide +kernel) rfl, tm 43 (by decide +kernel) rfl⟩
def t_Lo_init_0 : List (Nat × Instr × Nat) := [(0, (.aload_n 0, 1)), (1, (.invokespecial 1, 3)), (4, (.aload_n 0, 1)), (5, (.bipush 10, 2)), (7, (.newarray .int, 2)), (9, (.putfield 9, 3)), (12, (.aload_n 0, 1)), (13, (.bipush 10, 2)), (15, (.newarray .int, 2)), (17, (.putfield 13, 3)), (20, (.aload_n 0, 1)), (21, (.bipush 10, 2)), (23, (.newarray .int, 2)), (25, (.putfield 16, 3)), (28, (.return_, 1))]
theorem t_Lo_init_0_ok : ∀ q ∈ t_Lo_init_0, decode prog_5_method_1_code q.1 = .ok q.2 := by decide +kernel
def m_Lo_init : mM := (⟨"LinkTimes$Log", "<init>", "()V"⟩, prog_5_method_1_code, 1, none, t_Lo_init_0)
theorem ok_Lo_init : mOK m_Lo_init := ⟨by decide, tm 294 (by decide +kernel) rfl, t_Lo_init_0_ok, tm 116 (by decide +kernel) rfl, by decide, by decide⟩
theorem in_Lo_init : Cond.instanceMethod m_Lo_init.1 ∈ t0_ws := tm 293 (by decide +kernel) rfl
def t_Lo_clear_0 : List (Nat × Instr × Nat) := [(0, (.aload_n 0, 1)), (1, (.iconst 0, 1)), (2, (.putfield 19, 3)), (5, (.return_, 1))]
theorem t_Lo_clear_0_ok : ∀ q ∈ t_Lo_clear_0, decode prog_5_method_2_code q.1 = .ok q.2 := by decide +kernel
def m_Lo_clear : mM := (⟨"LinkTimes$Log", "clear", "()V"⟩, prog_5_method_2_code, 1, none, t_Lo_clear_0)
theorem ok_Lo_clear : mOK m_Lo_clear := ⟨by decide, tm 736 (by decide +kernel) rfl, t_Lo_clear_0_ok, tm 116 (by decide +kernel) rfl, by decide, by decide⟩
theorem vm_Lo_clear : mVt m_Lo_clear := ⟨tm 734 (by decide +kernel) rfl, tm 735 (by decide +kernel) rfl⟩
def t_Lo_note_0 : List (Nat × Instr × Nat) := [(0, (.aload_n 0, 1)), (1, (.getfield 19, 3)), (4, (.bipush 10, 2)), (6, (.if_icmp .ne 7, 3)), (9, (.aload_n 0, 1)), (10, (.invokevirtual 23, 3)), (13, (.aload_n 0, 1)), (14, (.getfield 9, 3)), (17, (.aload_n 0, 1)), (18, (.getfield 19, 3)), (21, (.iload_n 1, 1)), (22, (.iastore, 1)), (23, (.aload_n 0, 1)), (24, (.getfield 13, 3)), (27, (.aload_n 0, 1)), (28, (.getfield 19, 3)), (31, (.iload_n 2, 1)), (32, (.iastore, 1)), (33, (.aload_n 0, 1)), (34, (.getfield 16, 3)), (37, (.aload_n 0, 1)), (38, (.getfield 19, 3)), (41, (.iload_n 3, 1)), (42, (.iastore, 1)), (43, (.aload_n 0, 1)), (44, (.dup, 1)), (45, (.getfield 19, 3)), (48, (.iconst 1, 1)), (49, (.iadd, 1)), (50, (.putfield 19, 3)), (53, (.return_, 1))]
theorem t_Lo_note_0_ok : ∀ q ∈ t_Lo_note_0, decode prog_5_method_3_code q.1 = .ok q.2 := by decide +kernel
def m_Lo_note : mM := (⟨"LinkTimes$Log", "note", "(III)V"⟩, prog_5_method_3_code, 4, none, t_Lo_note_0)
theorem ok_Lo_note : mOK m_Lo_note := ⟨by decide, tm 1119 (by decide +kernel) rfl, t_Lo_note_0_ok, tm 116 (by decide +kernel) rfl, by decide, by decide⟩
theorem vm_Lo_note : mVt m_Lo_note := ⟨tm 1117 (by decide +kernel) rfl, tm 1118 (by decide +kernel) rfl⟩
def t_Lo_forgetOldest_0 : List (Nat × Instr × Nat) := [(0, (.iconst 1, 1)), (1, (.istore_n 1, 1)), (2, (.iload_n 1, 1)), (3, (.aload_n 0, 1)), (4, (.getfield 19, 3)), (7, (.if_icmp .ge 51, 3)), (10, (.aload_n 0, 1)), (11, (.getfield 9, 3)), (14, (.iload_n 1, 1)), (15, (.iconst 1, 1)), (16, (.isub, 1)), (17, (.aload_n 0, 1)), (18, (.getfield 9, 3)), (21, (.iload_n 1, 1)), (22, (.iaload, 1)), (23, (.iastore, 1)), (24, (.aload_n 0, 1)), (25, (.getfield 13, 3)), (28, (.iload_n 1, 1)), (29, (.iconst 1, 1)), (30, (.isub, 1)), (31, (.aload_n 0, 1)), (32, (.getfield 13, 3)), (35, (.iload_n 1, 1)), (36, (.iaload, 1)), (37, (.iastore, 1)), (38, (.aload_n 0, 1)), (39, (.getfield 16, 3)), (42, (.iload_n 1, 1)), (43, (.iconst 1, 1)), (44, (.isub, 1)), (45, (.aload_n 0, 1)), (46, (.getfield 16, 3)), (49, (.iload_n 1, 1)), (50, (.iaload, 1)), (51, (.iastore, 1)), (52, (.iinc 1 1, 3)), (55, (.goto (-53), 3)), (58, (.aload_n 0, 1)), (59, (.dup, 1)), (60, (.getfield 19, 3)), (63, (.iconst 1, 1)), (64, (.isub, 1)), (65, (.putfield 19, 3)), (68, (.return_, 1))]
theorem t_Lo_forgetOldest_0_ok : ∀ q ∈ t_Lo_forgetOldest_0, decode prog_5_method_4_code q.1 = .ok q.2 := by decide +kernel
def m_Lo_forgetOldest : mM := (⟨"LinkTimes$Log", "forgetOldest", "()V"⟩, prog_5_method_4_code, 2, none, t_Lo_forgetOldest_0)
theorem ok_Lo_forgetOldest : mOK m_Lo_forgetOldest := ⟨by decide, tm 1123 (by decide +kernel) rfl, t_Lo_forgetOldest_0_ok, tm 116 (by decide +kernel) rfl, by decide, by decide⟩
theorem vm_Lo_forgetOldest : mVt m_Lo_forgetOldest := ⟨tm 1122 (by decide +kernel) rfl, tm 52 (by decide +kernel) rfl⟩
def t_Lo_takeBack_0 : List (Nat × Instr × Nat) := [(0, (.aload_n 0, 1)), (1, (.getfield 19, 3)), (4, (.ifCond .ne 4, 3)), (7, (.return_, 1)), (8, (.aload_n 0, 1)), (9, (.dup, 1)), (10, (.getfield 19, 3)), (13, (.iconst 1, 1)), (14, (.isub, 1)), (15, (.putfield 19, 3)), (18, (.aload_n 0, 1)), (19, (.getfield 13, 3)), (22, (.aload_n 0, 1)), (23, (.getfield 19, 3)), (26, (.iaload, 1)), (27, (.istore_n 2, 1)), (28, (.aload_n 0, 1)), (29, (.getfield 9, 3)), (32, (.aload_n 0, 1)), (33, (.getfield 19, 3)), (36, (.iaload, 1)), (37, (.tableswitch 112 0 3 #[31, 58, 76, 94], 31)), (68, (.aload_n 1, 1)), (69, (.getfield 26, 3)), (72, (.iload_n 2, 1)), (73, (.aload_n 0, 1)), (74, (.getfield 16, 3)), (77, (.aload_n 0, 1)), (78, (.getfield 19, 3)), (81, (.iaload, 1)), (82, (.iconst 1, 1)), (83, (.if_icmp .ne 7, 3)), (86, (.iconst 1, 1)), (87, (.goto 4, 3)), (90, (.iconst 0, 1)), (91, (.bastore, 1)), (92, (.goto 62, 3)), (95, (.aload_n 1, 1)), (96, (.getfield 32, 3)), (99, (.iload_n 2, 1)), (100, (.aload_n 0, 1)), (101, (.getfield 16, 3)), (104, (.aload_n 0, 1)), (105, (.getfield 19, 3)), (108, (.iaload, 1)), (109, (.iastore, 1)), (110, (.goto 44, 3)), (113, (.aload_n 1, 1)), (114, (.getfield 35, 3)), (117, (.iload_n 2, 1))]
theorem t_Lo_takeBack_0_ok : ∀ q ∈ t_Lo_takeBack_0, decode prog_5_method_5_code q.1 = .ok q.2 := by decide +kernel
def t_Lo_takeBack_1 : List (Nat × Instr × Nat) := [(118, (.aload_n 0, 1)), (119, (.getfield 16, 3)), (122, (.aload_n 0, 1)), (123, (.getfield 19, 3)), (126, (.iaload, 1)), (127, (.iastore, 1)), (128, (.goto 26, 3)), (131, (.aload_n 1, 1)), (132, (.getfield 38, 3)), (135, (.iload_n 2, 1)), (136, (.aload_n 0, 1)), (137, (.getfield 16, 3)), (140, (.aload_n 0, 1)), (141, (.getfield 19, 3)), (144, (.iaload, 1)), (145, (.iastore, 1)), (146, (.goto 8, 3)), (149, (.aload_n 1, 1)), (150, (.iload_n 2, 1)), (151, (.putfield 41, 3)), (154, (.return_, 1))]
theorem t_Lo_takeBack_1_ok : ∀ q ∈ t_Lo_takeBack_1, decode prog_5_method_5_code q.1 = .ok q.2 := by decide +kernel
def m_Lo_takeBack : mM := (⟨"LinkTimes$Log", "takeBack", "(LLinkTimes$Desk;)V"⟩, prog_5_method_5_code, 3, none, t_Lo_takeBack_0 ++ t_Lo_takeBack_1)
theorem ok_Lo_takeBack : mOK m_Lo_takeBack := ⟨by decide, tm 1156 (by decide +kernel) rfl, all_app (t_Lo_takeBack_0_ok) t_Lo_takeBack_1_ok, tm 116 (by decide +kernel) rfl, by decide, by decide⟩
theorem vm_Lo_takeBack : mVt m_Lo_takeBack := ⟨tm 1154 (by decide +kernel) rfl, tm 1155 (by decide +kernel) rfl⟩
def t_Ne_init_0 : List (Nat × Instr × Nat) := [(0, (.aload_n 0, 1)), (1, (.invokespecial 3, 3)), (4, (.aload_n 0, 1)), (5, (.bipush 120, 2)), (7, (.newarray .int, 2)), (9, (.putfield 9, 3)), (12, (.aload_n 0, 1)), (13, (.bipush 120, 2)), (15, (.newarray .int, 2)), (17, (.putfield 15, 3)), (20, (.aload_n 0, 1)), (21, (.bipush 120, 2)), (23, (.newarray .boolean, 2)), (25, (.putfield 18, 3)), (28, (.aload_n 0, 1)), (29, (.bipush 120, 2)), (31, (.newarray .int, 2)), (33, (.putfield 22, 3)), (36, (.aload_n 0, 1)), (37, (.bipush 120, 2)), (39, (.newarray .int, 2)), (41, (.putfield 25, 3)), (44, (.aload_n 0, 1)), (45, (.bipush 11, 2)), (47, (.newarray .int, 2)), (49, (.putfield 28, 3)), (52, (.aload_n 0, 1)), (53, (.bipush 10, 2)), (55, (.newarray .int, 2)), (57, (.putfield 31, 3)), (60, (.aload_n 0, 1)), (61, (.bipush 10, 2)), (63, (.newarray .int, 2)), (65, (.putfield 34, 3)), (68, (.aload_n 0, 1)), (69, (.aload_n 1, 1)), (70, (.putfield 37, 3)), (73, (.return_, 1))]
theorem t_Ne_init_0_ok : ∀ q ∈ t_Ne_init_0, decode prog_6_method_1_code q.1 = .ok q.2 := by decide +kernel
def m_Ne_init : mM := (⟨"LinkTimes$Net", "<init>", "(LLinkTimes$Desk;)V"⟩, prog_6_method_1_code, 2, none, t_Ne_init_0)
theorem ok_Ne_init : mOK m_Ne_init := ⟨by decide, tm 314 (by decide +kernel) rfl, t_Ne_init_0_ok, tm 117 (by decide +kernel) rfl, by decide, by decide⟩
theorem in_Ne_init : Cond.instanceMethod m_Ne_init.1 ∈ t0_ws := tm 313 (by decide +kernel) rfl
def t_Ne_load_0 : List (Nat × Instr × Nat) := [(0, (.aload_n 0, 1)), (1, (.aload_n 1, 1)), (2, (.iconst 0, 1)), (3, (.invokevirtual 41, 3)), (6, (.return_, 1))]
theorem t_Ne_load_0_ok : ∀ q ∈ t_Ne_load_0, decode prog_6_method_2_code q.1 = .ok q.2 := by decide +kernel
def m_Ne_load : mM := (⟨"LinkTimes$Net", "load", "(LLinkTimes$Desk;)V"⟩, prog_6_method_2_code, 2, none, t_Ne_load_0)
theorem ok_Ne_load : mOK m_Ne_load := ⟨by decide, tm 789 (by decide +kernel) rfl, t_Ne_load_0_ok, tm 117 (by decide +kernel) rfl, by decide, by decide⟩
theorem vm_Ne_load : mVt m_Ne_load := ⟨tm 787 (by decide +kernel) rfl, tm 788 (by decide +kernel) rfl⟩
def t_Ne_loadAsTold_0 : List (Nat × Instr × Nat) := [(0, (.aload_n 0, 1)), (1, (.aload_n 1, 1)), (2, (.iconst 1, 1)), (3, (.invokevirtual 41, 3)), (6, (.return_, 1))]
theorem t_Ne_loadAsTold_0_ok : ∀ q ∈ t_Ne_loadAsTold_0, decode prog_6_method_3_code q.1 = .ok q.2 := by decide +kernel
def m_Ne_loadAsTold : mM := (⟨"LinkTimes$Net", "loadAsTold", "(LLinkTimes$Desk;)V"⟩, prog_6_method_3_code, 2, none, t_Ne_loadAsTold_0)
theorem ok_Ne_loadAsTold : mOK m_Ne_loadAsTold := ⟨by decide, tm 1103 (by decide +kernel) rfl, t_Ne_loadAsTold_0_ok, tm 117 (by decide +kernel) rfl, by decide, by decide⟩
theorem vm_Ne_loadAsTold : mVt m_Ne_loadAsTold := ⟨tm 1101 (by decide +kernel) rfl, tm 1102 (by decide +kernel) rfl⟩
def t_Ne_take_0 : List (Nat × Instr × Nat) := [(0, (.aload_n 0, 1)), (1, (.aload_n 1, 1)), (2, (.putfield 37, 3)), (5, (.iconst 0, 1)), (6, (.istore_n 3, 1)), (7, (.iload_n 3, 1)), (8, (.aload_n 0, 1)), (9, (.getfield 37, 3)), (12, (.getfield 45, 3)), (15, (.if_icmp .ge 39, 3)), (18, (.aload_n 0, 1)), (19, (.getfield 31, 3)), (22, (.iload_n 3, 1)), (23, (.aload_n 0, 1)), (24, (.getfield 37, 3)), (27, (.getfield 51, 3)), (30, (.iload_n 3, 1)), (31, (.iaload, 1)), (32, (.iastore, 1)), (33, (.aload_n 0, 1)), (34, (.getfield 34, 3)), (37, (.iload_n 3, 1)), (38, (.aload_n 0, 1)), (39, (.getfield 37, 3)), (42, (.getfield 52, 3)), (45, (.iload_n 3, 1)), (46, (.iaload, 1)), (47, (.iastore, 1)), (48, (.iinc 3 1, 3)), (51, (.goto (-44), 3)), (54, (.aload_n 0, 1)), (55, (.aload_n 0, 1)), (56, (.getfield 37, 3)), (59, (.getfield 53, 3)), (62, (.invokevirtual 56, 3)), (65, (.iconst 0, 1)), (66, (.istore_n 3, 1)), (67, (.iload_n 3, 1)), (68, (.aload_n 0, 1)), (69, (.getfield 60, 3)), (72, (.if_icmp .ge 91, 3)), (75, (.aload_n 0, 1)), (76, (.getfield 9, 3)), (79, (.iload_n 3, 1)), (80, (.aload_n 0, 1)), (81, (.getfield 37, 3)), (84, (.getfield 61, 3)), (87, (.iload_n 3, 1)), (88, (.iaload, 1)), (89, (.iload_n 2, 1))]
theorem t_Ne_take_0_ok : ∀ q ∈ t_Ne_take_0, decode prog_6_method_4_code q.1 = .ok q.2 := by decide +kernel
def t_Ne_take_1 : List (Nat × Instr × Nat) := [(90, (.ifCond .eq 7, 3)), (93, (.iconst 0, 1)), (94, (.goto 12, 3)), (97, (.aload_n 0, 1)), (98, (.getfield 37, 3)), (101, (.getfield 64, 3)), (104, (.iload_n 3, 1)), (105, (.iaload, 1)), (106, (.iadd, 1)), (107, (.iastore, 1)), (108, (.aload_n 0, 1)), (109, (.getfield 15, 3)), (112, (.iload_n 3, 1)), (113, (.aload_n 0, 1)), (114, (.getfield 9, 3)), (117, (.iload_n 3, 1)), (118, (.iaload, 1)), (119, (.aload_n 0, 1)), (120, (.getfield 37, 3)), (123, (.getfield 67, 3)), (126, (.iload_n 3, 1)), (127, (.iaload, 1)), (128, (.iadd, 1)), (129, (.iastore, 1)), (130, (.aload_n 0, 1)), (131, (.getfield 18, 3)), (134, (.iload_n 3, 1)), (135, (.iload_n 2, 1)), (136, (.ifCond .ne 15, 3)), (139, (.aload_n 0, 1)), (140, (.getfield 37, 3)), (143, (.getfield 70, 3)), (146, (.iload_n 3, 1)), (147, (.baload, 1)), (148, (.ifCond .ne 7, 3)), (151, (.iconst 1, 1)), (152, (.goto 4, 3)), (155, (.iconst 0, 1)), (156, (.bastore, 1)), (157, (.iinc 3 1, 3)), (160, (.goto (-93), 3)), (163, (.aload_n 0, 1)), (164, (.invokevirtual 73, 3)), (167, (.aload_n 0, 1)), (168, (.invokevirtual 76, 3)), (171, (.return_, 1))]
theorem t_Ne_take_1_ok : ∀ q ∈ t_Ne_take_1, decode prog_6_method_4_code q.1 = .ok q.2 := by decide +kernel
def m_Ne_take : mM := (⟨"LinkTimes$Net", "take", "(LLinkTimes$Desk;Z)V"⟩, prog_6_method_4_code, 4, none, t_Ne_take_0 ++ t_Ne_take_1)
theorem ok_Ne_take : mOK m_Ne_take := ⟨by decide, tm 793 (by decide +kernel) rfl, all_app (t_Ne_take_0_ok) t_Ne_take_1_ok, tm 117 (by decide +kernel) rfl, by decide, by decide⟩
theorem vm_Ne_take : mVt m_Ne_take := ⟨tm 792 (by decide +kernel) rfl, tm 21 (by decide +kernel) rfl⟩
def t_Ne_ease_0 : List (Nat × Instr × Nat) := [(0, (.iconst 0, 1)), (1, (.istore_n 1, 1)), (2, (.iload_n 1, 1)), (3, (.aload_n 0, 1)), (4, (.getfield 37, 3)), (7, (.getfield 45, 3)), (10, (.if_icmp .ge 24, 3)), (13, (.aload_n 0, 1)), (14, (.getfield 31, 3)), (17, (.iload_n 1, 1)), (18, (.iconst 0, 1)), (19, (.iastore, 1)), (20, (.aload_n 0, 1)), (21, (.getfield 34, 3)), (24, (.iload_n 1, 1)), (25, (.bipush (-2), 2)), (27, (.iastore, 1)), (28, (.iinc 1 1, 3)), (31, (.goto (-29), 3)), (34, (.return_, 1))]
theorem t_Ne_ease_0_ok : ∀ q ∈ t_Ne_ease_0, decode prog_6_method_5_code q.1 = .ok q.2 := by decide +kernel
def m_Ne_ease : mM := (⟨"LinkTimes$Net", "ease", "()V"⟩, prog_6_method_5_code, 2, none, t_Ne_ease_0)
theorem ok_Ne_ease : mOK m_Ne_ease := ⟨by decide, tm 1107 (by decide +kernel) rfl, t_Ne_ease_0_ok, tm 117 (by decide +kernel) rfl, by decide, by decide⟩
theorem vm_Ne_ease : mVt m_Ne_ease := ⟨tm 1105 (by decide +kernel) rfl, tm 1106 (by decide +kernel) rfl⟩
def t_Ne_setRuns_0 : List (Nat × Instr × Nat) := [(0, (.aload_n 0, 1)), (1, (.getfield 18, 3)), (4, (.iload_n 1, 1)), (5, (.iload_n 2, 1)), (6, (.ifCond .eq 19, 3)), (9, (.aload_n 0, 1)), (10, (.getfield 37, 3)), (13, (.getfield 70, 3)), (16, (.iload_n 1, 1)), (17, (.baload, 1)), (18, (.ifCond .ne 7, 3)), (21, (.iconst 1, 1)), (22, (.goto 4, 3)), (25, (.iconst 0, 1)), (26, (.bastore, 1)), (27, (.return_, 1))]
theorem t_Ne_setRuns_0_ok : ∀ q ∈ t_Ne_setRuns_0, decode prog_6_method_6_code q.1 = .ok q.2 := by decide +kernel
def m_Ne_setRuns : mM := (⟨"LinkTimes$Net", "setRuns", "(IZ)V"⟩, prog_6_method_6_code, 3, none, t_Ne_setRuns_0)
theorem ok_Ne_setRuns : mOK m_Ne_setRuns := ⟨by decide, tm 1079 (by decide +kernel) rfl, t_Ne_setRuns_0_ok, tm 117 (by decide +kernel) rfl, by decide, by decide⟩
theorem vm_Ne_setRuns : mVt m_Ne_setRuns := ⟨tm 1077 (by decide +kernel) rfl, tm 1078 (by decide +kernel) rfl⟩
def t_Ne_dropAll_0 : List (Nat × Instr × Nat) := [(0, (.iconst 0, 1)), (1, (.istore_n 2, 1)), (2, (.iload_n 2, 1)), (3, (.aload_n 1, 1)), (4, (.getfield 79, 3)), (7, (.if_icmp .ge 21, 3)), (10, (.aload_n 0, 1)), (11, (.getfield 18, 3)), (14, (.aload_n 1, 1)), (15, (.getfield 82, 3)), (18, (.iload_n 2, 1)), (19, (.iaload, 1)), (20, (.iconst 0, 1)), (21, (.bastore, 1)), (22, (.iinc 2 1, 3)), (25, (.goto (-23), 3)), (28, (.return_, 1))]
theorem t_Ne_dropAll_0_ok : ∀ q ∈ t_Ne_dropAll_0, decode prog_6_method_7_code q.1 = .ok q.2 := by decide +kernel
def m_Ne_dropAll : mM := (⟨"LinkTimes$Net", "dropAll", "(LLinkTimes$Way;)V"⟩, prog_6_method_7_code, 3, none, t_Ne_dropAll_0)
theorem ok_Ne_dropAll : mOK m_Ne_dropAll := ⟨by decide, tm 1039 (by decide +kernel) rfl, t_Ne_dropAll_0_ok, tm 117 (by decide +kernel) rfl, by decide, by decide⟩
theorem vm_Ne_dropAll : mVt m_Ne_dropAll := ⟨tm 1037 (by decide +kernel) rfl, tm 1038 (by decide +kernel) rfl⟩
def t_Ne_putOff_0 : List (Nat × Instr × Nat) := [(0, (.aload_n 0, 1)), (1, (.getfield 9, 3)), (4, (.iload_n 1, 1)), (5, (.dup2, 1)), (6, (.iaload, 1)), (7, (.iconst 1, 1)), (8, (.iadd, 1)), (9, (.iastore, 1)), (10, (.aload_n 0, 1)), (11, (.getfield 15, 3)), (14, (.iload_n 1, 1)), (15, (.dup2, 1)), (16, (.iaload, 1)), (17, (.iconst 1, 1)), (18, (.iadd, 1)), (19, (.iastore, 1)), (20, (.aload_n 0, 1)), (21, (.invokevirtual 73, 3)), (24, (.aload_n 0, 1)), (25, (.invokevirtual 76, 3)), (28, (.return_, 1))]
theorem t_Ne_putOff_0_ok : ∀ q ∈ t_Ne_putOff_0, decode prog_6_method_8_code q.1 = .ok q.2 := by decide +kernel
def m_Ne_putOff : mM := (⟨"LinkTimes$Net", "putOff", "(I)V"⟩, prog_6_method_8_code, 2, none, t_Ne_putOff_0)
theorem ok_Ne_putOff : mOK m_Ne_putOff := ⟨by decide, tm 1091 (by decide +kernel) rfl, t_Ne_putOff_0_ok, tm 117 (by decide +kernel) rfl, by decide, by decide⟩
theorem vm_Ne_putOff : mVt m_Ne_putOff := ⟨tm 1089 (by decide +kernel) rfl, tm 1090 (by decide +kernel) rfl⟩
def t_Ne_joins_0 : List (Nat × Instr × Nat) := [(0, (.aload_n 0, 1)), (1, (.getfield 37, 3)), (4, (.getfield 85, 3)), (7, (.iload_n 1, 1)), (8, (.iaload, 1)), (9, (.istore_n 3, 1)), (10, (.aload_n 0, 1)), (11, (.getfield 9, 3)), (14, (.iload_n 2, 1)), (15, (.iaload, 1)), (16, (.aload_n 0, 1)), (17, (.getfield 15, 3)), (20, (.iload_n 1, 1)), (21, (.iaload, 1)), (22, (.isub, 1)), (23, (.istore 4, 2)), (25, (.iload 4, 2)), (27, (.ifCond .lt 25, 3)), (30, (.aload_n 0, 1)), (31, (.getfield 34, 3)), (34, (.iload_n 3, 1)), (35, (.iaload, 1)), (36, (.bipush (-2), 2)), (38, (.if_icmp .eq 16, 3)), (41, (.iload 4, 2)), (43, (.aload_n 0, 1)), (44, (.getfield 34, 3)), (47, (.iload_n 3, 1)), (48, (.iaload, 1)), (49, (.if_icmp .le 5, 3)), (52, (.iconst 0, 1)), (53, (.ireturn, 1)), (54, (.aload_n 0, 1)), (55, (.iload_n 1, 1)), (56, (.iload_n 2, 1)), (57, (.invokevirtual 88, 3)), (60, (.ifCond .eq 14, 3)), (63, (.iload 4, 2)), (65, (.aload_n 0, 1)), (66, (.getfield 31, 3)), (69, (.iload_n 3, 1)), (70, (.iaload, 1)), (71, (.if_icmp .lt 7, 3)), (74, (.iconst 1, 1)), (75, (.goto 4, 3)), (78, (.iconst 0, 1)), (79, (.ireturn, 1))]
theorem t_Ne_joins_0_ok : ∀ q ∈ t_Ne_joins_0, decode prog_6_method_9_code q.1 = .ok q.2 := by decide +kernel
def m_Ne_joins : mM := (⟨"LinkTimes$Net", "joins", "(II)Z"⟩, prog_6_method_9_code, 5, (some .boolean), t_Ne_joins_0)
theorem ok_Ne_joins : mOK m_Ne_joins := ⟨by decide, tm 849 (by decide +kernel) rfl, t_Ne_joins_0_ok, tm 117 (by decide +kernel) rfl, by decide, by decide⟩
theorem vm_Ne_joins : mVt m_Ne_joins := ⟨tm 847 (by decide +kernel) rfl, tm 848 (by decide +kernel) rfl⟩
def t_Ne_isTurn_0 : List (Nat × Instr × Nat) := [(0, (.aload_n 0, 1)), (1, (.getfield 37, 3)), (4, (.getfield 92, 3)), (7, (.iload_n 1, 1)), (8, (.iaload, 1)), (9, (.aload_n 0, 1)), (10, (.getfield 37, 3)), (13, (.getfield 92, 3)), (16, (.iload_n 2, 1)), (17, (.iaload, 1)), (18, (.if_icmp .eq 7, 3)), (21, (.iconst 1, 1)), (22, (.goto 4, 3)), (25, (.iconst 0, 1)), (26, (.ireturn, 1))]
theorem t_Ne_isTurn_0_ok : ∀ q ∈ t_Ne_isTurn_0, decode prog_6_method_10_code q.1 = .ok q.2 := by decide +kernel
def m_Ne_isTurn : mM := (⟨"LinkTimes$Net", "isTurn", "(II)Z"⟩, prog_6_method_10_code, 3, (some .boolean), t_Ne_isTurn_0)
theorem ok_Ne_isTurn : mOK m_Ne_isTurn := ⟨by decide, tm 853 (by decide +kernel) rfl, t_Ne_isTurn_0_ok, tm 117 (by decide +kernel) rfl, by decide, by decide⟩
theorem vm_Ne_isTurn : mVt m_Ne_isTurn := ⟨tm 851 (by decide +kernel) rfl, tm 852 (by decide +kernel) rfl⟩
def t_Ne_keepOrder_0 : List (Nat × Instr × Nat) := [(0, (.iconst 0, 1)), (1, (.istore_n 2, 1)), (2, (.iconst 0, 1)), (3, (.istore_n 3, 1)), (4, (.iload_n 3, 1)), (5, (.aload_n 0, 1)), (6, (.getfield 60, 3)), (9, (.if_icmp .ge 34, 3)), (12, (.aload_n 0, 1)), (13, (.getfield 22, 3)), (16, (.iload_n 3, 1)), (17, (.iaload, 1)), (18, (.iload_n 1, 1)), (19, (.if_icmp .ge 18, 3)), (22, (.aload_n 0, 1)), (23, (.getfield 22, 3)), (26, (.iload_n 2, 1)), (27, (.aload_n 0, 1)), (28, (.getfield 22, 3)), (31, (.iload_n 3, 1)), (32, (.iaload, 1)), (33, (.iastore, 1)), (34, (.iinc 2 1, 3)), (37, (.iinc 3 1, 3)), (40, (.goto (-36), 3)), (43, (.iload_n 2, 1)), (44, (.istore_n 3, 1)), (45, (.iload_n 3, 1)), (46, (.iload_n 1, 1)), (47, (.if_icmp .ge 16, 3)), (50, (.aload_n 0, 1)), (51, (.getfield 22, 3)), (54, (.iload_n 3, 1)), (55, (.iload_n 3, 1)), (56, (.iastore, 1)), (57, (.iinc 3 1, 3)), (60, (.goto (-15), 3)), (63, (.aload_n 0, 1)), (64, (.iload_n 1, 1)), (65, (.putfield 60, 3)), (68, (.return_, 1))]
theorem t_Ne_keepOrder_0_ok : ∀ q ∈ t_Ne_keepOrder_0, decode prog_6_method_11_code q.1 = .ok q.2 := by decide +kernel
def m_Ne_keepOrder : mM := (⟨"LinkTimes$Net", "keepOrder", "(I)V"⟩, prog_6_method_11_code, 4, none, t_Ne_keepOrder_0)
theorem ok_Ne_keepOrder : mOK m_Ne_keepOrder := ⟨by decide, tm 797 (by decide +kernel) rfl, t_Ne_keepOrder_0_ok, tm 117 (by decide +kernel) rfl, by decide, by decide⟩
theorem vm_Ne_keepOrder : mVt m_Ne_keepOrder := ⟨tm 796 (by decide +kernel) rfl, tm 22 (by decide +kernel) rfl⟩
def t_Ne_sort_0 : List (Nat × Instr × Nat) := [(0, (.iconst 1, 1)), (1, (.istore_n 1, 1)), (2, (.iload_n 1, 1)), (3, (.aload_n 0, 1)), (4, (.getfield 60, 3)), (7, (.if_icmp .ge 65, 3)), (10, (.aload_n 0, 1)), (11, (.getfield 22, 3)), (14, (.iload_n 1, 1)), (15, (.iaload, 1)), (16, (.istore_n 2, 1)), (17, (.iload_n 1, 1)), (18, (.istore_n 3, 1)), (19, (.iload_n 3, 1)), (20, (.ifCond .le 39, 3)), (23, (.aload_n 0, 1)), (24, (.aload_n 0, 1)), (25, (.getfield 22, 3)), (28, (.iload_n 3, 1)), (29, (.iconst 1, 1)), (30, (.isub, 1)), (31, (.iaload, 1)), (32, (.iload_n 2, 1)), (33, (.invokevirtual 95, 3)), (36, (.ifCond .eq 23, 3)), (39, (.aload_n 0, 1)), (40, (.getfield 22, 3)), (43, (.iload_n 3, 1)), (44, (.aload_n 0, 1)), (45, (.getfield 22, 3)), (48, (.iload_n 3, 1)), (49, (.iconst 1, 1)), (50, (.isub, 1)), (51, (.iaload, 1)), (52, (.iastore, 1)), (53, (.iinc 3 (-1), 3)), (56, (.goto (-37), 3)), (59, (.aload_n 0, 1)), (60, (.getfield 22, 3)), (63, (.iload_n 3, 1)), (64, (.iload_n 2, 1)), (65, (.iastore, 1)), (66, (.iinc 1 1, 3)), (69, (.goto (-67), 3)), (72, (.return_, 1))]
theorem t_Ne_sort_0_ok : ∀ q ∈ t_Ne_sort_0, decode prog_6_method_12_code q.1 = .ok q.2 := by decide +kernel
def m_Ne_sort : mM := (⟨"LinkTimes$Net", "sort", "()V"⟩, prog_6_method_12_code, 4, none, t_Ne_sort_0)
theorem ok_Ne_sort : mOK m_Ne_sort := ⟨by decide, tm 801 (by decide +kernel) rfl, t_Ne_sort_0_ok, tm 117 (by decide +kernel) rfl, by decide, by decide⟩
theorem vm_Ne_sort : mVt m_Ne_sort := ⟨tm 800 (by decide +kernel) rfl, tm 23 (by decide +kernel) rfl⟩
def t_Ne_isBehind_0 : List (Nat × Instr × Nat) := [(0, (.aload_n 0, 1)), (1, (.getfield 9, 3)), (4, (.iload_n 1, 1)), (5, (.iaload, 1)), (6, (.aload_n 0, 1)), (7, (.getfield 9, 3)), (10, (.iload_n 2, 1)), (11, (.iaload, 1)), (12, (.if_icmp .gt 23, 3)), (15, (.aload_n 0, 1)), (16, (.getfield 9, 3)), (19, (.iload_n 1, 1)), (20, (.iaload, 1)), (21, (.aload_n 0, 1)), (22, (.getfield 9, 3)), (25, (.iload_n 2, 1)), (26, (.iaload, 1)), (27, (.if_icmp .ne 12, 3)), (30, (.iload_n 1, 1)), (31, (.iload_n 2, 1)), (32, (.if_icmp .le 7, 3)), (35, (.iconst 1, 1)), (36, (.goto 4, 3)), (39, (.iconst 0, 1)), (40, (.ireturn, 1))]
theorem t_Ne_isBehind_0_ok : ∀ q ∈ t_Ne_isBehind_0, decode prog_6_method_13_code q.1 = .ok q.2 := by decide +kernel
def m_Ne_isBehind : mM := (⟨"LinkTimes$Net", "isBehind", "(II)Z"⟩, prog_6_method_13_code, 3, (some .boolean), t_Ne_isBehind_0)
theorem ok_Ne_isBehind : mOK m_Ne_isBehind := ⟨by decide, tm 805 (by decide +kernel) rfl, t_Ne_isBehind_0_ok, tm 117 (by decide +kernel) rfl, by decide, by decide⟩
theorem vm_Ne_isBehind : mVt m_Ne_isBehind := ⟨tm 804 (by decide +kernel) rfl, tm 24 (by decide +kernel) rfl⟩
def t_Ne_group_0 : List (Nat × Instr × Nat) := [(0, (.iconst 0, 1)), (1, (.istore_n 1, 1)), (2, (.iload_n 1, 1)), (3, (.aload_n 0, 1)), (4, (.getfield 37, 3)), (7, (.getfield 45, 3)), (10, (.if_icmp .gt 16, 3)), (13, (.aload_n 0, 1)), (14, (.getfield 28, 3)), (17, (.iload_n 1, 1)), (18, (.iconst 0, 1)), (19, (.iastore, 1)), (20, (.iinc 1 1, 3)), (23, (.goto (-21), 3)), (26, (.iconst 0, 1)), (27, (.istore_n 1, 1)), (28, (.iload_n 1, 1)), (29, (.aload_n 0, 1)), (30, (.getfield 60, 3)), (33, (.if_icmp .ge 27, 3)), (36, (.aload_n 0, 1)), (37, (.getfield 28, 3)), (40, (.aload_n 0, 1)), (41, (.getfield 37, 3)), (44, (.getfield 98, 3)), (47, (.iload_n 1, 1)), (48, (.iaload, 1)), (49, (.dup2, 1)), (50, (.iaload, 1)), (51, (.iconst 1, 1)), (52, (.iadd, 1)), (53, (.iastore, 1)), (54, (.iinc 1 1, 3)), (57, (.goto (-29), 3)), (60, (.iconst 1, 1)), (61, (.istore_n 1, 1)), (62, (.iload_n 1, 1)), (63, (.aload_n 0, 1)), (64, (.getfield 37, 3)), (67, (.getfield 45, 3)), (70, (.if_icmp .gt 26, 3)), (73, (.aload_n 0, 1)), (74, (.getfield 28, 3)), (77, (.iload_n 1, 1)), (78, (.dup2, 1)), (79, (.iaload, 1)), (80, (.aload_n 0, 1)), (81, (.getfield 28, 3)), (84, (.iload_n 1, 1)), (85, (.iconst 1, 1))]
theorem t_Ne_group_0_ok : ∀ q ∈ t_Ne_group_0, decode prog_6_method_14_code q.1 = .ok q.2 := by decide +kernel
def t_Ne_group_1 : List (Nat × Instr × Nat) := [(86, (.isub, 1)), (87, (.iaload, 1)), (88, (.iadd, 1)), (89, (.iastore, 1)), (90, (.iinc 1 1, 3)), (93, (.goto (-31), 3)), (96, (.aload_n 0, 1)), (97, (.getfield 60, 3)), (100, (.iconst 1, 1)), (101, (.isub, 1)), (102, (.istore_n 1, 1)), (103, (.iload_n 1, 1)), (104, (.ifCond .lt 51, 3)), (107, (.aload_n 0, 1)), (108, (.getfield 37, 3)), (111, (.getfield 98, 3)), (114, (.aload_n 0, 1)), (115, (.getfield 22, 3)), (118, (.iload_n 1, 1)), (119, (.iaload, 1)), (120, (.iaload, 1)), (121, (.istore_n 2, 1)), (122, (.aload_n 0, 1)), (123, (.getfield 28, 3)), (126, (.iload_n 2, 1)), (127, (.dup2, 1)), (128, (.iaload, 1)), (129, (.iconst 1, 1)), (130, (.isub, 1)), (131, (.iastore, 1)), (132, (.aload_n 0, 1)), (133, (.getfield 25, 3)), (136, (.aload_n 0, 1)), (137, (.getfield 28, 3)), (140, (.iload_n 2, 1)), (141, (.iaload, 1)), (142, (.aload_n 0, 1)), (143, (.getfield 22, 3)), (146, (.iload_n 1, 1)), (147, (.iaload, 1)), (148, (.iastore, 1)), (149, (.iinc 1 (-1), 3)), (152, (.goto (-49), 3)), (155, (.return_, 1))]
theorem t_Ne_group_1_ok : ∀ q ∈ t_Ne_group_1, decode prog_6_method_14_code q.1 = .ok q.2 := by decide +kernel
def m_Ne_group : mM := (⟨"LinkTimes$Net", "group", "()V"⟩, prog_6_method_14_code, 3, none, t_Ne_group_0 ++ t_Ne_group_1)
theorem ok_Ne_group : mOK m_Ne_group := ⟨by decide, tm 809 (by decide +kernel) rfl, all_app (t_Ne_group_0_ok) t_Ne_group_1_ok, tm 117 (by decide +kernel) rfl, by decide, by decide⟩
theorem vm_Ne_group : mVt m_Ne_group := ⟨tm 808 (by decide +kernel) rfl, tm 25 (by decide +kernel) rfl⟩
def t_Re_init_0 : List (Nat × Instr × Nat) := [(0, (.aload_n 0, 1)), (1, (.invokespecial 3, 3)), (4, (.aload_n 0, 1)), (5, (.bipush 10, 2)), (7, (.newarray .int, 2)), (9, (.putfield 9, 3)), (12, (.aload_n 0, 1)), (13, (.bipush 8, 2)), (15, (.newarray .int, 2)), (17, (.putfield 15, 3)), (20, (.aload_n 0, 1)), (21, (.aload_n 1, 1)), (22, (.putfield 18, 3)), (25, (.aload_n 0, 1)), (26, (.aload_n 2, 1)), (27, (.putfield 22, 3)), (30, (.return_, 1))]
theorem t_Re_init_0_ok : ∀ q ∈ t_Re_init_0, decode prog_7_method_1_code q.1 = .ok q.2 := by decide +kernel
def m_Re_init : mM := (⟨"LinkTimes$Reader", "<init>", "([BLLinkTimes$Desk;)V"⟩, prog_7_method_1_code, 3, none, t_Re_init_0)
theorem ok_Re_init : mOK m_Re_init := ⟨by decide, tm 243 (by decide +kernel) rfl, t_Re_init_0_ok, tm 115 (by decide +kernel) rfl, by decide, by decide⟩
theorem in_Re_init : Cond.instanceMethod m_Re_init.1 ∈ t0_ws := tm 242 (by decide +kernel) rfl
def t_Re_read_0 : List (Nat × Instr × Nat) := [(0, (.aload_n 0, 1)), (1, (.iload_n 1, 1)), (2, (.aload_n 0, 1)), (3, (.getfield 18, 3)), (6, (.arraylength, 1)), (7, (.invokestatic 26, 3)), (10, (.putfield 32, 3)), (13, (.aload_n 0, 1)), (14, (.aload_n 2, 1)), (15, (.putfield 22, 3)), (18, (.aload_n 0, 1)), (19, (.getfield 22, 3)), (22, (.invokevirtual 36, 3)), (25, (.aload_n 0, 1)), (26, (.iconst 0, 1)), (27, (.putfield 41, 3)), (30, (.aload_n 0, 1)), (31, (.iconst (-1), 1)), (32, (.putfield 44, 3)), (35, (.aload_n 0, 1)), (36, (.iconst 0, 1)), (37, (.putfield 47, 3)), (40, (.aload_n 0, 1)), (41, (.invokevirtual 50, 3)), (44, (.istore_n 3, 1)), (45, (.iconst 0, 1)), (46, (.istore 4, 2)), (48, (.iload_n 3, 1)), (49, (.ifCond .eq 31, 3)), (52, (.aload_n 0, 1)), (53, (.getfield 54, 3)), (56, (.iconst 3, 1)), (57, (.if_icmp .ne 23, 3)), (60, (.iload 4, 2)), (62, (.aload_n 0, 1)), (63, (.getfield 32, 3)), (66, (.if_icmp .ge 14, 3)), (69, (.aload_n 0, 1)), (70, (.invokevirtual 50, 3)), (73, (.istore_n 3, 1)), (74, (.iinc 4 1, 3)), (77, (.goto (-29), 3)), (80, (.iload_n 3, 1)), (81, (.ifCond .ne 5, 3)), (84, (.iconst 0, 1)), (85, (.ireturn, 1)), (86, (.aload_n 0, 1)), (87, (.getfield 54, 3)), (90, (.iconst 4, 1)), (91, (.if_icmp .eq 9, 3))]
theorem t_Re_read_0_ok : ∀ q ∈ t_Re_read_0, decode prog_7_method_2_code q.1 = .ok q.2 := by decide +kernel
def t_Re_read_1 : List (Nat × Instr × Nat) := [(94, (.aload_n 0, 1)), (95, (.iconst 1, 1)), (96, (.invokevirtual 57, 3)), (99, (.ireturn, 1)), (100, (.aload_n 0, 1)), (101, (.getfield 22, 3)), (104, (.invokevirtual 61, 3)), (107, (.ifCond .ne 12, 3)), (110, (.aload_n 0, 1)), (111, (.bipush 6, 2)), (113, (.invokevirtual 57, 3)), (116, (.ifCond .eq 7, 3)), (119, (.iconst 1, 1)), (120, (.goto 4, 3)), (123, (.iconst 0, 1)), (124, (.ireturn, 1))]
theorem t_Re_read_1_ok : ∀ q ∈ t_Re_read_1, decode prog_7_method_2_code q.1 = .ok q.2 := by decide +kernel
def m_Re_read : mM := (⟨"LinkTimes$Reader", "read", "(ILLinkTimes$Desk;)Z"⟩, prog_7_method_2_code, 5, (some .boolean), t_Re_read_0 ++ t_Re_read_1)
theorem ok_Re_read : mOK m_Re_read := ⟨by decide, tm 573 (by decide +kernel) rfl, all_app (t_Re_read_0_ok) t_Re_read_1_ok, tm 115 (by decide +kernel) rfl, by decide, by decide⟩
theorem vm_Re_read : mVt m_Re_read := ⟨tm 571 (by decide +kernel) rfl, tm 572 (by decide +kernel) rfl⟩
def t_Re_fail_0 : List (Nat × Instr × Nat) := [(0, (.aload_n 0, 1)), (1, (.iload_n 1, 1)), (2, (.putfield 41, 3)), (5, (.aload_n 0, 1)), (6, (.aload_n 0, 1)), (7, (.getfield 64, 3)), (10, (.putfield 44, 3)), (13, (.iconst 0, 1)), (14, (.ireturn, 1))]
theorem t_Re_fail_0_ok : ∀ q ∈ t_Re_fail_0, decode prog_7_method_3_code q.1 = .ok q.2 := by decide +kernel
def m_Re_fail : mM := (⟨"LinkTimes$Reader", "fail", "(I)Z"⟩, prog_7_method_3_code, 2, (some .boolean), t_Re_fail_0)
theorem ok_Re_fail : mOK m_Re_fail := ⟨by decide, tm 659 (by decide +kernel) rfl, t_Re_fail_0_ok, tm 115 (by decide +kernel) rfl, by decide, by decide⟩
theorem vm_Re_fail : mVt m_Re_fail := ⟨tm 658 (by decide +kernel) rfl, tm 7 (by decide +kernel) rfl⟩
def t_Re_readLine_0 : List (Nat × Instr × Nat) := [(0, (.aload_n 0, 1)), (1, (.invokevirtual 67, 3)), (4, (.aload_n 0, 1)), (5, (.ldc 70, 2)), (7, (.invokevirtual 71, 3)), (10, (.ifCond .eq 26, 3)), (13, (.aload_n 0, 1)), (14, (.getfield 22, 3)), (17, (.getfield 75, 3)), (20, (.ifCond .le 11, 3)), (23, (.aload_n 0, 1)), (24, (.iconst 3, 1)), (25, (.invokevirtual 57, 3)), (28, (.goto 7, 3)), (31, (.aload_n 0, 1)), (32, (.invokevirtual 78, 3)), (35, (.ireturn, 1)), (36, (.aload_n 0, 1)), (37, (.ldc 81, 2)), (39, (.invokevirtual 71, 3)), (42, (.ifCond .eq 32, 3)), (45, (.aload_n 0, 1)), (46, (.aload_n 0, 1)), (47, (.getfield 22, 3)), (50, (.getfield 83, 3)), (53, (.bipush 10, 2)), (55, (.invokevirtual 86, 3)), (58, (.ifCond .eq 14, 3)), (61, (.aload_n 0, 1)), (62, (.invokevirtual 90, 3)), (65, (.ifCond .eq 7, 3)), (68, (.iconst 1, 1)), (69, (.goto 4, 3)), (72, (.iconst 0, 1)), (73, (.ireturn, 1)), (74, (.aload_n 0, 1)), (75, (.ldc 93, 2)), (77, (.invokevirtual 71, 3)), (80, (.ifCond .eq 32, 3)), (83, (.aload_n 0, 1)), (84, (.aload_n 0, 1)), (85, (.getfield 22, 3)), (88, (.getfield 95, 3)), (91, (.bipush 8, 2)), (93, (.invokevirtual 86, 3)), (96, (.ifCond .eq 14, 3)), (99, (.aload_n 0, 1)), (100, (.invokevirtual 98, 3)), (103, (.ifCond .eq 7, 3)), (106, (.iconst 1, 1))]
theorem t_Re_readLine_0_ok : ∀ q ∈ t_Re_readLine_0, decode prog_7_method_4_code q.1 = .ok q.2 := by decide +kernel
def t_Re_readLine_1 : List (Nat × Instr × Nat) := [(107, (.goto 4, 3)), (110, (.iconst 0, 1)), (111, (.ireturn, 1)), (112, (.aload_n 0, 1)), (113, (.ldc 101, 2)), (115, (.invokevirtual 71, 3)), (118, (.ifCond .eq 39, 3)), (121, (.aload_n 0, 1)), (122, (.aload_n 0, 1)), (123, (.getfield 22, 3)), (126, (.getfield 103, 3)), (129, (.bipush 12, 2)), (131, (.invokevirtual 86, 3)), (134, (.ifCond .eq 21, 3)), (137, (.aload_n 0, 1)), (138, (.invokevirtual 106, 3)), (141, (.ifCond .eq 14, 3)), (144, (.aload_n 0, 1)), (145, (.invokevirtual 109, 3)), (148, (.ifCond .eq 7, 3)), (151, (.iconst 1, 1)), (152, (.goto 4, 3)), (155, (.iconst 0, 1)), (156, (.ireturn, 1)), (157, (.aload_n 0, 1)), (158, (.iconst 1, 1)), (159, (.invokevirtual 57, 3)), (162, (.ireturn, 1))]
theorem t_Re_readLine_1_ok : ∀ q ∈ t_Re_readLine_1, decode prog_7_method_4_code q.1 = .ok q.2 := by decide +kernel
def m_Re_readLine : mM := (⟨"LinkTimes$Reader", "readLine", "()Z"⟩, prog_7_method_4_code, 1, (some .boolean), t_Re_readLine_0 ++ t_Re_readLine_1)
theorem ok_Re_readLine : mOK m_Re_readLine := ⟨by decide, tm 584 (by decide +kernel) rfl, all_app (t_Re_readLine_0_ok) t_Re_readLine_1_ok, tm 115 (by decide +kernel) rfl, by decide, by decide⟩
theorem vm_Re_readLine : mVt m_Re_readLine := ⟨tm 583 (by decide +kernel) rfl, tm 2 (by decide +kernel) rfl⟩
def t_Re_hasRoom_0 : List (Nat × Instr × Nat) := [(0, (.aload_n 0, 1)), (1, (.getfield 22, 3)), (4, (.getfield 75, 3)), (7, (.ifCond .ne 10, 3)), (10, (.aload_n 0, 1)), (11, (.bipush 6, 2)), (13, (.invokevirtual 57, 3)), (16, (.ireturn, 1)), (17, (.iload_n 1, 1)), (18, (.iload_n 2, 1)), (19, (.if_icmp .lt 11, 3)), (22, (.aload_n 0, 1)), (23, (.iconst 5, 1)), (24, (.invokevirtual 57, 3)), (27, (.ifCond .eq 7, 3)), (30, (.iconst 1, 1)), (31, (.goto 4, 3)), (34, (.iconst 0, 1)), (35, (.ireturn, 1))]
theorem t_Re_hasRoom_0_ok : ∀ q ∈ t_Re_hasRoom_0, decode prog_7_method_5_code q.1 = .ok q.2 := by decide +kernel
def m_Re_hasRoom : mM := (⟨"LinkTimes$Reader", "hasRoom", "(II)Z"⟩, prog_7_method_5_code, 3, (some .boolean), t_Re_hasRoom_0)
theorem ok_Re_hasRoom : mOK m_Re_hasRoom := ⟨by decide, tm 677 (by decide +kernel) rfl, t_Re_hasRoom_0_ok, tm 115 (by decide +kernel) rfl, by decide, by decide⟩
theorem vm_Re_hasRoom : mVt m_Re_hasRoom := ⟨tm 676 (by decide +kernel) rfl, tm 11 (by decide +kernel) rfl⟩
def t_Re_readSpan_0 : List (Nat × Instr × Nat) := [(0, (.aload_n 0, 1)), (1, (.ldc 112, 2)), (3, (.invokevirtual 113, 3)), (6, (.ifCond .eq 14, 3)), (9, (.aload_n 0, 1)), (10, (.iconst 1, 1)), (11, (.sipush 999, 3)), (14, (.invokevirtual 116, 3)), (17, (.ifCond .ne 5, 3)), (20, (.iconst 0, 1)), (21, (.ireturn, 1)), (22, (.aload_n 0, 1)), (23, (.getfield 22, 3)), (26, (.aload_n 0, 1)), (27, (.getfield 119, 3)), (30, (.putfield 75, 3)), (33, (.aload_n 0, 1)), (34, (.invokevirtual 67, 3)), (37, (.iconst 1, 1)), (38, (.ireturn, 1))]
theorem t_Re_readSpan_0_ok : ∀ q ∈ t_Re_readSpan_0, decode prog_7_method_6_code q.1 = .ok q.2 := by decide +kernel
def m_Re_readSpan : mM := (⟨"LinkTimes$Reader", "readSpan", "()Z"⟩, prog_7_method_6_code, 1, (some .boolean), t_Re_readSpan_0)
theorem ok_Re_readSpan : mOK m_Re_readSpan := ⟨by decide, tm 663 (by decide +kernel) rfl, t_Re_readSpan_0_ok, tm 115 (by decide +kernel) rfl, by decide, by decide⟩
theorem vm_Re_readSpan : mVt m_Re_readSpan := ⟨tm 662 (by decide +kernel) rfl, tm 8 (by decide +kernel) rfl⟩
def t_Re_readSpot_0 : List (Nat × Instr × Nat) := [(0, (.aload_n 0, 1)), (1, (.invokevirtual 122, 3)), (4, (.ifCond .ne 5, 3)), (7, (.iconst 0, 1)), (8, (.ireturn, 1)), (9, (.aload_n 0, 1)), (10, (.getfield 119, 3)), (13, (.istore_n 1, 1)), (14, (.aload_n 0, 1)), (15, (.ldc 125, 2)), (17, (.invokevirtual 113, 3)), (20, (.ifCond .eq 13, 3)), (23, (.aload_n 0, 1)), (24, (.iconst 0, 1)), (25, (.bipush 99, 2)), (27, (.invokevirtual 116, 3)), (30, (.ifCond .ne 5, 3)), (33, (.iconst 0, 1)), (34, (.ireturn, 1)), (35, (.aload_n 0, 1)), (36, (.getfield 119, 3)), (39, (.istore_n 2, 1)), (40, (.bipush (-2), 2)), (42, (.istore_n 3, 1)), (43, (.aload_n 0, 1)), (44, (.invokevirtual 67, 3)), (47, (.aload_n 0, 1)), (48, (.ldc 127, 2)), (50, (.invokevirtual 71, 3)), (53, (.ifCond .eq 25, 3)), (56, (.aload_n 0, 1)), (57, (.iconst 0, 1)), (58, (.sipush 999, 3)), (61, (.invokevirtual 116, 3)), (64, (.ifCond .ne 5, 3)), (67, (.iconst 0, 1)), (68, (.ireturn, 1)), (69, (.aload_n 0, 1)), (70, (.getfield 119, 3)), (73, (.istore_n 3, 1)), (74, (.aload_n 0, 1)), (75, (.invokevirtual 67, 3)), (78, (.aload_n 0, 1)), (79, (.getfield 9, 3)), (82, (.aload_n 0, 1)), (83, (.getfield 22, 3)), (86, (.getfield 83, 3)), (89, (.iload_n 1, 1)), (90, (.iastore, 1)), (91, (.aload_n 0, 1))]
theorem t_Re_readSpot_0_ok : ∀ q ∈ t_Re_readSpot_0, decode prog_7_method_7_code q.1 = .ok q.2 := by decide +kernel
def t_Re_readSpot_1 : List (Nat × Instr × Nat) := [(92, (.getfield 22, 3)), (95, (.iload_n 2, 1)), (96, (.iload_n 3, 1)), (97, (.invokevirtual 129, 3)), (100, (.iconst 1, 1)), (101, (.ireturn, 1))]
theorem t_Re_readSpot_1_ok : ∀ q ∈ t_Re_readSpot_1, decode prog_7_method_7_code q.1 = .ok q.2 := by decide +kernel
def m_Re_readSpot : mM := (⟨"LinkTimes$Reader", "readSpot", "()Z"⟩, prog_7_method_7_code, 4, (some .boolean), t_Re_readSpot_0 ++ t_Re_readSpot_1)
theorem ok_Re_readSpot : mOK m_Re_readSpot := ⟨by decide, tm 681 (by decide +kernel) rfl, all_app (t_Re_readSpot_0_ok) t_Re_readSpot_1_ok, tm 115 (by decide +kernel) rfl, by decide, by decide⟩
theorem vm_Re_readSpot : mVt m_Re_readSpot := ⟨tm 680 (by decide +kernel) rfl, tm 12 (by decide +kernel) rfl⟩
def t_Re_readName_0 : List (Nat × Instr × Nat) := [(0, (.aload_n 0, 1)), (1, (.invokevirtual 122, 3)), (4, (.ifCond .ne 5, 3)), (7, (.iconst 0, 1)), (8, (.ireturn, 1)), (9, (.aload_n 0, 1)), (10, (.getfield 15, 3)), (13, (.aload_n 0, 1)), (14, (.getfield 22, 3)), (17, (.getfield 95, 3)), (20, (.aload_n 0, 1)), (21, (.getfield 119, 3)), (24, (.iastore, 1)), (25, (.aload_n 0, 1)), (26, (.getfield 22, 3)), (29, (.dup, 1)), (30, (.getfield 95, 3)), (33, (.iconst 1, 1)), (34, (.iadd, 1)), (35, (.putfield 95, 3)), (38, (.aload_n 0, 1)), (39, (.invokevirtual 67, 3)), (42, (.iconst 1, 1)), (43, (.ireturn, 1))]
theorem t_Re_readName_0_ok : ∀ q ∈ t_Re_readName_0, decode prog_7_method_8_code q.1 = .ok q.2 := by decide +kernel
def m_Re_readName : mM := (⟨"LinkTimes$Reader", "readName", "()Z"⟩, prog_7_method_8_code, 1, (some .boolean), t_Re_readName_0)
theorem ok_Re_readName : mOK m_Re_readName := ⟨by decide, tm 705 (by decide +kernel) rfl, t_Re_readName_0_ok, tm 115 (by decide +kernel) rfl, by decide, by decide⟩
theorem vm_Re_readName : mVt m_Re_readName := ⟨tm 704 (by decide +kernel) rfl, tm 16 (by decide +kernel) rfl⟩
def t_Re_readEnds_0 : List (Nat × Instr × Nat) := [(0, (.aload_n 0, 1)), (1, (.aload_n 0, 1)), (2, (.aload_n 0, 1)), (3, (.getfield 15, 3)), (6, (.aload_n 0, 1)), (7, (.getfield 22, 3)), (10, (.getfield 95, 3)), (13, (.invokevirtual 133, 3)), (16, (.putfield 137, 3)), (19, (.aload_n 0, 1)), (20, (.getfield 137, 3)), (23, (.iconst (-1), 1)), (24, (.if_icmp .ne 5, 3)), (27, (.iconst 0, 1)), (28, (.ireturn, 1)), (29, (.aload_n 0, 1)), (30, (.aload_n 0, 1)), (31, (.aload_n 0, 1)), (32, (.getfield 9, 3)), (35, (.aload_n 0, 1)), (36, (.getfield 22, 3)), (39, (.getfield 83, 3)), (42, (.invokevirtual 133, 3)), (45, (.putfield 140, 3)), (48, (.aload_n 0, 1)), (49, (.getfield 140, 3)), (52, (.iconst (-1), 1)), (53, (.if_icmp .ne 5, 3)), (56, (.iconst 0, 1)), (57, (.ireturn, 1)), (58, (.aload_n 0, 1)), (59, (.aload_n 0, 1)), (60, (.aload_n 0, 1)), (61, (.getfield 9, 3)), (64, (.aload_n 0, 1)), (65, (.getfield 22, 3)), (68, (.getfield 83, 3)), (71, (.invokevirtual 133, 3)), (74, (.putfield 143, 3)), (77, (.aload_n 0, 1)), (78, (.getfield 143, 3)), (81, (.iconst (-1), 1)), (82, (.if_icmp .ne 5, 3)), (85, (.iconst 0, 1)), (86, (.ireturn, 1)), (87, (.aload_n 0, 1)), (88, (.getfield 143, 3)), (91, (.aload_n 0, 1)), (92, (.getfield 140, 3)), (95, (.if_icmp .ne 11, 3))]
theorem t_Re_readEnds_0_ok : ∀ q ∈ t_Re_readEnds_0, decode prog_7_method_9_code q.1 = .ok q.2 := by decide +kernel
def t_Re_readEnds_1 : List (Nat × Instr × Nat) := [(98, (.aload_n 0, 1)), (99, (.iconst 3, 1)), (100, (.invokevirtual 57, 3)), (103, (.ifCond .eq 7, 3)), (106, (.iconst 1, 1)), (107, (.goto 4, 3)), (110, (.iconst 0, 1)), (111, (.ireturn, 1))]
theorem t_Re_readEnds_1_ok : ∀ q ∈ t_Re_readEnds_1, decode prog_7_method_9_code q.1 = .ok q.2 := by decide +kernel
def m_Re_readEnds : mM := (⟨"LinkTimes$Reader", "readEnds", "()Z"⟩, prog_7_method_9_code, 1, (some .boolean), t_Re_readEnds_0 ++ t_Re_readEnds_1)
theorem ok_Re_readEnds : mOK m_Re_readEnds := ⟨by decide, tm 709 (by decide +kernel) rfl, all_app (t_Re_readEnds_0_ok) t_Re_readEnds_1_ok, tm 115 (by decide +kernel) rfl, by decide, by decide⟩
theorem vm_Re_readEnds : mVt m_Re_readEnds := ⟨tm 708 (by decide +kernel) rfl, tm 17 (by decide +kernel) rfl⟩
def t_Re_readTimes_0 : List (Nat × Instr × Nat) := [(0, (.aload_n 0, 1)), (1, (.ldc 146, 2)), (3, (.invokevirtual 113, 3)), (6, (.ifCond .eq 18, 3)), (9, (.aload_n 0, 1)), (10, (.iconst 0, 1)), (11, (.aload_n 0, 1)), (12, (.getfield 22, 3)), (15, (.getfield 75, 3)), (18, (.invokevirtual 116, 3)), (21, (.ifCond .ne 5, 3)), (24, (.iconst 0, 1)), (25, (.ireturn, 1)), (26, (.aload_n 0, 1)), (27, (.getfield 119, 3)), (30, (.istore_n 1, 1)), (31, (.aload_n 0, 1)), (32, (.ldc 148, 2)), (34, (.invokevirtual 113, 3)), (37, (.ifCond .eq 18, 3)), (40, (.aload_n 0, 1)), (41, (.iload_n 1, 1)), (42, (.aload_n 0, 1)), (43, (.getfield 22, 3)), (46, (.getfield 75, 3)), (49, (.invokevirtual 116, 3)), (52, (.ifCond .ne 5, 3)), (55, (.iconst 0, 1)), (56, (.ireturn, 1)), (57, (.aload_n 0, 1)), (58, (.getfield 119, 3)), (61, (.istore_n 2, 1)), (62, (.aload_n 0, 1)), (63, (.ldc 150, 2)), (65, (.invokevirtual 113, 3)), (68, (.ifCond .eq 14, 3)), (71, (.aload_n 0, 1)), (72, (.iconst 1, 1)), (73, (.sipush 999, 3)), (76, (.invokevirtual 116, 3)), (79, (.ifCond .ne 5, 3)), (82, (.iconst 0, 1)), (83, (.ireturn, 1)), (84, (.aload_n 0, 1)), (85, (.getfield 119, 3)), (88, (.iconst 1, 1)), (89, (.invokestatic 152, 3)), (92, (.istore_n 3, 1)), (93, (.aload_n 0, 1)), (94, (.getfield 22, 3))]
theorem t_Re_readTimes_0_ok : ∀ q ∈ t_Re_readTimes_0, decode prog_7_method_10_code q.1 = .ok q.2 := by decide +kernel
def t_Re_readTimes_1 : List (Nat × Instr × Nat) := [(97, (.getfield 155, 3)), (100, (.iload_n 2, 1)), (101, (.iload_n 1, 1)), (102, (.isub, 1)), (103, (.iload_n 3, 1)), (104, (.idiv, 1)), (105, (.iadd, 1)), (106, (.iconst 1, 1)), (107, (.iadd, 1)), (108, (.bipush 120, 2)), (110, (.if_icmp .le 9, 3)), (113, (.aload_n 0, 1)), (114, (.iconst 5, 1)), (115, (.invokevirtual 57, 3)), (118, (.ireturn, 1)), (119, (.aload_n 0, 1)), (120, (.ldc 158, 2)), (122, (.invokevirtual 113, 3)), (125, (.ifCond .eq 13, 3)), (128, (.aload_n 0, 1)), (129, (.iconst 1, 1)), (130, (.bipush 99, 2)), (132, (.invokevirtual 116, 3)), (135, (.ifCond .ne 5, 3)), (138, (.iconst 0, 1)), (139, (.ireturn, 1)), (140, (.iload_n 1, 1)), (141, (.istore 4, 2)), (143, (.iload 4, 2)), (145, (.iload_n 2, 1)), (146, (.if_icmp .gt 44, 3)), (149, (.aload_n 0, 1)), (150, (.getfield 22, 3)), (153, (.aload_n 0, 1)), (154, (.getfield 137, 3)), (157, (.aload_n 0, 1)), (158, (.getfield 140, 3)), (161, (.aload_n 0, 1)), (162, (.getfield 143, 3)), (165, (.iload 4, 2)), (167, (.aload_n 0, 1)), (168, (.getfield 119, 3)), (171, (.aload_n 0, 1)), (172, (.getfield 22, 3)), (175, (.getfield 103, 3)), (178, (.invokevirtual 160, 3)), (181, (.iload 4, 2)), (183, (.iload_n 3, 1)), (184, (.iadd, 1)), (185, (.istore 4, 2))]
theorem t_Re_readTimes_1_ok : ∀ q ∈ t_Re_readTimes_1, decode prog_7_method_10_code q.1 = .ok q.2 := by decide +kernel
def t_Re_readTimes_2 : List (Nat × Instr × Nat) := [(187, (.goto (-44), 3)), (190, (.aload_n 0, 1)), (191, (.getfield 22, 3)), (194, (.dup, 1)), (195, (.getfield 103, 3)), (198, (.iconst 1, 1)), (199, (.iadd, 1)), (200, (.putfield 103, 3)), (203, (.aload_n 0, 1)), (204, (.invokevirtual 67, 3)), (207, (.iconst 1, 1)), (208, (.ireturn, 1))]
theorem t_Re_readTimes_2_ok : ∀ q ∈ t_Re_readTimes_2, decode prog_7_method_10_code q.1 = .ok q.2 := by decide +kernel
def m_Re_readTimes : mM := (⟨"LinkTimes$Reader", "readTimes", "()Z"⟩, prog_7_method_10_code, 5, (some .boolean), t_Re_readTimes_0 ++ t_Re_readTimes_1 ++ t_Re_readTimes_2)
theorem ok_Re_readTimes : mOK m_Re_readTimes := ⟨by decide, tm 717 (by decide +kernel) rfl, all_app (all_app (t_Re_readTimes_0_ok) t_Re_readTimes_1_ok) t_Re_readTimes_2_ok, tm 115 (by decide +kernel) rfl, by decide, by decide⟩
theorem vm_Re_readTimes : mVt m_Re_readTimes := ⟨tm 716 (by decide +kernel) rfl, tm 19 (by decide +kernel) rfl⟩
def t_Re_expectWord_0 : List (Nat × Instr × Nat) := [(0, (.aload_n 0, 1)), (1, (.invokevirtual 67, 3)), (4, (.aload_n 0, 1)), (5, (.aload_n 1, 1)), (6, (.invokevirtual 71, 3)), (9, (.ifCond .ne 11, 3)), (12, (.aload_n 0, 1)), (13, (.iconst 1, 1)), (14, (.invokevirtual 57, 3)), (17, (.ifCond .eq 7, 3)), (20, (.iconst 1, 1)), (21, (.goto 4, 3)), (24, (.iconst 0, 1)), (25, (.ireturn, 1))]
theorem t_Re_expectWord_0_ok : ∀ q ∈ t_Re_expectWord_0, decode prog_7_method_11_code q.1 = .ok q.2 := by decide +kernel
def m_Re_expectWord : mM := (⟨"LinkTimes$Reader", "expectWord", "(Ljava/lang/String;)Z"⟩, prog_7_method_11_code, 2, (some .boolean), t_Re_expectWord_0)
theorem ok_Re_expectWord : mOK m_Re_expectWord := ⟨by decide, tm 668 (by decide +kernel) rfl, t_Re_expectWord_0_ok, tm 115 (by decide +kernel) rfl, by decide, by decide⟩
theorem vm_Re_expectWord : mVt m_Re_expectWord := ⟨tm 667 (by decide +kernel) rfl, tm 9 (by decide +kernel) rfl⟩
def t_Re_expectWhole_0 : List (Nat × Instr × Nat) := [(0, (.aload_n 0, 1)), (1, (.invokevirtual 67, 3)), (4, (.aload_n 0, 1)), (5, (.getfield 54, 3)), (8, (.iconst 2, 1)), (9, (.if_icmp .eq 9, 3)), (12, (.aload_n 0, 1)), (13, (.iconst 1, 1)), (14, (.invokevirtual 57, 3)), (17, (.ireturn, 1)), (18, (.aload_n 0, 1)), (19, (.getfield 119, 3)), (22, (.iload_n 1, 1)), (23, (.if_icmp .lt 11, 3)), (26, (.aload_n 0, 1)), (27, (.getfield 119, 3)), (30, (.iload_n 2, 1)), (31, (.if_icmp .le 11, 3)), (34, (.aload_n 0, 1)), (35, (.iconst 4, 1)), (36, (.invokevirtual 57, 3)), (39, (.ifCond .eq 7, 3)), (42, (.iconst 1, 1)), (43, (.goto 4, 3)), (46, (.iconst 0, 1)), (47, (.ireturn, 1))]
theorem t_Re_expectWhole_0_ok : ∀ q ∈ t_Re_expectWhole_0, decode prog_7_method_12_code q.1 = .ok q.2 := by decide +kernel
def m_Re_expectWhole : mM := (⟨"LinkTimes$Reader", "expectWhole", "(II)Z"⟩, prog_7_method_12_code, 3, (some .boolean), t_Re_expectWhole_0)
theorem ok_Re_expectWhole : mOK m_Re_expectWhole := ⟨by decide, tm 672 (by decide +kernel) rfl, t_Re_expectWhole_0_ok, tm 115 (by decide +kernel) rfl, by decide, by decide⟩
theorem vm_Re_expectWhole : mVt m_Re_expectWhole := ⟨tm 671 (by decide +kernel) rfl, tm 10 (by decide +kernel) rfl⟩
def t_Re_expectNewName_0 : List (Nat × Instr × Nat) := [(0, (.aload_n 0, 1)), (1, (.invokevirtual 67, 3)), (4, (.aload_n 0, 1)), (5, (.invokevirtual 164, 3)), (8, (.ifCond .ne 9, 3)), (11, (.aload_n 0, 1)), (12, (.iconst 1, 1)), (13, (.invokevirtual 57, 3)), (16, (.ireturn, 1)), (17, (.aload_n 0, 1)), (18, (.aload_n 0, 1)), (19, (.getfield 9, 3)), (22, (.aload_n 0, 1)), (23, (.getfield 22, 3)), (26, (.getfield 83, 3)), (29, (.invokevirtual 167, 3)), (32, (.iconst (-1), 1)), (33, (.if_icmp .ne 22, 3)), (36, (.aload_n 0, 1)), (37, (.aload_n 0, 1)), (38, (.getfield 15, 3)), (41, (.aload_n 0, 1)), (42, (.getfield 22, 3)), (45, (.getfield 95, 3)), (48, (.invokevirtual 167, 3)), (51, (.iconst (-1), 1)), (52, (.if_icmp .eq 7, 3)), (55, (.iconst 1, 1)), (56, (.goto 4, 3)), (59, (.iconst 0, 1)), (60, (.istore_n 1, 1)), (61, (.iload_n 1, 1)), (62, (.ifCond .eq 11, 3)), (65, (.aload_n 0, 1)), (66, (.iconst 3, 1)), (67, (.invokevirtual 57, 3)), (70, (.ifCond .eq 7, 3)), (73, (.iconst 1, 1)), (74, (.goto 4, 3)), (77, (.iconst 0, 1)), (78, (.ireturn, 1))]
theorem t_Re_expectNewName_0_ok : ∀ q ∈ t_Re_expectNewName_0, decode prog_7_method_13_code q.1 = .ok q.2 := by decide +kernel
def m_Re_expectNewName : mM := (⟨"LinkTimes$Reader", "expectNewName", "()Z"⟩, prog_7_method_13_code, 2, (some .boolean), t_Re_expectNewName_0)
theorem ok_Re_expectNewName : mOK m_Re_expectNewName := ⟨by decide, tm 685 (by decide +kernel) rfl, t_Re_expectNewName_0_ok, tm 115 (by decide +kernel) rfl, by decide, by decide⟩
theorem vm_Re_expectNewName : mVt m_Re_expectNewName := ⟨tm 684 (by decide +kernel) rfl, tm 13 (by decide +kernel) rfl⟩
def t_Re_expectTold_0 : List (Nat × Instr × Nat) := [(0, (.aload_n 0, 1)), (1, (.invokevirtual 67, 3)), (4, (.aload_n 0, 1)), (5, (.invokevirtual 164, 3)), (8, (.ifCond .ne 11, 3)), (11, (.aload_n 0, 1)), (12, (.iconst 1, 1)), (13, (.invokevirtual 57, 3)), (16, (.pop, 1)), (17, (.iconst (-1), 1)), (18, (.ireturn, 1)), (19, (.aload_n 0, 1)), (20, (.aload_n 1, 1)), (21, (.iload_n 2, 1)), (22, (.invokevirtual 167, 3)), (25, (.istore_n 3, 1)), (26, (.iload_n 3, 1)), (27, (.iconst (-1), 1)), (28, (.if_icmp .ne 9, 3)), (31, (.aload_n 0, 1)), (32, (.iconst 2, 1)), (33, (.invokevirtual 57, 3)), (36, (.pop, 1)), (37, (.iload_n 3, 1)), (38, (.ireturn, 1))]
theorem t_Re_expectTold_0_ok : ∀ q ∈ t_Re_expectTold_0, decode prog_7_method_14_code q.1 = .ok q.2 := by decide +kernel
def m_Re_expectTold : mM := (⟨"LinkTimes$Reader", "expectTold", "([II)I"⟩, prog_7_method_14_code, 4, (some .int), t_Re_expectTold_0)
theorem ok_Re_expectTold : mOK m_Re_expectTold := ⟨by decide, tm 713 (by decide +kernel) rfl, t_Re_expectTold_0_ok, tm 115 (by decide +kernel) rfl, by decide, by decide⟩
theorem vm_Re_expectTold : mVt m_Re_expectTold := ⟨tm 712 (by decide +kernel) rfl, tm 18 (by decide +kernel) rfl⟩
def t_Re_find_0 : List (Nat × Instr × Nat) := [(0, (.iconst 0, 1)), (1, (.istore_n 3, 1)), (2, (.iload_n 3, 1)), (3, (.iload_n 2, 1)), (4, (.if_icmp .ge 27, 3)), (7, (.iload_n 3, 1)), (8, (.aload_n 1, 1)), (9, (.arraylength, 1)), (10, (.if_icmp .ge 21, 3)), (13, (.aload_n 1, 1)), (14, (.iload_n 3, 1)), (15, (.iaload, 1)), (16, (.aload_n 0, 1)), (17, (.getfield 119, 3)), (20, (.if_icmp .ne 5, 3)), (23, (.iload_n 3, 1)), (24, (.ireturn, 1)), (25, (.iinc 3 1, 3)), (28, (.goto (-26), 3)), (31, (.iconst (-1), 1)), (32, (.ireturn, 1))]
theorem t_Re_find_0_ok : ∀ q ∈ t_Re_find_0, decode prog_7_method_15_code q.1 = .ok q.2 := by decide +kernel
def m_Re_find : mM := (⟨"LinkTimes$Reader", "find", "([II)I"⟩, prog_7_method_15_code, 4, (some .int), t_Re_find_0)
theorem ok_Re_find : mOK m_Re_find := ⟨by decide, tm 695 (by decide +kernel) rfl, t_Re_find_0_ok, tm 115 (by decide +kernel) rfl, by decide, by decide⟩
theorem vm_Re_find : mVt m_Re_find := ⟨tm 694 (by decide +kernel) rfl, tm 15 (by decide +kernel) rfl⟩
def t_Re_isName_0 : List (Nat × Instr × Nat) := [(0, (.aload_n 0, 1)), (1, (.getfield 54, 3)), (4, (.iconst 1, 1)), (5, (.if_icmp .ne 43, 3)), (8, (.aload_n 0, 1)), (9, (.ldc 70, 2)), (11, (.invokevirtual 71, 3)), (14, (.ifCond .ne 34, 3)), (17, (.aload_n 0, 1)), (18, (.ldc 81, 2)), (20, (.invokevirtual 71, 3)), (23, (.ifCond .ne 25, 3)), (26, (.aload_n 0, 1)), (27, (.ldc 93, 2)), (29, (.invokevirtual 71, 3)), (32, (.ifCond .ne 16, 3)), (35, (.aload_n 0, 1)), (36, (.ldc 101, 2)), (38, (.invokevirtual 71, 3)), (41, (.ifCond .ne 7, 3)), (44, (.iconst 1, 1)), (45, (.goto 4, 3)), (48, (.iconst 0, 1)), (49, (.ireturn, 1))]
theorem t_Re_isName_0_ok : ∀ q ∈ t_Re_isName_0, decode prog_7_method_16_code q.1 = .ok q.2 := by decide +kernel
def m_Re_isName : mM := (⟨"LinkTimes$Reader", "isName", "()Z"⟩, prog_7_method_16_code, 1, (some .boolean), t_Re_isName_0)
theorem ok_Re_isName : mOK m_Re_isName := ⟨by decide, tm 689 (by decide +kernel) rfl, t_Re_isName_0_ok, tm 115 (by decide +kernel) rfl, by decide, by decide⟩
theorem vm_Re_isName : mVt m_Re_isName := ⟨tm 688 (by decide +kernel) rfl, tm 14 (by decide +kernel) rfl⟩
def t_Re_isWord_0 : List (Nat × Instr × Nat) := [(0, (.aload_n 0, 1)), (1, (.getfield 54, 3)), (4, (.iconst 1, 1)), (5, (.if_icmp .ne 19, 3)), (8, (.aload_n 0, 1)), (9, (.getfield 47, 3)), (12, (.aload_n 0, 1)), (13, (.getfield 64, 3)), (16, (.isub, 1)), (17, (.aload_n 1, 1)), (18, (.invokevirtual 170, 3)), (21, (.if_icmp .eq 5, 3)), (24, (.iconst 0, 1)), (25, (.ireturn, 1)), (26, (.iconst 0, 1)), (27, (.istore_n 2, 1)), (28, (.iload_n 2, 1)), (29, (.aload_n 1, 1)), (30, (.invokevirtual 170, 3)), (33, (.if_icmp .ge 30, 3)), (36, (.aload_n 0, 1)), (37, (.getfield 18, 3)), (40, (.aload_n 0, 1)), (41, (.getfield 64, 3)), (44, (.iload_n 2, 1)), (45, (.iadd, 1)), (46, (.baload, 1)), (47, (.aload_n 1, 1)), (48, (.iload_n 2, 1)), (49, (.invokevirtual 175, 3)), (52, (.if_icmp .eq 5, 3)), (55, (.iconst 0, 1)), (56, (.ireturn, 1)), (57, (.iinc 2 1, 3)), (60, (.goto (-32), 3)), (63, (.iconst 1, 1)), (64, (.ireturn, 1))]
theorem t_Re_isWord_0_ok : ∀ q ∈ t_Re_isWord_0, decode prog_7_method_17_code q.1 = .ok q.2 := by decide +kernel
def m_Re_isWord : mM := (⟨"LinkTimes$Reader", "isWord", "(Ljava/lang/String;)Z"⟩, prog_7_method_17_code, 3, (some .boolean), t_Re_isWord_0)
theorem ok_Re_isWord : mOK m_Re_isWord := ⟨by decide, tm 607 (by decide +kernel) rfl, t_Re_isWord_0_ok, tm 115 (by decide +kernel) rfl, by decide, by decide⟩
theorem vm_Re_isWord : mVt m_Re_isWord := ⟨tm 606 (by decide +kernel) rfl, tm 6 (by decide +kernel) rfl⟩
def t_Re_advance_0 : List (Nat × Instr × Nat) := [(0, (.aload_n 0, 1)), (1, (.getfield 47, 3)), (4, (.aload_n 0, 1)), (5, (.getfield 32, 3)), (8, (.if_icmp .ge 30, 3)), (11, (.aload_n 0, 1)), (12, (.getfield 18, 3)), (15, (.aload_n 0, 1)), (16, (.getfield 47, 3)), (19, (.baload, 1)), (20, (.bipush 32, 2)), (22, (.if_icmp .ne 16, 3)), (25, (.aload_n 0, 1)), (26, (.dup, 1)), (27, (.getfield 47, 3)), (30, (.iconst 1, 1)), (31, (.iadd, 1)), (32, (.putfield 47, 3)), (35, (.goto (-35), 3)), (38, (.aload_n 0, 1)), (39, (.aload_n 0, 1)), (40, (.getfield 47, 3)), (43, (.putfield 64, 3)), (46, (.aload_n 0, 1)), (47, (.iconst 0, 1)), (48, (.putfield 119, 3)), (51, (.aload_n 0, 1)), (52, (.getfield 47, 3)), (55, (.aload_n 0, 1)), (56, (.getfield 32, 3)), (59, (.if_icmp .lt 11, 3)), (62, (.aload_n 0, 1)), (63, (.iconst 4, 1)), (64, (.putfield 54, 3)), (67, (.goto 84, 3)), (70, (.aload_n 0, 1)), (71, (.getfield 18, 3)), (74, (.aload_n 0, 1)), (75, (.getfield 47, 3)), (78, (.baload, 1)), (79, (.bipush 59, 2)), (81, (.if_icmp .ne 21, 3)), (84, (.aload_n 0, 1)), (85, (.iconst 3, 1)), (86, (.putfield 54, 3)), (89, (.aload_n 0, 1)), (90, (.dup, 1)), (91, (.getfield 47, 3)), (94, (.iconst 1, 1)), (95, (.iadd, 1))]
theorem t_Re_advance_0_ok : ∀ q ∈ t_Re_advance_0, decode prog_7_method_18_code q.1 = .ok q.2 := by decide +kernel
def t_Re_advance_1 : List (Nat × Instr × Nat) := [(96, (.putfield 47, 3)), (99, (.goto 52, 3)), (102, (.aload_n 0, 1)), (103, (.getfield 18, 3)), (106, (.aload_n 0, 1)), (107, (.getfield 47, 3)), (110, (.baload, 1)), (111, (.invokestatic 179, 3)), (114, (.ifCond .eq 10, 3)), (117, (.aload_n 0, 1)), (118, (.invokevirtual 182, 3)), (121, (.goto 30, 3)), (124, (.aload_n 0, 1)), (125, (.getfield 18, 3)), (128, (.aload_n 0, 1)), (129, (.getfield 47, 3)), (132, (.baload, 1)), (133, (.invokestatic 185, 3)), (136, (.ifCond .eq 10, 3)), (139, (.aload_n 0, 1)), (140, (.invokevirtual 188, 3)), (143, (.goto 8, 3)), (146, (.aload_n 0, 1)), (147, (.iconst 5, 1)), (148, (.putfield 54, 3)), (151, (.return_, 1))]
theorem t_Re_advance_1_ok : ∀ q ∈ t_Re_advance_1, decode prog_7_method_18_code q.1 = .ok q.2 := by decide +kernel
def m_Re_advance : mM := (⟨"LinkTimes$Reader", "advance", "()V"⟩, prog_7_method_18_code, 1, none, t_Re_advance_0 ++ t_Re_advance_1)
theorem ok_Re_advance : mOK m_Re_advance := ⟨by decide, tm 588 (by decide +kernel) rfl, all_app (t_Re_advance_0_ok) t_Re_advance_1_ok, tm 115 (by decide +kernel) rfl, by decide, by decide⟩
theorem vm_Re_advance : mVt m_Re_advance := ⟨tm 587 (by decide +kernel) rfl, tm 3 (by decide +kernel) rfl⟩
def t_Re_takeWord_0 : List (Nat × Instr × Nat) := [(0, (.aload_n 0, 1)), (1, (.getfield 47, 3)), (4, (.aload_n 0, 1)), (5, (.getfield 32, 3)), (8, (.if_icmp .ge 57, 3)), (11, (.aload_n 0, 1)), (12, (.getfield 18, 3)), (15, (.aload_n 0, 1)), (16, (.getfield 47, 3)), (19, (.baload, 1)), (20, (.invokestatic 179, 3)), (23, (.ifCond .eq 42, 3)), (26, (.aload_n 0, 1)), (27, (.aload_n 0, 1)), (28, (.getfield 119, 3)), (31, (.bipush 27, 2)), (33, (.imul, 1)), (34, (.aload_n 0, 1)), (35, (.getfield 18, 3)), (38, (.aload_n 0, 1)), (39, (.getfield 47, 3)), (42, (.baload, 1)), (43, (.iadd, 1)), (44, (.bipush 97, 2)), (46, (.isub, 1)), (47, (.iconst 1, 1)), (48, (.iadd, 1)), (49, (.putfield 119, 3)), (52, (.aload_n 0, 1)), (53, (.dup, 1)), (54, (.getfield 47, 3)), (57, (.iconst 1, 1)), (58, (.iadd, 1)), (59, (.putfield 47, 3)), (62, (.goto (-62), 3)), (65, (.aload_n 0, 1)), (66, (.aload_n 0, 1)), (67, (.getfield 47, 3)), (70, (.aload_n 0, 1)), (71, (.getfield 64, 3)), (74, (.isub, 1)), (75, (.bipush 6, 2)), (77, (.if_icmp .gt 7, 3)), (80, (.iconst 1, 1)), (81, (.goto 4, 3)), (84, (.iconst 5, 1)), (85, (.putfield 54, 3)), (88, (.return_, 1))]
theorem t_Re_takeWord_0_ok : ∀ q ∈ t_Re_takeWord_0, decode prog_7_method_19_code q.1 = .ok q.2 := by decide +kernel
def m_Re_takeWord : mM := (⟨"LinkTimes$Reader", "takeWord", "()V"⟩, prog_7_method_19_code, 1, none, t_Re_takeWord_0)
theorem ok_Re_takeWord : mOK m_Re_takeWord := ⟨by decide, tm 595 (by decide +kernel) rfl, t_Re_takeWord_0_ok, tm 115 (by decide +kernel) rfl, by decide, by decide⟩
theorem vm_Re_takeWord : mVt m_Re_takeWord := ⟨tm 594 (by decide +kernel) rfl, tm 4 (by decide +kernel) rfl⟩
def t_Re_takeWhole_0 : List (Nat × Instr × Nat) := [(0, (.aload_n 0, 1)), (1, (.getfield 47, 3)), (4, (.aload_n 0, 1)), (5, (.getfield 32, 3)), (8, (.if_icmp .ge 55, 3)), (11, (.aload_n 0, 1)), (12, (.getfield 18, 3)), (15, (.aload_n 0, 1)), (16, (.getfield 47, 3)), (19, (.baload, 1)), (20, (.invokestatic 185, 3)), (23, (.ifCond .eq 40, 3)), (26, (.aload_n 0, 1)), (27, (.aload_n 0, 1)), (28, (.getfield 119, 3)), (31, (.bipush 10, 2)), (33, (.imul, 1)), (34, (.aload_n 0, 1)), (35, (.getfield 18, 3)), (38, (.aload_n 0, 1)), (39, (.getfield 47, 3)), (42, (.baload, 1)), (43, (.iadd, 1)), (44, (.bipush 48, 2)), (46, (.isub, 1)), (47, (.putfield 119, 3)), (50, (.aload_n 0, 1)), (51, (.dup, 1)), (52, (.getfield 47, 3)), (55, (.iconst 1, 1)), (56, (.iadd, 1)), (57, (.putfield 47, 3)), (60, (.goto (-60), 3)), (63, (.aload_n 0, 1)), (64, (.aload_n 0, 1)), (65, (.getfield 47, 3)), (68, (.aload_n 0, 1)), (69, (.getfield 64, 3)), (72, (.isub, 1)), (73, (.iconst 4, 1)), (74, (.if_icmp .gt 7, 3)), (77, (.iconst 2, 1)), (78, (.goto 4, 3)), (81, (.iconst 5, 1)), (82, (.putfield 54, 3)), (85, (.return_, 1))]
theorem t_Re_takeWhole_0_ok : ∀ q ∈ t_Re_takeWhole_0, decode prog_7_method_20_code q.1 = .ok q.2 := by decide +kernel
def m_Re_takeWhole : mM := (⟨"LinkTimes$Reader", "takeWhole", "()V"⟩, prog_7_method_20_code, 1, none, t_Re_takeWhole_0)
theorem ok_Re_takeWhole : mOK m_Re_takeWhole := ⟨by decide, tm 602 (by decide +kernel) rfl, t_Re_takeWhole_0_ok, tm 115 (by decide +kernel) rfl, by decide, by decide⟩
theorem vm_Re_takeWhole : mVt m_Re_takeWhole := ⟨tm 601 (by decide +kernel) rfl, tm 5 (by decide +kernel) rfl⟩
def t_Re_isLetter_0 : List (Nat × Instr × Nat) := [(0, (.iload_n 0, 1)), (1, (.bipush 97, 2)), (3, (.if_icmp .lt 13, 3)), (6, (.iload_n 0, 1)), (7, (.bipush 122, 2)), (9, (.if_icmp .gt 7, 3)), (12, (.iconst 1, 1)), (13, (.goto 4, 3)), (16, (.iconst 0, 1)), (17, (.ireturn, 1))]
theorem t_Re_isLetter_0_ok : ∀ q ∈ t_Re_isLetter_0, decode prog_7_method_21_code q.1 = .ok q.2 := by decide +kernel
def m_Re_isLetter : mM := (⟨"LinkTimes$Reader", "isLetter", "(I)Z"⟩, prog_7_method_21_code, 1, (some .boolean), t_Re_isLetter_0)
theorem ok_Re_isLetter : mOK m_Re_isLetter := ⟨by decide, tm 591 (by decide +kernel) rfl, t_Re_isLetter_0_ok, tm 115 (by decide +kernel) rfl, by decide, by decide⟩
theorem sm_Re_isLetter : Cond.static m_Re_isLetter.1 ∈ t0_ws := tm 590 (by decide +kernel) rfl
def t_Re_isDigit_0 : List (Nat × Instr × Nat) := [(0, (.iload_n 0, 1)), (1, (.bipush 48, 2)), (3, (.if_icmp .lt 13, 3)), (6, (.iload_n 0, 1)), (7, (.bipush 57, 2)), (9, (.if_icmp .gt 7, 3)), (12, (.iconst 1, 1)), (13, (.goto 4, 3)), (16, (.iconst 0, 1)), (17, (.ireturn, 1))]
theorem t_Re_isDigit_0_ok : ∀ q ∈ t_Re_isDigit_0, decode prog_7_method_22_code q.1 = .ok q.2 := by decide +kernel
def m_Re_isDigit : mM := (⟨"LinkTimes$Reader", "isDigit", "(I)Z"⟩, prog_7_method_22_code, 1, (some .boolean), t_Re_isDigit_0)
theorem ok_Re_isDigit : mOK m_Re_isDigit := ⟨by decide, tm 598 (by decide +kernel) rfl, t_Re_isDigit_0_ok, tm 115 (by decide +kernel) rfl, by decide, by decide⟩
theorem sm_Re_isDigit : Cond.static m_Re_isDigit.1 ∈ t0_ws := tm 597 (by decide +kernel) rfl
def t_Se_init_0 : List (Nat × Instr × Nat) := [(0, (.aload_n 0, 1)), (1, (.invokespecial 3, 3)), (4, (.aload_n 0, 1)), (5, (.new 9, 3)), (8, (.dup, 1)), (9, (.invokespecial 11, 3)), (12, (.putfield 12, 3)), (15, (.aload_n 0, 1)), (16, (.bipush 10, 2)), (18, (.newarray .int, 2)), (20, (.putfield 18, 3)), (23, (.aload_n 0, 1)), (24, (.bipush 120, 2)), (26, (.newarray .int, 2)), (28, (.putfield 22, 3)), (31, (.aload_n 0, 1)), (32, (.bipush 120, 2)), (34, (.newarray .int, 2)), (36, (.putfield 25, 3)), (39, (.aload_n 0, 1)), (40, (.bipush 120, 2)), (42, (.newarray .int, 2)), (44, (.putfield 28, 3)), (47, (.aload_n 0, 1)), (48, (.bipush 120, 2)), (50, (.newarray .int, 2)), (52, (.putfield 31, 3)), (55, (.return_, 1))]
theorem t_Se_init_0_ok : ∀ q ∈ t_Se_init_0, decode prog_8_method_1_code q.1 = .ok q.2 := by decide +kernel
def m_Se_init : mM := (⟨"LinkTimes$Search", "<init>", "()V"⟩, prog_8_method_1_code, 1, none, t_Se_init_0)
theorem ok_Se_init : mOK m_Se_init := ⟨by decide, tm 383 (by decide +kernel) rfl, t_Se_init_0_ok, tm 118 (by decide +kernel) rfl, by decide, by decide⟩
theorem in_Se_init : Cond.instanceMethod m_Se_init.1 ∈ t0_ws := tm 382 (by decide +kernel) rfl
def t_Se_findBest_0 : List (Nat × Instr × Nat) := [(0, (.iload_n 2, 1)), (1, (.iload_n 3, 1)), (2, (.if_icmp .ne 14, 3)), (5, (.aload_n 0, 1)), (6, (.getfield 12, 3)), (9, (.iload 4, 2)), (11, (.invokevirtual 34, 3)), (14, (.iconst 1, 1)), (15, (.ireturn, 1)), (16, (.aload_n 0, 1)), (17, (.aload_n 1, 1)), (18, (.iload_n 3, 1)), (19, (.invokevirtual 38, 3)), (22, (.aload_n 0, 1)), (23, (.aload_n 1, 1)), (24, (.iload_n 2, 1)), (25, (.iload 4, 2)), (27, (.invokevirtual 42, 3)), (30, (.ireturn, 1))]
theorem t_Se_findBest_0_ok : ∀ q ∈ t_Se_findBest_0, decode prog_8_method_2_code q.1 = .ok q.2 := by decide +kernel
def m_Se_findBest : mM := (⟨"LinkTimes$Search", "findBest", "(LLinkTimes$Net;III)Z"⟩, prog_8_method_2_code, 5, (some .boolean), t_Se_findBest_0)
theorem ok_Se_findBest : mOK m_Se_findBest := ⟨by decide, tm 832 (by decide +kernel) rfl, t_Se_findBest_0_ok, tm 118 (by decide +kernel) rfl, by decide, by decide⟩
theorem vm_Se_findBest : mVt m_Se_findBest := ⟨tm 830 (by decide +kernel) rfl, tm 831 (by decide +kernel) rfl⟩
def t_Se_countTurns_0 : List (Nat × Instr × Nat) := [(0, (.aload_n 1, 1)), (1, (.getfield 46, 3)), (4, (.getfield 52, 3)), (7, (.istore_n 3, 1)), (8, (.iconst 0, 1)), (9, (.istore 4, 2)), (11, (.iload 4, 2)), (13, (.iload_n 3, 1)), (14, (.if_icmp .ge 17, 3)), (17, (.aload_n 0, 1)), (18, (.getfield 18, 3)), (21, (.iload 4, 2)), (23, (.iconst 0, 1)), (24, (.iastore, 1)), (25, (.iinc 4 1, 3)), (28, (.goto (-17), 3)), (31, (.iconst 0, 1)), (32, (.istore 4, 2)), (34, (.iload 4, 2)), (36, (.iload_n 3, 1)), (37, (.if_icmp .ge 54, 3)), (40, (.aload_n 0, 1)), (41, (.aload_n 1, 1)), (42, (.iload 4, 2)), (44, (.invokevirtual 38, 3)), (47, (.iconst 0, 1)), (48, (.istore 5, 2)), (50, (.iload 5, 2)), (52, (.iload_n 3, 1)), (53, (.if_icmp .ge 32, 3)), (56, (.iload 5, 2)), (58, (.iload 4, 2)), (60, (.if_icmp .eq 19, 3)), (63, (.aload_n 0, 1)), (64, (.aload_n 1, 1)), (65, (.iload 5, 2)), (67, (.iload_n 2, 1)), (68, (.invokevirtual 42, 3)), (71, (.ifCond .eq 8, 3)), (74, (.aload_n 0, 1)), (75, (.aload_n 1, 1)), (76, (.invokevirtual 58, 3)), (79, (.iinc 5 1, 3)), (82, (.goto (-32), 3)), (85, (.iinc 4 1, 3)), (88, (.goto (-54), 3)), (91, (.return_, 1))]
theorem t_Se_countTurns_0_ok : ∀ q ∈ t_Se_countTurns_0, decode prog_8_method_3_code q.1 = .ok q.2 := by decide +kernel
def m_Se_countTurns : mM := (⟨"LinkTimes$Search", "countTurns", "(LLinkTimes$Net;I)V"⟩, prog_8_method_3_code, 6, none, t_Se_countTurns_0)
theorem ok_Se_countTurns : mOK m_Se_countTurns := ⟨by decide, tm 1059 (by decide +kernel) rfl, t_Se_countTurns_0_ok, tm 118 (by decide +kernel) rfl, by decide, by decide⟩
theorem vm_Se_countTurns : mVt m_Se_countTurns := ⟨tm 1057 (by decide +kernel) rfl, tm 1058 (by decide +kernel) rfl⟩
def t_Se_addTurns_0 : List (Nat × Instr × Nat) := [(0, (.iconst 1, 1)), (1, (.istore_n 2, 1)), (2, (.iload_n 2, 1)), (3, (.aload_n 0, 1)), (4, (.getfield 12, 3)), (7, (.getfield 62, 3)), (10, (.if_icmp .ge 62, 3)), (13, (.aload_n 1, 1)), (14, (.aload_n 0, 1)), (15, (.getfield 12, 3)), (18, (.getfield 65, 3)), (21, (.iload_n 2, 1)), (22, (.iconst 1, 1)), (23, (.isub, 1)), (24, (.iaload, 1)), (25, (.aload_n 0, 1)), (26, (.getfield 12, 3)), (29, (.getfield 65, 3)), (32, (.iload_n 2, 1)), (33, (.iaload, 1)), (34, (.invokevirtual 68, 3)), (37, (.ifCond .eq 29, 3)), (40, (.aload_n 0, 1)), (41, (.getfield 18, 3)), (44, (.aload_n 1, 1)), (45, (.getfield 46, 3)), (48, (.getfield 72, 3)), (51, (.aload_n 0, 1)), (52, (.getfield 12, 3)), (55, (.getfield 65, 3)), (58, (.iload_n 2, 1)), (59, (.iaload, 1)), (60, (.iaload, 1)), (61, (.dup2, 1)), (62, (.iaload, 1)), (63, (.iconst 1, 1)), (64, (.iadd, 1)), (65, (.iastore, 1)), (66, (.iinc 2 1, 3)), (69, (.goto (-67), 3)), (72, (.return_, 1))]
theorem t_Se_addTurns_0_ok : ∀ q ∈ t_Se_addTurns_0, decode prog_8_method_4_code q.1 = .ok q.2 := by decide +kernel
def m_Se_addTurns : mM := (⟨"LinkTimes$Search", "addTurns", "(LLinkTimes$Net;)V"⟩, prog_8_method_4_code, 3, none, t_Se_addTurns_0)
theorem ok_Se_addTurns : mOK m_Se_addTurns := ⟨by decide, tm 1063 (by decide +kernel) rfl, t_Se_addTurns_0_ok, tm 118 (by decide +kernel) rfl, by decide, by decide⟩
theorem vm_Se_addTurns : mVt m_Se_addTurns := ⟨tm 1062 (by decide +kernel) rfl, tm 48 (by decide +kernel) rfl⟩
def t_Se_aim_0 : List (Nat × Instr × Nat) := [(0, (.aload_n 1, 1)), (1, (.getfield 75, 3)), (4, (.iconst 1, 1)), (5, (.isub, 1)), (6, (.istore_n 3, 1)), (7, (.iload_n 3, 1)), (8, (.ifCond .lt 52, 3)), (11, (.aload_n 1, 1)), (12, (.getfield 76, 3)), (15, (.iload_n 3, 1)), (16, (.iaload, 1)), (17, (.istore 4, 2)), (19, (.aload_n 0, 1)), (20, (.getfield 22, 3)), (23, (.iload 4, 2)), (25, (.ldc 79, 2)), (27, (.iastore, 1)), (28, (.aload_n 0, 1)), (29, (.getfield 31, 3)), (32, (.iload 4, 2)), (34, (.iconst (-1), 1)), (35, (.iastore, 1)), (36, (.aload_n 1, 1)), (37, (.getfield 80, 3)), (40, (.iload 4, 2)), (42, (.baload, 1)), (43, (.ifCond .eq 11, 3)), (46, (.aload_n 0, 1)), (47, (.aload_n 1, 1)), (48, (.iload 4, 2)), (50, (.iload_n 2, 1)), (51, (.invokevirtual 84, 3)), (54, (.iinc 3 (-1), 3)), (57, (.goto (-50), 3)), (60, (.return_, 1))]
theorem t_Se_aim_0_ok : ∀ q ∈ t_Se_aim_0, decode prog_8_method_5_code q.1 = .ok q.2 := by decide +kernel
def m_Se_aim : mM := (⟨"LinkTimes$Search", "aim", "(LLinkTimes$Net;I)V"⟩, prog_8_method_5_code, 5, none, t_Se_aim_0)
theorem ok_Se_aim : mOK m_Se_aim := ⟨by decide, tm 840 (by decide +kernel) rfl, t_Se_aim_0_ok, tm 118 (by decide +kernel) rfl, by decide, by decide⟩
theorem vm_Se_aim : mVt m_Se_aim := ⟨tm 838 (by decide +kernel) rfl, tm 839 (by decide +kernel) rfl⟩
def t_Se_aimFrom_0 : List (Nat × Instr × Nat) := [(0, (.aload_n 1, 1)), (1, (.getfield 46, 3)), (4, (.getfield 88, 3)), (7, (.iload_n 2, 1)), (8, (.iaload, 1)), (9, (.istore 4, 2)), (11, (.iload 4, 2)), (13, (.iload_n 3, 1)), (14, (.if_icmp .ne 30, 3)), (17, (.aload_n 0, 1)), (18, (.getfield 22, 3)), (21, (.iload_n 2, 1)), (22, (.aload_n 1, 1)), (23, (.getfield 91, 3)), (26, (.iload_n 2, 1)), (27, (.iaload, 1)), (28, (.iastore, 1)), (29, (.aload_n 0, 1)), (30, (.getfield 25, 3)), (33, (.iload_n 2, 1)), (34, (.iconst 0, 1)), (35, (.iastore, 1)), (36, (.aload_n 0, 1)), (37, (.getfield 28, 3)), (40, (.iload_n 2, 1)), (41, (.iconst 1, 1)), (42, (.iastore, 1)), (43, (.return_, 1)), (44, (.aload_n 1, 1)), (45, (.getfield 94, 3)), (48, (.iload 4, 2)), (50, (.iaload, 1)), (51, (.istore 5, 2)), (53, (.iload 5, 2)), (55, (.aload_n 1, 1)), (56, (.getfield 94, 3)), (59, (.iload 4, 2)), (61, (.iconst 1, 1)), (62, (.iadd, 1)), (63, (.iaload, 1)), (64, (.if_icmp .ge 70, 3)), (67, (.aload_n 1, 1)), (68, (.getfield 97, 3)), (71, (.iload 5, 2)), (73, (.iaload, 1)), (74, (.istore 6, 2)), (76, (.aload_n 1, 1)), (77, (.iload_n 2, 1)), (78, (.iload 6, 2)), (80, (.invokevirtual 100, 3))]
theorem t_Se_aimFrom_0_ok : ∀ q ∈ t_Se_aimFrom_0, decode prog_8_method_6_code q.1 = .ok q.2 := by decide +kernel
def t_Se_aimFrom_1 : List (Nat × Instr × Nat) := [(83, (.ifCond .eq 45, 3)), (86, (.aload_n 0, 1)), (87, (.getfield 22, 3)), (90, (.iload 6, 2)), (92, (.iaload, 1)), (93, (.ldc 79, 2)), (95, (.if_icmp .ge 33, 3)), (98, (.aload_n 0, 1)), (99, (.iload_n 2, 1)), (100, (.iload 6, 2)), (102, (.aload_n 0, 1)), (103, (.getfield 25, 3)), (106, (.iload 6, 2)), (108, (.iaload, 1)), (109, (.aload_n 1, 1)), (110, (.iload_n 2, 1)), (111, (.iload 6, 2)), (113, (.invokevirtual 68, 3)), (116, (.ifCond .eq 7, 3)), (119, (.iconst 1, 1)), (120, (.goto 4, 3)), (123, (.iconst 0, 1)), (124, (.iadd, 1)), (125, (.invokevirtual 103, 3)), (128, (.iinc 5 1, 3)), (131, (.goto (-78), 3)), (134, (.return_, 1))]
theorem t_Se_aimFrom_1_ok : ∀ q ∈ t_Se_aimFrom_1, decode prog_8_method_6_code q.1 = .ok q.2 := by decide +kernel
def m_Se_aimFrom : mM := (⟨"LinkTimes$Search", "aimFrom", "(LLinkTimes$Net;II)V"⟩, prog_8_method_6_code, 7, none, t_Se_aimFrom_0 ++ t_Se_aimFrom_1)
theorem ok_Se_aimFrom : mOK m_Se_aimFrom := ⟨by decide, tm 845 (by decide +kernel) rfl, all_app (t_Se_aimFrom_0_ok) t_Se_aimFrom_1_ok, tm 118 (by decide +kernel) rfl, by decide, by decide⟩
theorem vm_Se_aimFrom : mVt m_Se_aimFrom := ⟨tm 844 (by decide +kernel) rfl, tm 29 (by decide +kernel) rfl⟩
def t_Se_offer_0 : List (Nat × Instr × Nat) := [(0, (.aload_n 0, 1)), (1, (.iload_n 2, 1)), (2, (.iload_n 3, 1)), (3, (.iload_n 1, 1)), (4, (.invokevirtual 107, 3)), (7, (.ifCond .eq 43, 3)), (10, (.aload_n 0, 1)), (11, (.getfield 22, 3)), (14, (.iload_n 1, 1)), (15, (.aload_n 0, 1)), (16, (.getfield 22, 3)), (19, (.iload_n 2, 1)), (20, (.iaload, 1)), (21, (.iastore, 1)), (22, (.aload_n 0, 1)), (23, (.getfield 25, 3)), (26, (.iload_n 1, 1)), (27, (.iload_n 3, 1)), (28, (.iastore, 1)), (29, (.aload_n 0, 1)), (30, (.getfield 28, 3)), (33, (.iload_n 1, 1)), (34, (.aload_n 0, 1)), (35, (.getfield 28, 3)), (38, (.iload_n 2, 1)), (39, (.iaload, 1)), (40, (.iconst 1, 1)), (41, (.iadd, 1)), (42, (.iastore, 1)), (43, (.aload_n 0, 1)), (44, (.getfield 31, 3)), (47, (.iload_n 1, 1)), (48, (.iload_n 2, 1)), (49, (.iastore, 1)), (50, (.return_, 1))]
theorem t_Se_offer_0_ok : ∀ q ∈ t_Se_offer_0, decode prog_8_method_7_code q.1 = .ok q.2 := by decide +kernel
def m_Se_offer : mM := (⟨"LinkTimes$Search", "offer", "(III)V"⟩, prog_8_method_7_code, 4, none, t_Se_offer_0)
theorem ok_Se_offer : mOK m_Se_offer := ⟨by decide, tm 858 (by decide +kernel) rfl, t_Se_offer_0_ok, tm 118 (by decide +kernel) rfl, by decide, by decide⟩
theorem vm_Se_offer : mVt m_Se_offer := ⟨tm 857 (by decide +kernel) rfl, tm 30 (by decide +kernel) rfl⟩
def t_Se_isBetter_0 : List (Nat × Instr × Nat) := [(0, (.aload_n 0, 1)), (1, (.getfield 22, 3)), (4, (.iload_n 1, 1)), (5, (.iaload, 1)), (6, (.aload_n 0, 1)), (7, (.getfield 22, 3)), (10, (.iload_n 3, 1)), (11, (.iaload, 1)), (12, (.if_icmp .eq 24, 3)), (15, (.aload_n 0, 1)), (16, (.getfield 22, 3)), (19, (.iload_n 1, 1)), (20, (.iaload, 1)), (21, (.aload_n 0, 1)), (22, (.getfield 22, 3)), (25, (.iload_n 3, 1)), (26, (.iaload, 1)), (27, (.if_icmp .ge 7, 3)), (30, (.iconst 1, 1)), (31, (.goto 4, 3)), (34, (.iconst 0, 1)), (35, (.ireturn, 1)), (36, (.iload_n 2, 1)), (37, (.aload_n 0, 1)), (38, (.getfield 25, 3)), (41, (.iload_n 3, 1)), (42, (.iaload, 1)), (43, (.if_icmp .eq 19, 3)), (46, (.iload_n 2, 1)), (47, (.aload_n 0, 1)), (48, (.getfield 25, 3)), (51, (.iload_n 3, 1)), (52, (.iaload, 1)), (53, (.if_icmp .ge 7, 3)), (56, (.iconst 1, 1)), (57, (.goto 4, 3)), (60, (.iconst 0, 1)), (61, (.ireturn, 1)), (62, (.aload_n 0, 1)), (63, (.getfield 28, 3)), (66, (.iload_n 1, 1)), (67, (.iaload, 1)), (68, (.iconst 1, 1)), (69, (.iadd, 1)), (70, (.aload_n 0, 1)), (71, (.getfield 28, 3)), (74, (.iload_n 3, 1)), (75, (.iaload, 1)), (76, (.if_icmp .eq 26, 3)), (79, (.aload_n 0, 1))]
theorem t_Se_isBetter_0_ok : ∀ q ∈ t_Se_isBetter_0, decode prog_8_method_8_code q.1 = .ok q.2 := by decide +kernel
def t_Se_isBetter_1 : List (Nat × Instr × Nat) := [(80, (.getfield 28, 3)), (83, (.iload_n 1, 1)), (84, (.iaload, 1)), (85, (.iconst 1, 1)), (86, (.iadd, 1)), (87, (.aload_n 0, 1)), (88, (.getfield 28, 3)), (91, (.iload_n 3, 1)), (92, (.iaload, 1)), (93, (.if_icmp .ge 7, 3)), (96, (.iconst 1, 1)), (97, (.goto 4, 3)), (100, (.iconst 0, 1)), (101, (.ireturn, 1)), (102, (.iload_n 1, 1)), (103, (.aload_n 0, 1)), (104, (.getfield 31, 3)), (107, (.iload_n 3, 1)), (108, (.iaload, 1)), (109, (.if_icmp .ge 7, 3)), (112, (.iconst 1, 1)), (113, (.goto 4, 3)), (116, (.iconst 0, 1)), (117, (.ireturn, 1))]
theorem t_Se_isBetter_1_ok : ∀ q ∈ t_Se_isBetter_1, decode prog_8_method_8_code q.1 = .ok q.2 := by decide +kernel
def m_Se_isBetter : mM := (⟨"LinkTimes$Search", "isBetter", "(III)Z"⟩, prog_8_method_8_code, 4, (some .boolean), t_Se_isBetter_0 ++ t_Se_isBetter_1)
theorem ok_Se_isBetter : mOK m_Se_isBetter := ⟨by decide, tm 862 (by decide +kernel) rfl, all_app (t_Se_isBetter_0_ok) t_Se_isBetter_1_ok, tm 118 (by decide +kernel) rfl, by decide, by decide⟩
theorem vm_Se_isBetter : mVt m_Se_isBetter := ⟨tm 861 (by decide +kernel) rfl, tm 31 (by decide +kernel) rfl⟩
def t_Se_trace_0 : List (Nat × Instr × Nat) := [(0, (.aload_n 0, 1)), (1, (.aload_n 1, 1)), (2, (.iload_n 2, 1)), (3, (.iload_n 3, 1)), (4, (.invokevirtual 111, 3)), (7, (.istore 4, 2)), (9, (.aload_n 0, 1)), (10, (.getfield 12, 3)), (13, (.iconst 0, 1)), (14, (.putfield 62, 3)), (17, (.iload 4, 2)), (19, (.iconst (-1), 1)), (20, (.if_icmp .ne 5, 3)), (23, (.iconst 0, 1)), (24, (.ireturn, 1)), (25, (.aload_n 0, 1)), (26, (.getfield 12, 3)), (29, (.aload_n 1, 1)), (30, (.getfield 115, 3)), (33, (.iload 4, 2)), (35, (.iaload, 1)), (36, (.putfield 118, 3)), (39, (.aload_n 0, 1)), (40, (.getfield 12, 3)), (43, (.aload_n 0, 1)), (44, (.getfield 22, 3)), (47, (.iload 4, 2)), (49, (.iaload, 1)), (50, (.putfield 121, 3)), (53, (.aload_n 0, 1)), (54, (.getfield 12, 3)), (57, (.aload_n 0, 1)), (58, (.getfield 25, 3)), (61, (.iload 4, 2)), (63, (.iaload, 1)), (64, (.putfield 123, 3)), (67, (.iload 4, 2)), (69, (.istore 5, 2)), (71, (.iload 5, 2)), (73, (.iconst (-1), 1)), (74, (.if_icmp .eq 57, 3)), (77, (.aload_n 0, 1)), (78, (.getfield 12, 3)), (81, (.getfield 62, 3)), (84, (.bipush 120, 2)), (86, (.if_icmp .ge 45, 3)), (89, (.aload_n 0, 1)), (90, (.getfield 12, 3)), (93, (.getfield 65, 3)), (96, (.aload_n 0, 1))]
theorem t_Se_trace_0_ok : ∀ q ∈ t_Se_trace_0, decode prog_8_method_9_code q.1 = .ok q.2 := by decide +kernel
def t_Se_trace_1 : List (Nat × Instr × Nat) := [(97, (.getfield 12, 3)), (100, (.getfield 62, 3)), (103, (.iload 5, 2)), (105, (.iastore, 1)), (106, (.aload_n 0, 1)), (107, (.getfield 12, 3)), (110, (.dup, 1)), (111, (.getfield 62, 3)), (114, (.iconst 1, 1)), (115, (.iadd, 1)), (116, (.putfield 62, 3)), (119, (.aload_n 0, 1)), (120, (.getfield 31, 3)), (123, (.iload 5, 2)), (125, (.iaload, 1)), (126, (.istore 5, 2)), (128, (.goto (-57), 3)), (131, (.iconst 1, 1)), (132, (.ireturn, 1))]
theorem t_Se_trace_1_ok : ∀ q ∈ t_Se_trace_1, decode prog_8_method_9_code q.1 = .ok q.2 := by decide +kernel
def m_Se_trace : mM := (⟨"LinkTimes$Search", "trace", "(LLinkTimes$Net;II)Z"⟩, prog_8_method_9_code, 6, (some .boolean), t_Se_trace_0 ++ t_Se_trace_1)
theorem ok_Se_trace : mOK m_Se_trace := ⟨by decide, tm 866 (by decide +kernel) rfl, all_app (t_Se_trace_0_ok) t_Se_trace_1_ok, tm 118 (by decide +kernel) rfl, by decide, by decide⟩
theorem vm_Se_trace : mVt m_Se_trace := ⟨tm 865 (by decide +kernel) rfl, tm 32 (by decide +kernel) rfl⟩
def t_Se_pickFirst_0 : List (Nat × Instr × Nat) := [(0, (.iconst (-1), 1)), (1, (.istore 4, 2)), (3, (.aload_n 1, 1)), (4, (.getfield 94, 3)), (7, (.iload_n 2, 1)), (8, (.iaload, 1)), (9, (.istore 5, 2)), (11, (.iload 5, 2)), (13, (.aload_n 1, 1)), (14, (.getfield 94, 3)), (17, (.iload_n 2, 1)), (18, (.iconst 1, 1)), (19, (.iadd, 1)), (20, (.iaload, 1)), (21, (.if_icmp .ge 75, 3)), (24, (.aload_n 1, 1)), (25, (.getfield 97, 3)), (28, (.iload 5, 2)), (30, (.iaload, 1)), (31, (.istore 6, 2)), (33, (.aload_n 1, 1)), (34, (.getfield 115, 3)), (37, (.iload 6, 2)), (39, (.iaload, 1)), (40, (.iload_n 3, 1)), (41, (.if_icmp .lt 19, 3)), (44, (.aload_n 0, 1)), (45, (.getfield 22, 3)), (48, (.iload 6, 2)), (50, (.iaload, 1)), (51, (.ldc 79, 2)), (53, (.if_icmp .ge 7, 3)), (56, (.iconst 1, 1)), (57, (.goto 4, 3)), (60, (.iconst 0, 1)), (61, (.istore 7, 2)), (63, (.iload 7, 2)), (65, (.ifCond .eq 25, 3)), (68, (.iload 4, 2)), (70, (.iconst (-1), 1)), (71, (.if_icmp .eq 15, 3)), (74, (.aload_n 0, 1)), (75, (.aload_n 1, 1)), (76, (.iload 6, 2)), (78, (.iload 4, 2)), (80, (.invokevirtual 125, 3)), (83, (.ifCond .eq 7, 3)), (86, (.iload 6, 2)), (88, (.istore 4, 2)), (90, (.iinc 5 1, 3))]
theorem t_Se_pickFirst_0_ok : ∀ q ∈ t_Se_pickFirst_0, decode prog_8_method_10_code q.1 = .ok q.2 := by decide +kernel
def t_Se_pickFirst_1 : List (Nat × Instr × Nat) := [(93, (.goto (-82), 3)), (96, (.iload 4, 2)), (98, (.ireturn, 1))]
theorem t_Se_pickFirst_1_ok : ∀ q ∈ t_Se_pickFirst_1, decode prog_8_method_10_code q.1 = .ok q.2 := by decide +kernel
def m_Se_pickFirst : mM := (⟨"LinkTimes$Search", "pickFirst", "(LLinkTimes$Net;II)I"⟩, prog_8_method_10_code, 8, (some .int), t_Se_pickFirst_0 ++ t_Se_pickFirst_1)
theorem ok_Se_pickFirst : mOK m_Se_pickFirst := ⟨by decide, tm 870 (by decide +kernel) rfl, all_app (t_Se_pickFirst_0_ok) t_Se_pickFirst_1_ok, tm 118 (by decide +kernel) rfl, by decide, by decide⟩
theorem vm_Se_pickFirst : mVt m_Se_pickFirst := ⟨tm 869 (by decide +kernel) rfl, tm 33 (by decide +kernel) rfl⟩
def t_Se_isBetterFirst_0 : List (Nat × Instr × Nat) := [(0, (.aload_n 0, 1)), (1, (.getfield 22, 3)), (4, (.iload_n 2, 1)), (5, (.iaload, 1)), (6, (.aload_n 0, 1)), (7, (.getfield 22, 3)), (10, (.iload_n 3, 1)), (11, (.iaload, 1)), (12, (.if_icmp .eq 24, 3)), (15, (.aload_n 0, 1)), (16, (.getfield 22, 3)), (19, (.iload_n 2, 1)), (20, (.iaload, 1)), (21, (.aload_n 0, 1)), (22, (.getfield 22, 3)), (25, (.iload_n 3, 1)), (26, (.iaload, 1)), (27, (.if_icmp .ge 7, 3)), (30, (.iconst 1, 1)), (31, (.goto 4, 3)), (34, (.iconst 0, 1)), (35, (.ireturn, 1)), (36, (.aload_n 0, 1)), (37, (.getfield 25, 3)), (40, (.iload_n 2, 1)), (41, (.iaload, 1)), (42, (.aload_n 0, 1)), (43, (.getfield 25, 3)), (46, (.iload_n 3, 1)), (47, (.iaload, 1)), (48, (.if_icmp .eq 24, 3)), (51, (.aload_n 0, 1)), (52, (.getfield 25, 3)), (55, (.iload_n 2, 1)), (56, (.iaload, 1)), (57, (.aload_n 0, 1)), (58, (.getfield 25, 3)), (61, (.iload_n 3, 1)), (62, (.iaload, 1)), (63, (.if_icmp .ge 7, 3)), (66, (.iconst 1, 1)), (67, (.goto 4, 3)), (70, (.iconst 0, 1)), (71, (.ireturn, 1)), (72, (.aload_n 1, 1)), (73, (.getfield 115, 3)), (76, (.iload_n 2, 1)), (77, (.iaload, 1)), (78, (.aload_n 1, 1)), (79, (.getfield 115, 3))]
theorem t_Se_isBetterFirst_0_ok : ∀ q ∈ t_Se_isBetterFirst_0, decode prog_8_method_11_code q.1 = .ok q.2 := by decide +kernel
def t_Se_isBetterFirst_1 : List (Nat × Instr × Nat) := [(82, (.iload_n 3, 1)), (83, (.iaload, 1)), (84, (.if_icmp .eq 24, 3)), (87, (.aload_n 1, 1)), (88, (.getfield 115, 3)), (91, (.iload_n 2, 1)), (92, (.iaload, 1)), (93, (.aload_n 1, 1)), (94, (.getfield 115, 3)), (97, (.iload_n 3, 1)), (98, (.iaload, 1)), (99, (.if_icmp .le 7, 3)), (102, (.iconst 1, 1)), (103, (.goto 4, 3)), (106, (.iconst 0, 1)), (107, (.ireturn, 1)), (108, (.aload_n 0, 1)), (109, (.getfield 28, 3)), (112, (.iload_n 2, 1)), (113, (.iaload, 1)), (114, (.aload_n 0, 1)), (115, (.getfield 28, 3)), (118, (.iload_n 3, 1)), (119, (.iaload, 1)), (120, (.if_icmp .eq 24, 3)), (123, (.aload_n 0, 1)), (124, (.getfield 28, 3)), (127, (.iload_n 2, 1)), (128, (.iaload, 1)), (129, (.aload_n 0, 1)), (130, (.getfield 28, 3)), (133, (.iload_n 3, 1)), (134, (.iaload, 1)), (135, (.if_icmp .ge 7, 3)), (138, (.iconst 1, 1)), (139, (.goto 4, 3)), (142, (.iconst 0, 1)), (143, (.ireturn, 1)), (144, (.iload_n 2, 1)), (145, (.iload_n 3, 1)), (146, (.if_icmp .ge 7, 3)), (149, (.iconst 1, 1)), (150, (.goto 4, 3)), (153, (.iconst 0, 1)), (154, (.ireturn, 1))]
theorem t_Se_isBetterFirst_1_ok : ∀ q ∈ t_Se_isBetterFirst_1, decode prog_8_method_11_code q.1 = .ok q.2 := by decide +kernel
def m_Se_isBetterFirst : mM := (⟨"LinkTimes$Search", "isBetterFirst", "(LLinkTimes$Net;II)Z"⟩, prog_8_method_11_code, 4, (some .boolean), t_Se_isBetterFirst_0 ++ t_Se_isBetterFirst_1)
theorem ok_Se_isBetterFirst : mOK m_Se_isBetterFirst := ⟨by decide, tm 874 (by decide +kernel) rfl, all_app (t_Se_isBetterFirst_0_ok) t_Se_isBetterFirst_1_ok, tm 118 (by decide +kernel) rfl, by decide, by decide⟩
theorem vm_Se_isBetterFirst : mVt m_Se_isBetterFirst := ⟨tm 873 (by decide +kernel) rfl, tm 34 (by decide +kernel) rfl⟩
def t_St_init_0 : List (Nat × Instr × Nat) := [(0, (.aload_n 0, 1)), (1, (.invokespecial 3, 3)), (4, (.aload_n 0, 1)), (5, (.bipush 120, 2)), (7, (.newarray .int, 2)), (9, (.putfield 9, 3)), (12, (.aload_n 0, 1)), (13, (.bipush 120, 2)), (15, (.newarray .int, 2)), (17, (.putfield 15, 3)), (20, (.aload_n 0, 1)), (21, (.bipush 120, 2)), (23, (.newarray .int, 2)), (25, (.putfield 18, 3)), (28, (.return_, 1))]
theorem t_St_init_0_ok : ∀ q ∈ t_St_init_0, decode prog_9_method_1_code q.1 = .ok q.2 := by decide +kernel
def m_St_init : mM := (⟨"LinkTimes$Steps", "<init>", "()V"⟩, prog_9_method_1_code, 1, none, t_St_init_0)
theorem ok_St_init : mOK m_St_init := ⟨by decide, tm 460 (by decide +kernel) rfl, t_St_init_0_ok, tm 121 (by decide +kernel) rfl, by decide, by decide⟩
theorem in_St_init : Cond.instanceMethod m_St_init.1 ∈ t0_ws := tm 459 (by decide +kernel) rfl
def t_St_collect_0 : List (Nat × Instr × Nat) := [(0, (.aload_n 0, 1)), (1, (.iconst 0, 1)), (2, (.putfield 21, 3)), (5, (.aload_n 1, 1)), (6, (.getfield 25, 3)), (9, (.iload_n 3, 1)), (10, (.iconst 1, 1)), (11, (.iadd, 1)), (12, (.iaload, 1)), (13, (.iconst 1, 1)), (14, (.isub, 1)), (15, (.istore 4, 2)), (17, (.iload 4, 2)), (19, (.aload_n 1, 1)), (20, (.getfield 25, 3)), (23, (.iload_n 3, 1)), (24, (.iaload, 1)), (25, (.if_icmp .lt 55, 3)), (28, (.aload_n 1, 1)), (29, (.getfield 30, 3)), (32, (.iload 4, 2)), (34, (.iaload, 1)), (35, (.istore 5, 2)), (37, (.aload_n 2, 1)), (38, (.getfield 33, 3)), (41, (.iload 5, 2)), (43, (.iaload, 1)), (44, (.ldc 38, 2)), (46, (.if_icmp .ge 28, 3)), (49, (.aload_n 0, 1)), (50, (.aload_n 1, 1)), (51, (.getfield 39, 3)), (54, (.iload 5, 2)), (56, (.iaload, 1)), (57, (.aload_n 2, 1)), (58, (.getfield 33, 3)), (61, (.iload 5, 2)), (63, (.iaload, 1)), (64, (.aload_n 2, 1)), (65, (.getfield 42, 3)), (68, (.iload 5, 2)), (70, (.iaload, 1)), (71, (.invokevirtual 43, 3)), (74, (.iinc 4 (-1), 3)), (77, (.goto (-60), 3)), (80, (.return_, 1))]
theorem t_St_collect_0_ok : ∀ q ∈ t_St_collect_0, decode prog_9_method_2_code q.1 = .ok q.2 := by decide +kernel
def m_St_collect : mM := (⟨"LinkTimes$Steps", "collect", "(LLinkTimes$Net;LLinkTimes$Search;I)V"⟩, prog_9_method_2_code, 6, none, t_St_collect_0)
theorem ok_St_collect : mOK m_St_collect := ⟨by decide, tm 956 (by decide +kernel) rfl, t_St_collect_0_ok, tm 121 (by decide +kernel) rfl, by decide, by decide⟩
theorem vm_St_collect : mVt m_St_collect := ⟨tm 954 (by decide +kernel) rfl, tm 955 (by decide +kernel) rfl⟩
def t_St_consider_0 : List (Nat × Instr × Nat) := [(0, (.aload_n 0, 1)), (1, (.getfield 21, 3)), (4, (.ifCond .le 22, 3)), (7, (.aload_n 0, 1)), (8, (.getfield 9, 3)), (11, (.aload_n 0, 1)), (12, (.getfield 21, 3)), (15, (.iconst 1, 1)), (16, (.isub, 1)), (17, (.iaload, 1)), (18, (.iload_n 1, 1)), (19, (.if_icmp .ne 7, 3)), (22, (.iconst 1, 1)), (23, (.goto 4, 3)), (26, (.iconst 0, 1)), (27, (.istore 4, 2)), (29, (.aload_n 0, 1)), (30, (.getfield 21, 3)), (33, (.ifCond .le 65, 3)), (36, (.iload_n 2, 1)), (37, (.aload_n 0, 1)), (38, (.getfield 15, 3)), (41, (.aload_n 0, 1)), (42, (.getfield 21, 3)), (45, (.iconst 1, 1)), (46, (.isub, 1)), (47, (.iaload, 1)), (48, (.if_icmp .lt 50, 3)), (51, (.iload 4, 2)), (53, (.ifCond .eq 44, 3)), (56, (.iload_n 2, 1)), (57, (.aload_n 0, 1)), (58, (.getfield 15, 3)), (61, (.aload_n 0, 1)), (62, (.getfield 21, 3)), (65, (.iconst 1, 1)), (66, (.isub, 1)), (67, (.iaload, 1)), (68, (.if_icmp .ne 29, 3)), (71, (.aload_n 0, 1)), (72, (.getfield 18, 3)), (75, (.aload_n 0, 1)), (76, (.getfield 21, 3)), (79, (.iconst 1, 1)), (80, (.isub, 1)), (81, (.aload_n 0, 1)), (82, (.getfield 18, 3)), (85, (.aload_n 0, 1)), (86, (.getfield 21, 3)), (89, (.iconst 1, 1))]
theorem t_St_consider_0_ok : ∀ q ∈ t_St_consider_0, decode prog_9_method_3_code q.1 = .ok q.2 := by decide +kernel
def t_St_consider_1 : List (Nat × Instr × Nat) := [(90, (.isub, 1)), (91, (.iaload, 1)), (92, (.iload_n 3, 1)), (93, (.invokestatic 47, 3)), (96, (.iastore, 1)), (97, (.return_, 1)), (98, (.iload 4, 2)), (100, (.ifCond .eq 13, 3)), (103, (.aload_n 0, 1)), (104, (.dup, 1)), (105, (.getfield 21, 3)), (108, (.iconst 1, 1)), (109, (.isub, 1)), (110, (.putfield 21, 3)), (113, (.aload_n 0, 1)), (114, (.getfield 9, 3)), (117, (.aload_n 0, 1)), (118, (.getfield 21, 3)), (121, (.iload_n 1, 1)), (122, (.iastore, 1)), (123, (.aload_n 0, 1)), (124, (.getfield 15, 3)), (127, (.aload_n 0, 1)), (128, (.getfield 21, 3)), (131, (.iload_n 2, 1)), (132, (.iastore, 1)), (133, (.aload_n 0, 1)), (134, (.getfield 18, 3)), (137, (.aload_n 0, 1)), (138, (.getfield 21, 3)), (141, (.iload_n 3, 1)), (142, (.iastore, 1)), (143, (.aload_n 0, 1)), (144, (.dup, 1)), (145, (.getfield 21, 3)), (148, (.iconst 1, 1)), (149, (.iadd, 1)), (150, (.putfield 21, 3)), (153, (.return_, 1))]
theorem t_St_consider_1_ok : ∀ q ∈ t_St_consider_1, decode prog_9_method_3_code q.1 = .ok q.2 := by decide +kernel
def m_St_consider : mM := (⟨"LinkTimes$Steps", "consider", "(III)V"⟩, prog_9_method_3_code, 5, none, t_St_consider_0 ++ t_St_consider_1)
theorem ok_St_consider : mOK m_St_consider := ⟨by decide, tm 961 (by decide +kernel) rfl, all_app (t_St_consider_0_ok) t_St_consider_1_ok, tm 121 (by decide +kernel) rfl, by decide, by decide⟩
theorem vm_St_consider : mVt m_St_consider := ⟨tm 960 (by decide +kernel) rfl, tm 42 (by decide +kernel) rfl⟩
def t_St_lastStartFor_0 : List (Nat × Instr × Nat) := [(0, (.iconst 0, 1)), (1, (.istore_n 2, 1)), (2, (.iload_n 2, 1)), (3, (.aload_n 0, 1)), (4, (.getfield 21, 3)), (7, (.if_icmp .ge 26, 3)), (10, (.aload_n 0, 1)), (11, (.getfield 15, 3)), (14, (.iload_n 2, 1)), (15, (.iaload, 1)), (16, (.iload_n 1, 1)), (17, (.if_icmp .gt 10, 3)), (20, (.aload_n 0, 1)), (21, (.getfield 9, 3)), (24, (.iload_n 2, 1)), (25, (.iaload, 1)), (26, (.ireturn, 1)), (27, (.iinc 2 1, 3)), (30, (.goto (-28), 3)), (33, (.bipush (-2), 2)), (35, (.ireturn, 1))]
theorem t_St_lastStartFor_0_ok : ∀ q ∈ t_St_lastStartFor_0, decode prog_9_method_4_code q.1 = .ok q.2 := by decide +kernel
def m_St_lastStartFor : mM := (⟨"LinkTimes$Steps", "lastStartFor", "(I)I"⟩, prog_9_method_4_code, 3, (some .int), t_St_lastStartFor_0)
theorem ok_St_lastStartFor : mOK m_St_lastStartFor := ⟨by decide, tm 966 (by decide +kernel) rfl, t_St_lastStartFor_0_ok, tm 121 (by decide +kernel) rfl, by decide, by decide⟩
theorem vm_St_lastStartFor : mVt m_St_lastStartFor := ⟨tm 964 (by decide +kernel) rfl, tm 965 (by decide +kernel) rfl⟩
def t_St_leastTicks_0 : List (Nat × Instr × Nat) := [(0, (.bipush (-2), 2)), (2, (.istore_n 1, 1)), (3, (.iconst 0, 1)), (4, (.istore_n 2, 1)), (5, (.iload_n 2, 1)), (6, (.aload_n 0, 1)), (7, (.getfield 21, 3)), (10, (.if_icmp .ge 36, 3)), (13, (.aload_n 0, 1)), (14, (.getfield 15, 3)), (17, (.iload_n 2, 1)), (18, (.iaload, 1)), (19, (.aload_n 0, 1)), (20, (.getfield 9, 3)), (23, (.iload_n 2, 1)), (24, (.iaload, 1)), (25, (.isub, 1)), (26, (.istore_n 3, 1)), (27, (.iload_n 1, 1)), (28, (.bipush (-2), 2)), (30, (.if_icmp .eq 8, 3)), (33, (.iload_n 3, 1)), (34, (.iload_n 1, 1)), (35, (.if_icmp .ge 5, 3)), (38, (.iload_n 3, 1)), (39, (.istore_n 1, 1)), (40, (.iinc 2 1, 3)), (43, (.goto (-38), 3)), (46, (.iload_n 1, 1)), (47, (.ireturn, 1))]
theorem t_St_leastTicks_0_ok : ∀ q ∈ t_St_leastTicks_0, decode prog_9_method_5_code q.1 = .ok q.2 := by decide +kernel
def m_St_leastTicks : mM := (⟨"LinkTimes$Steps", "leastTicks", "()I"⟩, prog_9_method_5_code, 4, (some .int), t_St_leastTicks_0)
theorem ok_St_leastTicks : mOK m_St_leastTicks := ⟨by decide, tm 1019 (by decide +kernel) rfl, t_St_leastTicks_0_ok, tm 121 (by decide +kernel) rfl, by decide, by decide⟩
theorem vm_St_leastTicks : mVt m_St_leastTicks := ⟨tm 1017 (by decide +kernel) rfl, tm 1018 (by decide +kernel) rfl⟩
def t_St_ticksOver_0 : List (Nat × Instr × Nat) := [(0, (.aload_n 0, 1)), (1, (.getfield 21, 3)), (4, (.ifCond .eq 13, 3)), (7, (.iload_n 2, 1)), (8, (.aload_n 0, 1)), (9, (.getfield 9, 3)), (12, (.iconst 0, 1)), (13, (.iaload, 1)), (14, (.if_icmp .le 6, 3)), (17, (.bipush (-2), 2)), (19, (.ireturn, 1)), (20, (.iconst 0, 1)), (21, (.istore_n 3, 1)), (22, (.iconst 0, 1)), (23, (.istore 4, 2)), (25, (.iload_n 2, 1)), (26, (.istore 5, 2)), (28, (.iload 5, 2)), (30, (.iload_n 1, 1)), (31, (.if_icmp .lt 53, 3)), (34, (.iload 4, 2)), (36, (.iconst 1, 1)), (37, (.iadd, 1)), (38, (.aload_n 0, 1)), (39, (.getfield 21, 3)), (42, (.if_icmp .ge 23, 3)), (45, (.aload_n 0, 1)), (46, (.getfield 9, 3)), (49, (.iload 4, 2)), (51, (.iconst 1, 1)), (52, (.iadd, 1)), (53, (.iaload, 1)), (54, (.iload 5, 2)), (56, (.if_icmp .lt 9, 3)), (59, (.iinc 4 1, 3)), (62, (.goto (-28), 3)), (65, (.iload_n 3, 1)), (66, (.aload_n 0, 1)), (67, (.getfield 15, 3)), (70, (.iload 4, 2)), (72, (.iaload, 1)), (73, (.iload 5, 2)), (75, (.isub, 1)), (76, (.iadd, 1)), (77, (.istore_n 3, 1)), (78, (.iinc 5 (-1), 3)), (81, (.goto (-53), 3)), (84, (.iload_n 3, 1)), (85, (.ireturn, 1))]
theorem t_St_ticksOver_0_ok : ∀ q ∈ t_St_ticksOver_0, decode prog_9_method_6_code q.1 = .ok q.2 := by decide +kernel
def m_St_ticksOver : mM := (⟨"LinkTimes$Steps", "ticksOver", "(II)I"⟩, prog_9_method_6_code, 6, (some .int), t_St_ticksOver_0)
theorem ok_St_ticksOver : mOK m_St_ticksOver := ⟨by decide, tm 1027 (by decide +kernel) rfl, t_St_ticksOver_0_ok, tm 121 (by decide +kernel) rfl, by decide, by decide⟩
theorem vm_St_ticksOver : mVt m_St_ticksOver := ⟨tm 1025 (by decide +kernel) rfl, tm 1026 (by decide +kernel) rfl⟩
def t_Wa_init_0 : List (Nat × Instr × Nat) := [(0, (.aload_n 0, 1)), (1, (.invokespecial 3, 3)), (4, (.aload_n 0, 1)), (5, (.bipush 120, 2)), (7, (.newarray .int, 2)), (9, (.putfield 9, 3)), (12, (.return_, 1))]
theorem t_Wa_init_0_ok : ∀ q ∈ t_Wa_init_0, decode prog_10_method_1_code q.1 = .ok q.2 := by decide +kernel
def m_Wa_init : mM := (⟨"LinkTimes$Way", "<init>", "()V"⟩, prog_10_method_1_code, 1, none, t_Wa_init_0)
theorem ok_Wa_init : mOK m_Wa_init := ⟨by decide, tm 389 (by decide +kernel) rfl, t_Wa_init_0_ok, tm 119 (by decide +kernel) rfl, by decide, by decide⟩
theorem in_Wa_init : Cond.instanceMethod m_Wa_init.1 ∈ t0_ws := tm 388 (by decide +kernel) rfl
def t_Wa_setEmpty_0 : List (Nat × Instr × Nat) := [(0, (.aload_n 0, 1)), (1, (.iconst 0, 1)), (2, (.putfield 15, 3)), (5, (.aload_n 0, 1)), (6, (.iload_n 1, 1)), (7, (.putfield 19, 3)), (10, (.aload_n 0, 1)), (11, (.iload_n 1, 1)), (12, (.putfield 22, 3)), (15, (.aload_n 0, 1)), (16, (.iconst 0, 1)), (17, (.putfield 25, 3)), (20, (.return_, 1))]
theorem t_Wa_setEmpty_0_ok : ∀ q ∈ t_Wa_setEmpty_0, decode prog_10_method_2_code q.1 = .ok q.2 := by decide +kernel
def m_Wa_setEmpty : mM := (⟨"LinkTimes$Way", "setEmpty", "(I)V"⟩, prog_10_method_2_code, 2, none, t_Wa_setEmpty_0)
theorem ok_Wa_setEmpty : mOK m_Wa_setEmpty := ⟨by decide, tm 836 (by decide +kernel) rfl, t_Wa_setEmpty_0_ok, tm 119 (by decide +kernel) rfl, by decide, by decide⟩
theorem vm_Wa_setEmpty : mVt m_Wa_setEmpty := ⟨tm 834 (by decide +kernel) rfl, tm 835 (by decide +kernel) rfl⟩
def t_Wa_idleTicks_0 : List (Nat × Instr × Nat) := [(0, (.iconst 0, 1)), (1, (.istore_n 2, 1)), (2, (.iconst 1, 1)), (3, (.istore_n 3, 1)), (4, (.iload_n 3, 1)), (5, (.aload_n 0, 1)), (6, (.getfield 15, 3)), (9, (.if_icmp .ge 37, 3)), (12, (.iload_n 2, 1)), (13, (.aload_n 1, 1)), (14, (.getfield 28, 3)), (17, (.aload_n 0, 1)), (18, (.getfield 9, 3)), (21, (.iload_n 3, 1)), (22, (.iaload, 1)), (23, (.iaload, 1)), (24, (.aload_n 1, 1)), (25, (.getfield 33, 3)), (28, (.aload_n 0, 1)), (29, (.getfield 9, 3)), (32, (.iload_n 3, 1)), (33, (.iconst 1, 1)), (34, (.isub, 1)), (35, (.iaload, 1)), (36, (.iaload, 1)), (37, (.isub, 1)), (38, (.iadd, 1)), (39, (.istore_n 2, 1)), (40, (.iinc 3 1, 3)), (43, (.goto (-39), 3)), (46, (.iload_n 2, 1)), (47, (.ireturn, 1))]
theorem t_Wa_idleTicks_0_ok : ∀ q ∈ t_Wa_idleTicks_0, decode prog_10_method_3_code q.1 = .ok q.2 := by decide +kernel
def m_Wa_idleTicks : mM := (⟨"LinkTimes$Way", "idleTicks", "(LLinkTimes$Net;)I"⟩, prog_10_method_3_code, 4, (some .int), t_Wa_idleTicks_0)
theorem ok_Wa_idleTicks : mOK m_Wa_idleTicks := ⟨by decide, tm 898 (by decide +kernel) rfl, t_Wa_idleTicks_0_ok, tm 119 (by decide +kernel) rfl, by decide, by decide⟩
theorem vm_Wa_idleTicks : mVt m_Wa_idleTicks := ⟨tm 896 (by decide +kernel) rfl, tm 897 (by decide +kernel) rfl⟩
end
section
def t_Lt_init_0 : List (Nat × Instr × Nat) := [(0, (.aload_n 0, 1)), (1, (.invokespecial 1, 3)), (4, (.aload_n 0, 1)), (5, (.sipush 900, 3)), (8, (.newarray .byte, 2)), (10, (.putfield 9, 3)), (13, (.aload_n 0, 1)), (14, (.new 13, 3)), (17, (.dup, 1)), (18, (.invokespecial 15, 3)), (21, (.putfield 16, 3)), (24, (.aload_n 0, 1)), (25, (.new 13, 3)), (28, (.dup, 1)), (29, (.invokespecial 15, 3)), (32, (.putfield 20, 3)), (35, (.aload_n 0, 1)), (36, (.new 23, 3)), (39, (.dup, 1)), (40, (.aload_n 0, 1)), (41, (.getfield 9, 3)), (44, (.aload_n 0, 1)), (45, (.getfield 20, 3)), (48, (.invokespecial 25, 3)), (51, (.putfield 28, 3)), (54, (.aload_n 0, 1)), (55, (.new 32, 3)), (58, (.dup, 1)), (59, (.invokespecial 34, 3)), (62, (.putfield 35, 3)), (65, (.aload_n 0, 1)), (66, (.new 39, 3)), (69, (.dup, 1)), (70, (.aload_n 0, 1)), (71, (.getfield 16, 3)), (74, (.invokespecial 41, 3)), (77, (.putfield 44, 3)), (80, (.aload_n 0, 1)), (81, (.new 48, 3)), (84, (.dup, 1)), (85, (.invokespecial 50, 3)), (88, (.putfield 51, 3)), (91, (.aload_n 0, 1)), (92, (.new 55, 3)), (95, (.dup, 1)), (96, (.invokespecial 57, 3)), (99, (.putfield 58, 3)), (102, (.aload_n 0, 1)), (103, (.new 55, 3)), (106, (.dup, 1))]
theorem t_Lt_init_0_ok : ∀ q ∈ t_Lt_init_0, decode prog_1_method_1_code q.1 = .ok q.2 := by decide +kernel
def t_Lt_init_1 : List (Nat × Instr × Nat) := [(107, (.invokespecial 57, 3)), (110, (.putfield 62, 3)), (113, (.aload_n 0, 1)), (114, (.new 65, 3)), (117, (.dup, 1)), (118, (.invokespecial 67, 3)), (121, (.putfield 68, 3)), (124, (.aload_n 0, 1)), (125, (.new 72, 3)), (128, (.dup, 1)), (129, (.invokespecial 74, 3)), (132, (.putfield 75, 3)), (135, (.return_, 1))]
theorem t_Lt_init_1_ok : ∀ q ∈ t_Lt_init_1, decode prog_1_method_1_code q.1 = .ok q.2 := by decide +kernel
def m_Lt_init : mM := (⟨"LinkTimes", "<init>", "()V"⟩, prog_1_method_1_code, 1, none, t_Lt_init_0 ++ t_Lt_init_1)
theorem ok_Lt_init : mOK m_Lt_init := ⟨by decide, tm 137 (by decide +kernel) rfl, all_app (t_Lt_init_0_ok) t_Lt_init_1_ok, tm 113 (by decide +kernel) rfl, by decide, by decide⟩
theorem in_Lt_init : Cond.instanceMethod m_Lt_init.1 ∈ t0_ws := tm 136 (by decide +kernel) rfl
def t_Lt_feed_0 : List (Nat × Instr × Nat) := [(0, (.aload_n 0, 1)), (1, (.getfield 79, 3)), (4, (.bipush 20, 2)), (6, (.iadd, 1)), (7, (.sipush 900, 3)), (10, (.if_icmp .le 5, 3)), (13, (.iconst (-1), 1)), (14, (.ireturn, 1)), (15, (.aload_n 0, 1)), (16, (.iload_n 1, 1)), (17, (.invokevirtual 83, 3)), (20, (.aload_n 0, 1)), (21, (.iload_n 2, 1)), (22, (.invokevirtual 83, 3)), (25, (.aload_n 0, 1)), (26, (.iload_n 3, 1)), (27, (.invokevirtual 83, 3)), (30, (.aload_n 0, 1)), (31, (.iload 4, 2)), (33, (.invokevirtual 83, 3)), (36, (.aload_n 0, 1)), (37, (.iload 5, 2)), (39, (.invokevirtual 83, 3)), (42, (.aload_n 0, 1)), (43, (.getfield 79, 3)), (46, (.ireturn, 1))]
theorem t_Lt_feed_0_ok : ∀ q ∈ t_Lt_feed_0, decode prog_1_method_2_code q.1 = .ok q.2 := by decide +kernel
def m_Lt_feed : mM := (⟨"LinkTimes", "feed", "(IIIII)I"⟩, prog_1_method_2_code, 6, (some .int), t_Lt_feed_0)
theorem ok_Lt_feed : mOK m_Lt_feed := ⟨by decide, tm 557 (by decide +kernel) rfl, t_Lt_feed_0_ok, tm 113 (by decide +kernel) rfl, by decide, by decide⟩
theorem vm_Lt_feed : mVt m_Lt_feed := ⟨tm 555 (by decide +kernel) rfl, tm 556 (by decide +kernel) rfl⟩
def t_Lt_putBytes_0 : List (Nat × Instr × Nat) := [(0, (.bipush 24, 2)), (2, (.istore_n 2, 1)), (3, (.iload_n 2, 1)), (4, (.ifCond .lt 42, 3)), (7, (.aload_n 0, 1)), (8, (.getfield 79, 3)), (11, (.sipush 900, 3)), (14, (.if_icmp .ge 32, 3)), (17, (.aload_n 0, 1)), (18, (.getfield 9, 3)), (21, (.aload_n 0, 1)), (22, (.getfield 79, 3)), (25, (.iload_n 1, 1)), (26, (.iload_n 2, 1)), (27, (.ishr, 1)), (28, (.i2b, 1)), (29, (.bastore, 1)), (30, (.aload_n 0, 1)), (31, (.dup, 1)), (32, (.getfield 79, 3)), (35, (.iconst 1, 1)), (36, (.iadd, 1)), (37, (.putfield 79, 3)), (40, (.iinc 2 (-8), 3)), (43, (.goto (-40), 3)), (46, (.return_, 1))]
theorem t_Lt_putBytes_0_ok : ∀ q ∈ t_Lt_putBytes_0, decode prog_1_method_3_code q.1 = .ok q.2 := by decide +kernel
def m_Lt_putBytes : mM := (⟨"LinkTimes", "putBytes", "(I)V"⟩, prog_1_method_3_code, 3, none, t_Lt_putBytes_0)
theorem ok_Lt_putBytes : mOK m_Lt_putBytes := ⟨by decide, tm 561 (by decide +kernel) rfl, t_Lt_putBytes_0_ok, tm 113 (by decide +kernel) rfl, by decide, by decide⟩
theorem vm_Lt_putBytes : mVt m_Lt_putBytes := ⟨tm 560 (by decide +kernel) rfl, tm 0 (by decide +kernel) rfl⟩
def t_Lt_desk_0 : List (Nat × Instr × Nat) := [(0, (.iload_n 1, 1)), (1, (.ifCond .lt 11, 3)), (4, (.iload_n 1, 1)), (5, (.aload_n 0, 1)), (6, (.getfield 79, 3)), (9, (.if_icmp .le 9, 3)), (12, (.aload_n 0, 1)), (13, (.iconst 2, 1)), (14, (.invokevirtual 87, 3)), (17, (.ireturn, 1)), (18, (.aload_n 0, 1)), (19, (.iconst 0, 1)), (20, (.putfield 79, 3)), (23, (.aload_n 0, 1)), (24, (.getfield 28, 3)), (27, (.iload_n 1, 1)), (28, (.aload_n 0, 1)), (29, (.getfield 20, 3)), (32, (.invokevirtual 91, 3)), (35, (.istore_n 2, 1)), (36, (.aload_n 0, 1)), (37, (.aload_n 0, 1)), (38, (.getfield 28, 3)), (41, (.getfield 95, 3)), (44, (.putfield 98, 3)), (47, (.aload_n 0, 1)), (48, (.aload_n 0, 1)), (49, (.getfield 28, 3)), (52, (.getfield 101, 3)), (55, (.putfield 104, 3)), (58, (.iload_n 2, 1)), (59, (.ifCond .ne 9, 3)), (62, (.aload_n 0, 1)), (63, (.iconst 4, 1)), (64, (.invokevirtual 87, 3)), (67, (.ireturn, 1)), (68, (.aload_n 0, 1)), (69, (.getfield 16, 3)), (72, (.astore_n 3, 1)), (73, (.aload_n 0, 1)), (74, (.aload_n 0, 1)), (75, (.getfield 20, 3)), (78, (.putfield 16, 3)), (81, (.aload_n 0, 1)), (82, (.aload_n 3, 1)), (83, (.putfield 20, 3)), (86, (.aload_n 0, 1)), (87, (.getfield 35, 3)), (90, (.invokevirtual 107, 3)), (93, (.aload_n 0, 1))]
theorem t_Lt_desk_0_ok : ∀ q ∈ t_Lt_desk_0, decode prog_1_method_4_code q.1 = .ok q.2 := by decide +kernel
def t_Lt_desk_1 : List (Nat × Instr × Nat) := [(94, (.aload_n 0, 1)), (95, (.getfield 16, 3)), (98, (.getfield 110, 3)), (101, (.invokevirtual 113, 3)), (104, (.ireturn, 1))]
theorem t_Lt_desk_1_ok : ∀ q ∈ t_Lt_desk_1, decode prog_1_method_4_code q.1 = .ok q.2 := by decide +kernel
def m_Lt_desk : mM := (⟨"LinkTimes", "desk", "(I)I"⟩, prog_1_method_4_code, 4, (some .int), t_Lt_desk_0 ++ t_Lt_desk_1)
theorem ok_Lt_desk : mOK m_Lt_desk := ⟨by decide, tm 565 (by decide +kernel) rfl, all_app (t_Lt_desk_0_ok) t_Lt_desk_1_ok, tm 113 (by decide +kernel) rfl, by decide, by decide⟩
theorem vm_Lt_desk : mVt m_Lt_desk := ⟨tm 563 (by decide +kernel) rfl, tm 564 (by decide +kernel) rfl⟩
def t_Lt_fault_0 : List (Nat × Instr × Nat) := [(0, (.aload_n 0, 1)), (1, (.getfield 98, 3)), (4, (.ireturn, 1))]
theorem t_Lt_fault_0_ok : ∀ q ∈ t_Lt_fault_0, decode prog_1_method_5_code q.1 = .ok q.2 := by decide +kernel
def m_Lt_fault : mM := (⟨"LinkTimes", "fault", "()I"⟩, prog_1_method_5_code, 1, (some .int), t_Lt_fault_0)
theorem ok_Lt_fault : mOK m_Lt_fault := ⟨by decide, tm 744 (by decide +kernel) rfl, t_Lt_fault_0_ok, tm 113 (by decide +kernel) rfl, by decide, by decide⟩
theorem vm_Lt_fault : mVt m_Lt_fault := ⟨tm 742 (by decide +kernel) rfl, tm 743 (by decide +kernel) rfl⟩
def t_Lt_where_0 : List (Nat × Instr × Nat) := [(0, (.aload_n 0, 1)), (1, (.getfield 116, 3)), (4, (.iconst 4, 1)), (5, (.if_icmp .ne 10, 3)), (8, (.aload_n 0, 1)), (9, (.getfield 104, 3)), (12, (.goto 4, 3)), (15, (.iconst (-1), 1)), (16, (.ireturn, 1))]
theorem t_Lt_where_0_ok : ∀ q ∈ t_Lt_where_0, decode prog_1_method_6_code q.1 = .ok q.2 := by decide +kernel
def m_Lt_where : mM := (⟨"LinkTimes", "where", "()I"⟩, prog_1_method_6_code, 1, (some .int), t_Lt_where_0)
theorem ok_Lt_where : mOK m_Lt_where := ⟨by decide, tm 748 (by decide +kernel) rfl, t_Lt_where_0_ok, tm 113 (by decide +kernel) rfl, by decide, by decide⟩
theorem vm_Lt_where : mVt m_Lt_where := ⟨tm 746 (by decide +kernel) rfl, tm 747 (by decide +kernel) rfl⟩
def t_Lt_about_0 : List (Nat × Instr × Nat) := [(0, (.aload_n 0, 1)), (1, (.getfield 16, 3)), (4, (.invokevirtual 119, 3)), (7, (.ifCond .ne 9, 3)), (10, (.aload_n 0, 1)), (11, (.iconst 1, 1)), (12, (.invokevirtual 87, 3)), (15, (.ireturn, 1)), (16, (.iload_n 1, 1)), (17, (.tableswitch 111 0 5 #[39, 51, 63, 75, 87, 99], 39)), (56, (.aload_n 0, 1)), (57, (.aload_n 0, 1)), (58, (.getfield 16, 3)), (61, (.getfield 123, 3)), (64, (.invokevirtual 113, 3)), (67, (.ireturn, 1)), (68, (.aload_n 0, 1)), (69, (.aload_n 0, 1)), (70, (.getfield 16, 3)), (73, (.getfield 126, 3)), (76, (.invokevirtual 113, 3)), (79, (.ireturn, 1)), (80, (.aload_n 0, 1)), (81, (.aload_n 0, 1)), (82, (.getfield 16, 3)), (85, (.getfield 129, 3)), (88, (.invokevirtual 113, 3)), (91, (.ireturn, 1)), (92, (.aload_n 0, 1)), (93, (.aload_n 0, 1)), (94, (.getfield 16, 3)), (97, (.getfield 132, 3)), (100, (.invokevirtual 113, 3)), (103, (.ireturn, 1)), (104, (.aload_n 0, 1)), (105, (.aload_n 0, 1)), (106, (.getfield 16, 3)), (109, (.getfield 110, 3)), (112, (.invokevirtual 113, 3)), (115, (.ireturn, 1)), (116, (.aload_n 0, 1)), (117, (.aload_n 0, 1)), (118, (.getfield 16, 3)), (121, (.invokevirtual 135, 3)), (124, (.invokevirtual 113, 3)), (127, (.ireturn, 1)), (128, (.aload_n 0, 1)), (129, (.iconst 1, 1)), (130, (.invokevirtual 87, 3)), (133, (.ireturn, 1))]
theorem t_Lt_about_0_ok : ∀ q ∈ t_Lt_about_0, decode prog_1_method_7_code q.1 = .ok q.2 := by decide +kernel
def m_Lt_about : mM := (⟨"LinkTimes", "about", "(I)I"⟩, prog_1_method_7_code, 2, (some .int), t_Lt_about_0)
theorem ok_Lt_about : mOK m_Lt_about := ⟨by decide, tm 752 (by decide +kernel) rfl, t_Lt_about_0_ok, tm 113 (by decide +kernel) rfl, by decide, by decide⟩
theorem vm_Lt_about : mVt m_Lt_about := ⟨tm 750 (by decide +kernel) rfl, tm 751 (by decide +kernel) rfl⟩
def t_Lt_spot_0 : List (Nat × Instr × Nat) := [(0, (.aload_n 0, 1)), (1, (.getfield 16, 3)), (4, (.iload_n 1, 1)), (5, (.invokevirtual 139, 3)), (8, (.ifCond .ne 9, 3)), (11, (.aload_n 0, 1)), (12, (.iconst 1, 1)), (13, (.invokevirtual 87, 3)), (16, (.ireturn, 1)), (17, (.iload_n 2, 1)), (18, (.tableswitch 84 0 3 #[30, 44, 58, 71], 30)), (48, (.aload_n 0, 1)), (49, (.aload_n 0, 1)), (50, (.getfield 16, 3)), (53, (.getfield 143, 3)), (56, (.iload_n 1, 1)), (57, (.iaload, 1)), (58, (.invokevirtual 113, 3)), (61, (.ireturn, 1)), (62, (.aload_n 0, 1)), (63, (.aload_n 0, 1)), (64, (.getfield 16, 3)), (67, (.getfield 147, 3)), (70, (.iload_n 1, 1)), (71, (.iaload, 1)), (72, (.invokevirtual 113, 3)), (75, (.ireturn, 1)), (76, (.aload_n 0, 1)), (77, (.aload_n 0, 1)), (78, (.getfield 16, 3)), (81, (.iload_n 1, 1)), (82, (.invokevirtual 150, 3)), (85, (.invokevirtual 113, 3)), (88, (.ireturn, 1)), (89, (.aload_n 0, 1)), (90, (.aload_n 0, 1)), (91, (.getfield 16, 3)), (94, (.iload_n 1, 1)), (95, (.invokevirtual 153, 3)), (98, (.invokevirtual 113, 3)), (101, (.ireturn, 1)), (102, (.aload_n 0, 1)), (103, (.iconst 1, 1)), (104, (.invokevirtual 87, 3)), (107, (.ireturn, 1))]
theorem t_Lt_spot_0_ok : ∀ q ∈ t_Lt_spot_0, decode prog_1_method_8_code q.1 = .ok q.2 := by decide +kernel
def m_Lt_spot : mM := (⟨"LinkTimes", "spot", "(II)I"⟩, prog_1_method_8_code, 3, (some .int), t_Lt_spot_0)
theorem ok_Lt_spot : mOK m_Lt_spot := ⟨by decide, tm 761 (by decide +kernel) rfl, t_Lt_spot_0_ok, tm 113 (by decide +kernel) rfl, by decide, by decide⟩
theorem vm_Lt_spot : mVt m_Lt_spot := ⟨tm 759 (by decide +kernel) rfl, tm 760 (by decide +kernel) rfl⟩
def t_Lt_departure_0 : List (Nat × Instr × Nat) := [(0, (.aload_n 0, 1)), (1, (.getfield 16, 3)), (4, (.iload_n 1, 1)), (5, (.invokevirtual 156, 3)), (8, (.ifCond .ne 9, 3)), (11, (.aload_n 0, 1)), (12, (.iconst 1, 1)), (13, (.invokevirtual 87, 3)), (16, (.ireturn, 1)), (17, (.iload_n 2, 1)), (18, (.tableswitch 196 0 7 #[46, 60, 74, 88, 112, 146, 160, 182], 46)), (64, (.aload_n 0, 1)), (65, (.aload_n 0, 1)), (66, (.getfield 16, 3)), (69, (.getfield 159, 3)), (72, (.iload_n 1, 1)), (73, (.iaload, 1)), (74, (.invokevirtual 113, 3)), (77, (.ireturn, 1)), (78, (.aload_n 0, 1)), (79, (.aload_n 0, 1)), (80, (.getfield 16, 3)), (83, (.getfield 162, 3)), (86, (.iload_n 1, 1)), (87, (.iaload, 1)), (88, (.invokevirtual 113, 3)), (91, (.ireturn, 1)), (92, (.aload_n 0, 1)), (93, (.aload_n 0, 1)), (94, (.getfield 16, 3)), (97, (.getfield 165, 3)), (100, (.iload_n 1, 1)), (101, (.iaload, 1)), (102, (.invokevirtual 113, 3)), (105, (.ireturn, 1)), (106, (.aload_n 0, 1)), (107, (.aload_n 0, 1)), (108, (.getfield 16, 3)), (111, (.getfield 168, 3)), (114, (.iload_n 1, 1)), (115, (.iaload, 1)), (116, (.aload_n 0, 1)), (117, (.getfield 16, 3)), (120, (.getfield 171, 3)), (123, (.iload_n 1, 1)), (124, (.iaload, 1)), (125, (.iadd, 1)), (126, (.invokevirtual 113, 3)), (129, (.ireturn, 1)), (130, (.aload_n 0, 1))]
theorem t_Lt_departure_0_ok : ∀ q ∈ t_Lt_departure_0, decode prog_1_method_9_code q.1 = .ok q.2 := by decide +kernel
def t_Lt_departure_1 : List (Nat × Instr × Nat) := [(131, (.aload_n 0, 1)), (132, (.getfield 16, 3)), (135, (.getfield 168, 3)), (138, (.iload_n 1, 1)), (139, (.iaload, 1)), (140, (.aload_n 0, 1)), (141, (.getfield 16, 3)), (144, (.getfield 171, 3)), (147, (.iload_n 1, 1)), (148, (.iaload, 1)), (149, (.iadd, 1)), (150, (.aload_n 0, 1)), (151, (.getfield 16, 3)), (154, (.getfield 174, 3)), (157, (.iload_n 1, 1)), (158, (.iaload, 1)), (159, (.iadd, 1)), (160, (.invokevirtual 113, 3)), (163, (.ireturn, 1)), (164, (.aload_n 0, 1)), (165, (.aload_n 0, 1)), (166, (.getfield 16, 3)), (169, (.getfield 171, 3)), (172, (.iload_n 1, 1)), (173, (.iaload, 1)), (174, (.invokevirtual 113, 3)), (177, (.ireturn, 1)), (178, (.aload_n 0, 1)), (179, (.aload_n 0, 1)), (180, (.getfield 16, 3)), (183, (.getfield 177, 3)), (186, (.iload_n 1, 1)), (187, (.baload, 1)), (188, (.ifCond .eq 7, 3)), (191, (.iconst 0, 1)), (192, (.goto 4, 3)), (195, (.iconst 1, 1)), (196, (.invokevirtual 113, 3)), (199, (.ireturn, 1)), (200, (.aload_n 0, 1)), (201, (.aload_n 0, 1)), (202, (.getfield 16, 3)), (205, (.getfield 181, 3)), (208, (.iload_n 1, 1)), (209, (.iaload, 1)), (210, (.invokevirtual 113, 3)), (213, (.ireturn, 1)), (214, (.aload_n 0, 1)), (215, (.iconst 1, 1)), (216, (.invokevirtual 87, 3))]
theorem t_Lt_departure_1_ok : ∀ q ∈ t_Lt_departure_1, decode prog_1_method_9_code q.1 = .ok q.2 := by decide +kernel
def t_Lt_departure_2 : List (Nat × Instr × Nat) := [(219, (.ireturn, 1))]
theorem t_Lt_departure_2_ok : ∀ q ∈ t_Lt_departure_2, decode prog_1_method_9_code q.1 = .ok q.2 := by decide +kernel
def m_Lt_departure : mM := (⟨"LinkTimes", "departure", "(II)I"⟩, prog_1_method_9_code, 3, (some .int), t_Lt_departure_0 ++ t_Lt_departure_1 ++ t_Lt_departure_2)
theorem ok_Lt_departure : mOK m_Lt_departure := ⟨by decide, tm 777 (by decide +kernel) rfl, all_app (all_app (t_Lt_departure_0_ok) t_Lt_departure_1_ok) t_Lt_departure_2_ok, tm 113 (by decide +kernel) rfl, by decide, by decide⟩
theorem vm_Lt_departure : mVt m_Lt_departure := ⟨tm 775 (by decide +kernel) rfl, tm 776 (by decide +kernel) rfl⟩
def t_Lt_ordered_0 : List (Nat × Instr × Nat) := [(0, (.aload_n 0, 1)), (1, (.getfield 44, 3)), (4, (.aload_n 0, 1)), (5, (.getfield 16, 3)), (8, (.invokevirtual 184, 3)), (11, (.iconst 0, 1)), (12, (.istore_n 2, 1)), (13, (.iconst 0, 1)), (14, (.istore_n 3, 1)), (15, (.iload_n 3, 1)), (16, (.aload_n 0, 1)), (17, (.getfield 44, 3)), (20, (.getfield 187, 3)), (23, (.if_icmp .ge 52, 3)), (26, (.iload_n 1, 1)), (27, (.ifCond .lt 48, 3)), (30, (.aload_n 0, 1)), (31, (.getfield 44, 3)), (34, (.getfield 188, 3)), (37, (.iload_n 3, 1)), (38, (.iaload, 1)), (39, (.istore 4, 2)), (41, (.aload_n 0, 1)), (42, (.getfield 44, 3)), (45, (.getfield 191, 3)), (48, (.iload 4, 2)), (50, (.baload, 1)), (51, (.ifCond .eq 18, 3)), (54, (.iload_n 2, 1)), (55, (.iload_n 1, 1)), (56, (.if_icmp .ne 10, 3)), (59, (.aload_n 0, 1)), (60, (.iload 4, 2)), (62, (.invokevirtual 113, 3)), (65, (.ireturn, 1)), (66, (.iinc 2 1, 3)), (69, (.iinc 3 1, 3)), (72, (.goto (-57), 3)), (75, (.aload_n 0, 1)), (76, (.iconst 1, 1)), (77, (.invokevirtual 87, 3)), (80, (.ireturn, 1))]
theorem t_Lt_ordered_0_ok : ∀ q ∈ t_Lt_ordered_0, decode prog_1_method_10_code q.1 = .ok q.2 := by decide +kernel
def m_Lt_ordered : mM := (⟨"LinkTimes", "ordered", "(I)I"⟩, prog_1_method_10_code, 5, (some .int), t_Lt_ordered_0)
theorem ok_Lt_ordered : mOK m_Lt_ordered := ⟨by decide, tm 785 (by decide +kernel) rfl, t_Lt_ordered_0_ok, tm 113 (by decide +kernel) rfl, by decide, by decide⟩
theorem vm_Lt_ordered : mVt m_Lt_ordered := ⟨tm 783 (by decide +kernel) rfl, tm 784 (by decide +kernel) rfl⟩
def t_Lt_arrives_0 : List (Nat × Instr × Nat) := [(0, (.aload_n 0, 1)), (1, (.iload_n 1, 1)), (2, (.iload_n 2, 1)), (3, (.iload_n 3, 1)), (4, (.invokevirtual 194, 3)), (7, (.istore 4, 2)), (9, (.iload 4, 2)), (11, (.ifCond .ne 16, 3)), (14, (.aload_n 0, 1)), (15, (.getfield 51, 3)), (18, (.getfield 198, 3)), (21, (.getfield 202, 3)), (24, (.goto 5, 3)), (27, (.iload 4, 2)), (29, (.ireturn, 1))]
theorem t_Lt_arrives_0_ok : ∀ q ∈ t_Lt_arrives_0, decode prog_1_method_11_code q.1 = .ok q.2 := by decide +kernel
def m_Lt_arrives : mM := (⟨"LinkTimes", "arrives", "(III)I"⟩, prog_1_method_11_code, 5, (some .int), t_Lt_arrives_0)
theorem ok_Lt_arrives : mOK m_Lt_arrives := ⟨by decide, tm 813 (by decide +kernel) rfl, t_Lt_arrives_0_ok, tm 113 (by decide +kernel) rfl, by decide, by decide⟩
theorem vm_Lt_arrives : mVt m_Lt_arrives := ⟨tm 811 (by decide +kernel) rfl, tm 812 (by decide +kernel) rfl⟩
def t_Lt_changes_0 : List (Nat × Instr × Nat) := [(0, (.aload_n 0, 1)), (1, (.iload_n 1, 1)), (2, (.iload_n 2, 1)), (3, (.iload_n 3, 1)), (4, (.invokevirtual 194, 3)), (7, (.istore 4, 2)), (9, (.iload 4, 2)), (11, (.ifCond .ne 16, 3)), (14, (.aload_n 0, 1)), (15, (.getfield 51, 3)), (18, (.getfield 198, 3)), (21, (.getfield 207, 3)), (24, (.goto 5, 3)), (27, (.iload 4, 2)), (29, (.ireturn, 1))]
theorem t_Lt_changes_0_ok : ∀ q ∈ t_Lt_changes_0, decode prog_1_method_12_code q.1 = .ok q.2 := by decide +kernel
def m_Lt_changes : mM := (⟨"LinkTimes", "changes", "(III)I"⟩, prog_1_method_12_code, 5, (some .int), t_Lt_changes_0)
theorem ok_Lt_changes : mOK m_Lt_changes := ⟨by decide, tm 878 (by decide +kernel) rfl, t_Lt_changes_0_ok, tm 113 (by decide +kernel) rfl, by decide, by decide⟩
theorem vm_Lt_changes : mVt m_Lt_changes := ⟨tm 876 (by decide +kernel) rfl, tm 877 (by decide +kernel) rfl⟩
def t_Lt_leaves_0 : List (Nat × Instr × Nat) := [(0, (.aload_n 0, 1)), (1, (.iload_n 1, 1)), (2, (.iload_n 2, 1)), (3, (.iload_n 3, 1)), (4, (.invokevirtual 194, 3)), (7, (.istore 4, 2)), (9, (.iload 4, 2)), (11, (.ifCond .ne 16, 3)), (14, (.aload_n 0, 1)), (15, (.getfield 51, 3)), (18, (.getfield 198, 3)), (21, (.getfield 210, 3)), (24, (.goto 5, 3)), (27, (.iload 4, 2)), (29, (.ireturn, 1))]
theorem t_Lt_leaves_0_ok : ∀ q ∈ t_Lt_leaves_0, decode prog_1_method_13_code q.1 = .ok q.2 := by decide +kernel
def m_Lt_leaves : mM := (⟨"LinkTimes", "leaves", "(III)I"⟩, prog_1_method_13_code, 5, (some .int), t_Lt_leaves_0)
theorem ok_Lt_leaves : mOK m_Lt_leaves := ⟨by decide, tm 882 (by decide +kernel) rfl, t_Lt_leaves_0_ok, tm 113 (by decide +kernel) rfl, by decide, by decide⟩
theorem vm_Lt_leaves : mVt m_Lt_leaves := ⟨tm 880 (by decide +kernel) rfl, tm 881 (by decide +kernel) rfl⟩
def t_Lt_rides_0 : List (Nat × Instr × Nat) := [(0, (.aload_n 0, 1)), (1, (.iload_n 1, 1)), (2, (.iload_n 2, 1)), (3, (.iload_n 3, 1)), (4, (.invokevirtual 194, 3)), (7, (.istore 4, 2)), (9, (.iload 4, 2)), (11, (.ifCond .ne 16, 3)), (14, (.aload_n 0, 1)), (15, (.getfield 51, 3)), (18, (.getfield 198, 3)), (21, (.getfield 212, 3)), (24, (.goto 5, 3)), (27, (.iload 4, 2)), (29, (.ireturn, 1))]
theorem t_Lt_rides_0_ok : ∀ q ∈ t_Lt_rides_0, decode prog_1_method_14_code q.1 = .ok q.2 := by decide +kernel
def m_Lt_rides : mM := (⟨"LinkTimes", "rides", "(III)I"⟩, prog_1_method_14_code, 5, (some .int), t_Lt_rides_0)
theorem ok_Lt_rides : mOK m_Lt_rides := ⟨by decide, tm 886 (by decide +kernel) rfl, t_Lt_rides_0_ok, tm 113 (by decide +kernel) rfl, by decide, by decide⟩
theorem vm_Lt_rides : mVt m_Lt_rides := ⟨tm 884 (by decide +kernel) rfl, tm 885 (by decide +kernel) rfl⟩
def t_Lt_ride_0 : List (Nat × Instr × Nat) := [(0, (.aload_n 0, 1)), (1, (.iload_n 1, 1)), (2, (.iload_n 2, 1)), (3, (.iload_n 3, 1)), (4, (.invokevirtual 194, 3)), (7, (.istore 5, 2)), (9, (.iload 5, 2)), (11, (.ifCond .eq 6, 3)), (14, (.iload 5, 2)), (16, (.ireturn, 1)), (17, (.iload 4, 2)), (19, (.ifCond .lt 18, 3)), (22, (.iload 4, 2)), (24, (.aload_n 0, 1)), (25, (.getfield 51, 3)), (28, (.getfield 198, 3)), (31, (.getfield 212, 3)), (34, (.if_icmp .lt 9, 3)), (37, (.aload_n 0, 1)), (38, (.iconst 1, 1)), (39, (.invokevirtual 87, 3)), (42, (.ireturn, 1)), (43, (.aload_n 0, 1)), (44, (.getfield 51, 3)), (47, (.getfield 198, 3)), (50, (.getfield 213, 3)), (53, (.iload 4, 2)), (55, (.iaload, 1)), (56, (.ireturn, 1))]
theorem t_Lt_ride_0_ok : ∀ q ∈ t_Lt_ride_0, decode prog_1_method_15_code q.1 = .ok q.2 := by decide +kernel
def m_Lt_ride : mM := (⟨"LinkTimes", "ride", "(IIII)I"⟩, prog_1_method_15_code, 6, (some .int), t_Lt_ride_0)
theorem ok_Lt_ride : mOK m_Lt_ride := ⟨by decide, tm 890 (by decide +kernel) rfl, t_Lt_ride_0_ok, tm 113 (by decide +kernel) rfl, by decide, by decide⟩
theorem vm_Lt_ride : mVt m_Lt_ride := ⟨tm 888 (by decide +kernel) rfl, tm 889 (by decide +kernel) rfl⟩
def t_Lt_stands_0 : List (Nat × Instr × Nat) := [(0, (.aload_n 0, 1)), (1, (.iload_n 1, 1)), (2, (.iload_n 2, 1)), (3, (.iload_n 3, 1)), (4, (.invokevirtual 194, 3)), (7, (.istore 4, 2)), (9, (.iload 4, 2)), (11, (.ifCond .ne 20, 3)), (14, (.aload_n 0, 1)), (15, (.getfield 51, 3)), (18, (.getfield 198, 3)), (21, (.aload_n 0, 1)), (22, (.getfield 44, 3)), (25, (.invokevirtual 216, 3)), (28, (.goto 5, 3)), (31, (.iload 4, 2)), (33, (.ireturn, 1))]
theorem t_Lt_stands_0_ok : ∀ q ∈ t_Lt_stands_0, decode prog_1_method_16_code q.1 = .ok q.2 := by decide +kernel
def m_Lt_stands : mM := (⟨"LinkTimes", "stands", "(III)I"⟩, prog_1_method_16_code, 5, (some .int), t_Lt_stands_0)
theorem ok_Lt_stands : mOK m_Lt_stands := ⟨by decide, tm 894 (by decide +kernel) rfl, t_Lt_stands_0_ok, tm 113 (by decide +kernel) rfl, by decide, by decide⟩
theorem vm_Lt_stands : mVt m_Lt_stands := ⟨tm 892 (by decide +kernel) rfl, tm 893 (by decide +kernel) rfl⟩
def t_Lt_trades_0 : List (Nat × Instr × Nat) := [(0, (.aload_n 0, 1)), (1, (.iload_n 1, 1)), (2, (.iload_n 2, 1)), (3, (.iload_n 3, 1)), (4, (.bipush 120, 2)), (6, (.invokevirtual 220, 3)), (9, (.istore 4, 2)), (11, (.iload 4, 2)), (13, (.ifCond .ne 13, 3)), (16, (.aload_n 0, 1)), (17, (.getfield 75, 3)), (20, (.getfield 224, 3)), (23, (.goto 5, 3)), (26, (.iload 4, 2)), (28, (.ireturn, 1))]
theorem t_Lt_trades_0_ok : ∀ q ∈ t_Lt_trades_0, decode prog_1_method_17_code q.1 = .ok q.2 := by decide +kernel
def m_Lt_trades : mM := (⟨"LinkTimes", "trades", "(III)I"⟩, prog_1_method_17_code, 5, (some .int), t_Lt_trades_0)
theorem ok_Lt_trades : mOK m_Lt_trades := ⟨by decide, tm 902 (by decide +kernel) rfl, t_Lt_trades_0_ok, tm 113 (by decide +kernel) rfl, by decide, by decide⟩
theorem vm_Lt_trades : mVt m_Lt_trades := ⟨tm 900 (by decide +kernel) rfl, tm 901 (by decide +kernel) rfl⟩
def t_Lt_trade_0 : List (Nat × Instr × Nat) := [(0, (.aload_n 0, 1)), (1, (.iload_n 1, 1)), (2, (.iload_n 2, 1)), (3, (.iload_n 3, 1)), (4, (.bipush 120, 2)), (6, (.invokevirtual 220, 3)), (9, (.istore 6, 2)), (11, (.iload 6, 2)), (13, (.ifCond .eq 6, 3)), (16, (.iload 6, 2)), (18, (.ireturn, 1)), (19, (.iload 4, 2)), (21, (.ifCond .lt 15, 3)), (24, (.iload 4, 2)), (26, (.aload_n 0, 1)), (27, (.getfield 75, 3)), (30, (.getfield 224, 3)), (33, (.if_icmp .lt 9, 3)), (36, (.aload_n 0, 1)), (37, (.iconst 1, 1)), (38, (.invokevirtual 87, 3)), (41, (.ireturn, 1)), (42, (.iload 5, 2)), (44, (.tableswitch 61 0 2 #[28, 39, 50], 28)), (72, (.aload_n 0, 1)), (73, (.getfield 75, 3)), (76, (.getfield 225, 3)), (79, (.iload 4, 2)), (81, (.iaload, 1)), (82, (.ireturn, 1)), (83, (.aload_n 0, 1)), (84, (.getfield 75, 3)), (87, (.getfield 228, 3)), (90, (.iload 4, 2)), (92, (.iaload, 1)), (93, (.ireturn, 1)), (94, (.aload_n 0, 1)), (95, (.getfield 75, 3)), (98, (.getfield 230, 3)), (101, (.iload 4, 2)), (103, (.iaload, 1)), (104, (.ireturn, 1)), (105, (.aload_n 0, 1)), (106, (.iconst 1, 1)), (107, (.invokevirtual 87, 3)), (110, (.ireturn, 1))]
theorem t_Lt_trade_0_ok : ∀ q ∈ t_Lt_trade_0, decode prog_1_method_18_code q.1 = .ok q.2 := by decide +kernel
def m_Lt_trade : mM := (⟨"LinkTimes", "trade", "(IIIII)I"⟩, prog_1_method_18_code, 7, (some .int), t_Lt_trade_0)
theorem ok_Lt_trade : mOK m_Lt_trade := ⟨by decide, tm 939 (by decide +kernel) rfl, t_Lt_trade_0_ok, tm 113 (by decide +kernel) rfl, by decide, by decide⟩
theorem vm_Lt_trade : mVt m_Lt_trade := ⟨tm 937 (by decide +kernel) rfl, tm 938 (by decide +kernel) rfl⟩
def t_Lt_within_0 : List (Nat × Instr × Nat) := [(0, (.aload_n 0, 1)), (1, (.aload_n 0, 1)), (2, (.iload_n 1, 1)), (3, (.iload_n 2, 1)), (4, (.iload_n 3, 1)), (5, (.invokestatic 233, 3)), (8, (.ifCond .eq 19, 3)), (11, (.iload 4, 2)), (13, (.ifCond .lt 14, 3)), (16, (.iload 4, 2)), (18, (.bipush 20, 2)), (20, (.if_icmp .gt 7, 3)), (23, (.iconst 1, 1)), (24, (.goto 4, 3)), (27, (.iconst 0, 1)), (28, (.invokevirtual 236, 3)), (31, (.invokevirtual 240, 3)), (34, (.ifCond .eq 5, 3)), (37, (.iconst (-1), 1)), (38, (.ireturn, 1)), (39, (.aload_n 0, 1)), (40, (.iload_n 1, 1)), (41, (.iload_n 2, 1)), (42, (.iload_n 3, 1)), (43, (.iload 4, 2)), (45, (.invokevirtual 220, 3)), (48, (.istore 5, 2)), (50, (.iload 5, 2)), (52, (.ifCond .ne 23, 3)), (55, (.aload_n 0, 1)), (56, (.getfield 75, 3)), (59, (.getfield 225, 3)), (62, (.aload_n 0, 1)), (63, (.getfield 75, 3)), (66, (.getfield 224, 3)), (69, (.iconst 1, 1)), (70, (.isub, 1)), (71, (.iaload, 1)), (72, (.goto 5, 3)), (75, (.iload 5, 2)), (77, (.ireturn, 1))]
theorem t_Lt_within_0_ok : ∀ q ∈ t_Lt_within_0, decode prog_1_method_19_code q.1 = .ok q.2 := by decide +kernel
def m_Lt_within : mM := (⟨"LinkTimes", "within", "(IIII)I"⟩, prog_1_method_19_code, 6, (some .int), t_Lt_within_0)
theorem ok_Lt_within : mOK m_Lt_within := ⟨by decide, tm 943 (by decide +kernel) rfl, t_Lt_within_0_ok, tm 113 (by decide +kernel) rfl, by decide, by decide⟩
theorem vm_Lt_within : mVt m_Lt_within := ⟨tm 941 (by decide +kernel) rfl, tm 942 (by decide +kernel) rfl⟩
def t_Lt_latest_0 : List (Nat × Instr × Nat) := [(0, (.aload_n 0, 1)), (1, (.aload_n 0, 1)), (2, (.iload_n 1, 1)), (3, (.iload_n 2, 1)), (4, (.iload_n 3, 1)), (5, (.invokestatic 233, 3)), (8, (.invokevirtual 236, 3)), (11, (.invokevirtual 240, 3)), (14, (.ifCond .eq 5, 3)), (17, (.iconst (-1), 1)), (18, (.ireturn, 1)), (19, (.iload_n 1, 1)), (20, (.iload_n 2, 1)), (21, (.if_icmp .ne 9, 3)), (24, (.aload_n 0, 1)), (25, (.iload_n 3, 1)), (26, (.invokevirtual 113, 3)), (29, (.ireturn, 1)), (30, (.aload_n 0, 1)), (31, (.iload_n 1, 1)), (32, (.iload_n 2, 1)), (33, (.invokevirtual 243, 3)), (36, (.aload_n 0, 1)), (37, (.aload_n 0, 1)), (38, (.getfield 68, 3)), (41, (.iload_n 3, 1)), (42, (.invokevirtual 247, 3)), (45, (.invokevirtual 113, 3)), (48, (.ireturn, 1))]
theorem t_Lt_latest_0_ok : ∀ q ∈ t_Lt_latest_0, decode prog_1_method_20_code q.1 = .ok q.2 := by decide +kernel
def m_Lt_latest : mM := (⟨"LinkTimes", "latest", "(III)I"⟩, prog_1_method_20_code, 4, (some .int), t_Lt_latest_0)
theorem ok_Lt_latest : mOK m_Lt_latest := ⟨by decide, tm 947 (by decide +kernel) rfl, t_Lt_latest_0_ok, tm 113 (by decide +kernel) rfl, by decide, by decide⟩
theorem vm_Lt_latest : mVt m_Lt_latest := ⟨tm 945 (by decide +kernel) rfl, tm 946 (by decide +kernel) rfl⟩
def t_Lt_reach_0 : List (Nat × Instr × Nat) := [(0, (.aload_n 0, 1)), (1, (.aload_n 0, 1)), (2, (.iload_n 1, 1)), (3, (.iload_n 1, 1)), (4, (.iload_n 2, 1)), (5, (.invokestatic 233, 3)), (8, (.ifCond .eq 14, 3)), (11, (.iload_n 3, 1)), (12, (.invokestatic 233, 3)), (15, (.ifCond .eq 7, 3)), (18, (.iconst 1, 1)), (19, (.goto 4, 3)), (22, (.iconst 0, 1)), (23, (.invokevirtual 236, 3)), (26, (.invokevirtual 240, 3)), (29, (.ifCond .eq 5, 3)), (32, (.iconst (-1), 1)), (33, (.ireturn, 1)), (34, (.aload_n 0, 1)), (35, (.getfield 44, 3)), (38, (.aload_n 0, 1)), (39, (.getfield 16, 3)), (42, (.invokevirtual 184, 3)), (45, (.aload_n 0, 1)), (46, (.getfield 58, 3)), (49, (.aload_n 0, 1)), (50, (.getfield 44, 3)), (53, (.iload_n 1, 1)), (54, (.iload_n 2, 1)), (55, (.invokevirtual 250, 3)), (58, (.iconst 0, 1)), (59, (.istore 4, 2)), (61, (.iconst 0, 1)), (62, (.istore 5, 2)), (64, (.iload 5, 2)), (66, (.aload_n 0, 1)), (67, (.getfield 16, 3)), (70, (.getfield 126, 3)), (73, (.if_icmp .ge 32, 3)), (76, (.aload_n 0, 1)), (77, (.getfield 58, 3)), (80, (.getfield 254, 3)), (83, (.iload 5, 2)), (85, (.iaload, 1)), (86, (.iload_n 3, 1)), (87, (.if_icmp .gt 12, 3)), (90, (.iload 4, 2)), (92, (.iconst 1, 1)), (93, (.iload 5, 2)), (95, (.ishl, 1))]
theorem t_Lt_reach_0_ok : ∀ q ∈ t_Lt_reach_0, decode prog_1_method_21_code q.1 = .ok q.2 := by decide +kernel
def t_Lt_reach_1 : List (Nat × Instr × Nat) := [(96, (.ior, 1)), (97, (.istore 4, 2)), (99, (.iinc 5 1, 3)), (102, (.goto (-38), 3)), (105, (.aload_n 0, 1)), (106, (.iload 4, 2)), (108, (.invokevirtual 113, 3)), (111, (.ireturn, 1))]
theorem t_Lt_reach_1_ok : ∀ q ∈ t_Lt_reach_1, decode prog_1_method_21_code q.1 = .ok q.2 := by decide +kernel
def m_Lt_reach : mM := (⟨"LinkTimes", "reach", "(III)I"⟩, prog_1_method_21_code, 6, (some .int), t_Lt_reach_0 ++ t_Lt_reach_1)
theorem ok_Lt_reach : mOK m_Lt_reach := ⟨by decide, tm 970 (by decide +kernel) rfl, all_app (t_Lt_reach_0_ok) t_Lt_reach_1_ok, tm 113 (by decide +kernel) rfl, by decide, by decide⟩
theorem vm_Lt_reach : mVt m_Lt_reach := ⟨tm 968 (by decide +kernel) rfl, tm 969 (by decide +kernel) rfl⟩
def t_Lt_farthest_0 : List (Nat × Instr × Nat) := [(0, (.aload_n 0, 1)), (1, (.aload_n 0, 1)), (2, (.iload_n 1, 1)), (3, (.iload_n 1, 1)), (4, (.iload_n 2, 1)), (5, (.invokestatic 233, 3)), (8, (.invokevirtual 236, 3)), (11, (.invokevirtual 240, 3)), (14, (.ifCond .eq 5, 3)), (17, (.iconst (-1), 1)), (18, (.ireturn, 1)), (19, (.aload_n 0, 1)), (20, (.getfield 44, 3)), (23, (.aload_n 0, 1)), (24, (.getfield 16, 3)), (27, (.invokevirtual 184, 3)), (30, (.aload_n 0, 1)), (31, (.getfield 58, 3)), (34, (.aload_n 0, 1)), (35, (.getfield 44, 3)), (38, (.iload_n 1, 1)), (39, (.iload_n 2, 1)), (40, (.invokevirtual 250, 3)), (43, (.iload_n 1, 1)), (44, (.istore_n 3, 1)), (45, (.iconst (-1), 1)), (46, (.istore 4, 2)), (48, (.iconst 0, 1)), (49, (.istore 5, 2)), (51, (.iload 5, 2)), (53, (.aload_n 0, 1)), (54, (.getfield 16, 3)), (57, (.getfield 126, 3)), (60, (.if_icmp .ge 43, 3)), (63, (.aload_n 0, 1)), (64, (.getfield 58, 3)), (67, (.getfield 254, 3)), (70, (.iload 5, 2)), (72, (.iaload, 1)), (73, (.istore 6, 2)), (75, (.iload 6, 2)), (77, (.ldc_w 257, 3)), (80, (.if_icmp .ge 17, 3)), (83, (.iload 6, 2)), (85, (.iload 4, 2)), (87, (.if_icmp .le 10, 3)), (90, (.iload 5, 2)), (92, (.istore_n 3, 1)), (93, (.iload 6, 2)), (95, (.istore 4, 2))]
theorem t_Lt_farthest_0_ok : ∀ q ∈ t_Lt_farthest_0, decode prog_1_method_22_code q.1 = .ok q.2 := by decide +kernel
def t_Lt_farthest_1 : List (Nat × Instr × Nat) := [(97, (.iinc 5 1, 3)), (100, (.goto (-49), 3)), (103, (.aload_n 0, 1)), (104, (.iload_n 3, 1)), (105, (.invokevirtual 113, 3)), (108, (.ireturn, 1))]
theorem t_Lt_farthest_1_ok : ∀ q ∈ t_Lt_farthest_1, decode prog_1_method_22_code q.1 = .ok q.2 := by decide +kernel
def m_Lt_farthest : mM := (⟨"LinkTimes", "farthest", "(II)I"⟩, prog_1_method_22_code, 7, (some .int), t_Lt_farthest_0 ++ t_Lt_farthest_1)
theorem ok_Lt_farthest : mOK m_Lt_farthest := ⟨by decide, tm 985 (by decide +kernel) rfl, all_app (t_Lt_farthest_0_ok) t_Lt_farthest_1_ok, tm 113 (by decide +kernel) rfl, by decide, by decide⟩
theorem vm_Lt_farthest : mVt m_Lt_farthest := ⟨tm 983 (by decide +kernel) rfl, tm 984 (by decide +kernel) rfl⟩
def t_Lt_meets_0 : List (Nat × Instr × Nat) := [(0, (.aload_n 0, 1)), (1, (.aload_n 0, 1)), (2, (.iload_n 1, 1)), (3, (.iload_n 2, 1)), (4, (.iload_n 3, 1)), (5, (.invokestatic 233, 3)), (8, (.invokevirtual 236, 3)), (11, (.invokevirtual 240, 3)), (14, (.ifCond .eq 5, 3)), (17, (.iconst (-1), 1)), (18, (.ireturn, 1)), (19, (.aload_n 0, 1)), (20, (.getfield 44, 3)), (23, (.aload_n 0, 1)), (24, (.getfield 16, 3)), (27, (.invokevirtual 184, 3)), (30, (.aload_n 0, 1)), (31, (.getfield 58, 3)), (34, (.aload_n 0, 1)), (35, (.getfield 44, 3)), (38, (.iload_n 1, 1)), (39, (.iload_n 3, 1)), (40, (.invokevirtual 250, 3)), (43, (.aload_n 0, 1)), (44, (.getfield 62, 3)), (47, (.aload_n 0, 1)), (48, (.getfield 44, 3)), (51, (.iload_n 2, 1)), (52, (.iload_n 3, 1)), (53, (.invokevirtual 250, 3)), (56, (.bipush (-2), 2)), (58, (.istore 4, 2)), (60, (.ldc_w 257, 3)), (63, (.istore 5, 2)), (65, (.iconst 0, 1)), (66, (.istore 6, 2)), (68, (.iload 6, 2)), (70, (.aload_n 0, 1)), (71, (.getfield 16, 3)), (74, (.getfield 126, 3)), (77, (.if_icmp .ge 49, 3)), (80, (.aload_n 0, 1)), (81, (.getfield 58, 3)), (84, (.getfield 254, 3)), (87, (.iload 6, 2)), (89, (.iaload, 1)), (90, (.aload_n 0, 1)), (91, (.getfield 62, 3)), (94, (.getfield 254, 3)), (97, (.iload 6, 2))]
theorem t_Lt_meets_0_ok : ∀ q ∈ t_Lt_meets_0, decode prog_1_method_23_code q.1 = .ok q.2 := by decide +kernel
def t_Lt_meets_1 : List (Nat × Instr × Nat) := [(99, (.iaload, 1)), (100, (.invokestatic 258, 3)), (103, (.istore 7, 2)), (105, (.iload 7, 2)), (107, (.iload 5, 2)), (109, (.if_icmp .ge 11, 3)), (112, (.iload 7, 2)), (114, (.istore 5, 2)), (116, (.iload 6, 2)), (118, (.istore 4, 2)), (120, (.iinc 6 1, 3)), (123, (.goto (-55), 3)), (126, (.aload_n 0, 1)), (127, (.iload 4, 2)), (129, (.invokevirtual 113, 3)), (132, (.ireturn, 1))]
theorem t_Lt_meets_1_ok : ∀ q ∈ t_Lt_meets_1, decode prog_1_method_23_code q.1 = .ok q.2 := by decide +kernel
def m_Lt_meets : mM := (⟨"LinkTimes", "meets", "(III)I"⟩, prog_1_method_23_code, 8, (some .int), t_Lt_meets_0 ++ t_Lt_meets_1)
theorem ok_Lt_meets : mOK m_Lt_meets := ⟨by decide, tm 990 (by decide +kernel) rfl, all_app (t_Lt_meets_0_ok) t_Lt_meets_1_ok, tm 113 (by decide +kernel) rfl, by decide, by decide⟩
theorem vm_Lt_meets : mVt m_Lt_meets := ⟨tm 988 (by decide +kernel) rfl, tm 989 (by decide +kernel) rfl⟩
def t_Lt_round_0 : List (Nat × Instr × Nat) := [(0, (.aload_n 0, 1)), (1, (.aload_n 0, 1)), (2, (.iload_n 1, 1)), (3, (.iload_n 2, 1)), (4, (.iload_n 3, 1)), (5, (.invokestatic 233, 3)), (8, (.ifCond .eq 20, 3)), (11, (.iload 4, 2)), (13, (.ifCond .lt 15, 3)), (16, (.iload 4, 2)), (18, (.sipush 999, 3)), (21, (.if_icmp .gt 7, 3)), (24, (.iconst 1, 1)), (25, (.goto 4, 3)), (28, (.iconst 0, 1)), (29, (.invokevirtual 236, 3)), (32, (.invokevirtual 240, 3)), (35, (.ifCond .eq 5, 3)), (38, (.iconst (-1), 1)), (39, (.ireturn, 1)), (40, (.aload_n 0, 1)), (41, (.getfield 44, 3)), (44, (.aload_n 0, 1)), (45, (.getfield 16, 3)), (48, (.invokevirtual 184, 3)), (51, (.aload_n 0, 1)), (52, (.iload_n 1, 1)), (53, (.iload_n 2, 1)), (54, (.iload_n 3, 1)), (55, (.invokevirtual 264, 3)), (58, (.istore 5, 2)), (60, (.iload 5, 2)), (62, (.ldc_w 257, 3)), (65, (.if_icmp .ne 10, 3)), (68, (.aload_n 0, 1)), (69, (.bipush (-2), 2)), (71, (.invokevirtual 113, 3)), (74, (.ireturn, 1)), (75, (.aload_n 0, 1)), (76, (.iload_n 2, 1)), (77, (.iload_n 1, 1)), (78, (.iload 5, 2)), (80, (.iload 4, 2)), (82, (.iadd, 1)), (83, (.invokevirtual 264, 3)), (86, (.istore 6, 2)), (88, (.aload_n 0, 1)), (89, (.iload 6, 2)), (91, (.ldc_w 257, 3)), (94, (.if_icmp .ne 8, 3))]
theorem t_Lt_round_0_ok : ∀ q ∈ t_Lt_round_0, decode prog_1_method_24_code q.1 = .ok q.2 := by decide +kernel
def t_Lt_round_1 : List (Nat × Instr × Nat) := [(97, (.bipush (-2), 2)), (99, (.goto 5, 3)), (102, (.iload 6, 2)), (104, (.invokevirtual 113, 3)), (107, (.ireturn, 1))]
theorem t_Lt_round_1_ok : ∀ q ∈ t_Lt_round_1, decode prog_1_method_24_code q.1 = .ok q.2 := by decide +kernel
def m_Lt_round : mM := (⟨"LinkTimes", "round", "(IIII)I"⟩, prog_1_method_24_code, 7, (some .int), t_Lt_round_0 ++ t_Lt_round_1)
theorem ok_Lt_round : mOK m_Lt_round := ⟨by decide, tm 995 (by decide +kernel) rfl, all_app (t_Lt_round_0_ok) t_Lt_round_1_ok, tm 113 (by decide +kernel) rfl, by decide, by decide⟩
theorem vm_Lt_round : mVt m_Lt_round := ⟨tm 993 (by decide +kernel) rfl, tm 994 (by decide +kernel) rfl⟩
def t_Lt_steps_0 : List (Nat × Instr × Nat) := [(0, (.aload_n 0, 1)), (1, (.iload_n 1, 1)), (2, (.iload_n 2, 1)), (3, (.invokevirtual 267, 3)), (6, (.ifCond .ne 9, 3)), (9, (.aload_n 0, 1)), (10, (.iconst 1, 1)), (11, (.invokevirtual 87, 3)), (14, (.ireturn, 1)), (15, (.aload_n 0, 1)), (16, (.iload_n 1, 1)), (17, (.iload_n 2, 1)), (18, (.invokevirtual 243, 3)), (21, (.aload_n 0, 1)), (22, (.aload_n 0, 1)), (23, (.getfield 68, 3)), (26, (.getfield 271, 3)), (29, (.invokevirtual 113, 3)), (32, (.ireturn, 1))]
theorem t_Lt_steps_0_ok : ∀ q ∈ t_Lt_steps_0, decode prog_1_method_25_code q.1 = .ok q.2 := by decide +kernel
def m_Lt_steps : mM := (⟨"LinkTimes", "steps", "(II)I"⟩, prog_1_method_25_code, 3, (some .int), t_Lt_steps_0)
theorem ok_Lt_steps : mOK m_Lt_steps := ⟨by decide, tm 1003 (by decide +kernel) rfl, t_Lt_steps_0_ok, tm 113 (by decide +kernel) rfl, by decide, by decide⟩
theorem vm_Lt_steps : mVt m_Lt_steps := ⟨tm 1001 (by decide +kernel) rfl, tm 1002 (by decide +kernel) rfl⟩
def t_Lt_step_0 : List (Nat × Instr × Nat) := [(0, (.aload_n 0, 1)), (1, (.iload_n 1, 1)), (2, (.iload_n 2, 1)), (3, (.invokevirtual 267, 3)), (6, (.ifCond .ne 9, 3)), (9, (.aload_n 0, 1)), (10, (.iconst 1, 1)), (11, (.invokevirtual 87, 3)), (14, (.ireturn, 1)), (15, (.aload_n 0, 1)), (16, (.iload_n 1, 1)), (17, (.iload_n 2, 1)), (18, (.invokevirtual 243, 3)), (21, (.iload_n 3, 1)), (22, (.ifCond .lt 14, 3)), (25, (.iload_n 3, 1)), (26, (.aload_n 0, 1)), (27, (.getfield 68, 3)), (30, (.getfield 271, 3)), (33, (.if_icmp .lt 9, 3)), (36, (.aload_n 0, 1)), (37, (.iconst 1, 1)), (38, (.invokevirtual 87, 3)), (41, (.ireturn, 1)), (42, (.aload_n 0, 1)), (43, (.getfield 68, 3)), (46, (.getfield 271, 3)), (49, (.iconst 1, 1)), (50, (.isub, 1)), (51, (.iload_n 3, 1)), (52, (.isub, 1)), (53, (.istore 5, 2)), (55, (.iload 4, 2)), (57, (.tableswitch 72 0 2 #[27, 42, 57], 27)), (84, (.aload_n 0, 1)), (85, (.aload_n 0, 1)), (86, (.getfield 68, 3)), (89, (.getfield 272, 3)), (92, (.iload 5, 2)), (94, (.iaload, 1)), (95, (.invokevirtual 113, 3)), (98, (.ireturn, 1)), (99, (.aload_n 0, 1)), (100, (.aload_n 0, 1)), (101, (.getfield 68, 3)), (104, (.getfield 273, 3)), (107, (.iload 5, 2)), (109, (.iaload, 1)), (110, (.invokevirtual 113, 3)), (113, (.ireturn, 1))]
theorem t_Lt_step_0_ok : ∀ q ∈ t_Lt_step_0, decode prog_1_method_26_code q.1 = .ok q.2 := by decide +kernel
def t_Lt_step_1 : List (Nat × Instr × Nat) := [(114, (.aload_n 0, 1)), (115, (.aload_n 0, 1)), (116, (.getfield 68, 3)), (119, (.getfield 274, 3)), (122, (.iload 5, 2)), (124, (.iaload, 1)), (125, (.invokevirtual 113, 3)), (128, (.ireturn, 1)), (129, (.aload_n 0, 1)), (130, (.iconst 1, 1)), (131, (.invokevirtual 87, 3)), (134, (.ireturn, 1))]
theorem t_Lt_step_1_ok : ∀ q ∈ t_Lt_step_1, decode prog_1_method_26_code q.1 = .ok q.2 := by decide +kernel
def m_Lt_step : mM := (⟨"LinkTimes", "step", "(IIII)I"⟩, prog_1_method_26_code, 6, (some .int), t_Lt_step_0 ++ t_Lt_step_1)
theorem ok_Lt_step : mOK m_Lt_step := ⟨by decide, tm 1011 (by decide +kernel) rfl, all_app (t_Lt_step_0_ok) t_Lt_step_1_ok, tm 113 (by decide +kernel) rfl, by decide, by decide⟩
theorem vm_Lt_step : mVt m_Lt_step := ⟨tm 1009 (by decide +kernel) rfl, tm 1010 (by decide +kernel) rfl⟩
def t_Lt_quickest_0 : List (Nat × Instr × Nat) := [(0, (.aload_n 0, 1)), (1, (.iload_n 1, 1)), (2, (.iload_n 2, 1)), (3, (.invokevirtual 267, 3)), (6, (.ifCond .ne 9, 3)), (9, (.aload_n 0, 1)), (10, (.iconst 1, 1)), (11, (.invokevirtual 87, 3)), (14, (.ireturn, 1)), (15, (.aload_n 0, 1)), (16, (.iload_n 1, 1)), (17, (.iload_n 2, 1)), (18, (.invokevirtual 243, 3)), (21, (.aload_n 0, 1)), (22, (.aload_n 0, 1)), (23, (.getfield 68, 3)), (26, (.invokevirtual 275, 3)), (29, (.invokevirtual 113, 3)), (32, (.ireturn, 1))]
theorem t_Lt_quickest_0_ok : ∀ q ∈ t_Lt_quickest_0, decode prog_1_method_27_code q.1 = .ok q.2 := by decide +kernel
def m_Lt_quickest : mM := (⟨"LinkTimes", "quickest", "(II)I"⟩, prog_1_method_27_code, 3, (some .int), t_Lt_quickest_0)
theorem ok_Lt_quickest : mOK m_Lt_quickest := ⟨by decide, tm 1015 (by decide +kernel) rfl, t_Lt_quickest_0_ok, tm 113 (by decide +kernel) rfl, by decide, by decide⟩
theorem vm_Lt_quickest : mVt m_Lt_quickest := ⟨tm 1013 (by decide +kernel) rfl, tm 1014 (by decide +kernel) rfl⟩
def t_Lt_spent_0 : List (Nat × Instr × Nat) := [(0, (.aload_n 0, 1)), (1, (.iload_n 1, 1)), (2, (.iload_n 2, 1)), (3, (.invokevirtual 267, 3)), (6, (.ifCond .ne 9, 3)), (9, (.aload_n 0, 1)), (10, (.iconst 1, 1)), (11, (.invokevirtual 87, 3)), (14, (.ireturn, 1)), (15, (.iload_n 3, 1)), (16, (.invokestatic 233, 3)), (19, (.ifCond .eq 17, 3)), (22, (.iload 4, 2)), (24, (.invokestatic 233, 3)), (27, (.ifCond .eq 9, 3)), (30, (.iload 4, 2)), (32, (.iload_n 3, 1)), (33, (.if_icmp .ge 9, 3)), (36, (.aload_n 0, 1)), (37, (.iconst 2, 1)), (38, (.invokevirtual 87, 3)), (41, (.ireturn, 1)), (42, (.aload_n 0, 1)), (43, (.iload_n 1, 1)), (44, (.iload_n 2, 1)), (45, (.invokevirtual 243, 3)), (48, (.aload_n 0, 1)), (49, (.aload_n 0, 1)), (50, (.getfield 68, 3)), (53, (.iload_n 3, 1)), (54, (.iload 4, 2)), (56, (.invokevirtual 278, 3)), (59, (.invokevirtual 113, 3)), (62, (.ireturn, 1))]
theorem t_Lt_spent_0_ok : ∀ q ∈ t_Lt_spent_0, decode prog_1_method_28_code q.1 = .ok q.2 := by decide +kernel
def m_Lt_spent : mM := (⟨"LinkTimes", "spent", "(IIII)I"⟩, prog_1_method_28_code, 5, (some .int), t_Lt_spent_0)
theorem ok_Lt_spent : mOK m_Lt_spent := ⟨by decide, tm 1023 (by decide +kernel) rfl, t_Lt_spent_0_ok, tm 113 (by decide +kernel) rfl, by decide, by decide⟩
theorem vm_Lt_spent : mVt m_Lt_spent := ⟨tm 1021 (by decide +kernel) rfl, tm 1022 (by decide +kernel) rfl⟩
def t_Lt_others_0 : List (Nat × Instr × Nat) := [(0, (.aload_n 0, 1)), (1, (.aload_n 0, 1)), (2, (.iload_n 1, 1)), (3, (.iload_n 2, 1)), (4, (.iload_n 3, 1)), (5, (.invokevirtual 281, 3)), (8, (.invokevirtual 240, 3)), (11, (.ifCond .eq 5, 3)), (14, (.iconst (-1), 1)), (15, (.ireturn, 1)), (16, (.aload_n 0, 1)), (17, (.getfield 44, 3)), (20, (.aload_n 0, 1)), (21, (.getfield 16, 3)), (24, (.invokevirtual 184, 3)), (27, (.iconst 0, 1)), (28, (.istore 4, 2)), (30, (.iload 4, 2)), (32, (.bipush 120, 2)), (34, (.if_icmp .ge 40, 3)), (37, (.aload_n 0, 1)), (38, (.getfield 51, 3)), (41, (.aload_n 0, 1)), (42, (.getfield 44, 3)), (45, (.iload_n 1, 1)), (46, (.iload_n 2, 1)), (47, (.iload_n 3, 1)), (48, (.invokevirtual 284, 3)), (51, (.ifCond .eq 23, 3)), (54, (.iinc 4 1, 3)), (57, (.aload_n 0, 1)), (58, (.getfield 44, 3)), (61, (.aload_n 0, 1)), (62, (.getfield 51, 3)), (65, (.getfield 198, 3)), (68, (.invokevirtual 288, 3)), (71, (.goto (-41), 3)), (74, (.aload_n 0, 1)), (75, (.iload 4, 2)), (77, (.invokevirtual 113, 3)), (80, (.ireturn, 1))]
theorem t_Lt_others_0_ok : ∀ q ∈ t_Lt_others_0, decode prog_1_method_29_code q.1 = .ok q.2 := by decide +kernel
def m_Lt_others : mM := (⟨"LinkTimes", "others", "(III)I"⟩, prog_1_method_29_code, 5, (some .int), t_Lt_others_0)
theorem ok_Lt_others : mOK m_Lt_others := ⟨by decide, tm 1031 (by decide +kernel) rfl, t_Lt_others_0_ok, tm 113 (by decide +kernel) rfl, by decide, by decide⟩
theorem vm_Lt_others : mVt m_Lt_others := ⟨tm 1029 (by decide +kernel) rfl, tm 1030 (by decide +kernel) rfl⟩
def t_Lt_other_0 : List (Nat × Instr × Nat) := [(0, (.aload_n 0, 1)), (1, (.aload_n 0, 1)), (2, (.iload_n 1, 1)), (3, (.iload_n 2, 1)), (4, (.iload_n 3, 1)), (5, (.invokevirtual 281, 3)), (8, (.invokevirtual 240, 3)), (11, (.ifCond .eq 5, 3)), (14, (.iconst (-1), 1)), (15, (.ireturn, 1)), (16, (.iload 4, 2)), (18, (.ifCond .lt 10, 3)), (21, (.iload 4, 2)), (23, (.bipush 120, 2)), (25, (.if_icmp .lt 9, 3)), (28, (.aload_n 0, 1)), (29, (.iconst 1, 1)), (30, (.invokevirtual 87, 3)), (33, (.ireturn, 1)), (34, (.aload_n 0, 1)), (35, (.getfield 44, 3)), (38, (.aload_n 0, 1)), (39, (.getfield 16, 3)), (42, (.invokevirtual 184, 3)), (45, (.iconst 0, 1)), (46, (.istore 5, 2)), (48, (.iload 5, 2)), (50, (.iload 4, 2)), (52, (.if_icmp .gt 46, 3)), (55, (.aload_n 0, 1)), (56, (.getfield 51, 3)), (59, (.aload_n 0, 1)), (60, (.getfield 44, 3)), (63, (.iload_n 1, 1)), (64, (.iload_n 2, 1)), (65, (.iload_n 3, 1)), (66, (.invokevirtual 284, 3)), (69, (.ifCond .ne 9, 3)), (72, (.aload_n 0, 1)), (73, (.iconst 1, 1)), (74, (.invokevirtual 87, 3)), (77, (.ireturn, 1)), (78, (.aload_n 0, 1)), (79, (.getfield 44, 3)), (82, (.aload_n 0, 1)), (83, (.getfield 51, 3)), (86, (.getfield 198, 3)), (89, (.invokevirtual 288, 3)), (92, (.iinc 5 1, 3)), (95, (.goto (-47), 3))]
theorem t_Lt_other_0_ok : ∀ q ∈ t_Lt_other_0, decode prog_1_method_30_code q.1 = .ok q.2 := by decide +kernel
def t_Lt_other_1 : List (Nat × Instr × Nat) := [(98, (.aload_n 0, 1)), (99, (.aload_n 0, 1)), (100, (.getfield 51, 3)), (103, (.getfield 198, 3)), (106, (.getfield 202, 3)), (109, (.invokevirtual 113, 3)), (112, (.ireturn, 1))]
theorem t_Lt_other_1_ok : ∀ q ∈ t_Lt_other_1, decode prog_1_method_30_code q.1 = .ok q.2 := by decide +kernel
def m_Lt_other : mM := (⟨"LinkTimes", "other", "(IIII)I"⟩, prog_1_method_30_code, 6, (some .int), t_Lt_other_0 ++ t_Lt_other_1)
theorem ok_Lt_other : mOK m_Lt_other := ⟨by decide, tm 1043 (by decide +kernel) rfl, all_app (t_Lt_other_0_ok) t_Lt_other_1_ok, tm 113 (by decide +kernel) rfl, by decide, by decide⟩
theorem vm_Lt_other : mVt m_Lt_other := ⟨tm 1041 (by decide +kernel) rfl, tm 1042 (by decide +kernel) rfl⟩
def t_Lt_pairs_0 : List (Nat × Instr × Nat) := [(0, (.aload_n 0, 1)), (1, (.aload_n 0, 1)), (2, (.iload_n 1, 1)), (3, (.invokevirtual 292, 3)), (6, (.invokevirtual 240, 3)), (9, (.ifCond .eq 5, 3)), (12, (.iconst (-1), 1)), (13, (.ireturn, 1)), (14, (.aload_n 0, 1)), (15, (.getfield 44, 3)), (18, (.aload_n 0, 1)), (19, (.getfield 16, 3)), (22, (.invokevirtual 184, 3)), (25, (.iconst 0, 1)), (26, (.istore_n 2, 1)), (27, (.iconst 0, 1)), (28, (.istore_n 3, 1)), (29, (.iload_n 3, 1)), (30, (.aload_n 0, 1)), (31, (.getfield 16, 3)), (34, (.getfield 126, 3)), (37, (.if_icmp .ge 68, 3)), (40, (.aload_n 0, 1)), (41, (.getfield 58, 3)), (44, (.aload_n 0, 1)), (45, (.getfield 44, 3)), (48, (.iload_n 3, 1)), (49, (.iload_n 1, 1)), (50, (.invokevirtual 250, 3)), (53, (.iconst 0, 1)), (54, (.istore 4, 2)), (56, (.iload 4, 2)), (58, (.aload_n 0, 1)), (59, (.getfield 16, 3)), (62, (.getfield 126, 3)), (65, (.if_icmp .ge 34, 3)), (68, (.iload_n 3, 1)), (69, (.iload 4, 2)), (71, (.if_icmp .eq 22, 3)), (74, (.aload_n 0, 1)), (75, (.getfield 58, 3)), (78, (.getfield 254, 3)), (81, (.iload 4, 2)), (83, (.iaload, 1)), (84, (.ldc_w 257, 3)), (87, (.if_icmp .ge 6, 3)), (90, (.iinc 2 1, 3)), (93, (.iinc 4 1, 3)), (96, (.goto (-40), 3)), (99, (.iinc 3 1, 3))]
theorem t_Lt_pairs_0_ok : ∀ q ∈ t_Lt_pairs_0, decode prog_1_method_31_code q.1 = .ok q.2 := by decide +kernel
def t_Lt_pairs_1 : List (Nat × Instr × Nat) := [(102, (.goto (-73), 3)), (105, (.aload_n 0, 1)), (106, (.iload_n 2, 1)), (107, (.invokevirtual 113, 3)), (110, (.ireturn, 1))]
theorem t_Lt_pairs_1_ok : ∀ q ∈ t_Lt_pairs_1, decode prog_1_method_31_code q.1 = .ok q.2 := by decide +kernel
def m_Lt_pairs : mM := (⟨"LinkTimes", "pairs", "(I)I"⟩, prog_1_method_31_code, 5, (some .int), t_Lt_pairs_0 ++ t_Lt_pairs_1)
theorem ok_Lt_pairs : mOK m_Lt_pairs := ⟨by decide, tm 1047 (by decide +kernel) rfl, all_app (t_Lt_pairs_0_ok) t_Lt_pairs_1_ok, tm 113 (by decide +kernel) rfl, by decide, by decide⟩
theorem vm_Lt_pairs : mVt m_Lt_pairs := ⟨tm 1045 (by decide +kernel) rfl, tm 1046 (by decide +kernel) rfl⟩
def t_Lt_hub_0 : List (Nat × Instr × Nat) := [(0, (.aload_n 0, 1)), (1, (.aload_n 0, 1)), (2, (.iload_n 1, 1)), (3, (.invokevirtual 292, 3)), (6, (.invokevirtual 240, 3)), (9, (.ifCond .eq 5, 3)), (12, (.iconst (-1), 1)), (13, (.ireturn, 1)), (14, (.aload_n 0, 1)), (15, (.getfield 44, 3)), (18, (.aload_n 0, 1)), (19, (.getfield 16, 3)), (22, (.invokevirtual 184, 3)), (25, (.aload_n 0, 1)), (26, (.getfield 51, 3)), (29, (.aload_n 0, 1)), (30, (.getfield 44, 3)), (33, (.iload_n 1, 1)), (34, (.invokevirtual 295, 3)), (37, (.bipush (-2), 2)), (39, (.istore_n 2, 1)), (40, (.iconst 0, 1)), (41, (.istore_n 3, 1)), (42, (.iconst 0, 1)), (43, (.istore 4, 2)), (45, (.iload 4, 2)), (47, (.aload_n 0, 1)), (48, (.getfield 16, 3)), (51, (.getfield 126, 3)), (54, (.if_icmp .ge 37, 3)), (57, (.aload_n 0, 1)), (58, (.getfield 51, 3)), (61, (.getfield 299, 3)), (64, (.iload 4, 2)), (66, (.iaload, 1)), (67, (.iload_n 3, 1)), (68, (.if_icmp .le 17, 3)), (71, (.aload_n 0, 1)), (72, (.getfield 51, 3)), (75, (.getfield 299, 3)), (78, (.iload 4, 2)), (80, (.iaload, 1)), (81, (.istore_n 3, 1)), (82, (.iload 4, 2)), (84, (.istore_n 2, 1)), (85, (.iinc 4 1, 3)), (88, (.goto (-43), 3)), (91, (.aload_n 0, 1)), (92, (.iload_n 2, 1)), (93, (.invokevirtual 113, 3))]
theorem t_Lt_hub_0_ok : ∀ q ∈ t_Lt_hub_0, decode prog_1_method_32_code q.1 = .ok q.2 := by decide +kernel
def t_Lt_hub_1 : List (Nat × Instr × Nat) := [(96, (.ireturn, 1))]
theorem t_Lt_hub_1_ok : ∀ q ∈ t_Lt_hub_1, decode prog_1_method_32_code q.1 = .ok q.2 := by decide +kernel
def m_Lt_hub : mM := (⟨"LinkTimes", "hub", "(I)I"⟩, prog_1_method_32_code, 5, (some .int), t_Lt_hub_0 ++ t_Lt_hub_1)
theorem ok_Lt_hub : mOK m_Lt_hub := ⟨by decide, tm 1055 (by decide +kernel) rfl, all_app (t_Lt_hub_0_ok) t_Lt_hub_1_ok, tm 113 (by decide +kernel) rfl, by decide, by decide⟩
theorem vm_Lt_hub : mVt m_Lt_hub := ⟨tm 1053 (by decide +kernel) rfl, tm 1054 (by decide +kernel) rfl⟩
def t_Lt_slowest_0 : List (Nat × Instr × Nat) := [(0, (.aload_n 0, 1)), (1, (.aload_n 0, 1)), (2, (.iload_n 1, 1)), (3, (.invokevirtual 292, 3)), (6, (.invokevirtual 240, 3)), (9, (.ifCond .eq 5, 3)), (12, (.iconst (-1), 1)), (13, (.ireturn, 1)), (14, (.aload_n 0, 1)), (15, (.getfield 44, 3)), (18, (.aload_n 0, 1)), (19, (.getfield 16, 3)), (22, (.invokevirtual 184, 3)), (25, (.bipush (-2), 2)), (27, (.istore_n 2, 1)), (28, (.iconst 0, 1)), (29, (.istore_n 3, 1)), (30, (.iload_n 3, 1)), (31, (.aload_n 0, 1)), (32, (.getfield 16, 3)), (35, (.getfield 126, 3)), (38, (.if_icmp .ge 82, 3)), (41, (.aload_n 0, 1)), (42, (.getfield 58, 3)), (45, (.aload_n 0, 1)), (46, (.getfield 44, 3)), (49, (.iload_n 3, 1)), (50, (.iload_n 1, 1)), (51, (.invokevirtual 250, 3)), (54, (.iconst 0, 1)), (55, (.istore 4, 2)), (57, (.iload 4, 2)), (59, (.aload_n 0, 1)), (60, (.getfield 16, 3)), (63, (.getfield 126, 3)), (66, (.if_icmp .ge 48, 3)), (69, (.iload_n 3, 1)), (70, (.iload 4, 2)), (72, (.if_icmp .eq 36, 3)), (75, (.aload_n 0, 1)), (76, (.getfield 58, 3)), (79, (.getfield 254, 3)), (82, (.iload 4, 2)), (84, (.iaload, 1)), (85, (.ldc_w 257, 3)), (88, (.if_icmp .ge 20, 3)), (91, (.iload_n 2, 1)), (92, (.aload_n 0, 1)), (93, (.getfield 58, 3)), (96, (.getfield 254, 3))]
theorem t_Lt_slowest_0_ok : ∀ q ∈ t_Lt_slowest_0, decode prog_1_method_33_code q.1 = .ok q.2 := by decide +kernel
def t_Lt_slowest_1 : List (Nat × Instr × Nat) := [(99, (.iload 4, 2)), (101, (.iaload, 1)), (102, (.iload_n 1, 1)), (103, (.isub, 1)), (104, (.invokestatic 258, 3)), (107, (.istore_n 2, 1)), (108, (.iinc 4 1, 3)), (111, (.goto (-54), 3)), (114, (.iinc 3 1, 3)), (117, (.goto (-87), 3)), (120, (.aload_n 0, 1)), (121, (.iload_n 2, 1)), (122, (.invokevirtual 113, 3)), (125, (.ireturn, 1))]
theorem t_Lt_slowest_1_ok : ∀ q ∈ t_Lt_slowest_1, decode prog_1_method_33_code q.1 = .ok q.2 := by decide +kernel
def m_Lt_slowest : mM := (⟨"LinkTimes", "slowest", "(I)I"⟩, prog_1_method_33_code, 5, (some .int), t_Lt_slowest_0 ++ t_Lt_slowest_1)
theorem ok_Lt_slowest : mOK m_Lt_slowest := ⟨by decide, tm 1067 (by decide +kernel) rfl, all_app (t_Lt_slowest_0_ok) t_Lt_slowest_1_ok, tm 113 (by decide +kernel) rfl, by decide, by decide⟩
theorem vm_Lt_slowest : mVt m_Lt_slowest := ⟨tm 1065 (by decide +kernel) rfl, tm 1066 (by decide +kernel) rfl⟩
def t_Lt_needs_0 : List (Nat × Instr × Nat) := [(0, (.aload_n 0, 1)), (1, (.aload_n 0, 1)), (2, (.iload_n 1, 1)), (3, (.iload_n 2, 1)), (4, (.iload_n 3, 1)), (5, (.iload 4, 2)), (7, (.invokevirtual 302, 3)), (10, (.invokevirtual 240, 3)), (13, (.ifCond .eq 5, 3)), (16, (.iconst (-1), 1)), (17, (.ireturn, 1)), (18, (.aload_n 0, 1)), (19, (.getfield 44, 3)), (22, (.aload_n 0, 1)), (23, (.getfield 16, 3)), (26, (.invokevirtual 184, 3)), (29, (.aload_n 0, 1)), (30, (.iload_n 1, 1)), (31, (.iload_n 2, 1)), (32, (.iload_n 3, 1)), (33, (.invokevirtual 264, 3)), (36, (.istore 5, 2)), (38, (.iload 5, 2)), (40, (.ldc_w 257, 3)), (43, (.if_icmp .ne 10, 3)), (46, (.aload_n 0, 1)), (47, (.bipush (-3), 2)), (49, (.invokevirtual 113, 3)), (52, (.ireturn, 1)), (53, (.aload_n 0, 1)), (54, (.getfield 44, 3)), (57, (.iload 4, 2)), (59, (.iconst 0, 1)), (60, (.invokevirtual 305, 3)), (63, (.aload_n 0, 1)), (64, (.iload_n 1, 1)), (65, (.iload_n 2, 1)), (66, (.iload_n 3, 1)), (67, (.invokevirtual 264, 3)), (70, (.istore 6, 2)), (72, (.aload_n 0, 1)), (73, (.iload 6, 2)), (75, (.ldc_w 257, 3)), (78, (.if_icmp .ne 8, 3)), (81, (.bipush (-2), 2)), (83, (.goto 8, 3)), (86, (.iload 6, 2)), (88, (.iload 5, 2)), (90, (.isub, 1)), (91, (.invokevirtual 113, 3))]
theorem t_Lt_needs_0_ok : ∀ q ∈ t_Lt_needs_0, decode prog_1_method_34_code q.1 = .ok q.2 := by decide +kernel
def t_Lt_needs_1 : List (Nat × Instr × Nat) := [(94, (.ireturn, 1))]
theorem t_Lt_needs_1_ok : ∀ q ∈ t_Lt_needs_1, decode prog_1_method_34_code q.1 = .ok q.2 := by decide +kernel
def m_Lt_needs : mM := (⟨"LinkTimes", "needs", "(IIII)I"⟩, prog_1_method_34_code, 7, (some .int), t_Lt_needs_0 ++ t_Lt_needs_1)
theorem ok_Lt_needs : mOK m_Lt_needs := ⟨by decide, tm 1071 (by decide +kernel) rfl, all_app (t_Lt_needs_0_ok) t_Lt_needs_1_ok, tm 113 (by decide +kernel) rfl, by decide, by decide⟩
theorem vm_Lt_needs : mVt m_Lt_needs := ⟨tm 1069 (by decide +kernel) rfl, tm 1070 (by decide +kernel) rfl⟩
def t_Lt_vital_0 : List (Nat × Instr × Nat) := [(0, (.aload_n 0, 1)), (1, (.iload_n 1, 1)), (2, (.iload_n 2, 1)), (3, (.iload_n 3, 1)), (4, (.invokevirtual 194, 3)), (7, (.istore 4, 2)), (9, (.iload 4, 2)), (11, (.ifCond .eq 6, 3)), (14, (.iload 4, 2)), (16, (.ireturn, 1)), (17, (.aload_n 0, 1)), (18, (.getfield 51, 3)), (21, (.getfield 198, 3)), (24, (.astore 5, 2)), (26, (.iconst 0, 1)), (27, (.istore 6, 2)), (29, (.iconst 0, 1)), (30, (.istore 7, 2)), (32, (.iload 7, 2)), (34, (.aload 5, 2)), (36, (.getfield 212, 3)), (39, (.if_icmp .ge 59, 3)), (42, (.aload_n 0, 1)), (43, (.getfield 44, 3)), (46, (.aload 5, 2)), (48, (.getfield 213, 3)), (51, (.iload 7, 2)), (53, (.iaload, 1)), (54, (.iconst 0, 1)), (55, (.invokevirtual 305, 3)), (58, (.aload_n 0, 1)), (59, (.iload_n 1, 1)), (60, (.iload_n 2, 1)), (61, (.iload_n 3, 1)), (62, (.invokevirtual 264, 3)), (65, (.aload 5, 2)), (67, (.getfield 202, 3)), (70, (.if_icmp .le 6, 3)), (73, (.iinc 6 1, 3)), (76, (.aload_n 0, 1)), (77, (.getfield 44, 3)), (80, (.aload 5, 2)), (82, (.getfield 213, 3)), (85, (.iload 7, 2)), (87, (.iaload, 1)), (88, (.iconst 1, 1)), (89, (.invokevirtual 305, 3)), (92, (.iinc 7 1, 3)), (95, (.goto (-63), 3)), (98, (.iload 6, 2))]
theorem t_Lt_vital_0_ok : ∀ q ∈ t_Lt_vital_0, decode prog_1_method_35_code q.1 = .ok q.2 := by decide +kernel
def t_Lt_vital_1 : List (Nat × Instr × Nat) := [(100, (.ireturn, 1))]
theorem t_Lt_vital_1_ok : ∀ q ∈ t_Lt_vital_1, decode prog_1_method_35_code q.1 = .ok q.2 := by decide +kernel
def m_Lt_vital : mM := (⟨"LinkTimes", "vital", "(III)I"⟩, prog_1_method_35_code, 8, (some .int), t_Lt_vital_0 ++ t_Lt_vital_1)
theorem ok_Lt_vital : mOK m_Lt_vital := ⟨by decide, tm 1083 (by decide +kernel) rfl, all_app (t_Lt_vital_0_ok) t_Lt_vital_1_ok, tm 113 (by decide +kernel) rfl, by decide, by decide⟩
theorem vm_Lt_vital : mVt m_Lt_vital := ⟨tm 1081 (by decide +kernel) rfl, tm 1082 (by decide +kernel) rfl⟩
def t_Lt_slack_0 : List (Nat × Instr × Nat) := [(0, (.aload_n 0, 1)), (1, (.aload_n 0, 1)), (2, (.iload_n 1, 1)), (3, (.iload_n 2, 1)), (4, (.iload_n 3, 1)), (5, (.iload 4, 2)), (7, (.invokevirtual 302, 3)), (10, (.invokevirtual 240, 3)), (13, (.ifCond .eq 5, 3)), (16, (.iconst (-1), 1)), (17, (.ireturn, 1)), (18, (.aload_n 0, 1)), (19, (.getfield 44, 3)), (22, (.aload_n 0, 1)), (23, (.getfield 16, 3)), (26, (.invokevirtual 184, 3)), (29, (.aload_n 0, 1)), (30, (.iload_n 1, 1)), (31, (.iload_n 2, 1)), (32, (.iload_n 3, 1)), (33, (.invokevirtual 264, 3)), (36, (.istore 5, 2)), (38, (.iload 5, 2)), (40, (.ldc_w 257, 3)), (43, (.if_icmp .ne 10, 3)), (46, (.aload_n 0, 1)), (47, (.bipush (-2), 2)), (49, (.invokevirtual 113, 3)), (52, (.ireturn, 1)), (53, (.aload_n 0, 1)), (54, (.getfield 44, 3)), (57, (.iload 4, 2)), (59, (.iconst 0, 1)), (60, (.invokevirtual 305, 3)), (63, (.aload_n 0, 1)), (64, (.iload_n 1, 1)), (65, (.iload_n 2, 1)), (66, (.iload_n 3, 1)), (67, (.invokevirtual 264, 3)), (70, (.iload 5, 2)), (72, (.if_icmp .ne 10, 3)), (75, (.aload_n 0, 1)), (76, (.bipush 99, 2)), (78, (.invokevirtual 113, 3)), (81, (.ireturn, 1)), (82, (.aload_n 0, 1)), (83, (.getfield 44, 3)), (86, (.iload 4, 2)), (88, (.iconst 1, 1)), (89, (.invokevirtual 305, 3))]
theorem t_Lt_slack_0_ok : ∀ q ∈ t_Lt_slack_0, decode prog_1_method_36_code q.1 = .ok q.2 := by decide +kernel
def t_Lt_slack_1 : List (Nat × Instr × Nat) := [(92, (.iconst 1, 1)), (93, (.istore 6, 2)), (95, (.iload 6, 2)), (97, (.bipush 99, 2)), (99, (.if_icmp .gt 39, 3)), (102, (.aload_n 0, 1)), (103, (.getfield 44, 3)), (106, (.iload 4, 2)), (108, (.invokevirtual 309, 3)), (111, (.aload_n 0, 1)), (112, (.iload_n 1, 1)), (113, (.iload_n 2, 1)), (114, (.iload_n 3, 1)), (115, (.invokevirtual 264, 3)), (118, (.iload 5, 2)), (120, (.if_icmp .le 12, 3)), (123, (.aload_n 0, 1)), (124, (.iload 6, 2)), (126, (.iconst 1, 1)), (127, (.isub, 1)), (128, (.invokevirtual 113, 3)), (131, (.ireturn, 1)), (132, (.iinc 6 1, 3)), (135, (.goto (-40), 3)), (138, (.aload_n 0, 1)), (139, (.bipush 99, 2)), (141, (.invokevirtual 113, 3)), (144, (.ireturn, 1))]
theorem t_Lt_slack_1_ok : ∀ q ∈ t_Lt_slack_1, decode prog_1_method_36_code q.1 = .ok q.2 := by decide +kernel
def m_Lt_slack : mM := (⟨"LinkTimes", "slack", "(IIII)I"⟩, prog_1_method_36_code, 7, (some .int), t_Lt_slack_0 ++ t_Lt_slack_1)
theorem ok_Lt_slack : mOK m_Lt_slack := ⟨by decide, tm 1087 (by decide +kernel) rfl, all_app (t_Lt_slack_0_ok) t_Lt_slack_1_ok, tm 113 (by decide +kernel) rfl, by decide, by decide⟩
theorem vm_Lt_slack : mVt m_Lt_slack := ⟨tm 1085 (by decide +kernel) rfl, tm 1086 (by decide +kernel) rfl⟩
def t_Lt_why_0 : List (Nat × Instr × Nat) := [(0, (.aload_n 0, 1)), (1, (.aload_n 0, 1)), (2, (.iload_n 1, 1)), (3, (.iload_n 2, 1)), (4, (.iload_n 3, 1)), (5, (.invokestatic 233, 3)), (8, (.ifCond .eq 12, 3)), (11, (.iload 4, 2)), (13, (.ifCond .lt 7, 3)), (16, (.iconst 1, 1)), (17, (.goto 4, 3)), (20, (.iconst 0, 1)), (21, (.invokevirtual 236, 3)), (24, (.invokevirtual 240, 3)), (27, (.ifCond .eq 5, 3)), (30, (.iconst (-1), 1)), (31, (.ireturn, 1)), (32, (.aload_n 0, 1)), (33, (.iload 4, 2)), (35, (.aload_n 0, 1)), (36, (.iload_n 1, 1)), (37, (.iload_n 2, 1)), (38, (.iload_n 3, 1)), (39, (.invokevirtual 312, 3)), (42, (.if_icmp .ge 10, 3)), (45, (.iload 4, 2)), (47, (.iconst 1, 1)), (48, (.iadd, 1)), (49, (.goto 4, 3)), (52, (.iconst 0, 1)), (53, (.invokevirtual 113, 3)), (56, (.ireturn, 1))]
theorem t_Lt_why_0_ok : ∀ q ∈ t_Lt_why_0, decode prog_1_method_37_code q.1 = .ok q.2 := by decide +kernel
def m_Lt_why : mM := (⟨"LinkTimes", "why", "(IIII)I"⟩, prog_1_method_37_code, 5, (some .int), t_Lt_why_0)
theorem ok_Lt_why : mOK m_Lt_why := ⟨by decide, tm 1095 (by decide +kernel) rfl, t_Lt_why_0_ok, tm 113 (by decide +kernel) rfl, by decide, by decide⟩
theorem vm_Lt_why : mVt m_Lt_why := ⟨tm 1093 (by decide +kernel) rfl, tm 1094 (by decide +kernel) rfl⟩
def t_Lt_countReasons_0 : List (Nat × Instr × Nat) := [(0, (.aload_n 0, 1)), (1, (.getfield 44, 3)), (4, (.aload_n 0, 1)), (5, (.getfield 16, 3)), (8, (.invokevirtual 184, 3)), (11, (.aload_n 0, 1)), (12, (.iload_n 1, 1)), (13, (.iload_n 2, 1)), (14, (.iload_n 3, 1)), (15, (.invokevirtual 264, 3)), (18, (.ldc_w 257, 3)), (21, (.if_icmp .ge 5, 3)), (24, (.iconst 0, 1)), (25, (.ireturn, 1)), (26, (.aload_n 0, 1)), (27, (.getfield 44, 3)), (30, (.aload_n 0, 1)), (31, (.getfield 16, 3)), (34, (.invokevirtual 315, 3)), (37, (.aload_n 0, 1)), (38, (.iload_n 1, 1)), (39, (.iload_n 2, 1)), (40, (.iload_n 3, 1)), (41, (.invokevirtual 264, 3)), (44, (.ldc_w 257, 3)), (47, (.if_icmp .ge 5, 3)), (50, (.iconst 1, 1)), (51, (.ireturn, 1)), (52, (.aload_n 0, 1)), (53, (.getfield 44, 3)), (56, (.invokevirtual 318, 3)), (59, (.aload_n 0, 1)), (60, (.iload_n 1, 1)), (61, (.iload_n 2, 1)), (62, (.iload_n 3, 1)), (63, (.invokevirtual 264, 3)), (66, (.ldc_w 257, 3)), (69, (.if_icmp .ge 5, 3)), (72, (.iconst 2, 1)), (73, (.ireturn, 1)), (74, (.aload_n 0, 1)), (75, (.iload_n 1, 1)), (76, (.iload_n 2, 1)), (77, (.iconst 0, 1)), (78, (.invokevirtual 264, 3)), (81, (.ldc_w 257, 3)), (84, (.if_icmp .ge 7, 3)), (87, (.iconst 3, 1)), (88, (.goto 4, 3)), (91, (.iconst 4, 1))]
theorem t_Lt_countReasons_0_ok : ∀ q ∈ t_Lt_countReasons_0, decode prog_1_method_38_code q.1 = .ok q.2 := by decide +kernel
def t_Lt_countReasons_1 : List (Nat × Instr × Nat) := [(92, (.ireturn, 1))]
theorem t_Lt_countReasons_1_ok : ∀ q ∈ t_Lt_countReasons_1, decode prog_1_method_38_code q.1 = .ok q.2 := by decide +kernel
def m_Lt_countReasons : mM := (⟨"LinkTimes", "countReasons", "(III)I"⟩, prog_1_method_38_code, 4, (some .int), t_Lt_countReasons_0 ++ t_Lt_countReasons_1)
theorem ok_Lt_countReasons : mOK m_Lt_countReasons := ⟨by decide, tm 1099 (by decide +kernel) rfl, all_app (t_Lt_countReasons_0_ok) t_Lt_countReasons_1_ok, tm 113 (by decide +kernel) rfl, by decide, by decide⟩
theorem vm_Lt_countReasons : mVt m_Lt_countReasons := ⟨tm 1098 (by decide +kernel) rfl, tm 50 (by decide +kernel) rfl⟩
def t_Lt_cancel_0 : List (Nat × Instr × Nat) := [(0, (.aload_n 0, 1)), (1, (.iload_n 1, 1)), (2, (.iconst 1, 1)), (3, (.invokevirtual 321, 3)), (6, (.ireturn, 1))]
theorem t_Lt_cancel_0_ok : ∀ q ∈ t_Lt_cancel_0, decode prog_1_method_39_code q.1 = .ok q.2 := by decide +kernel
def m_Lt_cancel : mM := (⟨"LinkTimes", "cancel", "(I)I"⟩, prog_1_method_39_code, 2, (some .int), t_Lt_cancel_0)
theorem ok_Lt_cancel : mOK m_Lt_cancel := ⟨by decide, tm 1111 (by decide +kernel) rfl, t_Lt_cancel_0_ok, tm 113 (by decide +kernel) rfl, by decide, by decide⟩
theorem vm_Lt_cancel : mVt m_Lt_cancel := ⟨tm 1109 (by decide +kernel) rfl, tm 1110 (by decide +kernel) rfl⟩
def t_Lt_run_0 : List (Nat × Instr × Nat) := [(0, (.aload_n 0, 1)), (1, (.iload_n 1, 1)), (2, (.iconst 0, 1)), (3, (.invokevirtual 321, 3)), (6, (.ireturn, 1))]
theorem t_Lt_run_0_ok : ∀ q ∈ t_Lt_run_0, decode prog_1_method_40_code q.1 = .ok q.2 := by decide +kernel
def m_Lt_run : mM := (⟨"LinkTimes", "run", "(I)I"⟩, prog_1_method_40_code, 2, (some .int), t_Lt_run_0)
theorem ok_Lt_run : mOK m_Lt_run := ⟨by decide, tm 1127 (by decide +kernel) rfl, t_Lt_run_0_ok, tm 113 (by decide +kernel) rfl, by decide, by decide⟩
theorem vm_Lt_run : mVt m_Lt_run := ⟨tm 1125 (by decide +kernel) rfl, tm 1126 (by decide +kernel) rfl⟩
def t_Lt_setOff_0 : List (Nat × Instr × Nat) := [(0, (.aload_n 0, 1)), (1, (.getfield 16, 3)), (4, (.iload_n 1, 1)), (5, (.invokevirtual 156, 3)), (8, (.ifCond .ne 9, 3)), (11, (.aload_n 0, 1)), (12, (.iconst 1, 1)), (13, (.invokevirtual 87, 3)), (16, (.ireturn, 1)), (17, (.aload_n 0, 1)), (18, (.getfield 16, 3)), (21, (.getfield 177, 3)), (24, (.iload_n 1, 1)), (25, (.baload, 1)), (26, (.iload_n 2, 1)), (27, (.if_icmp .ne 9, 3)), (30, (.aload_n 0, 1)), (31, (.iconst 5, 1)), (32, (.invokevirtual 87, 3)), (35, (.ireturn, 1)), (36, (.aload_n 0, 1)), (37, (.getfield 35, 3)), (40, (.iconst 0, 1)), (41, (.iload_n 1, 1)), (42, (.aload_n 0, 1)), (43, (.getfield 16, 3)), (46, (.getfield 177, 3)), (49, (.iload_n 1, 1)), (50, (.baload, 1)), (51, (.ifCond .eq 7, 3)), (54, (.iconst 1, 1)), (55, (.goto 4, 3)), (58, (.iconst 0, 1)), (59, (.invokevirtual 325, 3)), (62, (.aload_n 0, 1)), (63, (.getfield 16, 3)), (66, (.getfield 177, 3)), (69, (.iload_n 1, 1)), (70, (.iload_n 2, 1)), (71, (.bastore, 1)), (72, (.aload_n 0, 1)), (73, (.aload_n 0, 1)), (74, (.getfield 16, 3)), (77, (.invokevirtual 135, 3)), (80, (.invokevirtual 113, 3)), (83, (.ireturn, 1))]
theorem t_Lt_setOff_0_ok : ∀ q ∈ t_Lt_setOff_0, decode prog_1_method_41_code q.1 = .ok q.2 := by decide +kernel
def m_Lt_setOff : mM := (⟨"LinkTimes", "setOff", "(IZ)I"⟩, prog_1_method_41_code, 3, (some .int), t_Lt_setOff_0)
theorem ok_Lt_setOff : mOK m_Lt_setOff := ⟨by decide, tm 1115 (by decide +kernel) rfl, t_Lt_setOff_0_ok, tm 113 (by decide +kernel) rfl, by decide, by decide⟩
theorem vm_Lt_setOff : mVt m_Lt_setOff := ⟨tm 1114 (by decide +kernel) rfl, tm 51 (by decide +kernel) rfl⟩
def t_Lt_delay_0 : List (Nat × Instr × Nat) := [(0, (.aload_n 0, 1)), (1, (.getfield 16, 3)), (4, (.iload_n 1, 1)), (5, (.invokevirtual 156, 3)), (8, (.ifCond .ne 9, 3)), (11, (.aload_n 0, 1)), (12, (.iconst 1, 1)), (13, (.invokevirtual 87, 3)), (16, (.ireturn, 1)), (17, (.iload_n 2, 1)), (18, (.ifCond .lt 9, 3)), (21, (.iload_n 2, 1)), (22, (.bipush 99, 2)), (24, (.if_icmp .le 9, 3)), (27, (.aload_n 0, 1)), (28, (.iconst 2, 1)), (29, (.invokevirtual 87, 3)), (32, (.ireturn, 1)), (33, (.aload_n 0, 1)), (34, (.getfield 16, 3)), (37, (.getfield 171, 3)), (40, (.iload_n 1, 1)), (41, (.iaload, 1)), (42, (.istore_n 3, 1)), (43, (.aload_n 0, 1)), (44, (.getfield 35, 3)), (47, (.iconst 1, 1)), (48, (.iload_n 1, 1)), (49, (.iload_n 3, 1)), (50, (.invokevirtual 325, 3)), (53, (.aload_n 0, 1)), (54, (.getfield 16, 3)), (57, (.getfield 171, 3)), (60, (.iload_n 1, 1)), (61, (.iload_n 2, 1)), (62, (.iastore, 1)), (63, (.aload_n 0, 1)), (64, (.iload_n 3, 1)), (65, (.invokevirtual 113, 3)), (68, (.ireturn, 1))]
theorem t_Lt_delay_0_ok : ∀ q ∈ t_Lt_delay_0, decode prog_1_method_42_code q.1 = .ok q.2 := by decide +kernel
def m_Lt_delay : mM := (⟨"LinkTimes", "delay", "(II)I"⟩, prog_1_method_42_code, 4, (some .int), t_Lt_delay_0)
theorem ok_Lt_delay : mOK m_Lt_delay := ⟨by decide, tm 1131 (by decide +kernel) rfl, t_Lt_delay_0_ok, tm 113 (by decide +kernel) rfl, by decide, by decide⟩
theorem vm_Lt_delay : mVt m_Lt_delay := ⟨tm 1129 (by decide +kernel) rfl, tm 1130 (by decide +kernel) rfl⟩
def t_Lt_change_0 : List (Nat × Instr × Nat) := [(0, (.aload_n 0, 1)), (1, (.getfield 16, 3)), (4, (.iload_n 1, 1)), (5, (.invokevirtual 139, 3)), (8, (.ifCond .ne 9, 3)), (11, (.aload_n 0, 1)), (12, (.iconst 1, 1)), (13, (.invokevirtual 87, 3)), (16, (.ireturn, 1)), (17, (.iload_n 2, 1)), (18, (.ifCond .lt 9, 3)), (21, (.iload_n 2, 1)), (22, (.bipush 99, 2)), (24, (.if_icmp .le 9, 3)), (27, (.aload_n 0, 1)), (28, (.iconst 2, 1)), (29, (.invokevirtual 87, 3)), (32, (.ireturn, 1)), (33, (.aload_n 0, 1)), (34, (.getfield 16, 3)), (37, (.getfield 143, 3)), (40, (.iload_n 1, 1)), (41, (.iaload, 1)), (42, (.istore_n 3, 1)), (43, (.aload_n 0, 1)), (44, (.getfield 35, 3)), (47, (.iconst 2, 1)), (48, (.iload_n 1, 1)), (49, (.iload_n 3, 1)), (50, (.invokevirtual 325, 3)), (53, (.aload_n 0, 1)), (54, (.getfield 16, 3)), (57, (.getfield 143, 3)), (60, (.iload_n 1, 1)), (61, (.iload_n 2, 1)), (62, (.iastore, 1)), (63, (.aload_n 0, 1)), (64, (.iload_n 3, 1)), (65, (.invokevirtual 113, 3)), (68, (.ireturn, 1))]
theorem t_Lt_change_0_ok : ∀ q ∈ t_Lt_change_0, decode prog_1_method_43_code q.1 = .ok q.2 := by decide +kernel
def m_Lt_change : mM := (⟨"LinkTimes", "change", "(II)I"⟩, prog_1_method_43_code, 4, (some .int), t_Lt_change_0)
theorem ok_Lt_change : mOK m_Lt_change := ⟨by decide, tm 1135 (by decide +kernel) rfl, t_Lt_change_0_ok, tm 113 (by decide +kernel) rfl, by decide, by decide⟩
theorem vm_Lt_change : mVt m_Lt_change := ⟨tm 1133 (by decide +kernel) rfl, tm 1134 (by decide +kernel) rfl⟩
def t_Lt_hold_0 : List (Nat × Instr × Nat) := [(0, (.aload_n 0, 1)), (1, (.getfield 16, 3)), (4, (.iload_n 1, 1)), (5, (.invokevirtual 139, 3)), (8, (.ifCond .ne 9, 3)), (11, (.aload_n 0, 1)), (12, (.iconst 1, 1)), (13, (.invokevirtual 87, 3)), (16, (.ireturn, 1)), (17, (.iload_n 2, 1)), (18, (.iconst (-1), 1)), (19, (.if_icmp .lt 10, 3)), (22, (.iload_n 2, 1)), (23, (.sipush 999, 3)), (26, (.if_icmp .le 9, 3)), (29, (.aload_n 0, 1)), (30, (.iconst 2, 1)), (31, (.invokevirtual 87, 3)), (34, (.ireturn, 1)), (35, (.aload_n 0, 1)), (36, (.getfield 16, 3)), (39, (.getfield 147, 3)), (42, (.iload_n 1, 1)), (43, (.iaload, 1)), (44, (.istore_n 3, 1)), (45, (.aload_n 0, 1)), (46, (.getfield 35, 3)), (49, (.iconst 3, 1)), (50, (.iload_n 1, 1)), (51, (.iload_n 3, 1)), (52, (.invokevirtual 325, 3)), (55, (.aload_n 0, 1)), (56, (.getfield 16, 3)), (59, (.getfield 147, 3)), (62, (.iload_n 1, 1)), (63, (.iload_n 2, 1)), (64, (.iconst (-1), 1)), (65, (.if_icmp .ne 8, 3)), (68, (.bipush (-2), 2)), (70, (.goto 4, 3)), (73, (.iload_n 2, 1)), (74, (.iastore, 1)), (75, (.aload_n 0, 1)), (76, (.iload_n 3, 1)), (77, (.invokevirtual 113, 3)), (80, (.ireturn, 1))]
theorem t_Lt_hold_0_ok : ∀ q ∈ t_Lt_hold_0, decode prog_1_method_44_code q.1 = .ok q.2 := by decide +kernel
def m_Lt_hold : mM := (⟨"LinkTimes", "hold", "(II)I"⟩, prog_1_method_44_code, 4, (some .int), t_Lt_hold_0)
theorem ok_Lt_hold : mOK m_Lt_hold := ⟨by decide, tm 1139 (by decide +kernel) rfl, t_Lt_hold_0_ok, tm 113 (by decide +kernel) rfl, by decide, by decide⟩
theorem vm_Lt_hold : mVt m_Lt_hold := ⟨tm 1137 (by decide +kernel) rfl, tm 1138 (by decide +kernel) rfl⟩
def t_Lt_extra_0 : List (Nat × Instr × Nat) := [(0, (.aload_n 0, 1)), (1, (.getfield 16, 3)), (4, (.iload_n 1, 1)), (5, (.invokevirtual 329, 3)), (8, (.ifCond .eq 12, 3)), (11, (.aload_n 0, 1)), (12, (.iload_n 2, 1)), (13, (.iload_n 3, 1)), (14, (.invokevirtual 267, 3)), (17, (.ifCond .ne 9, 3)), (20, (.aload_n 0, 1)), (21, (.iconst 1, 1)), (22, (.invokevirtual 87, 3)), (25, (.ireturn, 1)), (26, (.iload 4, 2)), (28, (.ifCond .lt 28, 3)), (31, (.iload 4, 2)), (33, (.aload_n 0, 1)), (34, (.getfield 16, 3)), (37, (.getfield 123, 3)), (40, (.if_icmp .gt 16, 3)), (43, (.iload 5, 2)), (45, (.iconst 1, 1)), (46, (.if_icmp .lt 10, 3)), (49, (.iload 5, 2)), (51, (.bipush 99, 2)), (53, (.if_icmp .le 9, 3)), (56, (.aload_n 0, 1)), (57, (.iconst 2, 1)), (58, (.invokevirtual 87, 3)), (61, (.ireturn, 1)), (62, (.aload_n 0, 1)), (63, (.getfield 16, 3)), (66, (.getfield 110, 3)), (69, (.bipush 120, 2)), (71, (.if_icmp .lt 9, 3)), (74, (.aload_n 0, 1)), (75, (.iconst 3, 1)), (76, (.invokevirtual 87, 3)), (79, (.ireturn, 1)), (80, (.aload_n 0, 1)), (81, (.getfield 16, 3)), (84, (.iload_n 1, 1)), (85, (.iload_n 2, 1)), (86, (.iload_n 3, 1)), (87, (.iload 4, 2)), (89, (.iload 5, 2)), (91, (.bipush (-2), 2)), (93, (.invokevirtual 332, 3)), (96, (.aload_n 0, 1))]
theorem t_Lt_extra_0_ok : ∀ q ∈ t_Lt_extra_0, decode prog_1_method_45_code q.1 = .ok q.2 := by decide +kernel
def t_Lt_extra_1 : List (Nat × Instr × Nat) := [(97, (.getfield 35, 3)), (100, (.iconst 4, 1)), (101, (.aload_n 0, 1)), (102, (.getfield 16, 3)), (105, (.getfield 110, 3)), (108, (.iconst 1, 1)), (109, (.isub, 1)), (110, (.iconst 0, 1)), (111, (.invokevirtual 325, 3)), (114, (.aload_n 0, 1)), (115, (.aload_n 0, 1)), (116, (.getfield 16, 3)), (119, (.getfield 110, 3)), (122, (.iconst 1, 1)), (123, (.isub, 1)), (124, (.invokevirtual 113, 3)), (127, (.ireturn, 1))]
theorem t_Lt_extra_1_ok : ∀ q ∈ t_Lt_extra_1, decode prog_1_method_45_code q.1 = .ok q.2 := by decide +kernel
def m_Lt_extra : mM := (⟨"LinkTimes", "extra", "(IIIII)I"⟩, prog_1_method_45_code, 6, (some .int), t_Lt_extra_0 ++ t_Lt_extra_1)
theorem ok_Lt_extra : mOK m_Lt_extra := ⟨by decide, tm 1143 (by decide +kernel) rfl, all_app (t_Lt_extra_0_ok) t_Lt_extra_1_ok, tm 113 (by decide +kernel) rfl, by decide, by decide⟩
theorem vm_Lt_extra : mVt m_Lt_extra := ⟨tm 1141 (by decide +kernel) rfl, tm 1142 (by decide +kernel) rfl⟩
def t_Lt_undo_0 : List (Nat × Instr × Nat) := [(0, (.aload_n 0, 1)), (1, (.getfield 35, 3)), (4, (.getfield 336, 3)), (7, (.ifCond .ne 10, 3)), (10, (.aload_n 0, 1)), (11, (.iconst 1, 1)), (12, (.putfield 116, 3)), (15, (.iconst 0, 1)), (16, (.ireturn, 1)), (17, (.aload_n 0, 1)), (18, (.getfield 35, 3)), (21, (.aload_n 0, 1)), (22, (.getfield 16, 3)), (25, (.invokevirtual 339, 3)), (28, (.aload_n 0, 1)), (29, (.iconst 0, 1)), (30, (.putfield 116, 3)), (33, (.iconst 1, 1)), (34, (.ireturn, 1))]
theorem t_Lt_undo_0_ok : ∀ q ∈ t_Lt_undo_0, decode prog_1_method_46_code q.1 = .ok q.2 := by decide +kernel
def m_Lt_undo : mM := (⟨"LinkTimes", "undo", "()Z"⟩, prog_1_method_46_code, 1, (some .boolean), t_Lt_undo_0)
theorem ok_Lt_undo : mOK m_Lt_undo := ⟨by decide, tm 1152 (by decide +kernel) rfl, t_Lt_undo_0_ok, tm 113 (by decide +kernel) rfl, by decide, by decide⟩
theorem vm_Lt_undo : mVt m_Lt_undo := ⟨tm 1150 (by decide +kernel) rfl, tm 1151 (by decide +kernel) rfl⟩
def t_Lt_still_0 : List (Nat × Instr × Nat) := [(0, (.iconst 0, 1)), (1, (.istore_n 2, 1)), (2, (.iconst 0, 1)), (3, (.istore_n 3, 1)), (4, (.iload_n 3, 1)), (5, (.aload_n 0, 1)), (6, (.getfield 16, 3)), (9, (.getfield 126, 3)), (12, (.if_icmp .ge 45, 3)), (15, (.iload_n 1, 1)), (16, (.ifCond .lt 41, 3)), (19, (.aload_n 0, 1)), (20, (.getfield 16, 3)), (23, (.iload_n 3, 1)), (24, (.invokevirtual 150, 3)), (27, (.ifCond .ne 24, 3)), (30, (.aload_n 0, 1)), (31, (.getfield 16, 3)), (34, (.iload_n 3, 1)), (35, (.invokevirtual 153, 3)), (38, (.ifCond .ne 13, 3)), (41, (.iload_n 2, 1)), (42, (.iload_n 1, 1)), (43, (.if_icmp .ne 5, 3)), (46, (.iload_n 3, 1)), (47, (.ireturn, 1)), (48, (.iinc 2 1, 3)), (51, (.iinc 3 1, 3)), (54, (.goto (-50), 3)), (57, (.new 342, 3)), (60, (.dup, 1)), (61, (.invokespecial 344, 3)), (64, (.athrow, 1))]
theorem t_Lt_still_0_ok : ∀ q ∈ t_Lt_still_0, decode prog_1_method_47_code q.1 = .ok q.2 := by decide +kernel
def m_Lt_still : mM := (⟨"LinkTimes", "still", "(I)I"⟩, prog_1_method_47_code, 4, (some .int), t_Lt_still_0)
theorem ok_Lt_still : mOK m_Lt_still := ⟨by decide, tm 1176 (by decide +kernel) rfl, t_Lt_still_0_ok, tm 113 (by decide +kernel) rfl, by decide, by decide⟩
theorem vm_Lt_still : mVt m_Lt_still := ⟨tm 1174 (by decide +kernel) rfl, tm 1175 (by decide +kernel) rfl⟩
def t_Lt_size_0 : List (Nat × Instr × Nat) := [(0, (.iload_n 1, 1)), (1, (.tableswitch 48 0 2 #[27, 32, 40], 27)), (28, (.aload_n 0, 1)), (29, (.getfield 79, 3)), (32, (.ireturn, 1)), (33, (.aload_n 0, 1)), (34, (.getfield 35, 3)), (37, (.getfield 336, 3)), (40, (.ireturn, 1)), (41, (.aload_n 0, 1)), (42, (.getfield 16, 3)), (45, (.invokevirtual 345, 3)), (48, (.ireturn, 1)), (49, (.iconst (-1), 1)), (50, (.ireturn, 1))]
theorem t_Lt_size_0_ok : ∀ q ∈ t_Lt_size_0, decode prog_1_method_48_code q.1 = .ok q.2 := by decide +kernel
def m_Lt_size : mM := (⟨"LinkTimes", "size", "(I)I"⟩, prog_1_method_48_code, 2, (some .int), t_Lt_size_0)
theorem ok_Lt_size : mOK m_Lt_size := ⟨by decide, tm 1160 (by decide +kernel) rfl, t_Lt_size_0_ok, tm 113 (by decide +kernel) rfl, by decide, by decide⟩
theorem vm_Lt_size : mVt m_Lt_size := ⟨tm 1158 (by decide +kernel) rfl, tm 1159 (by decide +kernel) rfl⟩
def t_Lt_trouble_0 : List (Nat × Instr × Nat) := [(0, (.aload_n 0, 1)), (1, (.getfield 116, 3)), (4, (.ireturn, 1))]
theorem t_Lt_trouble_0_ok : ∀ q ∈ t_Lt_trouble_0, decode prog_1_method_49_code q.1 = .ok q.2 := by decide +kernel
def m_Lt_trouble : mM := (⟨"LinkTimes", "trouble", "()I"⟩, prog_1_method_49_code, 1, (some .int), t_Lt_trouble_0)
theorem ok_Lt_trouble : mOK m_Lt_trouble := ⟨by decide, tm 1168 (by decide +kernel) rfl, t_Lt_trouble_0_ok, tm 113 (by decide +kernel) rfl, by decide, by decide⟩
theorem vm_Lt_trouble : mVt m_Lt_trouble := ⟨tm 1166 (by decide +kernel) rfl, tm 1167 (by decide +kernel) rfl⟩
def t_Lt_refuse_0 : List (Nat × Instr × Nat) := [(0, (.aload_n 0, 1)), (1, (.iload_n 1, 1)), (2, (.putfield 116, 3)), (5, (.iconst (-1), 1)), (6, (.ireturn, 1))]
theorem t_Lt_refuse_0_ok : ∀ q ∈ t_Lt_refuse_0, decode prog_1_method_50_code q.1 = .ok q.2 := by decide +kernel
def m_Lt_refuse : mM := (⟨"LinkTimes", "refuse", "(I)I"⟩, prog_1_method_50_code, 2, (some .int), t_Lt_refuse_0)
theorem ok_Lt_refuse : mOK m_Lt_refuse := ⟨by decide, tm 569 (by decide +kernel) rfl, t_Lt_refuse_0_ok, tm 113 (by decide +kernel) rfl, by decide, by decide⟩
theorem vm_Lt_refuse : mVt m_Lt_refuse := ⟨tm 568 (by decide +kernel) rfl, tm 1 (by decide +kernel) rfl⟩
def t_Lt_isRefused_0 : List (Nat × Instr × Nat) := [(0, (.aload_n 0, 1)), (1, (.iload_n 1, 1)), (2, (.putfield 116, 3)), (5, (.iload_n 1, 1)), (6, (.ifCond .eq 7, 3)), (9, (.iconst 1, 1)), (10, (.goto 4, 3)), (13, (.iconst 0, 1)), (14, (.ireturn, 1))]
theorem t_Lt_isRefused_0_ok : ∀ q ∈ t_Lt_isRefused_0, decode prog_1_method_51_code q.1 = .ok q.2 := by decide +kernel
def m_Lt_isRefused : mM := (⟨"LinkTimes", "isRefused", "(I)Z"⟩, prog_1_method_51_code, 2, (some .boolean), t_Lt_isRefused_0)
theorem ok_Lt_isRefused : mOK m_Lt_isRefused := ⟨by decide, tm 828 (by decide +kernel) rfl, t_Lt_isRefused_0_ok, tm 113 (by decide +kernel) rfl, by decide, by decide⟩
theorem vm_Lt_isRefused : mVt m_Lt_isRefused := ⟨tm 827 (by decide +kernel) rfl, tm 28 (by decide +kernel) rfl⟩
def t_Lt_answer_0 : List (Nat × Instr × Nat) := [(0, (.aload_n 0, 1)), (1, (.iconst 0, 1)), (2, (.putfield 116, 3)), (5, (.iload_n 1, 1)), (6, (.ireturn, 1))]
theorem t_Lt_answer_0_ok : ∀ q ∈ t_Lt_answer_0, decode prog_1_method_52_code q.1 = .ok q.2 := by decide +kernel
def m_Lt_answer : mM := (⟨"LinkTimes", "answer", "(I)I"⟩, prog_1_method_52_code, 2, (some .int), t_Lt_answer_0)
theorem ok_Lt_answer : mOK m_Lt_answer := ⟨by decide, tm 740 (by decide +kernel) rfl, t_Lt_answer_0_ok, tm 113 (by decide +kernel) rfl, by decide, by decide⟩
theorem vm_Lt_answer : mVt m_Lt_answer := ⟨tm 739 (by decide +kernel) rfl, tm 20 (by decide +kernel) rfl⟩
def t_Lt_isTime_0 : List (Nat × Instr × Nat) := [(0, (.iload_n 0, 1)), (1, (.ifCond .lt 14, 3)), (4, (.iload_n 0, 1)), (5, (.sipush 1999, 3)), (8, (.if_icmp .gt 7, 3)), (11, (.iconst 1, 1)), (12, (.goto 4, 3)), (15, (.iconst 0, 1)), (16, (.ireturn, 1))]
theorem t_Lt_isTime_0_ok : ∀ q ∈ t_Lt_isTime_0, decode prog_1_method_53_code q.1 = .ok q.2 := by decide +kernel
def m_Lt_isTime : mM := (⟨"LinkTimes", "isTime", "(I)Z"⟩, prog_1_method_53_code, 1, (some .boolean), t_Lt_isTime_0)
theorem ok_Lt_isTime : mOK m_Lt_isTime := ⟨by decide, tm 820 (by decide +kernel) rfl, t_Lt_isTime_0_ok, tm 113 (by decide +kernel) rfl, by decide, by decide⟩
theorem sm_Lt_isTime : Cond.static m_Lt_isTime.1 ∈ t0_ws := tm 819 (by decide +kernel) rfl
def t_Lt_hasUnlikeSpots_0 : List (Nat × Instr × Nat) := [(0, (.iload_n 1, 1)), (1, (.iload_n 2, 1)), (2, (.if_icmp .eq 29, 3)), (5, (.aload_n 0, 1)), (6, (.getfield 16, 3)), (9, (.iload_n 1, 1)), (10, (.invokevirtual 139, 3)), (13, (.ifCond .eq 18, 3)), (16, (.aload_n 0, 1)), (17, (.getfield 16, 3)), (20, (.iload_n 2, 1)), (21, (.invokevirtual 139, 3)), (24, (.ifCond .eq 7, 3)), (27, (.iconst 1, 1)), (28, (.goto 4, 3)), (31, (.iconst 0, 1)), (32, (.ireturn, 1))]
theorem t_Lt_hasUnlikeSpots_0_ok : ∀ q ∈ t_Lt_hasUnlikeSpots_0, decode prog_1_method_54_code q.1 = .ok q.2 := by decide +kernel
def m_Lt_hasUnlikeSpots : mM := (⟨"LinkTimes", "hasUnlikeSpots", "(II)Z"⟩, prog_1_method_54_code, 3, (some .boolean), t_Lt_hasUnlikeSpots_0)
theorem ok_Lt_hasUnlikeSpots : mOK m_Lt_hasUnlikeSpots := ⟨by decide, tm 1007 (by decide +kernel) rfl, t_Lt_hasUnlikeSpots_0_ok, tm 113 (by decide +kernel) rfl, by decide, by decide⟩
theorem vm_Lt_hasUnlikeSpots : mVt m_Lt_hasUnlikeSpots := ⟨tm 1006 (by decide +kernel) rfl, tm 45 (by decide +kernel) rfl⟩
def t_Lt_lookAtPair_0 : List (Nat × Instr × Nat) := [(0, (.aload_n 0, 1)), (1, (.getfield 16, 3)), (4, (.iload_n 1, 1)), (5, (.invokevirtual 139, 3)), (8, (.ifCond .eq 14, 3)), (11, (.aload_n 0, 1)), (12, (.getfield 16, 3)), (15, (.iload_n 2, 1)), (16, (.invokevirtual 139, 3)), (19, (.ifCond .ne 5, 3)), (22, (.iconst 1, 1)), (23, (.ireturn, 1)), (24, (.iload_n 3, 1)), (25, (.ifCond .eq 7, 3)), (28, (.iconst 0, 1)), (29, (.goto 4, 3)), (32, (.iconst 2, 1)), (33, (.ireturn, 1))]
theorem t_Lt_lookAtPair_0_ok : ∀ q ∈ t_Lt_lookAtPair_0, decode prog_1_method_55_code q.1 = .ok q.2 := by decide +kernel
def m_Lt_lookAtPair : mM := (⟨"LinkTimes", "lookAtPair", "(IIZ)I"⟩, prog_1_method_55_code, 4, (some .int), t_Lt_lookAtPair_0)
theorem ok_Lt_lookAtPair : mOK m_Lt_lookAtPair := ⟨by decide, tm 824 (by decide +kernel) rfl, t_Lt_lookAtPair_0_ok, tm 113 (by decide +kernel) rfl, by decide, by decide⟩
theorem vm_Lt_lookAtPair : mVt m_Lt_lookAtPair := ⟨tm 823 (by decide +kernel) rfl, tm 27 (by decide +kernel) rfl⟩
def t_Lt_lookAtUnlike_0 : List (Nat × Instr × Nat) := [(0, (.aload_n 0, 1)), (1, (.iload_n 1, 1)), (2, (.iload_n 2, 1)), (3, (.invokevirtual 267, 3)), (6, (.ifCond .ne 5, 3)), (9, (.iconst 1, 1)), (10, (.ireturn, 1)), (11, (.iload_n 3, 1)), (12, (.invokestatic 233, 3)), (15, (.ifCond .eq 7, 3)), (18, (.iconst 0, 1)), (19, (.goto 4, 3)), (22, (.iconst 2, 1)), (23, (.ireturn, 1))]
theorem t_Lt_lookAtUnlike_0_ok : ∀ q ∈ t_Lt_lookAtUnlike_0, decode prog_1_method_56_code q.1 = .ok q.2 := by decide +kernel
def m_Lt_lookAtUnlike : mM := (⟨"LinkTimes", "lookAtUnlike", "(III)I"⟩, prog_1_method_56_code, 4, (some .int), t_Lt_lookAtUnlike_0)
theorem ok_Lt_lookAtUnlike : mOK m_Lt_lookAtUnlike := ⟨by decide, tm 1035 (by decide +kernel) rfl, t_Lt_lookAtUnlike_0_ok, tm 113 (by decide +kernel) rfl, by decide, by decide⟩
theorem vm_Lt_lookAtUnlike : mVt m_Lt_lookAtUnlike := ⟨tm 1034 (by decide +kernel) rfl, tm 46 (by decide +kernel) rfl⟩
def t_Lt_lookAtHanging_0 : List (Nat × Instr × Nat) := [(0, (.aload_n 0, 1)), (1, (.getfield 16, 3)), (4, (.iload 4, 2)), (6, (.invokevirtual 156, 3)), (9, (.ifCond .ne 5, 3)), (12, (.iconst 1, 1)), (13, (.ireturn, 1)), (14, (.aload_n 0, 1)), (15, (.iload_n 1, 1)), (16, (.iload_n 2, 1)), (17, (.iload_n 3, 1)), (18, (.invokestatic 233, 3)), (21, (.invokevirtual 236, 3)), (24, (.ireturn, 1))]
theorem t_Lt_lookAtHanging_0_ok : ∀ q ∈ t_Lt_lookAtHanging_0, decode prog_1_method_57_code q.1 = .ok q.2 := by decide +kernel
def m_Lt_lookAtHanging : mM := (⟨"LinkTimes", "lookAtHanging", "(IIII)I"⟩, prog_1_method_57_code, 5, (some .int), t_Lt_lookAtHanging_0)
theorem ok_Lt_lookAtHanging : mOK m_Lt_lookAtHanging := ⟨by decide, tm 1075 (by decide +kernel) rfl, t_Lt_lookAtHanging_0_ok, tm 113 (by decide +kernel) rfl, by decide, by decide⟩
theorem vm_Lt_lookAtHanging : mVt m_Lt_lookAtHanging := ⟨tm 1074 (by decide +kernel) rfl, tm 49 (by decide +kernel) rfl⟩
def t_Lt_lookAtDesk_0 : List (Nat × Instr × Nat) := [(0, (.aload_n 0, 1)), (1, (.getfield 16, 3)), (4, (.invokevirtual 119, 3)), (7, (.ifCond .ne 5, 3)), (10, (.iconst 1, 1)), (11, (.ireturn, 1)), (12, (.iload_n 1, 1)), (13, (.invokestatic 233, 3)), (16, (.ifCond .eq 7, 3)), (19, (.iconst 0, 1)), (20, (.goto 4, 3)), (23, (.iconst 2, 1)), (24, (.ireturn, 1))]
theorem t_Lt_lookAtDesk_0_ok : ∀ q ∈ t_Lt_lookAtDesk_0, decode prog_1_method_58_code q.1 = .ok q.2 := by decide +kernel
def m_Lt_lookAtDesk : mM := (⟨"LinkTimes", "lookAtDesk", "(I)I"⟩, prog_1_method_58_code, 2, (some .int), t_Lt_lookAtDesk_0)
theorem ok_Lt_lookAtDesk : mOK m_Lt_lookAtDesk := ⟨by decide, tm 1051 (by decide +kernel) rfl, t_Lt_lookAtDesk_0_ok, tm 113 (by decide +kernel) rfl, by decide, by decide⟩
theorem vm_Lt_lookAtDesk : mVt m_Lt_lookAtDesk := ⟨tm 1050 (by decide +kernel) rfl, tm 47 (by decide +kernel) rfl⟩
def t_Lt_seekBest_0 : List (Nat × Instr × Nat) := [(0, (.aload_n 0, 1)), (1, (.aload_n 0, 1)), (2, (.iload_n 1, 1)), (3, (.iload_n 2, 1)), (4, (.iload_n 3, 1)), (5, (.invokestatic 233, 3)), (8, (.invokevirtual 236, 3)), (11, (.invokevirtual 240, 3)), (14, (.ifCond .eq 5, 3)), (17, (.iconst (-1), 1)), (18, (.ireturn, 1)), (19, (.aload_n 0, 1)), (20, (.getfield 44, 3)), (23, (.aload_n 0, 1)), (24, (.getfield 16, 3)), (27, (.invokevirtual 184, 3)), (30, (.aload_n 0, 1)), (31, (.aload_n 0, 1)), (32, (.getfield 51, 3)), (35, (.aload_n 0, 1)), (36, (.getfield 44, 3)), (39, (.iload_n 1, 1)), (40, (.iload_n 2, 1)), (41, (.iload_n 3, 1)), (42, (.invokevirtual 284, 3)), (45, (.ifCond .eq 7, 3)), (48, (.iconst 0, 1)), (49, (.goto 5, 3)), (52, (.bipush (-2), 2)), (54, (.invokevirtual 113, 3)), (57, (.ireturn, 1))]
theorem t_Lt_seekBest_0_ok : ∀ q ∈ t_Lt_seekBest_0, decode prog_1_method_59_code q.1 = .ok q.2 := by decide +kernel
def m_Lt_seekBest : mM := (⟨"LinkTimes", "seekBest", "(III)I"⟩, prog_1_method_59_code, 4, (some .int), t_Lt_seekBest_0)
theorem ok_Lt_seekBest : mOK m_Lt_seekBest := ⟨by decide, tm 817 (by decide +kernel) rfl, t_Lt_seekBest_0_ok, tm 113 (by decide +kernel) rfl, by decide, by decide⟩
theorem vm_Lt_seekBest : mVt m_Lt_seekBest := ⟨tm 816 (by decide +kernel) rfl, tm 26 (by decide +kernel) rfl⟩
def t_Lt_seekTrades_0 : List (Nat × Instr × Nat) := [(0, (.aload_n 0, 1)), (1, (.aload_n 0, 1)), (2, (.iload_n 1, 1)), (3, (.iload_n 2, 1)), (4, (.iload_n 3, 1)), (5, (.invokestatic 233, 3)), (8, (.invokevirtual 236, 3)), (11, (.invokevirtual 240, 3)), (14, (.ifCond .eq 5, 3)), (17, (.iconst (-1), 1)), (18, (.ireturn, 1)), (19, (.aload_n 0, 1)), (20, (.getfield 44, 3)), (23, (.aload_n 0, 1)), (24, (.getfield 16, 3)), (27, (.invokevirtual 184, 3)), (30, (.aload_n 0, 1)), (31, (.getfield 75, 3)), (34, (.aload_n 0, 1)), (35, (.getfield 44, 3)), (38, (.iload_n 1, 1)), (39, (.iload_n 2, 1)), (40, (.iload_n 3, 1)), (41, (.iload 4, 2)), (43, (.invokevirtual 348, 3)), (46, (.aload_n 0, 1)), (47, (.aload_n 0, 1)), (48, (.getfield 75, 3)), (51, (.getfield 224, 3)), (54, (.ifCond .le 7, 3)), (57, (.iconst 0, 1)), (58, (.goto 5, 3)), (61, (.bipush (-2), 2)), (63, (.invokevirtual 113, 3)), (66, (.ireturn, 1))]
theorem t_Lt_seekTrades_0_ok : ∀ q ∈ t_Lt_seekTrades_0, decode prog_1_method_60_code q.1 = .ok q.2 := by decide +kernel
def m_Lt_seekTrades : mM := (⟨"LinkTimes", "seekTrades", "(IIII)I"⟩, prog_1_method_60_code, 5, (some .int), t_Lt_seekTrades_0)
theorem ok_Lt_seekTrades : mOK m_Lt_seekTrades := ⟨by decide, tm 906 (by decide +kernel) rfl, t_Lt_seekTrades_0_ok, tm 113 (by decide +kernel) rfl, by decide, by decide⟩
theorem vm_Lt_seekTrades : mVt m_Lt_seekTrades := ⟨tm 905 (by decide +kernel) rfl, tm 35 (by decide +kernel) rfl⟩
def t_Lt_collectSteps_0 : List (Nat × Instr × Nat) := [(0, (.aload_n 0, 1)), (1, (.getfield 44, 3)), (4, (.aload_n 0, 1)), (5, (.getfield 16, 3)), (8, (.invokevirtual 184, 3)), (11, (.aload_n 0, 1)), (12, (.getfield 51, 3)), (15, (.aload_n 0, 1)), (16, (.getfield 44, 3)), (19, (.iload_n 2, 1)), (20, (.invokevirtual 352, 3)), (23, (.aload_n 0, 1)), (24, (.getfield 68, 3)), (27, (.aload_n 0, 1)), (28, (.getfield 44, 3)), (31, (.aload_n 0, 1)), (32, (.getfield 51, 3)), (35, (.iload_n 1, 1)), (36, (.invokevirtual 355, 3)), (39, (.return_, 1))]
theorem t_Lt_collectSteps_0_ok : ∀ q ∈ t_Lt_collectSteps_0, decode prog_1_method_61_code q.1 = .ok q.2 := by decide +kernel
def m_Lt_collectSteps : mM := (⟨"LinkTimes", "collectSteps", "(II)V"⟩, prog_1_method_61_code, 3, none, t_Lt_collectSteps_0)
theorem ok_Lt_collectSteps : mOK m_Lt_collectSteps := ⟨by decide, tm 951 (by decide +kernel) rfl, t_Lt_collectSteps_0_ok, tm 113 (by decide +kernel) rfl, by decide, by decide⟩
theorem vm_Lt_collectSteps : mVt m_Lt_collectSteps := ⟨tm 950 (by decide +kernel) rfl, tm 41 (by decide +kernel) rfl⟩
def t_Lt_soonestAt_0 : List (Nat × Instr × Nat) := [(0, (.aload_n 0, 1)), (1, (.getfield 58, 3)), (4, (.aload_n 0, 1)), (5, (.getfield 44, 3)), (8, (.iload_n 1, 1)), (9, (.iload_n 3, 1)), (10, (.invokevirtual 250, 3)), (13, (.aload_n 0, 1)), (14, (.getfield 58, 3)), (17, (.getfield 254, 3)), (20, (.iload_n 2, 1)), (21, (.iaload, 1)), (22, (.ireturn, 1))]
theorem t_Lt_soonestAt_0_ok : ∀ q ∈ t_Lt_soonestAt_0, decode prog_1_method_62_code q.1 = .ok q.2 := by decide +kernel
def m_Lt_soonestAt : mM := (⟨"LinkTimes", "soonestAt", "(III)I"⟩, prog_1_method_62_code, 4, (some .int), t_Lt_soonestAt_0)
theorem ok_Lt_soonestAt : mOK m_Lt_soonestAt := ⟨by decide, tm 999 (by decide +kernel) rfl, t_Lt_soonestAt_0_ok, tm 113 (by decide +kernel) rfl, by decide, by decide⟩
theorem vm_Lt_soonestAt : mVt m_Lt_soonestAt := ⟨tm 998 (by decide +kernel) rfl, tm 44 (by decide +kernel) rfl⟩
end
section
def t_Mo_init_0 : List (Nat × Instr × Nat) := [(0, (.aload_n 0, 1)), (1, (.invokespecial 3, 3)), (4, (.aload_n 0, 1)), (5, (.iconst (-1), 1)), (6, (.putfield 9, 3)), (9, (.aload_n 0, 1)), (10, (.sipush 900, 3)), (13, (.newarray .int, 2)), (15, (.putfield 13, 3)), (18, (.aload_n 0, 1)), (19, (.sipush 985, 3)), (22, (.newarray .int, 2)), (24, (.putfield 17, 3)), (27, (.aload_n 0, 1)), (28, (.sipush 985, 3)), (31, (.newarray .int, 2)), (33, (.putfield 20, 3)), (36, (.aload_n 0, 1)), (37, (.sipush 985, 3)), (40, (.newarray .int, 2)), (42, (.putfield 23, 3)), (45, (.aload_n 0, 1)), (46, (.sipush 9850, 3)), (49, (.newarray .int, 2)), (51, (.putfield 26, 3)), (54, (.aload_n 0, 1)), (55, (.bipush 10, 2)), (57, (.newarray .long, 2)), (59, (.putfield 29, 3)), (62, (.aload_n 0, 1)), (63, (.bipush 8, 2)), (65, (.newarray .long, 2)), (67, (.putfield 33, 3)), (70, (.aload_n 0, 1)), (71, (.bipush 7, 2)), (73, (.newarray .int, 2)), (75, (.putfield 36, 3)), (78, (.aload_n 0, 1)), (79, (.bipush 120, 2)), (81, (.newarray .int, 2)), (83, (.putfield 39, 3)), (86, (.aload_n 0, 1)), (87, (.bipush 120, 2)), (89, (.newarray .int, 2)), (91, (.putfield 42, 3)), (94, (.aload_n 0, 1)), (95, (.bipush 120, 2)), (97, (.newarray .int, 2)), (99, (.putfield 45, 3)), (102, (.aload_n 0, 1))]
theorem t_Mo_init_0_ok : ∀ q ∈ t_Mo_init_0, decode prog_12_method_1_code q.1 = .ok q.2 := by decide +kernel
def t_Mo_init_1 : List (Nat × Instr × Nat) := [(103, (.bipush 120, 2)), (105, (.newarray .int, 2)), (107, (.putfield 48, 3)), (110, (.aload_n 0, 1)), (111, (.bipush 120, 2)), (113, (.newarray .int, 2)), (115, (.putfield 51, 3)), (118, (.aload_n 0, 1)), (119, (.sipush 14400, 3)), (122, (.newarray .int, 2)), (124, (.putfield 54, 3)), (127, (.aload_n 0, 1)), (128, (.bipush 120, 2)), (130, (.newarray .int, 2)), (132, (.putfield 57, 3)), (135, (.aload_n 0, 1)), (136, (.bipush 120, 2)), (138, (.newarray .int, 2)), (140, (.putfield 60, 3)), (143, (.aload_n 0, 1)), (144, (.bipush 120, 2)), (146, (.newarray .int, 2)), (148, (.putfield 63, 3)), (151, (.aload_n 0, 1)), (152, (.bipush 120, 2)), (154, (.newarray .int, 2)), (156, (.putfield 66, 3)), (159, (.aload_n 0, 1)), (160, (.bipush 120, 2)), (162, (.newarray .int, 2)), (164, (.putfield 69, 3)), (167, (.aload_n 0, 1)), (168, (.bipush 120, 2)), (170, (.newarray .int, 2)), (172, (.putfield 72, 3)), (175, (.aload_n 0, 1)), (176, (.bipush 10, 2)), (178, (.newarray .int, 2)), (180, (.putfield 75, 3)), (183, (.return_, 1))]
theorem t_Mo_init_1_ok : ∀ q ∈ t_Mo_init_1, decode prog_12_method_1_code q.1 = .ok q.2 := by decide +kernel
def m_Mo_init : mM := (⟨"LinkTimesModel", "<init>", "()V"⟩, prog_12_method_1_code, 1, none, t_Mo_init_0 ++ t_Mo_init_1)
theorem ok_Mo_init : mOK m_Mo_init := ⟨by decide, tm 1242 (by decide +kernel) rfl, all_app (t_Mo_init_0_ok) t_Mo_init_1_ok, tm 123 (by decide +kernel) rfl, by decide, by decide⟩
theorem in_Mo_init : Cond.instanceMethod m_Mo_init.1 ∈ t0_ws := tm 1241 (by decide +kernel) rfl
def t_Mo_thrown_0 : List (Nat × Instr × Nat) := [(0, (.aload_n 0, 1)), (1, (.getfield 78, 3)), (4, (.ireturn, 1))]
theorem t_Mo_thrown_0_ok : ∀ q ∈ t_Mo_thrown_0, decode prog_12_method_2_code q.1 = .ok q.2 := by decide +kernel
def m_Mo_thrown : mM := (⟨"LinkTimesModel", "thrown", "()I"⟩, prog_12_method_2_code, 1, (some .int), t_Mo_thrown_0)
theorem ok_Mo_thrown : mOK m_Mo_thrown := ⟨by decide, tm 1375 (by decide +kernel) rfl, t_Mo_thrown_0_ok, tm 123 (by decide +kernel) rfl, by decide, by decide⟩
theorem vm_Mo_thrown : mVt m_Mo_thrown := ⟨tm 1373 (by decide +kernel) rfl, tm 1374 (by decide +kernel) rfl⟩
def t_Mo_in_0 : List (Nat × Instr × Nat) := [(0, (.iload_n 0, 1)), (1, (.iload_n 1, 1)), (2, (.if_icmp .lt 12, 3)), (5, (.iload_n 0, 1)), (6, (.iload_n 2, 1)), (7, (.if_icmp .gt 7, 3)), (10, (.iconst 1, 1)), (11, (.goto 4, 3)), (14, (.iconst 0, 1)), (15, (.ireturn, 1))]
theorem t_Mo_in_0_ok : ∀ q ∈ t_Mo_in_0, decode prog_12_method_3_code q.1 = .ok q.2 := by decide +kernel
def m_Mo_in : mM := (⟨"LinkTimesModel", "in", "(III)Z"⟩, prog_12_method_3_code, 3, (some .boolean), t_Mo_in_0)
theorem ok_Mo_in : mOK m_Mo_in := ⟨by decide, tm 1390 (by decide +kernel) rfl, t_Mo_in_0_ok, tm 123 (by decide +kernel) rfl, by decide, by decide⟩
theorem sm_Mo_in : Cond.static m_Mo_in.1 ∈ t0_ws := tm 1389 (by decide +kernel) rfl
def t_Mo_no_0 : List (Nat × Instr × Nat) := [(0, (.aload_n 0, 1)), (1, (.iload_n 1, 1)), (2, (.putfield 81, 3)), (5, (.iconst (-1), 1)), (6, (.ireturn, 1))]
theorem t_Mo_no_0_ok : ∀ q ∈ t_Mo_no_0, decode prog_12_method_4_code q.1 = .ok q.2 := by decide +kernel
def m_Mo_no : mM := (⟨"LinkTimesModel", "no", "(I)I"⟩, prog_12_method_4_code, 2, (some .int), t_Mo_no_0)
theorem ok_Mo_no : mOK m_Mo_no := ⟨by decide, tm 1498 (by decide +kernel) rfl, t_Mo_no_0_ok, tm 123 (by decide +kernel) rfl, by decide, by decide⟩
theorem vm_Mo_no : mVt m_Mo_no := ⟨tm 1497 (by decide +kernel) rfl, tm 75 (by decide +kernel) rfl⟩
def t_Mo_isRefused_0 : List (Nat × Instr × Nat) := [(0, (.aload_n 0, 1)), (1, (.iconst 0, 1)), (2, (.putfield 78, 3)), (5, (.aload_n 0, 1)), (6, (.iconst (-1), 1)), (7, (.putfield 9, 3)), (10, (.aload_n 0, 1)), (11, (.iload_n 1, 1)), (12, (.putfield 81, 3)), (15, (.iload_n 1, 1)), (16, (.ifCond .eq 7, 3)), (19, (.iconst 1, 1)), (20, (.goto 4, 3)), (23, (.iconst 0, 1)), (24, (.ireturn, 1))]
theorem t_Mo_isRefused_0_ok : ∀ q ∈ t_Mo_isRefused_0, decode prog_12_method_5_code q.1 = .ok q.2 := by decide +kernel
def m_Mo_isRefused : mM := (⟨"LinkTimesModel", "isRefused", "(I)Z"⟩, prog_12_method_5_code, 2, (some .boolean), t_Mo_isRefused_0)
theorem ok_Mo_isRefused : mOK m_Mo_isRefused := ⟨by decide, tm 1394 (by decide +kernel) rfl, t_Mo_isRefused_0_ok, tm 123 (by decide +kernel) rfl, by decide, by decide⟩
theorem vm_Mo_isRefused : mVt m_Mo_isRefused := ⟨tm 1393 (by decide +kernel) rfl, tm 55 (by decide +kernel) rfl⟩
def t_Mo_unless_0 : List (Nat × Instr × Nat) := [(0, (.iload_n 0, 1)), (1, (.ifCond .eq 7, 3)), (4, (.iconst 0, 1)), (5, (.goto 4, 3)), (8, (.iconst 1, 1)), (9, (.ireturn, 1))]
theorem t_Mo_unless_0_ok : ∀ q ∈ t_Mo_unless_0, decode prog_12_method_6_code q.1 = .ok q.2 := by decide +kernel
def m_Mo_unless : mM := (⟨"LinkTimesModel", "unless", "(Z)I"⟩, prog_12_method_6_code, 1, (some .int), t_Mo_unless_0)
theorem ok_Mo_unless : mOK m_Mo_unless := ⟨by decide, tm 1516 (by decide +kernel) rfl, t_Mo_unless_0_ok, tm 123 (by decide +kernel) rfl, by decide, by decide⟩
theorem sm_Mo_unless : Cond.static m_Mo_unless.1 ∈ t0_ws := tm 1515 (by decide +kernel) rfl
def t_Mo_unless__0 : List (Nat × Instr × Nat) := [(0, (.iload_n 0, 1)), (1, (.ifCond .ne 7, 3)), (4, (.iconst 1, 1)), (5, (.goto 12, 3)), (8, (.iload_n 1, 1)), (9, (.ifCond .eq 7, 3)), (12, (.iconst 0, 1)), (13, (.goto 4, 3)), (16, (.iconst 2, 1)), (17, (.ireturn, 1))]
theorem t_Mo_unless__0_ok : ∀ q ∈ t_Mo_unless__0, decode prog_12_method_7_code q.1 = .ok q.2 := by decide +kernel
def m_Mo_unless_ : mM := (⟨"LinkTimesModel", "unless", "(ZZ)I"⟩, prog_12_method_7_code, 2, (some .int), t_Mo_unless__0)
theorem ok_Mo_unless_ : mOK m_Mo_unless_ := ⟨by decide, tm 1567 (by decide +kernel) rfl, t_Mo_unless__0_ok, tm 123 (by decide +kernel) rfl, by decide, by decide⟩
theorem sm_Mo_unless_ : Cond.static m_Mo_unless_.1 ∈ t0_ws := tm 1566 (by decide +kernel) rfl
def t_Mo_feed_0 : List (Nat × Instr × Nat) := [(0, (.aload_n 0, 1)), (1, (.iconst 0, 1)), (2, (.putfield 78, 3)), (5, (.aload_n 0, 1)), (6, (.getfield 84, 3)), (9, (.sipush 880, 3)), (12, (.if_icmp .le 5, 3)), (15, (.iconst (-1), 1)), (16, (.ireturn, 1)), (17, (.aload_n 0, 1)), (18, (.iload_n 1, 1)), (19, (.invokevirtual 87, 3)), (22, (.aload_n 0, 1)), (23, (.iload_n 2, 1)), (24, (.invokevirtual 87, 3)), (27, (.aload_n 0, 1)), (28, (.iload_n 3, 1)), (29, (.invokevirtual 87, 3)), (32, (.aload_n 0, 1)), (33, (.iload 4, 2)), (35, (.invokevirtual 87, 3)), (38, (.aload_n 0, 1)), (39, (.iload 5, 2)), (41, (.invokevirtual 87, 3)), (44, (.aload_n 0, 1)), (45, (.getfield 84, 3)), (48, (.ireturn, 1))]
theorem t_Mo_feed_0_ok : ∀ q ∈ t_Mo_feed_0, decode prog_12_method_8_code q.1 = .ok q.2 := by decide +kernel
def m_Mo_feed : mM := (⟨"LinkTimesModel", "feed", "(IIIII)I"⟩, prog_12_method_8_code, 6, (some .int), t_Mo_feed_0)
theorem ok_Mo_feed : mOK m_Mo_feed := ⟨by decide, tm 1379 (by decide +kernel) rfl, t_Mo_feed_0_ok, tm 123 (by decide +kernel) rfl, by decide, by decide⟩
theorem vm_Mo_feed : mVt m_Mo_feed := ⟨tm 1377 (by decide +kernel) rfl, tm 1378 (by decide +kernel) rfl⟩
def t_Mo_laysWord_0 : List (Nat × Instr × Nat) := [(0, (.iconst 0, 1)), (1, (.istore_n 2, 1)), (2, (.iload_n 2, 1)), (3, (.iconst 4, 1)), (4, (.if_icmp .ge 33, 3)), (7, (.aload_n 0, 1)), (8, (.getfield 13, 3)), (11, (.aload_n 0, 1)), (12, (.getfield 84, 3)), (15, (.iload_n 2, 1)), (16, (.iadd, 1)), (17, (.iload_n 1, 1)), (18, (.bipush 24, 2)), (20, (.bipush 8, 2)), (22, (.iload_n 2, 1)), (23, (.imul, 1)), (24, (.isub, 1)), (25, (.ishr, 1)), (26, (.sipush 255, 3)), (29, (.iand, 1)), (30, (.iastore, 1)), (31, (.iinc 2 1, 3)), (34, (.goto (-32), 3)), (37, (.aload_n 0, 1)), (38, (.dup, 1)), (39, (.getfield 84, 3)), (42, (.iconst 4, 1)), (43, (.iadd, 1)), (44, (.putfield 84, 3)), (47, (.return_, 1))]
theorem t_Mo_laysWord_0_ok : ∀ q ∈ t_Mo_laysWord_0, decode prog_12_method_9_code q.1 = .ok q.2 := by decide +kernel
def m_Mo_laysWord : mM := (⟨"LinkTimesModel", "laysWord", "(I)V"⟩, prog_12_method_9_code, 3, none, t_Mo_laysWord_0)
theorem ok_Mo_laysWord : mOK m_Mo_laysWord := ⟨by decide, tm 1383 (by decide +kernel) rfl, t_Mo_laysWord_0_ok, tm 123 (by decide +kernel) rfl, by decide, by decide⟩
theorem vm_Mo_laysWord : mVt m_Mo_laysWord := ⟨tm 1382 (by decide +kernel) rfl, tm 54 (by decide +kernel) rfl⟩
def t_Mo_at_0 : List (Nat × Instr × Nat) := [(0, (.bipush 25, 2)), (2, (.bipush 8, 2)), (4, (.iload_n 0, 1)), (5, (.imul, 1)), (6, (.iadd, 1)), (7, (.iload_n 1, 1)), (8, (.iadd, 1)), (9, (.ireturn, 1))]
theorem t_Mo_at_0_ok : ∀ q ∈ t_Mo_at_0, decode prog_12_method_10_code q.1 = .ok q.2 := by decide +kernel
def m_Mo_at : mM := (⟨"LinkTimesModel", "at", "(II)I"⟩, prog_12_method_10_code, 2, (some .int), t_Mo_at_0)
theorem ok_Mo_at : mOK m_Mo_at := ⟨by decide, tm 1494 (by decide +kernel) rfl, t_Mo_at_0_ok, tm 123 (by decide +kernel) rfl, by decide, by decide⟩
theorem sm_Mo_at : Cond.static m_Mo_at.1 ∈ t0_ws := tm 1493 (by decide +kernel) rfl
def t_Mo_see_0 : List (Nat × Instr × Nat) := [(0, (.iload_n 1, 1)), (1, (.aload_n 0, 1)), (2, (.getfield 91, 3)), (5, (.if_icmp .ge 12, 3)), (8, (.aload_n 0, 1)), (9, (.getfield 13, 3)), (12, (.iload_n 1, 1)), (13, (.iaload, 1)), (14, (.goto 4, 3)), (17, (.iconst (-1), 1)), (18, (.ireturn, 1))]
theorem t_Mo_see_0_ok : ∀ q ∈ t_Mo_see_0, decode prog_12_method_11_code q.1 = .ok q.2 := by decide +kernel
def m_Mo_see : mM := (⟨"LinkTimesModel", "see", "(I)I"⟩, prog_12_method_11_code, 2, (some .int), t_Mo_see_0)
theorem ok_Mo_see : mOK m_Mo_see := ⟨by decide, tm 1406 (by decide +kernel) rfl, t_Mo_see_0_ok, tm 123 (by decide +kernel) rfl, by decide, by decide⟩
theorem vm_Mo_see : mVt m_Mo_see := ⟨tm 1405 (by decide +kernel) rfl, tm 58 (by decide +kernel) rfl⟩
def t_Mo_goesOn_0 : List (Nat × Instr × Nat) := [(0, (.aload_n 0, 1)), (1, (.aload_n 0, 1)), (2, (.getfield 94, 3)), (5, (.invokevirtual 97, 3)), (8, (.bipush 32, 2)), (10, (.if_icmp .ne 16, 3)), (13, (.aload_n 0, 1)), (14, (.dup, 1)), (15, (.getfield 94, 3)), (18, (.iconst 1, 1)), (19, (.iadd, 1)), (20, (.putfield 94, 3)), (23, (.goto (-23), 3)), (26, (.aload_n 0, 1)), (27, (.aload_n 0, 1)), (28, (.getfield 94, 3)), (31, (.putfield 101, 3)), (34, (.aload_n 0, 1)), (35, (.aload_n 0, 1)), (36, (.getfield 94, 3)), (39, (.invokevirtual 97, 3)), (42, (.istore_n 1, 1)), (43, (.iload_n 1, 1)), (44, (.iconst (-1), 1)), (45, (.if_icmp .ne 9, 3)), (48, (.aload_n 0, 1)), (49, (.iconst 0, 1)), (50, (.putfield 104, 3)), (53, (.return_, 1)), (54, (.iload_n 1, 1)), (55, (.bipush 97, 2)), (57, (.bipush 122, 2)), (59, (.invokestatic 107, 3)), (62, (.ifCond .eq 58, 3)), (65, (.aload_n 0, 1)), (66, (.aload_n 0, 1)), (67, (.getfield 94, 3)), (70, (.invokevirtual 97, 3)), (73, (.bipush 97, 2)), (75, (.bipush 122, 2)), (77, (.invokestatic 107, 3)), (80, (.ifCond .eq 16, 3)), (83, (.aload_n 0, 1)), (84, (.dup, 1)), (85, (.getfield 94, 3)), (88, (.iconst 1, 1)), (89, (.iadd, 1)), (90, (.putfield 94, 3)), (93, (.goto (-28), 3)), (96, (.aload_n 0, 1))]
theorem t_Mo_goesOn_0_ok : ∀ q ∈ t_Mo_goesOn_0, decode prog_12_method_12_code q.1 = .ok q.2 := by decide +kernel
def t_Mo_goesOn_1 : List (Nat × Instr × Nat) := [(97, (.aload_n 0, 1)), (98, (.getfield 94, 3)), (101, (.aload_n 0, 1)), (102, (.getfield 101, 3)), (105, (.isub, 1)), (106, (.bipush 6, 2)), (108, (.if_icmp .le 7, 3)), (111, (.iconst 1, 1)), (112, (.goto 4, 3)), (115, (.iconst 2, 1)), (116, (.putfield 104, 3)), (119, (.return_, 1)), (120, (.iload_n 1, 1)), (121, (.bipush 48, 2)), (123, (.bipush 57, 2)), (125, (.invokestatic 107, 3)), (128, (.ifCond .eq 105, 3)), (131, (.aload_n 0, 1)), (132, (.iconst 0, 1)), (133, (.putfield 111, 3)), (136, (.aload_n 0, 1)), (137, (.aload_n 0, 1)), (138, (.getfield 94, 3)), (141, (.invokevirtual 97, 3)), (144, (.bipush 48, 2)), (146, (.bipush 57, 2)), (148, (.invokestatic 107, 3)), (151, (.ifCond .eq 59, 3)), (154, (.aload_n 0, 1)), (155, (.aload_n 0, 1)), (156, (.getfield 94, 3)), (159, (.aload_n 0, 1)), (160, (.getfield 101, 3)), (163, (.isub, 1)), (164, (.iconst 4, 1)), (165, (.if_icmp .ge 25, 3)), (168, (.bipush 10, 2)), (170, (.aload_n 0, 1)), (171, (.getfield 111, 3)), (174, (.imul, 1)), (175, (.aload_n 0, 1)), (176, (.aload_n 0, 1)), (177, (.getfield 94, 3)), (180, (.invokevirtual 97, 3)), (183, (.iadd, 1)), (184, (.bipush 48, 2)), (186, (.isub, 1)), (187, (.goto 7, 3)), (190, (.aload_n 0, 1)), (191, (.getfield 111, 3))]
theorem t_Mo_goesOn_1_ok : ∀ q ∈ t_Mo_goesOn_1, decode prog_12_method_12_code q.1 = .ok q.2 := by decide +kernel
def t_Mo_goesOn_2 : List (Nat × Instr × Nat) := [(194, (.putfield 111, 3)), (197, (.aload_n 0, 1)), (198, (.dup, 1)), (199, (.getfield 94, 3)), (202, (.iconst 1, 1)), (203, (.iadd, 1)), (204, (.putfield 94, 3)), (207, (.goto (-71), 3)), (210, (.aload_n 0, 1)), (211, (.aload_n 0, 1)), (212, (.getfield 94, 3)), (215, (.aload_n 0, 1)), (216, (.getfield 101, 3)), (219, (.isub, 1)), (220, (.iconst 4, 1)), (221, (.if_icmp .le 7, 3)), (224, (.iconst 1, 1)), (225, (.goto 4, 3)), (228, (.iconst 3, 1)), (229, (.putfield 104, 3)), (232, (.return_, 1)), (233, (.aload_n 0, 1)), (234, (.dup, 1)), (235, (.getfield 94, 3)), (238, (.iconst 1, 1)), (239, (.iadd, 1)), (240, (.putfield 94, 3)), (243, (.aload_n 0, 1)), (244, (.iload_n 1, 1)), (245, (.bipush 59, 2)), (247, (.if_icmp .ne 7, 3)), (250, (.iload_n 1, 1)), (251, (.goto 4, 3)), (254, (.iconst 1, 1)), (255, (.putfield 104, 3)), (258, (.return_, 1))]
theorem t_Mo_goesOn_2_ok : ∀ q ∈ t_Mo_goesOn_2, decode prog_12_method_12_code q.1 = .ok q.2 := by decide +kernel
def m_Mo_goesOn : mM := (⟨"LinkTimesModel", "goesOn", "()V"⟩, prog_12_method_12_code, 2, none, t_Mo_goesOn_0 ++ t_Mo_goesOn_1 ++ t_Mo_goesOn_2)
theorem ok_Mo_goesOn : mOK m_Mo_goesOn := ⟨by decide, tm 1402 (by decide +kernel) rfl, all_app (all_app (t_Mo_goesOn_0_ok) t_Mo_goesOn_1_ok) t_Mo_goesOn_2_ok, tm 123 (by decide +kernel) rfl, by decide, by decide⟩
theorem vm_Mo_goesOn : mVt m_Mo_goesOn := ⟨tm 1401 (by decide +kernel) rfl, tm 57 (by decide +kernel) rfl⟩
def t_Mo_isWord_0 : List (Nat × Instr × Nat) := [(0, (.aload_n 0, 1)), (1, (.getfield 104, 3)), (4, (.iconst 2, 1)), (5, (.if_icmp .ne 19, 3)), (8, (.aload_n 0, 1)), (9, (.getfield 94, 3)), (12, (.aload_n 0, 1)), (13, (.getfield 101, 3)), (16, (.isub, 1)), (17, (.aload_n 1, 1)), (18, (.invokevirtual 114, 3)), (21, (.if_icmp .eq 5, 3)), (24, (.iconst 0, 1)), (25, (.ireturn, 1)), (26, (.iconst 0, 1)), (27, (.istore_n 2, 1)), (28, (.iload_n 2, 1)), (29, (.aload_n 1, 1)), (30, (.invokevirtual 114, 3)), (33, (.if_icmp .ge 30, 3)), (36, (.aload_n 0, 1)), (37, (.getfield 13, 3)), (40, (.aload_n 0, 1)), (41, (.getfield 101, 3)), (44, (.iload_n 2, 1)), (45, (.iadd, 1)), (46, (.iaload, 1)), (47, (.aload_n 1, 1)), (48, (.iload_n 2, 1)), (49, (.invokevirtual 120, 3)), (52, (.if_icmp .eq 5, 3)), (55, (.iconst 0, 1)), (56, (.ireturn, 1)), (57, (.iinc 2 1, 3)), (60, (.goto (-32), 3)), (63, (.iconst 1, 1)), (64, (.ireturn, 1))]
theorem t_Mo_isWord_0_ok : ∀ q ∈ t_Mo_isWord_0, decode prog_12_method_13_code q.1 = .ok q.2 := by decide +kernel
def m_Mo_isWord : mM := (⟨"LinkTimesModel", "isWord", "(Ljava/lang/String;)Z"⟩, prog_12_method_13_code, 3, (some .boolean), t_Mo_isWord_0)
theorem ok_Mo_isWord : mOK m_Mo_isWord := ⟨by decide, tm 1415 (by decide +kernel) rfl, t_Mo_isWord_0_ok, tm 123 (by decide +kernel) rfl, by decide, by decide⟩
theorem vm_Mo_isWord : mVt m_Mo_isWord := ⟨tm 1414 (by decide +kernel) rfl, tm 60 (by decide +kernel) rfl⟩
def t_Mo_errs_0 : List (Nat × Instr × Nat) := [(0, (.aload_n 0, 1)), (1, (.iload_n 1, 1)), (2, (.putfield 124, 3)), (5, (.aload_n 0, 1)), (6, (.aload_n 0, 1)), (7, (.getfield 101, 3)), (10, (.putfield 127, 3)), (13, (.iconst 0, 1)), (14, (.ireturn, 1))]
theorem t_Mo_errs_0_ok : ∀ q ∈ t_Mo_errs_0, decode prog_12_method_14_code q.1 = .ok q.2 := by decide +kernel
def m_Mo_errs : mM := (⟨"LinkTimesModel", "errs", "(I)Z"⟩, prog_12_method_14_code, 2, (some .boolean), t_Mo_errs_0)
theorem ok_Mo_errs : mOK m_Mo_errs := ⟨by decide, tm 1425 (by decide +kernel) rfl, t_Mo_errs_0_ok, tm 123 (by decide +kernel) rfl, by decide, by decide⟩
theorem vm_Mo_errs : mVt m_Mo_errs := ⟨tm 1424 (by decide +kernel) rfl, tm 62 (by decide +kernel) rfl⟩
def t_Mo_lays_0 : List (Nat × Instr × Nat) := [(0, (.aload_n 0, 1)), (1, (.getfield 104, 3)), (4, (.iconst 3, 1)), (5, (.if_icmp .eq 9, 3)), (8, (.aload_n 0, 1)), (9, (.iconst 1, 1)), (10, (.invokevirtual 130, 3)), (13, (.ireturn, 1)), (14, (.aload_n 0, 1)), (15, (.getfield 111, 3)), (18, (.iload_n 2, 1)), (19, (.iload_n 3, 1)), (20, (.invokestatic 107, 3)), (23, (.ifCond .ne 9, 3)), (26, (.aload_n 0, 1)), (27, (.iconst 4, 1)), (28, (.invokevirtual 130, 3)), (31, (.ireturn, 1)), (32, (.aload_n 0, 1)), (33, (.getfield 20, 3)), (36, (.iload_n 1, 1)), (37, (.aload_n 0, 1)), (38, (.getfield 111, 3)), (41, (.iastore, 1)), (42, (.aload_n 0, 1)), (43, (.invokevirtual 134, 3)), (46, (.iconst 1, 1)), (47, (.ireturn, 1))]
theorem t_Mo_lays_0_ok : ∀ q ∈ t_Mo_lays_0, decode prog_12_method_15_code q.1 = .ok q.2 := by decide +kernel
def m_Mo_lays : mM := (⟨"LinkTimesModel", "lays", "(III)Z"⟩, prog_12_method_15_code, 4, (some .boolean), t_Mo_lays_0)
theorem ok_Mo_lays : mOK m_Mo_lays := ⟨by decide, tm 1434 (by decide +kernel) rfl, t_Mo_lays_0_ok, tm 123 (by decide +kernel) rfl, by decide, by decide⟩
theorem vm_Mo_lays : mVt m_Mo_lays := ⟨tm 1433 (by decide +kernel) rfl, tm 64 (by decide +kernel) rfl⟩
def t_Mo_after_0 : List (Nat × Instr × Nat) := [(0, (.aload_n 0, 1)), (1, (.aload_n 1, 1)), (2, (.invokevirtual 137, 3)), (5, (.ifCond .ne 9, 3)), (8, (.aload_n 0, 1)), (9, (.iconst 1, 1)), (10, (.invokevirtual 130, 3)), (13, (.ireturn, 1)), (14, (.aload_n 0, 1)), (15, (.invokevirtual 134, 3)), (18, (.aload_n 0, 1)), (19, (.iload_n 2, 1)), (20, (.iload_n 3, 1)), (21, (.iload 4, 2)), (23, (.invokevirtual 141, 3)), (26, (.ireturn, 1))]
theorem t_Mo_after_0_ok : ∀ q ∈ t_Mo_after_0, decode prog_12_method_16_code q.1 = .ok q.2 := by decide +kernel
def m_Mo_after : mM := (⟨"LinkTimesModel", "after", "(Ljava/lang/String;III)Z"⟩, prog_12_method_16_code, 5, (some .boolean), t_Mo_after_0)
theorem ok_Mo_after : mOK m_Mo_after := ⟨by decide, tm 1430 (by decide +kernel) rfl, t_Mo_after_0_ok, tm 123 (by decide +kernel) rfl, by decide, by decide⟩
theorem vm_Mo_after : mVt m_Mo_after := ⟨tm 1429 (by decide +kernel) rfl, tm 63 (by decide +kernel) rfl⟩
def t_Mo_spelt_0 : List (Nat × Instr × Nat) := [(0, (.lconst 0, 1)), (1, (.lstore_n 1, 1)), (2, (.aload_n 0, 1)), (3, (.getfield 101, 3)), (6, (.istore_n 3, 1)), (7, (.iload_n 3, 1)), (8, (.aload_n 0, 1)), (9, (.getfield 94, 3)), (12, (.if_icmp .ge 27, 3)), (15, (.ldc2_w 144, 3)), (18, (.lload_n 1, 1)), (19, (.lmul, 1)), (20, (.aload_n 0, 1)), (21, (.getfield 13, 3)), (24, (.iload_n 3, 1)), (25, (.iaload, 1)), (26, (.i2l, 1)), (27, (.ladd, 1)), (28, (.ldc2_w 146, 3)), (31, (.lsub, 1)), (32, (.lstore_n 1, 1)), (33, (.iinc 3 1, 3)), (36, (.goto (-29), 3)), (39, (.lload_n 1, 1)), (40, (.lreturn, 1))]
theorem t_Mo_spelt_0_ok : ∀ q ∈ t_Mo_spelt_0, decode prog_12_method_17_code q.1 = .ok q.2 := by decide +kernel
def m_Mo_spelt : mM := (⟨"LinkTimesModel", "spelt", "()J"⟩, prog_12_method_17_code, 4, (some .long), t_Mo_spelt_0)
theorem ok_Mo_spelt : mOK m_Mo_spelt := ⟨by decide, tm 1457 (by decide +kernel) rfl, t_Mo_spelt_0_ok, tm 123 (by decide +kernel) rfl, by decide, by decide⟩
theorem vm_Mo_spelt : mVt m_Mo_spelt := ⟨tm 1456 (by decide +kernel) rfl, tm 69 (by decide +kernel) rfl⟩
def t_Mo_placeOf_0 : List (Nat × Instr × Nat) := [(0, (.iconst 0, 1)), (1, (.istore 4, 2)), (3, (.iload 4, 2)), (5, (.iload_n 1, 1)), (6, (.if_icmp .ge 21, 3)), (9, (.aload_n 0, 1)), (10, (.iload 4, 2)), (12, (.laload, 1)), (13, (.lload_n 2, 1)), (14, (.lcmp, 1)), (15, (.ifCond .ne 6, 3)), (18, (.iload 4, 2)), (20, (.ireturn, 1)), (21, (.iinc 4 1, 3)), (24, (.goto (-21), 3)), (27, (.iconst (-1), 1)), (28, (.ireturn, 1))]
theorem t_Mo_placeOf_0_ok : ∀ q ∈ t_Mo_placeOf_0, decode prog_12_method_18_code q.1 = .ok q.2 := by decide +kernel
def m_Mo_placeOf : mM := (⟨"LinkTimesModel", "placeOf", "([JIJ)I"⟩, prog_12_method_18_code, 5, (some .int), t_Mo_placeOf_0)
theorem ok_Mo_placeOf : mOK m_Mo_placeOf := ⟨by decide, tm 1462 (by decide +kernel) rfl, t_Mo_placeOf_0_ok, tm 123 (by decide +kernel) rfl, by decide, by decide⟩
theorem sm_Mo_placeOf : Cond.static m_Mo_placeOf.1 ∈ t0_ws := tm 1461 (by decide +kernel) rfl
def t_Mo_isName_0 : List (Nat × Instr × Nat) := [(0, (.aload_n 0, 1)), (1, (.getfield 104, 3)), (4, (.iconst 2, 1)), (5, (.if_icmp .ne 39, 3)), (8, (.aload_n 0, 1)), (9, (.ldc 148, 2)), (11, (.invokevirtual 137, 3)), (14, (.ifCond .ne 30, 3)), (17, (.aload_n 0, 1)), (18, (.ldc 150, 2)), (20, (.invokevirtual 137, 3)), (23, (.ifCond .ne 21, 3)), (26, (.aload_n 0, 1)), (27, (.ldc 151, 2)), (29, (.invokevirtual 137, 3)), (32, (.ifCond .ne 12, 3)), (35, (.aload_n 0, 1)), (36, (.ldc 153, 2)), (38, (.invokevirtual 137, 3)), (41, (.ifCond .eq 11, 3)), (44, (.aload_n 0, 1)), (45, (.iconst 1, 1)), (46, (.invokevirtual 130, 3)), (49, (.ifCond .eq 7, 3)), (52, (.iconst 1, 1)), (53, (.goto 4, 3)), (56, (.iconst 0, 1)), (57, (.ireturn, 1))]
theorem t_Mo_isName_0_ok : ∀ q ∈ t_Mo_isName_0, decode prog_12_method_19_code q.1 = .ok q.2 := by decide +kernel
def m_Mo_isName : mM := (⟨"LinkTimesModel", "isName", "()Z"⟩, prog_12_method_19_code, 1, (some .boolean), t_Mo_isName_0)
theorem ok_Mo_isName : mOK m_Mo_isName := ⟨by decide, tm 1451 (by decide +kernel) rfl, t_Mo_isName_0_ok, tm 123 (by decide +kernel) rfl, by decide, by decide⟩
theorem vm_Mo_isName : mVt m_Mo_isName := ⟨tm 1450 (by decide +kernel) rfl, tm 68 (by decide +kernel) rfl⟩
def t_Mo_takesNew_0 : List (Nat × Instr × Nat) := [(0, (.aload_n 0, 1)), (1, (.invokevirtual 154, 3)), (4, (.ifCond .ne 5, 3)), (7, (.iconst 0, 1)), (8, (.ireturn, 1)), (9, (.aload_n 0, 1)), (10, (.getfield 29, 3)), (13, (.aload_n 0, 1)), (14, (.getfield 20, 3)), (17, (.iconst 1, 1)), (18, (.iaload, 1)), (19, (.aload_n 0, 1)), (20, (.invokevirtual 158, 3)), (23, (.invokestatic 162, 3)), (26, (.iconst (-1), 1)), (27, (.if_icmp .ne 24, 3)), (30, (.aload_n 0, 1)), (31, (.getfield 33, 3)), (34, (.aload_n 0, 1)), (35, (.getfield 20, 3)), (38, (.iconst 2, 1)), (39, (.iaload, 1)), (40, (.aload_n 0, 1)), (41, (.invokevirtual 158, 3)), (44, (.invokestatic 162, 3)), (47, (.iconst (-1), 1)), (48, (.if_icmp .eq 9, 3)), (51, (.aload_n 0, 1)), (52, (.iconst 3, 1)), (53, (.invokevirtual 130, 3)), (56, (.ireturn, 1)), (57, (.aload_n 1, 1)), (58, (.iload_n 2, 1)), (59, (.aload_n 0, 1)), (60, (.invokevirtual 158, 3)), (63, (.lastore, 1)), (64, (.aload_n 0, 1)), (65, (.invokevirtual 134, 3)), (68, (.iconst 1, 1)), (69, (.ireturn, 1))]
theorem t_Mo_takesNew_0_ok : ∀ q ∈ t_Mo_takesNew_0, decode prog_12_method_20_code q.1 = .ok q.2 := by decide +kernel
def m_Mo_takesNew : mM := (⟨"LinkTimesModel", "takesNew", "([JI)Z"⟩, prog_12_method_20_code, 3, (some .boolean), t_Mo_takesNew_0)
theorem ok_Mo_takesNew : mOK m_Mo_takesNew := ⟨by decide, tm 1447 (by decide +kernel) rfl, t_Mo_takesNew_0_ok, tm 123 (by decide +kernel) rfl, by decide, by decide⟩
theorem vm_Mo_takesNew : mVt m_Mo_takesNew := ⟨tm 1446 (by decide +kernel) rfl, tm 67 (by decide +kernel) rfl⟩
def t_Mo_begins_0 : List (Nat × Instr × Nat) := [(0, (.iload_n 1, 1)), (1, (.ifCond .ne 9, 3)), (4, (.aload_n 0, 1)), (5, (.iconst 5, 1)), (6, (.invokevirtual 130, 3)), (9, (.ireturn, 1)), (10, (.aload_n 0, 1)), (11, (.getfield 166, 3)), (14, (.ifCond .ne 10, 3)), (17, (.aload_n 0, 1)), (18, (.bipush 6, 2)), (20, (.invokevirtual 130, 3)), (23, (.ireturn, 1)), (24, (.aload_n 0, 1)), (25, (.invokevirtual 134, 3)), (28, (.iconst 1, 1)), (29, (.ireturn, 1))]
theorem t_Mo_begins_0_ok : ∀ q ∈ t_Mo_begins_0, decode prog_12_method_22_code q.1 = .ok q.2 := by decide +kernel
def m_Mo_begins : mM := (⟨"LinkTimesModel", "begins", "(Z)Z"⟩, prog_12_method_22_code, 2, (some .boolean), t_Mo_begins_0)
theorem ok_Mo_begins : mOK m_Mo_begins := ⟨by decide, tm 1443 (by decide +kernel) rfl, t_Mo_begins_0_ok, tm 123 (by decide +kernel) rfl, by decide, by decide⟩
theorem vm_Mo_begins : mVt m_Mo_begins := ⟨tm 1442 (by decide +kernel) rfl, tm 66 (by decide +kernel) rfl⟩
def t_Mo_readDesk_0 : List (Nat × Instr × Nat) := [(0, (.aload_n 0, 1)), (1, (.getfield 166, 3)), (4, (.ifCond .eq 9, 3)), (7, (.aload_n 0, 1)), (8, (.iconst 3, 1)), (9, (.invokevirtual 130, 3)), (12, (.ireturn, 1)), (13, (.aload_n 0, 1)), (14, (.invokevirtual 134, 3)), (17, (.aload_n 0, 1)), (18, (.aload_n 0, 1)), (19, (.ldc 170, 2)), (21, (.iconst 0, 1)), (22, (.iconst 1, 1)), (23, (.sipush 999, 3)), (26, (.invokevirtual 172, 3)), (29, (.putfield 166, 3)), (32, (.aload_n 0, 1)), (33, (.getfield 166, 3)), (36, (.ireturn, 1))]
theorem t_Mo_readDesk_0_ok : ∀ q ∈ t_Mo_readDesk_0, decode prog_12_method_23_code q.1 = .ok q.2 := by decide +kernel
def m_Mo_readDesk : mM := (⟨"LinkTimesModel", "readDesk", "()Z"⟩, prog_12_method_23_code, 1, (some .boolean), t_Mo_readDesk_0)
theorem ok_Mo_readDesk : mOK m_Mo_readDesk := ⟨by decide, tm 1421 (by decide +kernel) rfl, t_Mo_readDesk_0_ok, tm 123 (by decide +kernel) rfl, by decide, by decide⟩
theorem vm_Mo_readDesk : mVt m_Mo_readDesk := ⟨tm 1420 (by decide +kernel) rfl, tm 61 (by decide +kernel) rfl⟩
def t_Mo_readSpot_0 : List (Nat × Instr × Nat) := [(0, (.aload_n 0, 1)), (1, (.getfield 20, 3)), (4, (.iconst 1, 1)), (5, (.iaload, 1)), (6, (.istore_n 1, 1)), (7, (.aload_n 0, 1)), (8, (.iload_n 1, 1)), (9, (.bipush 10, 2)), (11, (.if_icmp .ge 7, 3)), (14, (.iconst 1, 1)), (15, (.goto 4, 3)), (18, (.iconst 0, 1)), (19, (.invokevirtual 176, 3)), (22, (.ifCond .eq 30, 3)), (25, (.aload_n 0, 1)), (26, (.aload_n 0, 1)), (27, (.getfield 29, 3)), (30, (.iload_n 1, 1)), (31, (.invokevirtual 180, 3)), (34, (.ifCond .eq 18, 3)), (37, (.aload_n 0, 1)), (38, (.ldc 184, 2)), (40, (.iconst 5, 1)), (41, (.iload_n 1, 1)), (42, (.iadd, 1)), (43, (.iconst 0, 1)), (44, (.bipush 99, 2)), (46, (.invokevirtual 172, 3)), (49, (.ifCond .ne 5, 3)), (52, (.iconst 0, 1)), (53, (.ireturn, 1)), (54, (.aload_n 0, 1)), (55, (.getfield 20, 3)), (58, (.bipush 15, 2)), (60, (.iload_n 1, 1)), (61, (.iadd, 1)), (62, (.bipush (-2), 2)), (64, (.iastore, 1)), (65, (.aload_n 0, 1)), (66, (.ldc 186, 2)), (68, (.invokevirtual 137, 3)), (71, (.ifCond .eq 22, 3)), (74, (.aload_n 0, 1)), (75, (.ldc 186, 2)), (77, (.bipush 15, 2)), (79, (.iload_n 1, 1)), (80, (.iadd, 1)), (81, (.iconst 0, 1)), (82, (.sipush 999, 3)), (85, (.invokevirtual 172, 3))]
theorem t_Mo_readSpot_0_ok : ∀ q ∈ t_Mo_readSpot_0, decode prog_12_method_24_code q.1 = .ok q.2 := by decide +kernel
def t_Mo_readSpot_1 : List (Nat × Instr × Nat) := [(88, (.ifCond .ne 5, 3)), (91, (.iconst 0, 1)), (92, (.ireturn, 1)), (93, (.aload_n 0, 1)), (94, (.getfield 20, 3)), (97, (.iconst 1, 1)), (98, (.dup2, 1)), (99, (.iaload, 1)), (100, (.iconst 1, 1)), (101, (.iadd, 1)), (102, (.iastore, 1)), (103, (.iconst 1, 1)), (104, (.ireturn, 1))]
theorem t_Mo_readSpot_1_ok : ∀ q ∈ t_Mo_readSpot_1, decode prog_12_method_24_code q.1 = .ok q.2 := by decide +kernel
def m_Mo_readSpot : mM := (⟨"LinkTimesModel", "readSpot", "()Z"⟩, prog_12_method_24_code, 2, (some .boolean), t_Mo_readSpot_0 ++ t_Mo_readSpot_1)
theorem ok_Mo_readSpot : mOK m_Mo_readSpot := ⟨by decide, tm 1439 (by decide +kernel) rfl, all_app (t_Mo_readSpot_0_ok) t_Mo_readSpot_1_ok, tm 123 (by decide +kernel) rfl, by decide, by decide⟩
theorem vm_Mo_readSpot : mVt m_Mo_readSpot := ⟨tm 1438 (by decide +kernel) rfl, tm 65 (by decide +kernel) rfl⟩
def t_Mo_readOneLine_0 : List (Nat × Instr × Nat) := [(0, (.aload_n 0, 1)), (1, (.aload_n 0, 1)), (2, (.getfield 20, 3)), (5, (.iconst 2, 1)), (6, (.iaload, 1)), (7, (.bipush 8, 2)), (9, (.if_icmp .ge 7, 3)), (12, (.iconst 1, 1)), (13, (.goto 4, 3)), (16, (.iconst 0, 1)), (17, (.invokevirtual 176, 3)), (20, (.ifCond .eq 20, 3)), (23, (.aload_n 0, 1)), (24, (.aload_n 0, 1)), (25, (.getfield 33, 3)), (28, (.aload_n 0, 1)), (29, (.getfield 20, 3)), (32, (.iconst 2, 1)), (33, (.iaload, 1)), (34, (.invokevirtual 180, 3)), (37, (.ifCond .ne 5, 3)), (40, (.iconst 0, 1)), (41, (.ireturn, 1)), (42, (.aload_n 0, 1)), (43, (.getfield 20, 3)), (46, (.iconst 2, 1)), (47, (.dup2, 1)), (48, (.iaload, 1)), (49, (.iconst 1, 1)), (50, (.iadd, 1)), (51, (.iastore, 1)), (52, (.iconst 1, 1)), (53, (.ireturn, 1))]
theorem t_Mo_readOneLine_0_ok : ∀ q ∈ t_Mo_readOneLine_0, decode prog_12_method_25_code q.1 = .ok q.2 := by decide +kernel
def m_Mo_readOneLine : mM := (⟨"LinkTimesModel", "readOneLine", "()Z"⟩, prog_12_method_25_code, 1, (some .boolean), t_Mo_readOneLine_0)
theorem ok_Mo_readOneLine : mOK m_Mo_readOneLine := ⟨by decide, tm 1468 (by decide +kernel) rfl, t_Mo_readOneLine_0_ok, tm 123 (by decide +kernel) rfl, by decide, by decide⟩
theorem vm_Mo_readOneLine : mVt m_Mo_readOneLine := ⟨tm 1467 (by decide +kernel) rfl, tm 70 (by decide +kernel) rfl⟩
def t_Mo_laysLink_0 : List (Nat × Instr × Nat) := [(0, (.aload_n 0, 1)), (1, (.getfield 104, 3)), (4, (.iconst 3, 1)), (5, (.if_icmp .eq 9, 3)), (8, (.aload_n 0, 1)), (9, (.iconst 1, 1)), (10, (.invokevirtual 130, 3)), (13, (.ireturn, 1)), (14, (.aload_n 0, 1)), (15, (.getfield 111, 3)), (18, (.iload_n 2, 1)), (19, (.iload_n 3, 1)), (20, (.invokestatic 107, 3)), (23, (.ifCond .ne 9, 3)), (26, (.aload_n 0, 1)), (27, (.iconst 4, 1)), (28, (.invokevirtual 130, 3)), (31, (.ireturn, 1)), (32, (.aload_n 0, 1)), (33, (.getfield 36, 3)), (36, (.iload_n 1, 1)), (37, (.aload_n 0, 1)), (38, (.getfield 111, 3)), (41, (.iastore, 1)), (42, (.iconst 1, 1)), (43, (.ireturn, 1))]
theorem t_Mo_laysLink_0_ok : ∀ q ∈ t_Mo_laysLink_0, decode prog_12_method_26_code q.1 = .ok q.2 := by decide +kernel
def m_Mo_laysLink : mM := (⟨"LinkTimesModel", "laysLink", "(III)Z"⟩, prog_12_method_26_code, 4, (some .boolean), t_Mo_laysLink_0)
theorem ok_Mo_laysLink : mOK m_Mo_laysLink := ⟨by decide, tm 1485 (by decide +kernel) rfl, t_Mo_laysLink_0_ok, tm 123 (by decide +kernel) rfl, by decide, by decide⟩
theorem vm_Mo_laysLink : mVt m_Mo_laysLink := ⟨tm 1484 (by decide +kernel) rfl, tm 74 (by decide +kernel) rfl⟩
def t_Mo_afterLink_0 : List (Nat × Instr × Nat) := [(0, (.aload_n 0, 1)), (1, (.aload_n 1, 1)), (2, (.invokevirtual 137, 3)), (5, (.ifCond .ne 9, 3)), (8, (.aload_n 0, 1)), (9, (.iconst 1, 1)), (10, (.invokevirtual 130, 3)), (13, (.ireturn, 1)), (14, (.aload_n 0, 1)), (15, (.invokevirtual 134, 3)), (18, (.aload_n 0, 1)), (19, (.iload_n 2, 1)), (20, (.iload_n 3, 1)), (21, (.iload 4, 2)), (23, (.invokevirtual 188, 3)), (26, (.ireturn, 1))]
theorem t_Mo_afterLink_0_ok : ∀ q ∈ t_Mo_afterLink_0, decode prog_12_method_27_code q.1 = .ok q.2 := by decide +kernel
def m_Mo_afterLink : mM := (⟨"LinkTimesModel", "afterLink", "(Ljava/lang/String;III)Z"⟩, prog_12_method_27_code, 5, (some .boolean), t_Mo_afterLink_0)
theorem ok_Mo_afterLink : mOK m_Mo_afterLink := ⟨by decide, tm 1481 (by decide +kernel) rfl, t_Mo_afterLink_0_ok, tm 123 (by decide +kernel) rfl, by decide, by decide⟩
theorem vm_Mo_afterLink : mVt m_Mo_afterLink := ⟨tm 1480 (by decide +kernel) rfl, tm 73 (by decide +kernel) rfl⟩
def t_Mo_namesLink_0 : List (Nat × Instr × Nat) := [(0, (.aload_n 0, 1)), (1, (.invokevirtual 154, 3)), (4, (.ifCond .ne 5, 3)), (7, (.iconst 0, 1)), (8, (.ireturn, 1)), (9, (.aload_n 0, 1)), (10, (.getfield 36, 3)), (13, (.iload_n 3, 1)), (14, (.aload_n 1, 1)), (15, (.iload_n 2, 1)), (16, (.aload_n 0, 1)), (17, (.invokevirtual 158, 3)), (20, (.invokestatic 162, 3)), (23, (.iastore, 1)), (24, (.aload_n 0, 1)), (25, (.getfield 36, 3)), (28, (.iload_n 3, 1)), (29, (.iaload, 1)), (30, (.iconst (-1), 1)), (31, (.if_icmp .ne 11, 3)), (34, (.aload_n 0, 1)), (35, (.iconst 2, 1)), (36, (.invokevirtual 130, 3)), (39, (.ifCond .eq 7, 3)), (42, (.iconst 1, 1)), (43, (.goto 4, 3)), (46, (.iconst 0, 1)), (47, (.ireturn, 1))]
theorem t_Mo_namesLink_0_ok : ∀ q ∈ t_Mo_namesLink_0, decode prog_12_method_28_code q.1 = .ok q.2 := by decide +kernel
def m_Mo_namesLink : mM := (⟨"LinkTimesModel", "namesLink", "([JII)Z"⟩, prog_12_method_28_code, 4, (some .boolean), t_Mo_namesLink_0)
theorem ok_Mo_namesLink : mOK m_Mo_namesLink := ⟨by decide, tm 1476 (by decide +kernel) rfl, t_Mo_namesLink_0_ok, tm 123 (by decide +kernel) rfl, by decide, by decide⟩
theorem vm_Mo_namesLink : mVt m_Mo_namesLink := ⟨tm 1475 (by decide +kernel) rfl, tm 72 (by decide +kernel) rfl⟩
def t_Mo_readLink_0 : List (Nat × Instr × Nat) := [(0, (.aload_n 0, 1)), (1, (.aload_n 0, 1)), (2, (.getfield 20, 3)), (5, (.iconst 3, 1)), (6, (.iaload, 1)), (7, (.bipush 12, 2)), (9, (.if_icmp .ge 7, 3)), (12, (.iconst 1, 1)), (13, (.goto 4, 3)), (16, (.iconst 0, 1)), (17, (.invokevirtual 176, 3)), (20, (.ifCond .eq 21, 3)), (23, (.aload_n 0, 1)), (24, (.aload_n 0, 1)), (25, (.getfield 33, 3)), (28, (.aload_n 0, 1)), (29, (.getfield 20, 3)), (32, (.iconst 2, 1)), (33, (.iaload, 1)), (34, (.iconst 0, 1)), (35, (.invokevirtual 191, 3)), (38, (.ifCond .ne 5, 3)), (41, (.iconst 0, 1)), (42, (.ireturn, 1)), (43, (.aload_n 0, 1)), (44, (.invokevirtual 134, 3)), (47, (.aload_n 0, 1)), (48, (.aload_n 0, 1)), (49, (.getfield 29, 3)), (52, (.aload_n 0, 1)), (53, (.getfield 20, 3)), (56, (.iconst 1, 1)), (57, (.iaload, 1)), (58, (.iconst 1, 1)), (59, (.invokevirtual 191, 3)), (62, (.ifCond .ne 5, 3)), (65, (.iconst 0, 1)), (66, (.ireturn, 1)), (67, (.aload_n 0, 1)), (68, (.invokevirtual 134, 3)), (71, (.aload_n 0, 1)), (72, (.aload_n 0, 1)), (73, (.getfield 29, 3)), (76, (.aload_n 0, 1)), (77, (.getfield 20, 3)), (80, (.iconst 1, 1)), (81, (.iaload, 1)), (82, (.iconst 2, 1)), (83, (.invokevirtual 191, 3)), (86, (.ifCond .ne 5, 3))]
theorem t_Mo_readLink_0_ok : ∀ q ∈ t_Mo_readLink_0, decode prog_12_method_29_code q.1 = .ok q.2 := by decide +kernel
def t_Mo_readLink_1 : List (Nat × Instr × Nat) := [(89, (.iconst 0, 1)), (90, (.ireturn, 1)), (91, (.aload_n 0, 1)), (92, (.getfield 36, 3)), (95, (.iconst 1, 1)), (96, (.iaload, 1)), (97, (.aload_n 0, 1)), (98, (.getfield 36, 3)), (101, (.iconst 2, 1)), (102, (.iaload, 1)), (103, (.if_icmp .ne 9, 3)), (106, (.aload_n 0, 1)), (107, (.iconst 3, 1)), (108, (.invokevirtual 130, 3)), (111, (.ireturn, 1)), (112, (.aload_n 0, 1)), (113, (.invokevirtual 134, 3)), (116, (.aload_n 0, 1)), (117, (.ldc 195, 2)), (119, (.iconst 3, 1)), (120, (.iconst 0, 1)), (121, (.aload_n 0, 1)), (122, (.getfield 20, 3)), (125, (.iconst 0, 1)), (126, (.iaload, 1)), (127, (.invokevirtual 197, 3)), (130, (.ifCond .ne 5, 3)), (133, (.iconst 0, 1)), (134, (.ireturn, 1)), (135, (.aload_n 0, 1)), (136, (.invokevirtual 134, 3)), (139, (.aload_n 0, 1)), (140, (.ldc 200, 2)), (142, (.iconst 4, 1)), (143, (.aload_n 0, 1)), (144, (.getfield 36, 3)), (147, (.iconst 3, 1)), (148, (.iaload, 1)), (149, (.aload_n 0, 1)), (150, (.getfield 20, 3)), (153, (.iconst 0, 1)), (154, (.iaload, 1)), (155, (.invokevirtual 197, 3)), (158, (.ifCond .ne 5, 3)), (161, (.iconst 0, 1)), (162, (.ireturn, 1)), (163, (.aload_n 0, 1)), (164, (.invokevirtual 134, 3)), (167, (.aload_n 0, 1)), (168, (.ldc 202, 2))]
theorem t_Mo_readLink_1_ok : ∀ q ∈ t_Mo_readLink_1, decode prog_12_method_29_code q.1 = .ok q.2 := by decide +kernel
def t_Mo_readLink_2 : List (Nat × Instr × Nat) := [(170, (.iconst 5, 1)), (171, (.iconst 1, 1)), (172, (.sipush 999, 3)), (175, (.invokevirtual 197, 3)), (178, (.ifCond .ne 5, 3)), (181, (.iconst 0, 1)), (182, (.ireturn, 1)), (183, (.aload_n 0, 1)), (184, (.getfield 20, 3)), (187, (.iconst 4, 1)), (188, (.iaload, 1)), (189, (.aload_n 0, 1)), (190, (.getfield 36, 3)), (193, (.iconst 4, 1)), (194, (.iaload, 1)), (195, (.aload_n 0, 1)), (196, (.getfield 36, 3)), (199, (.iconst 3, 1)), (200, (.iaload, 1)), (201, (.isub, 1)), (202, (.aload_n 0, 1)), (203, (.getfield 36, 3)), (206, (.iconst 5, 1)), (207, (.iaload, 1)), (208, (.idiv, 1)), (209, (.iadd, 1)), (210, (.iconst 1, 1)), (211, (.iadd, 1)), (212, (.bipush 120, 2)), (214, (.if_icmp .le 9, 3)), (217, (.aload_n 0, 1)), (218, (.iconst 5, 1)), (219, (.invokevirtual 130, 3)), (222, (.ireturn, 1)), (223, (.aload_n 0, 1)), (224, (.invokevirtual 134, 3)), (227, (.aload_n 0, 1)), (228, (.ldc 204, 2)), (230, (.bipush 6, 2)), (232, (.iconst 1, 1)), (233, (.bipush 99, 2)), (235, (.invokevirtual 197, 3)), (238, (.ifCond .ne 5, 3)), (241, (.iconst 0, 1)), (242, (.ireturn, 1)), (243, (.aload_n 0, 1)), (244, (.invokevirtual 134, 3)), (247, (.aload_n 0, 1)), (248, (.getfield 36, 3)), (251, (.iconst 3, 1))]
theorem t_Mo_readLink_2_ok : ∀ q ∈ t_Mo_readLink_2, decode prog_12_method_29_code q.1 = .ok q.2 := by decide +kernel
def t_Mo_readLink_3 : List (Nat × Instr × Nat) := [(252, (.iaload, 1)), (253, (.istore_n 1, 1)), (254, (.iload_n 1, 1)), (255, (.aload_n 0, 1)), (256, (.getfield 36, 3)), (259, (.iconst 4, 1)), (260, (.iaload, 1)), (261, (.if_icmp .gt 54, 3)), (264, (.aload_n 0, 1)), (265, (.getfield 20, 3)), (268, (.aload_n 0, 1)), (269, (.getfield 36, 3)), (272, (.iconst 0, 1)), (273, (.iaload, 1)), (274, (.aload_n 0, 1)), (275, (.getfield 36, 3)), (278, (.iconst 1, 1)), (279, (.iaload, 1)), (280, (.aload_n 0, 1)), (281, (.getfield 36, 3)), (284, (.iconst 2, 1)), (285, (.iaload, 1)), (286, (.iload_n 1, 1)), (287, (.aload_n 0, 1)), (288, (.getfield 36, 3)), (291, (.bipush 6, 2)), (293, (.iaload, 1)), (294, (.aload_n 0, 1)), (295, (.getfield 20, 3)), (298, (.iconst 3, 1)), (299, (.iaload, 1)), (300, (.invokestatic 206, 3)), (303, (.iload_n 1, 1)), (304, (.aload_n 0, 1)), (305, (.getfield 36, 3)), (308, (.iconst 5, 1)), (309, (.iaload, 1)), (310, (.iadd, 1)), (311, (.istore_n 1, 1)), (312, (.goto (-58), 3)), (315, (.aload_n 0, 1)), (316, (.getfield 20, 3)), (319, (.iconst 3, 1)), (320, (.dup2, 1)), (321, (.iaload, 1)), (322, (.iconst 1, 1)), (323, (.iadd, 1)), (324, (.iastore, 1)), (325, (.iconst 1, 1)), (326, (.ireturn, 1))]
theorem t_Mo_readLink_3_ok : ∀ q ∈ t_Mo_readLink_3, decode prog_12_method_29_code q.1 = .ok q.2 := by decide +kernel
def m_Mo_readLink : mM := (⟨"LinkTimesModel", "readLink", "()Z"⟩, prog_12_method_29_code, 2, (some .boolean), t_Mo_readLink_0 ++ t_Mo_readLink_1 ++ t_Mo_readLink_2 ++ t_Mo_readLink_3)
theorem ok_Mo_readLink : mOK m_Mo_readLink := ⟨by decide, tm 1472 (by decide +kernel) rfl, all_app (all_app (all_app (t_Mo_readLink_0_ok) t_Mo_readLink_1_ok) t_Mo_readLink_2_ok) t_Mo_readLink_3_ok, tm 123 (by decide +kernel) rfl, by decide, by decide⟩
theorem vm_Mo_readLink : mVt m_Mo_readLink := ⟨tm 1471 (by decide +kernel) rfl, tm 71 (by decide +kernel) rfl⟩
def t_Mo_lays__0 : List (Nat × Instr × Nat) := [(0, (.aload_n 0, 1)), (1, (.iconst 4, 1)), (2, (.iaload, 1)), (3, (.istore 7, 2)), (5, (.aload_n 0, 1)), (6, (.iload 7, 2)), (8, (.iconst 0, 1)), (9, (.invokestatic 209, 3)), (12, (.iload_n 1, 1)), (13, (.iastore, 1)), (14, (.aload_n 0, 1)), (15, (.iload 7, 2)), (17, (.iconst 1, 1)), (18, (.invokestatic 209, 3)), (21, (.iload_n 2, 1)), (22, (.iastore, 1)), (23, (.aload_n 0, 1)), (24, (.iload 7, 2)), (26, (.iconst 2, 1)), (27, (.invokestatic 209, 3)), (30, (.iload_n 3, 1)), (31, (.iastore, 1)), (32, (.aload_n 0, 1)), (33, (.iload 7, 2)), (35, (.iconst 3, 1)), (36, (.invokestatic 209, 3)), (39, (.iload 4, 2)), (41, (.iastore, 1)), (42, (.aload_n 0, 1)), (43, (.iload 7, 2)), (45, (.iconst 4, 1)), (46, (.invokestatic 209, 3)), (49, (.iload 5, 2)), (51, (.iastore, 1)), (52, (.aload_n 0, 1)), (53, (.iload 7, 2)), (55, (.iconst 5, 1)), (56, (.invokestatic 209, 3)), (59, (.iconst 0, 1)), (60, (.iastore, 1)), (61, (.aload_n 0, 1)), (62, (.iload 7, 2)), (64, (.bipush 6, 2)), (66, (.invokestatic 209, 3)), (69, (.iconst 1, 1)), (70, (.iastore, 1)), (71, (.aload_n 0, 1)), (72, (.iload 7, 2)), (74, (.bipush 7, 2)), (76, (.invokestatic 209, 3))]
theorem t_Mo_lays__0_ok : ∀ q ∈ t_Mo_lays__0, decode prog_12_method_30_code q.1 = .ok q.2 := by decide +kernel
def t_Mo_lays__1 : List (Nat × Instr × Nat) := [(79, (.iload 6, 2)), (81, (.iastore, 1)), (82, (.aload_n 0, 1)), (83, (.iconst 4, 1)), (84, (.dup2, 1)), (85, (.iaload, 1)), (86, (.iconst 1, 1)), (87, (.iadd, 1)), (88, (.iastore, 1)), (89, (.return_, 1))]
theorem t_Mo_lays__1_ok : ∀ q ∈ t_Mo_lays__1, decode prog_12_method_30_code q.1 = .ok q.2 := by decide +kernel
def m_Mo_lays_ : mM := (⟨"LinkTimesModel", "lays", "([IIIIIII)V"⟩, prog_12_method_30_code, 8, none, t_Mo_lays__0 ++ t_Mo_lays__1)
theorem ok_Mo_lays_ : mOK m_Mo_lays_ := ⟨by decide, tm 1491 (by decide +kernel) rfl, all_app (t_Mo_lays__0_ok) t_Mo_lays__1_ok, tm 123 (by decide +kernel) rfl, by decide, by decide⟩
theorem sm_Mo_lays_ : Cond.static m_Mo_lays_.1 ∈ t0_ws := tm 1490 (by decide +kernel) rfl
def t_Mo_readLine_0 : List (Nat × Instr × Nat) := [(0, (.aload_n 0, 1)), (1, (.ldc 148, 2)), (3, (.invokevirtual 137, 3)), (6, (.ifCond .eq 8, 3)), (9, (.aload_n 0, 1)), (10, (.invokevirtual 213, 3)), (13, (.ireturn, 1)), (14, (.aload_n 0, 1)), (15, (.ldc 150, 2)), (17, (.invokevirtual 137, 3)), (20, (.ifCond .eq 8, 3)), (23, (.aload_n 0, 1)), (24, (.invokevirtual 216, 3)), (27, (.ireturn, 1)), (28, (.aload_n 0, 1)), (29, (.ldc 151, 2)), (31, (.invokevirtual 137, 3)), (34, (.ifCond .eq 8, 3)), (37, (.aload_n 0, 1)), (38, (.invokevirtual 219, 3)), (41, (.ireturn, 1)), (42, (.aload_n 0, 1)), (43, (.ldc 153, 2)), (45, (.invokevirtual 137, 3)), (48, (.ifCond .eq 10, 3)), (51, (.aload_n 0, 1)), (52, (.invokevirtual 222, 3)), (55, (.goto 8, 3)), (58, (.aload_n 0, 1)), (59, (.iconst 1, 1)), (60, (.invokevirtual 130, 3)), (63, (.ireturn, 1))]
theorem t_Mo_readLine_0_ok : ∀ q ∈ t_Mo_readLine_0, decode prog_12_method_31_code q.1 = .ok q.2 := by decide +kernel
def m_Mo_readLine : mM := (⟨"LinkTimesModel", "readLine", "()Z"⟩, prog_12_method_31_code, 1, (some .boolean), t_Mo_readLine_0)
theorem ok_Mo_readLine : mOK m_Mo_readLine := ⟨by decide, tm 1410 (by decide +kernel) rfl, t_Mo_readLine_0_ok, tm 123 (by decide +kernel) rfl, by decide, by decide⟩
theorem vm_Mo_readLine : mVt m_Mo_readLine := ⟨tm 1409 (by decide +kernel) rfl, tm 59 (by decide +kernel) rfl⟩
def t_Mo_readAll_0 : List (Nat × Instr × Nat) := [(0, (.aload_n 0, 1)), (1, (.iload_n 1, 1)), (2, (.putfield 91, 3)), (5, (.aload_n 0, 1)), (6, (.iconst 0, 1)), (7, (.putfield 94, 3)), (10, (.aload_n 0, 1)), (11, (.iconst 0, 1)), (12, (.putfield 166, 3)), (15, (.iconst 1, 1)), (16, (.istore_n 2, 1)), (17, (.iload_n 2, 1)), (18, (.iconst 4, 1)), (19, (.if_icmp .gt 16, 3)), (22, (.aload_n 0, 1)), (23, (.getfield 20, 3)), (26, (.iload_n 2, 1)), (27, (.iconst 0, 1)), (28, (.iastore, 1)), (29, (.iinc 2 1, 3)), (32, (.goto (-15), 3)), (35, (.aload_n 0, 1)), (36, (.invokevirtual 134, 3)), (39, (.aload_n 0, 1)), (40, (.invokevirtual 225, 3)), (43, (.ifCond .ne 5, 3)), (46, (.iconst 0, 1)), (47, (.ireturn, 1)), (48, (.aload_n 0, 1)), (49, (.getfield 104, 3)), (52, (.bipush 59, 2)), (54, (.if_icmp .ne 16, 3)), (57, (.aload_n 0, 1)), (58, (.invokevirtual 134, 3)), (61, (.aload_n 0, 1)), (62, (.invokevirtual 225, 3)), (65, (.ifCond .ne (-17), 3)), (68, (.iconst 0, 1)), (69, (.ireturn, 1)), (70, (.aload_n 0, 1)), (71, (.getfield 104, 3)), (74, (.ifCond .eq 9, 3)), (77, (.aload_n 0, 1)), (78, (.iconst 1, 1)), (79, (.invokevirtual 130, 3)), (82, (.ireturn, 1)), (83, (.aload_n 0, 1)), (84, (.getfield 20, 3)), (87, (.iconst 1, 1)), (88, (.iaload, 1))]
theorem t_Mo_readAll_0_ok : ∀ q ∈ t_Mo_readAll_0, decode prog_12_method_32_code q.1 = .ok q.2 := by decide +kernel
def t_Mo_readAll_1 : List (Nat × Instr × Nat) := [(89, (.ifCond .gt 12, 3)), (92, (.aload_n 0, 1)), (93, (.bipush 6, 2)), (95, (.invokevirtual 130, 3)), (98, (.ifCond .eq 7, 3)), (101, (.iconst 1, 1)), (102, (.goto 4, 3)), (105, (.iconst 0, 1)), (106, (.ireturn, 1))]
theorem t_Mo_readAll_1_ok : ∀ q ∈ t_Mo_readAll_1, decode prog_12_method_32_code q.1 = .ok q.2 := by decide +kernel
def m_Mo_readAll : mM := (⟨"LinkTimesModel", "readAll", "(I)Z"⟩, prog_12_method_32_code, 3, (some .boolean), t_Mo_readAll_0 ++ t_Mo_readAll_1)
theorem ok_Mo_readAll : mOK m_Mo_readAll := ⟨by decide, tm 1398 (by decide +kernel) rfl, all_app (t_Mo_readAll_0_ok) t_Mo_readAll_1_ok, tm 123 (by decide +kernel) rfl, by decide, by decide⟩
theorem vm_Mo_readAll : mVt m_Mo_readAll := ⟨tm 1397 (by decide +kernel) rfl, tm 56 (by decide +kernel) rfl⟩
def t_Mo_desk_0 : List (Nat × Instr × Nat) := [(0, (.aload_n 0, 1)), (1, (.iload_n 1, 1)), (2, (.iconst 0, 1)), (3, (.aload_n 0, 1)), (4, (.getfield 84, 3)), (7, (.invokestatic 107, 3)), (10, (.ifCond .eq 7, 3)), (13, (.iconst 0, 1)), (14, (.goto 4, 3)), (17, (.iconst 2, 1)), (18, (.invokevirtual 228, 3)), (21, (.ifCond .eq 5, 3)), (24, (.iconst (-1), 1)), (25, (.ireturn, 1)), (26, (.aload_n 0, 1)), (27, (.iconst 0, 1)), (28, (.putfield 84, 3)), (31, (.aload_n 0, 1)), (32, (.iconst 0, 1)), (33, (.putfield 231, 3)), (36, (.aload_n 0, 1)), (37, (.iload_n 1, 1)), (38, (.invokevirtual 234, 3)), (41, (.ifCond .ne 25, 3)), (44, (.aload_n 0, 1)), (45, (.aload_n 0, 1)), (46, (.getfield 124, 3)), (49, (.putfield 231, 3)), (52, (.aload_n 0, 1)), (53, (.aload_n 0, 1)), (54, (.getfield 127, 3)), (57, (.putfield 9, 3)), (60, (.aload_n 0, 1)), (61, (.iconst 4, 1)), (62, (.invokevirtual 237, 3)), (65, (.ireturn, 1)), (66, (.aload_n 0, 1)), (67, (.getfield 20, 3)), (70, (.iconst 0, 1)), (71, (.aload_n 0, 1)), (72, (.getfield 17, 3)), (75, (.iconst 0, 1)), (76, (.invokestatic 240, 3)), (79, (.aload_n 0, 1)), (80, (.iconst 1, 1)), (81, (.putfield 244, 3)), (84, (.aload_n 0, 1)), (85, (.iconst 0, 1)), (86, (.putfield 247, 3)), (89, (.aload_n 0, 1))]
theorem t_Mo_desk_0_ok : ∀ q ∈ t_Mo_desk_0, decode prog_12_method_33_code q.1 = .ok q.2 := by decide +kernel
def t_Mo_desk_1 : List (Nat × Instr × Nat) := [(90, (.getfield 17, 3)), (93, (.iconst 4, 1)), (94, (.iaload, 1)), (95, (.ireturn, 1))]
theorem t_Mo_desk_1_ok : ∀ q ∈ t_Mo_desk_1, decode prog_12_method_33_code q.1 = .ok q.2 := by decide +kernel
def m_Mo_desk : mM := (⟨"LinkTimesModel", "desk", "(I)I"⟩, prog_12_method_33_code, 2, (some .int), t_Mo_desk_0 ++ t_Mo_desk_1)
theorem ok_Mo_desk : mOK m_Mo_desk := ⟨by decide, tm 1387 (by decide +kernel) rfl, all_app (t_Mo_desk_0_ok) t_Mo_desk_1_ok, tm 123 (by decide +kernel) rfl, by decide, by decide⟩
theorem vm_Mo_desk : mVt m_Mo_desk := ⟨tm 1385 (by decide +kernel) rfl, tm 1386 (by decide +kernel) rfl⟩
def t_Mo_copies_0 : List (Nat × Instr × Nat) := [(0, (.iconst 0, 1)), (1, (.istore 4, 2)), (3, (.iload 4, 2)), (5, (.sipush 985, 3)), (8, (.if_icmp .ge 21, 3)), (11, (.aload_n 2, 1)), (12, (.iload_n 3, 1)), (13, (.iload 4, 2)), (15, (.iadd, 1)), (16, (.aload_n 0, 1)), (17, (.iload_n 1, 1)), (18, (.iload 4, 2)), (20, (.iadd, 1)), (21, (.iaload, 1)), (22, (.iastore, 1)), (23, (.iinc 4 1, 3)), (26, (.goto (-23), 3)), (29, (.return_, 1))]
theorem t_Mo_copies_0_ok : ∀ q ∈ t_Mo_copies_0, decode prog_12_method_34_code q.1 = .ok q.2 := by decide +kernel
def m_Mo_copies : mM := (⟨"LinkTimesModel", "copies", "([II[II)V"⟩, prog_12_method_34_code, 5, none, t_Mo_copies_0)
theorem ok_Mo_copies : mOK m_Mo_copies := ⟨by decide, tm 1501 (by decide +kernel) rfl, t_Mo_copies_0_ok, tm 123 (by decide +kernel) rfl, by decide, by decide⟩
theorem sm_Mo_copies : Cond.static m_Mo_copies.1 ∈ t0_ws := tm 1500 (by decide +kernel) rfl
def t_Mo_fault_0 : List (Nat × Instr × Nat) := [(0, (.aload_n 0, 1)), (1, (.iconst 0, 1)), (2, (.putfield 78, 3)), (5, (.aload_n 0, 1)), (6, (.getfield 231, 3)), (9, (.ireturn, 1))]
theorem t_Mo_fault_0_ok : ∀ q ∈ t_Mo_fault_0, decode prog_12_method_35_code q.1 = .ok q.2 := by decide +kernel
def m_Mo_fault : mM := (⟨"LinkTimesModel", "fault", "()I"⟩, prog_12_method_35_code, 1, (some .int), t_Mo_fault_0)
theorem ok_Mo_fault : mOK m_Mo_fault := ⟨by decide, tm 1505 (by decide +kernel) rfl, t_Mo_fault_0_ok, tm 123 (by decide +kernel) rfl, by decide, by decide⟩
theorem vm_Mo_fault : mVt m_Mo_fault := ⟨tm 1503 (by decide +kernel) rfl, tm 1504 (by decide +kernel) rfl⟩
def t_Mo_where_0 : List (Nat × Instr × Nat) := [(0, (.aload_n 0, 1)), (1, (.iconst 0, 1)), (2, (.putfield 78, 3)), (5, (.aload_n 0, 1)), (6, (.getfield 81, 3)), (9, (.iconst 4, 1)), (10, (.if_icmp .ne 10, 3)), (13, (.aload_n 0, 1)), (14, (.getfield 9, 3)), (17, (.goto 4, 3)), (20, (.iconst (-1), 1)), (21, (.ireturn, 1))]
theorem t_Mo_where_0_ok : ∀ q ∈ t_Mo_where_0, decode prog_12_method_36_code q.1 = .ok q.2 := by decide +kernel
def m_Mo_where : mM := (⟨"LinkTimesModel", "where", "()I"⟩, prog_12_method_36_code, 1, (some .int), t_Mo_where_0)
theorem ok_Mo_where : mOK m_Mo_where := ⟨by decide, tm 1509 (by decide +kernel) rfl, t_Mo_where_0_ok, tm 123 (by decide +kernel) rfl, by decide, by decide⟩
theorem vm_Mo_where : mVt m_Mo_where := ⟨tm 1507 (by decide +kernel) rfl, tm 1508 (by decide +kernel) rfl⟩
def t_Mo_isSpot_0 : List (Nat × Instr × Nat) := [(0, (.aload_n 0, 1)), (1, (.getfield 244, 3)), (4, (.ifCond .eq 23, 3)), (7, (.iload_n 1, 1)), (8, (.iconst 0, 1)), (9, (.aload_n 0, 1)), (10, (.getfield 17, 3)), (13, (.iconst 1, 1)), (14, (.iaload, 1)), (15, (.iconst 1, 1)), (16, (.isub, 1)), (17, (.invokestatic 107, 3)), (20, (.ifCond .eq 7, 3)), (23, (.iconst 1, 1)), (24, (.goto 4, 3)), (27, (.iconst 0, 1)), (28, (.ireturn, 1))]
theorem t_Mo_isSpot_0_ok : ∀ q ∈ t_Mo_isSpot_0, decode prog_12_method_37_code q.1 = .ok q.2 := by decide +kernel
def m_Mo_isSpot : mM := (⟨"LinkTimesModel", "isSpot", "(I)Z"⟩, prog_12_method_37_code, 2, (some .boolean), t_Mo_isSpot_0)
theorem ok_Mo_isSpot : mOK m_Mo_isSpot := ⟨by decide, tm 1532 (by decide +kernel) rfl, t_Mo_isSpot_0_ok, tm 123 (by decide +kernel) rfl, by decide, by decide⟩
theorem vm_Mo_isSpot : mVt m_Mo_isSpot := ⟨tm 1531 (by decide +kernel) rfl, tm 78 (by decide +kernel) rfl⟩
def t_Mo_isOne_0 : List (Nat × Instr × Nat) := [(0, (.aload_n 0, 1)), (1, (.getfield 244, 3)), (4, (.ifCond .eq 23, 3)), (7, (.iload_n 1, 1)), (8, (.iconst 0, 1)), (9, (.aload_n 0, 1)), (10, (.getfield 17, 3)), (13, (.iconst 4, 1)), (14, (.iaload, 1)), (15, (.iconst 1, 1)), (16, (.isub, 1)), (17, (.invokestatic 107, 3)), (20, (.ifCond .eq 7, 3)), (23, (.iconst 1, 1)), (24, (.goto 4, 3)), (27, (.iconst 0, 1)), (28, (.ireturn, 1))]
theorem t_Mo_isOne_0_ok : ∀ q ∈ t_Mo_isOne_0, decode prog_12_method_38_code q.1 = .ok q.2 := by decide +kernel
def m_Mo_isOne : mM := (⟨"LinkTimesModel", "isOne", "(I)Z"⟩, prog_12_method_38_code, 2, (some .boolean), t_Mo_isOne_0)
theorem ok_Mo_isOne : mOK m_Mo_isOne := ⟨by decide, tm 1544 (by decide +kernel) rfl, t_Mo_isOne_0_ok, tm 123 (by decide +kernel) rfl, by decide, by decide⟩
theorem vm_Mo_isOne : mVt m_Mo_isOne := ⟨tm 1543 (by decide +kernel) rfl, tm 80 (by decide +kernel) rfl⟩
def t_Mo_runs_0 : List (Nat × Instr × Nat) := [(0, (.aload_n 0, 1)), (1, (.getfield 17, 3)), (4, (.iload_n 1, 1)), (5, (.bipush 6, 2)), (7, (.invokestatic 209, 3)), (10, (.iaload, 1)), (11, (.iconst 1, 1)), (12, (.if_icmp .ne 7, 3)), (15, (.iconst 1, 1)), (16, (.goto 4, 3)), (19, (.iconst 0, 1)), (20, (.ireturn, 1))]
theorem t_Mo_runs_0_ok : ∀ q ∈ t_Mo_runs_0, decode prog_12_method_39_code q.1 = .ok q.2 := by decide +kernel
def m_Mo_runs : mM := (⟨"LinkTimesModel", "runs", "(I)Z"⟩, prog_12_method_39_code, 2, (some .boolean), t_Mo_runs_0)
theorem ok_Mo_runs : mOK m_Mo_runs := ⟨by decide, tm 1524 (by decide +kernel) rfl, t_Mo_runs_0_ok, tm 123 (by decide +kernel) rfl, by decide, by decide⟩
theorem vm_Mo_runs : mVt m_Mo_runs := ⟨tm 1523 (by decide +kernel) rfl, tm 77 (by decide +kernel) rfl⟩
def t_Mo_leavesAt_0 : List (Nat × Instr × Nat) := [(0, (.aload_n 0, 1)), (1, (.getfield 17, 3)), (4, (.iload_n 1, 1)), (5, (.iconst 3, 1)), (6, (.invokestatic 209, 3)), (9, (.iaload, 1)), (10, (.aload_n 0, 1)), (11, (.getfield 17, 3)), (14, (.iload_n 1, 1)), (15, (.iconst 5, 1)), (16, (.invokestatic 209, 3)), (19, (.iaload, 1)), (20, (.iadd, 1)), (21, (.ireturn, 1))]
theorem t_Mo_leavesAt_0_ok : ∀ q ∈ t_Mo_leavesAt_0, decode prog_12_method_40_code q.1 = .ok q.2 := by decide +kernel
def m_Mo_leavesAt : mM := (⟨"LinkTimesModel", "leavesAt", "(I)I"⟩, prog_12_method_40_code, 2, (some .int), t_Mo_leavesAt_0)
theorem ok_Mo_leavesAt : mOK m_Mo_leavesAt := ⟨by decide, tm 1548 (by decide +kernel) rfl, t_Mo_leavesAt_0_ok, tm 123 (by decide +kernel) rfl, by decide, by decide⟩
theorem vm_Mo_leavesAt : mVt m_Mo_leavesAt := ⟨tm 1547 (by decide +kernel) rfl, tm 81 (by decide +kernel) rfl⟩
def t_Mo_arrivesAt_0 : List (Nat × Instr × Nat) := [(0, (.aload_n 0, 1)), (1, (.iload_n 1, 1)), (2, (.invokevirtual 250, 3)), (5, (.aload_n 0, 1)), (6, (.getfield 17, 3)), (9, (.iload_n 1, 1)), (10, (.iconst 4, 1)), (11, (.invokestatic 209, 3)), (14, (.iaload, 1)), (15, (.iadd, 1)), (16, (.ireturn, 1))]
theorem t_Mo_arrivesAt_0_ok : ∀ q ∈ t_Mo_arrivesAt_0, decode prog_12_method_41_code q.1 = .ok q.2 := by decide +kernel
def m_Mo_arrivesAt : mM := (⟨"LinkTimesModel", "arrivesAt", "(I)I"⟩, prog_12_method_41_code, 2, (some .int), t_Mo_arrivesAt_0)
theorem ok_Mo_arrivesAt : mOK m_Mo_arrivesAt := ⟨by decide, tm 1552 (by decide +kernel) rfl, t_Mo_arrivesAt_0_ok, tm 123 (by decide +kernel) rfl, by decide, by decide⟩
theorem vm_Mo_arrivesAt : mVt m_Mo_arrivesAt := ⟨tm 1551 (by decide +kernel) rfl, tm 82 (by decide +kernel) rfl⟩
def t_Mo_runMany_0 : List (Nat × Instr × Nat) := [(0, (.iconst 0, 1)), (1, (.istore_n 1, 1)), (2, (.iconst 0, 1)), (3, (.istore_n 2, 1)), (4, (.iload_n 2, 1)), (5, (.aload_n 0, 1)), (6, (.getfield 17, 3)), (9, (.iconst 4, 1)), (10, (.iaload, 1)), (11, (.if_icmp .ge 25, 3)), (14, (.iload_n 1, 1)), (15, (.aload_n 0, 1)), (16, (.iload_n 2, 1)), (17, (.invokevirtual 253, 3)), (20, (.ifCond .eq 7, 3)), (23, (.iconst 1, 1)), (24, (.goto 4, 3)), (27, (.iconst 0, 1)), (28, (.iadd, 1)), (29, (.istore_n 1, 1)), (30, (.iinc 2 1, 3)), (33, (.goto (-29), 3)), (36, (.iload_n 1, 1)), (37, (.ireturn, 1))]
theorem t_Mo_runMany_0_ok : ∀ q ∈ t_Mo_runMany_0, decode prog_12_method_42_code q.1 = .ok q.2 := by decide +kernel
def m_Mo_runMany : mM := (⟨"LinkTimesModel", "runMany", "()I"⟩, prog_12_method_42_code, 3, (some .int), t_Mo_runMany_0)
theorem ok_Mo_runMany : mOK m_Mo_runMany := ⟨by decide, tm 1520 (by decide +kernel) rfl, t_Mo_runMany_0_ok, tm 123 (by decide +kernel) rfl, by decide, by decide⟩
theorem vm_Mo_runMany : mVt m_Mo_runMany := ⟨tm 1519 (by decide +kernel) rfl, tm 76 (by decide +kernel) rfl⟩
def t_Mo_about_0 : List (Nat × Instr × Nat) := [(0, (.aload_n 0, 1)), (1, (.aload_n 0, 1)), (2, (.getfield 244, 3)), (5, (.ifCond .eq 16, 3)), (8, (.iload_n 1, 1)), (9, (.iconst 0, 1)), (10, (.iconst 5, 1)), (11, (.invokestatic 107, 3)), (14, (.ifCond .eq 7, 3)), (17, (.iconst 1, 1)), (18, (.goto 4, 3)), (21, (.iconst 0, 1)), (22, (.invokestatic 256, 3)), (25, (.invokevirtual 228, 3)), (28, (.ifCond .eq 5, 3)), (31, (.iconst (-1), 1)), (32, (.ireturn, 1)), (33, (.iload_n 1, 1)), (34, (.iconst 5, 1)), (35, (.if_icmp .ne 10, 3)), (38, (.aload_n 0, 1)), (39, (.invokevirtual 260, 3)), (42, (.goto 9, 3)), (45, (.aload_n 0, 1)), (46, (.getfield 17, 3)), (49, (.iload_n 1, 1)), (50, (.iaload, 1)), (51, (.ireturn, 1))]
theorem t_Mo_about_0_ok : ∀ q ∈ t_Mo_about_0, decode prog_12_method_43_code q.1 = .ok q.2 := by decide +kernel
def m_Mo_about : mM := (⟨"LinkTimesModel", "about", "(I)I"⟩, prog_12_method_43_code, 2, (some .int), t_Mo_about_0)
theorem ok_Mo_about : mOK m_Mo_about := ⟨by decide, tm 1513 (by decide +kernel) rfl, t_Mo_about_0_ok, tm 123 (by decide +kernel) rfl, by decide, by decide⟩
theorem vm_Mo_about : mVt m_Mo_about := ⟨tm 1511 (by decide +kernel) rfl, tm 1512 (by decide +kernel) rfl⟩
def t_Mo_runsBy_0 : List (Nat × Instr × Nat) := [(0, (.iconst 0, 1)), (1, (.istore_n 3, 1)), (2, (.iconst 0, 1)), (3, (.istore 4, 2)), (5, (.iload 4, 2)), (7, (.aload_n 0, 1)), (8, (.getfield 17, 3)), (11, (.iconst 4, 1)), (12, (.iaload, 1)), (13, (.if_icmp .ge 41, 3)), (16, (.iload_n 3, 1)), (17, (.aload_n 0, 1)), (18, (.iload 4, 2)), (20, (.invokevirtual 253, 3)), (23, (.ifCond .eq 22, 3)), (26, (.aload_n 0, 1)), (27, (.getfield 17, 3)), (30, (.iload 4, 2)), (32, (.iload_n 2, 1)), (33, (.invokestatic 209, 3)), (36, (.iaload, 1)), (37, (.iload_n 1, 1)), (38, (.if_icmp .ne 7, 3)), (41, (.iconst 1, 1)), (42, (.goto 4, 3)), (45, (.iconst 0, 1)), (46, (.iadd, 1)), (47, (.istore_n 3, 1)), (48, (.iinc 4 1, 3)), (51, (.goto (-46), 3)), (54, (.iload_n 3, 1)), (55, (.ireturn, 1))]
theorem t_Mo_runsBy_0_ok : ∀ q ∈ t_Mo_runsBy_0, decode prog_12_method_44_code q.1 = .ok q.2 := by decide +kernel
def m_Mo_runsBy : mM := (⟨"LinkTimesModel", "runsBy", "(II)I"⟩, prog_12_method_44_code, 5, (some .int), t_Mo_runsBy_0)
theorem ok_Mo_runsBy : mOK m_Mo_runsBy := ⟨by decide, tm 1536 (by decide +kernel) rfl, t_Mo_runsBy_0_ok, tm 123 (by decide +kernel) rfl, by decide, by decide⟩
theorem vm_Mo_runsBy : mVt m_Mo_runsBy := ⟨tm 1535 (by decide +kernel) rfl, tm 79 (by decide +kernel) rfl⟩
def t_Mo_spot_0 : List (Nat × Instr × Nat) := [(0, (.aload_n 0, 1)), (1, (.aload_n 0, 1)), (2, (.iload_n 1, 1)), (3, (.invokevirtual 263, 3)), (6, (.ifCond .eq 16, 3)), (9, (.iload_n 2, 1)), (10, (.iconst 0, 1)), (11, (.iconst 3, 1)), (12, (.invokestatic 107, 3)), (15, (.ifCond .eq 7, 3)), (18, (.iconst 1, 1)), (19, (.goto 4, 3)), (22, (.iconst 0, 1)), (23, (.invokestatic 256, 3)), (26, (.invokevirtual 228, 3)), (29, (.ifCond .eq 5, 3)), (32, (.iconst (-1), 1)), (33, (.ireturn, 1)), (34, (.iload_n 2, 1)), (35, (.tableswitch 51 0 2 #[25, 34, 44], 25)), (60, (.aload_n 0, 1)), (61, (.getfield 17, 3)), (64, (.iconst 5, 1)), (65, (.iload_n 1, 1)), (66, (.iadd, 1)), (67, (.iaload, 1)), (68, (.ireturn, 1)), (69, (.aload_n 0, 1)), (70, (.getfield 17, 3)), (73, (.bipush 15, 2)), (75, (.iload_n 1, 1)), (76, (.iadd, 1)), (77, (.iaload, 1)), (78, (.ireturn, 1)), (79, (.aload_n 0, 1)), (80, (.iload_n 1, 1)), (81, (.iconst 1, 1)), (82, (.invokevirtual 266, 3)), (85, (.ireturn, 1)), (86, (.aload_n 0, 1)), (87, (.iload_n 1, 1)), (88, (.iconst 2, 1)), (89, (.invokevirtual 266, 3)), (92, (.ireturn, 1))]
theorem t_Mo_spot_0_ok : ∀ q ∈ t_Mo_spot_0, decode prog_12_method_45_code q.1 = .ok q.2 := by decide +kernel
def m_Mo_spot : mM := (⟨"LinkTimesModel", "spot", "(II)I"⟩, prog_12_method_45_code, 3, (some .int), t_Mo_spot_0)
theorem ok_Mo_spot : mOK m_Mo_spot := ⟨by decide, tm 1528 (by decide +kernel) rfl, t_Mo_spot_0_ok, tm 123 (by decide +kernel) rfl, by decide, by decide⟩
theorem vm_Mo_spot : mVt m_Mo_spot := ⟨tm 1526 (by decide +kernel) rfl, tm 1527 (by decide +kernel) rfl⟩
def t_Mo_departure_0 : List (Nat × Instr × Nat) := [(0, (.aload_n 0, 1)), (1, (.aload_n 0, 1)), (2, (.iload_n 1, 1)), (3, (.invokevirtual 269, 3)), (6, (.ifCond .eq 17, 3)), (9, (.iload_n 2, 1)), (10, (.iconst 0, 1)), (11, (.bipush 7, 2)), (13, (.invokestatic 107, 3)), (16, (.ifCond .eq 7, 3)), (19, (.iconst 1, 1)), (20, (.goto 4, 3)), (23, (.iconst 0, 1)), (24, (.invokestatic 256, 3)), (27, (.invokevirtual 228, 3)), (30, (.ifCond .eq 5, 3)), (33, (.iconst (-1), 1)), (34, (.ireturn, 1)), (35, (.iload_n 2, 1)), (36, (.iconst 3, 1)), (37, (.if_icmp .ne 11, 3)), (40, (.aload_n 0, 1)), (41, (.iload_n 1, 1)), (42, (.invokevirtual 250, 3)), (45, (.goto 26, 3)), (48, (.iload_n 2, 1)), (49, (.iconst 4, 1)), (50, (.if_icmp .ne 11, 3)), (53, (.aload_n 0, 1)), (54, (.iload_n 1, 1)), (55, (.invokevirtual 272, 3)), (58, (.goto 13, 3)), (61, (.aload_n 0, 1)), (62, (.getfield 17, 3)), (65, (.iload_n 1, 1)), (66, (.iload_n 2, 1)), (67, (.invokestatic 209, 3)), (70, (.iaload, 1)), (71, (.ireturn, 1))]
theorem t_Mo_departure_0_ok : ∀ q ∈ t_Mo_departure_0, decode prog_12_method_46_code q.1 = .ok q.2 := by decide +kernel
def m_Mo_departure : mM := (⟨"LinkTimesModel", "departure", "(II)I"⟩, prog_12_method_46_code, 3, (some .int), t_Mo_departure_0)
theorem ok_Mo_departure : mOK m_Mo_departure := ⟨by decide, tm 1540 (by decide +kernel) rfl, t_Mo_departure_0_ok, tm 123 (by decide +kernel) rfl, by decide, by decide⟩
theorem vm_Mo_departure : mVt m_Mo_departure := ⟨tm 1538 (by decide +kernel) rfl, tm 1539 (by decide +kernel) rfl⟩
def t_Mo_ordered_0 : List (Nat × Instr × Nat) := [(0, (.aload_n 0, 1)), (1, (.aload_n 0, 1)), (2, (.getfield 244, 3)), (5, (.invokestatic 256, 3)), (8, (.invokevirtual 228, 3)), (11, (.ifCond .eq 5, 3)), (14, (.iconst (-1), 1)), (15, (.ireturn, 1)), (16, (.iconst 0, 1)), (17, (.istore_n 2, 1)), (18, (.iload_n 2, 1)), (19, (.aload_n 0, 1)), (20, (.getfield 17, 3)), (23, (.iconst 4, 1)), (24, (.iaload, 1)), (25, (.if_icmp .ge 100, 3)), (28, (.aload_n 0, 1)), (29, (.iload_n 2, 1)), (30, (.invokevirtual 253, 3)), (33, (.ifCond .ne 6, 3)), (36, (.goto 83, 3)), (39, (.iconst 0, 1)), (40, (.istore_n 3, 1)), (41, (.iconst 0, 1)), (42, (.istore 4, 2)), (44, (.iload 4, 2)), (46, (.aload_n 0, 1)), (47, (.getfield 17, 3)), (50, (.iconst 4, 1)), (51, (.iaload, 1)), (52, (.if_icmp .ge 60, 3)), (55, (.iload_n 3, 1)), (56, (.aload_n 0, 1)), (57, (.iload 4, 2)), (59, (.invokevirtual 253, 3)), (62, (.ifCond .eq 41, 3)), (65, (.aload_n 0, 1)), (66, (.iload 4, 2)), (68, (.invokevirtual 250, 3)), (71, (.aload_n 0, 1)), (72, (.iload_n 2, 1)), (73, (.invokevirtual 250, 3)), (76, (.if_icmp .lt 23, 3)), (79, (.aload_n 0, 1)), (80, (.iload 4, 2)), (82, (.invokevirtual 250, 3)), (85, (.aload_n 0, 1)), (86, (.iload_n 2, 1)), (87, (.invokevirtual 250, 3)), (90, (.if_icmp .ne 13, 3))]
theorem t_Mo_ordered_0_ok : ∀ q ∈ t_Mo_ordered_0, decode prog_12_method_47_code q.1 = .ok q.2 := by decide +kernel
def t_Mo_ordered_1 : List (Nat × Instr × Nat) := [(93, (.iload 4, 2)), (95, (.iload_n 2, 1)), (96, (.if_icmp .ge 7, 3)), (99, (.iconst 1, 1)), (100, (.goto 4, 3)), (103, (.iconst 0, 1)), (104, (.iadd, 1)), (105, (.istore_n 3, 1)), (106, (.iinc 4 1, 3)), (109, (.goto (-65), 3)), (112, (.iload_n 3, 1)), (113, (.iload_n 1, 1)), (114, (.if_icmp .ne 5, 3)), (117, (.iload_n 2, 1)), (118, (.ireturn, 1)), (119, (.iinc 2 1, 3)), (122, (.goto (-104), 3)), (125, (.aload_n 0, 1)), (126, (.iconst 1, 1)), (127, (.invokevirtual 237, 3)), (130, (.ireturn, 1))]
theorem t_Mo_ordered_1_ok : ∀ q ∈ t_Mo_ordered_1, decode prog_12_method_47_code q.1 = .ok q.2 := by decide +kernel
def m_Mo_ordered : mM := (⟨"LinkTimesModel", "ordered", "(I)I"⟩, prog_12_method_47_code, 5, (some .int), t_Mo_ordered_0 ++ t_Mo_ordered_1)
theorem ok_Mo_ordered : mOK m_Mo_ordered := ⟨by decide, tm 1556 (by decide +kernel) rfl, all_app (t_Mo_ordered_0_ok) t_Mo_ordered_1_ok, tm 123 (by decide +kernel) rfl, by decide, by decide⟩
theorem vm_Mo_ordered : mVt m_Mo_ordered := ⟨tm 1554 (by decide +kernel) rfl, tm 1555 (by decide +kernel) rfl⟩
def t_Mo_sorts_0 : List (Nat × Instr × Nat) := [(0, (.aload_n 0, 1)), (1, (.iconst 0, 1)), (2, (.putfield 275, 3)), (5, (.iconst 0, 1)), (6, (.istore_n 1, 1)), (7, (.iload_n 1, 1)), (8, (.aload_n 0, 1)), (9, (.getfield 17, 3)), (12, (.iconst 4, 1)), (13, (.iaload, 1)), (14, (.if_icmp .ge 86, 3)), (17, (.aload_n 0, 1)), (18, (.iload_n 1, 1)), (19, (.invokevirtual 253, 3)), (22, (.ifCond .ne 6, 3)), (25, (.goto 69, 3)), (28, (.aload_n 0, 1)), (29, (.getfield 275, 3)), (32, (.istore_n 2, 1)), (33, (.iload_n 2, 1)), (34, (.ifCond .le 43, 3)), (37, (.aload_n 0, 1)), (38, (.aload_n 0, 1)), (39, (.getfield 51, 3)), (42, (.iload_n 2, 1)), (43, (.iconst 1, 1)), (44, (.isub, 1)), (45, (.iaload, 1)), (46, (.invokevirtual 250, 3)), (49, (.aload_n 0, 1)), (50, (.iload_n 1, 1)), (51, (.invokevirtual 250, 3)), (54, (.if_icmp .ge 23, 3)), (57, (.aload_n 0, 1)), (58, (.getfield 51, 3)), (61, (.iload_n 2, 1)), (62, (.aload_n 0, 1)), (63, (.getfield 51, 3)), (66, (.iload_n 2, 1)), (67, (.iconst 1, 1)), (68, (.isub, 1)), (69, (.iaload, 1)), (70, (.iastore, 1)), (71, (.iinc 2 (-1), 3)), (74, (.goto (-41), 3)), (77, (.aload_n 0, 1)), (78, (.getfield 51, 3)), (81, (.iload_n 2, 1)), (82, (.iload_n 1, 1)), (83, (.iastore, 1))]
theorem t_Mo_sorts_0_ok : ∀ q ∈ t_Mo_sorts_0, decode prog_12_method_48_code q.1 = .ok q.2 := by decide +kernel
def t_Mo_sorts_1 : List (Nat × Instr × Nat) := [(84, (.aload_n 0, 1)), (85, (.dup, 1)), (86, (.getfield 275, 3)), (89, (.iconst 1, 1)), (90, (.iadd, 1)), (91, (.putfield 275, 3)), (94, (.iinc 1 1, 3)), (97, (.goto (-90), 3)), (100, (.return_, 1))]
theorem t_Mo_sorts_1_ok : ∀ q ∈ t_Mo_sorts_1, decode prog_12_method_48_code q.1 = .ok q.2 := by decide +kernel
def m_Mo_sorts : mM := (⟨"LinkTimesModel", "sorts", "()V"⟩, prog_12_method_48_code, 3, none, t_Mo_sorts_0 ++ t_Mo_sorts_1)
theorem ok_Mo_sorts : mOK m_Mo_sorts := ⟨by decide, tm 1579 (by decide +kernel) rfl, all_app (t_Mo_sorts_0_ok) t_Mo_sorts_1_ok, tm 123 (by decide +kernel) rfl, by decide, by decide⟩
theorem vm_Mo_sorts : mVt m_Mo_sorts := ⟨tm 1578 (by decide +kernel) rfl, tm 86 (by decide +kernel) rfl⟩
def t_Mo_canFollow_0 : List (Nat × Instr × Nat) := [(0, (.aload_n 0, 1)), (1, (.getfield 17, 3)), (4, (.iload_n 1, 1)), (5, (.iconst 2, 1)), (6, (.invokestatic 209, 3)), (9, (.iaload, 1)), (10, (.istore_n 3, 1)), (11, (.aload_n 0, 1)), (12, (.iload_n 2, 1)), (13, (.invokevirtual 250, 3)), (16, (.aload_n 0, 1)), (17, (.iload_n 1, 1)), (18, (.invokevirtual 272, 3)), (21, (.isub, 1)), (22, (.istore 4, 2)), (24, (.aload_n 0, 1)), (25, (.getfield 17, 3)), (28, (.iload_n 2, 1)), (29, (.iconst 1, 1)), (30, (.invokestatic 209, 3)), (33, (.iaload, 1)), (34, (.iload_n 3, 1)), (35, (.if_icmp .ne 36, 3)), (38, (.iload 4, 2)), (40, (.ifCond .lt 31, 3)), (43, (.aload_n 0, 1)), (44, (.getfield 17, 3)), (47, (.bipush 15, 2)), (49, (.iload_n 3, 1)), (50, (.iadd, 1)), (51, (.iaload, 1)), (52, (.bipush (-2), 2)), (54, (.if_icmp .eq 19, 3)), (57, (.iload 4, 2)), (59, (.aload_n 0, 1)), (60, (.getfield 17, 3)), (63, (.bipush 15, 2)), (65, (.iload_n 3, 1)), (66, (.iadd, 1)), (67, (.iaload, 1)), (68, (.if_icmp .le 5, 3)), (71, (.iconst 0, 1)), (72, (.ireturn, 1)), (73, (.aload_n 0, 1)), (74, (.getfield 17, 3)), (77, (.iload_n 1, 1)), (78, (.iconst 0, 1)), (79, (.invokestatic 209, 3)), (82, (.iaload, 1)), (83, (.aload_n 0, 1))]
theorem t_Mo_canFollow_0_ok : ∀ q ∈ t_Mo_canFollow_0, decode prog_12_method_49_code q.1 = .ok q.2 := by decide +kernel
def t_Mo_canFollow_1 : List (Nat × Instr × Nat) := [(84, (.getfield 17, 3)), (87, (.iload_n 2, 1)), (88, (.iconst 0, 1)), (89, (.invokestatic 209, 3)), (92, (.iaload, 1)), (93, (.if_icmp .eq 16, 3)), (96, (.iload 4, 2)), (98, (.aload_n 0, 1)), (99, (.getfield 17, 3)), (102, (.iconst 5, 1)), (103, (.iload_n 3, 1)), (104, (.iadd, 1)), (105, (.iaload, 1)), (106, (.if_icmp .lt 7, 3)), (109, (.iconst 1, 1)), (110, (.goto 4, 3)), (113, (.iconst 0, 1)), (114, (.ireturn, 1))]
theorem t_Mo_canFollow_1_ok : ∀ q ∈ t_Mo_canFollow_1, decode prog_12_method_49_code q.1 = .ok q.2 := by decide +kernel
def m_Mo_canFollow : mM := (⟨"LinkTimesModel", "canFollow", "(II)Z"⟩, prog_12_method_49_code, 5, (some .boolean), t_Mo_canFollow_0 ++ t_Mo_canFollow_1)
theorem ok_Mo_canFollow : mOK m_Mo_canFollow := ⟨by decide, tm 1587 (by decide +kernel) rfl, all_app (t_Mo_canFollow_0_ok) t_Mo_canFollow_1_ok, tm 123 (by decide +kernel) rfl, by decide, by decide⟩
theorem vm_Mo_canFollow : mVt m_Mo_canFollow := ⟨tm 1586 (by decide +kernel) rfl, tm 88 (by decide +kernel) rfl⟩
def t_Mo_turns_0 : List (Nat × Instr × Nat) := [(0, (.aload_n 0, 1)), (1, (.getfield 17, 3)), (4, (.iload_n 1, 1)), (5, (.iconst 0, 1)), (6, (.invokestatic 209, 3)), (9, (.iaload, 1)), (10, (.aload_n 0, 1)), (11, (.getfield 17, 3)), (14, (.iload_n 2, 1)), (15, (.iconst 0, 1)), (16, (.invokestatic 209, 3)), (19, (.iaload, 1)), (20, (.if_icmp .ne 7, 3)), (23, (.iconst 0, 1)), (24, (.goto 4, 3)), (27, (.iconst 1, 1)), (28, (.ireturn, 1))]
theorem t_Mo_turns_0_ok : ∀ q ∈ t_Mo_turns_0, decode prog_12_method_50_code q.1 = .ok q.2 := by decide +kernel
def m_Mo_turns : mM := (⟨"LinkTimesModel", "turns", "(II)I"⟩, prog_12_method_50_code, 3, (some .int), t_Mo_turns_0)
theorem ok_Mo_turns : mOK m_Mo_turns := ⟨by decide, tm 1591 (by decide +kernel) rfl, t_Mo_turns_0_ok, tm 123 (by decide +kernel) rfl, by decide, by decide⟩
theorem vm_Mo_turns : mVt m_Mo_turns := ⟨tm 1590 (by decide +kernel) rfl, tm 89 (by decide +kernel) rfl⟩
def t_Mo_isLessRow_0 : List (Nat × Instr × Nat) := [(0, (.iload_n 1, 1)), (1, (.istore_n 3, 1)), (2, (.iload_n 2, 1)), (3, (.istore 4, 2)), (5, (.iload_n 3, 1)), (6, (.iload 4, 2)), (8, (.if_icmp .ne 27, 3)), (11, (.iload_n 3, 1)), (12, (.iconst (-1), 1)), (13, (.if_icmp .eq 22, 3)), (16, (.aload_n 0, 1)), (17, (.getfield 48, 3)), (20, (.iload_n 3, 1)), (21, (.iaload, 1)), (22, (.istore_n 3, 1)), (23, (.aload_n 0, 1)), (24, (.getfield 48, 3)), (27, (.iload 4, 2)), (29, (.iaload, 1)), (30, (.istore 4, 2)), (32, (.goto (-27), 3)), (35, (.iload_n 3, 1)), (36, (.iload 4, 2)), (38, (.if_icmp .ge 7, 3)), (41, (.iconst 1, 1)), (42, (.goto 4, 3)), (45, (.iconst 0, 1)), (46, (.ireturn, 1))]
theorem t_Mo_isLessRow_0_ok : ∀ q ∈ t_Mo_isLessRow_0, decode prog_12_method_51_code q.1 = .ok q.2 := by decide +kernel
def m_Mo_isLessRow : mM := (⟨"LinkTimesModel", "isLessRow", "(II)Z"⟩, prog_12_method_51_code, 5, (some .boolean), t_Mo_isLessRow_0)
theorem ok_Mo_isLessRow : mOK m_Mo_isLessRow := ⟨by decide, tm 1595 (by decide +kernel) rfl, t_Mo_isLessRow_0_ok, tm 123 (by decide +kernel) rfl, by decide, by decide⟩
theorem vm_Mo_isLessRow : mVt m_Mo_isLessRow := ⟨tm 1594 (by decide +kernel) rfl, tm 90 (by decide +kernel) rfl⟩
def t_Mo_laysGoal_0 : List (Nat × Instr × Nat) := [(0, (.aload_n 0, 1)), (1, (.invokevirtual 278, 3)), (4, (.iconst 0, 1)), (5, (.istore_n 2, 1)), (6, (.iload_n 2, 1)), (7, (.aload_n 0, 1)), (8, (.getfield 275, 3)), (11, (.if_icmp .ge 112, 3)), (14, (.aload_n 0, 1)), (15, (.getfield 51, 3)), (18, (.iload_n 2, 1)), (19, (.iaload, 1)), (20, (.istore_n 3, 1)), (21, (.aload_n 0, 1)), (22, (.getfield 17, 3)), (25, (.iload_n 3, 1)), (26, (.iconst 2, 1)), (27, (.invokestatic 209, 3)), (30, (.iaload, 1)), (31, (.iload_n 1, 1)), (32, (.if_icmp .ne 7, 3)), (35, (.iconst 1, 1)), (36, (.goto 4, 3)), (39, (.iconst 0, 1)), (40, (.istore 4, 2)), (42, (.aload_n 0, 1)), (43, (.getfield 39, 3)), (46, (.iload_n 3, 1)), (47, (.iload 4, 2)), (49, (.ifCond .eq 11, 3)), (52, (.aload_n 0, 1)), (53, (.iload_n 3, 1)), (54, (.invokevirtual 272, 3)), (57, (.goto 6, 3)), (60, (.sipush 9999, 3)), (63, (.iastore, 1)), (64, (.aload_n 0, 1)), (65, (.getfield 42, 3)), (68, (.iload_n 3, 1)), (69, (.iconst 0, 1)), (70, (.iastore, 1)), (71, (.aload_n 0, 1)), (72, (.getfield 45, 3)), (75, (.iload_n 3, 1)), (76, (.iconst 1, 1)), (77, (.iastore, 1)), (78, (.aload_n 0, 1)), (79, (.getfield 48, 3)), (82, (.iload_n 3, 1)), (83, (.iconst (-1), 1))]
theorem t_Mo_laysGoal_0_ok : ∀ q ∈ t_Mo_laysGoal_0, decode prog_12_method_52_code q.1 = .ok q.2 := by decide +kernel
def t_Mo_laysGoal_1 : List (Nat × Instr × Nat) := [(84, (.iastore, 1)), (85, (.iconst 0, 1)), (86, (.istore 5, 2)), (88, (.iload 5, 2)), (90, (.iload_n 2, 1)), (91, (.if_icmp .ge 26, 3)), (94, (.iload 4, 2)), (96, (.ifCond .ne 21, 3)), (99, (.aload_n 0, 1)), (100, (.iload_n 3, 1)), (101, (.aload_n 0, 1)), (102, (.getfield 51, 3)), (105, (.iload 5, 2)), (107, (.iaload, 1)), (108, (.invokevirtual 281, 3)), (111, (.iinc 5 1, 3)), (114, (.goto (-26), 3)), (117, (.iinc 2 1, 3)), (120, (.goto (-114), 3)), (123, (.return_, 1))]
theorem t_Mo_laysGoal_1_ok : ∀ q ∈ t_Mo_laysGoal_1, decode prog_12_method_52_code q.1 = .ok q.2 := by decide +kernel
def m_Mo_laysGoal : mM := (⟨"LinkTimesModel", "laysGoal", "(I)V"⟩, prog_12_method_52_code, 6, none, t_Mo_laysGoal_0 ++ t_Mo_laysGoal_1)
theorem ok_Mo_laysGoal : mOK m_Mo_laysGoal := ⟨by decide, tm 1575 (by decide +kernel) rfl, all_app (t_Mo_laysGoal_0_ok) t_Mo_laysGoal_1_ok, tm 123 (by decide +kernel) rfl, by decide, by decide⟩
theorem vm_Mo_laysGoal : mVt m_Mo_laysGoal := ⟨tm 1574 (by decide +kernel) rfl, tm 85 (by decide +kernel) rfl⟩
def t_Mo_comesNext_0 : List (Nat × Instr × Nat) := [(0, (.aload_n 0, 1)), (1, (.getfield 39, 3)), (4, (.iload_n 2, 1)), (5, (.iaload, 1)), (6, (.sipush 9999, 3)), (9, (.if_icmp .eq 12, 3)), (12, (.aload_n 0, 1)), (13, (.iload_n 1, 1)), (14, (.iload_n 2, 1)), (15, (.invokevirtual 285, 3)), (18, (.ifCond .ne 4, 3)), (21, (.return_, 1)), (22, (.aload_n 0, 1)), (23, (.getfield 42, 3)), (26, (.iload_n 2, 1)), (27, (.iaload, 1)), (28, (.aload_n 0, 1)), (29, (.iload_n 1, 1)), (30, (.iload_n 2, 1)), (31, (.invokevirtual 289, 3)), (34, (.iadd, 1)), (35, (.istore_n 3, 1)), (36, (.aload_n 0, 1)), (37, (.getfield 39, 3)), (40, (.iload_n 1, 1)), (41, (.iaload, 1)), (42, (.aload_n 0, 1)), (43, (.getfield 39, 3)), (46, (.iload_n 2, 1)), (47, (.iaload, 1)), (48, (.isub, 1)), (49, (.istore 4, 2)), (51, (.iload 4, 2)), (53, (.ifCond .eq 8, 3)), (56, (.iload 4, 2)), (58, (.goto 11, 3)), (61, (.aload_n 0, 1)), (62, (.getfield 42, 3)), (65, (.iload_n 1, 1)), (66, (.iaload, 1)), (67, (.iload_n 3, 1)), (68, (.isub, 1)), (69, (.istore 4, 2)), (71, (.iload 4, 2)), (73, (.ifCond .eq 8, 3)), (76, (.iload 4, 2)), (78, (.goto 18, 3)), (81, (.aload_n 0, 1)), (82, (.getfield 45, 3)), (85, (.iload_n 1, 1))]
theorem t_Mo_comesNext_0_ok : ∀ q ∈ t_Mo_comesNext_0, decode prog_12_method_53_code q.1 = .ok q.2 := by decide +kernel
def t_Mo_comesNext_1 : List (Nat × Instr × Nat) := [(86, (.iaload, 1)), (87, (.aload_n 0, 1)), (88, (.getfield 45, 3)), (91, (.iload_n 2, 1)), (92, (.iaload, 1)), (93, (.isub, 1)), (94, (.iconst 1, 1)), (95, (.isub, 1)), (96, (.istore 4, 2)), (98, (.iload 4, 2)), (100, (.ifCond .gt 22, 3)), (103, (.iload 4, 2)), (105, (.ifCond .ne 57, 3)), (108, (.aload_n 0, 1)), (109, (.iload_n 2, 1)), (110, (.aload_n 0, 1)), (111, (.getfield 48, 3)), (114, (.iload_n 1, 1)), (115, (.iaload, 1)), (116, (.invokevirtual 292, 3)), (119, (.ifCond .eq 43, 3)), (122, (.aload_n 0, 1)), (123, (.getfield 39, 3)), (126, (.iload_n 1, 1)), (127, (.aload_n 0, 1)), (128, (.getfield 39, 3)), (131, (.iload_n 2, 1)), (132, (.iaload, 1)), (133, (.iastore, 1)), (134, (.aload_n 0, 1)), (135, (.getfield 42, 3)), (138, (.iload_n 1, 1)), (139, (.iload_n 3, 1)), (140, (.iastore, 1)), (141, (.aload_n 0, 1)), (142, (.getfield 45, 3)), (145, (.iload_n 1, 1)), (146, (.aload_n 0, 1)), (147, (.getfield 45, 3)), (150, (.iload_n 2, 1)), (151, (.iaload, 1)), (152, (.iconst 1, 1)), (153, (.iadd, 1)), (154, (.iastore, 1)), (155, (.aload_n 0, 1)), (156, (.getfield 48, 3)), (159, (.iload_n 1, 1)), (160, (.iload_n 2, 1)), (161, (.iastore, 1)), (162, (.return_, 1))]
theorem t_Mo_comesNext_1_ok : ∀ q ∈ t_Mo_comesNext_1, decode prog_12_method_53_code q.1 = .ok q.2 := by decide +kernel
def m_Mo_comesNext : mM := (⟨"LinkTimesModel", "comesNext", "(II)V"⟩, prog_12_method_53_code, 5, none, t_Mo_comesNext_0 ++ t_Mo_comesNext_1)
theorem ok_Mo_comesNext : mOK m_Mo_comesNext := ⟨by decide, tm 1583 (by decide +kernel) rfl, all_app (t_Mo_comesNext_0_ok) t_Mo_comesNext_1_ok, tm 123 (by decide +kernel) rfl, by decide, by decide⟩
theorem vm_Mo_comesNext : mVt m_Mo_comesNext := ⟨tm 1582 (by decide +kernel) rfl, tm 87 (by decide +kernel) rfl⟩
def t_Mo_firstOf_0 : List (Nat × Instr × Nat) := [(0, (.iconst (-1), 1)), (1, (.istore_n 3, 1)), (2, (.iconst 0, 1)), (3, (.istore 4, 2)), (5, (.iload 4, 2)), (7, (.aload_n 0, 1)), (8, (.getfield 17, 3)), (11, (.iconst 4, 1)), (12, (.iaload, 1)), (13, (.if_icmp .ge 81, 3)), (16, (.aload_n 0, 1)), (17, (.iload 4, 2)), (19, (.invokevirtual 253, 3)), (22, (.ifCond .eq 66, 3)), (25, (.aload_n 0, 1)), (26, (.getfield 17, 3)), (29, (.iload 4, 2)), (31, (.iconst 1, 1)), (32, (.invokestatic 209, 3)), (35, (.iaload, 1)), (36, (.iload_n 1, 1)), (37, (.if_icmp .ne 51, 3)), (40, (.aload_n 0, 1)), (41, (.iload 4, 2)), (43, (.invokevirtual 250, 3)), (46, (.iload_n 2, 1)), (47, (.if_icmp .lt 41, 3)), (50, (.aload_n 0, 1)), (51, (.getfield 39, 3)), (54, (.iload 4, 2)), (56, (.iaload, 1)), (57, (.sipush 9999, 3)), (60, (.if_icmp .ne 6, 3)), (63, (.goto 25, 3)), (66, (.iload_n 3, 1)), (67, (.iconst (-1), 1)), (68, (.if_icmp .eq 13, 3)), (71, (.aload_n 0, 1)), (72, (.iload 4, 2)), (74, (.iload_n 3, 1)), (75, (.invokevirtual 295, 3)), (78, (.ifCond .eq 8, 3)), (81, (.iload 4, 2)), (83, (.goto 4, 3)), (86, (.iload_n 3, 1)), (87, (.istore_n 3, 1)), (88, (.iinc 4 1, 3)), (91, (.goto (-86), 3)), (94, (.iload_n 3, 1)), (95, (.ireturn, 1))]
theorem t_Mo_firstOf_0_ok : ∀ q ∈ t_Mo_firstOf_0, decode prog_12_method_54_code q.1 = .ok q.2 := by decide +kernel
def m_Mo_firstOf : mM := (⟨"LinkTimesModel", "firstOf", "(II)I"⟩, prog_12_method_54_code, 5, (some .int), t_Mo_firstOf_0)
theorem ok_Mo_firstOf : mOK m_Mo_firstOf := ⟨by decide, tm 1599 (by decide +kernel) rfl, t_Mo_firstOf_0_ok, tm 123 (by decide +kernel) rfl, by decide, by decide⟩
theorem vm_Mo_firstOf : mVt m_Mo_firstOf := ⟨tm 1598 (by decide +kernel) rfl, tm 91 (by decide +kernel) rfl⟩
def t_Mo_isBetter_0 : List (Nat × Instr × Nat) := [(0, (.aload_n 0, 1)), (1, (.getfield 39, 3)), (4, (.iload_n 2, 1)), (5, (.iaload, 1)), (6, (.aload_n 0, 1)), (7, (.getfield 39, 3)), (10, (.iload_n 1, 1)), (11, (.iaload, 1)), (12, (.isub, 1)), (13, (.istore_n 3, 1)), (14, (.iload_n 3, 1)), (15, (.ifCond .eq 7, 3)), (18, (.iload_n 3, 1)), (19, (.goto 16, 3)), (22, (.aload_n 0, 1)), (23, (.getfield 42, 3)), (26, (.iload_n 2, 1)), (27, (.iaload, 1)), (28, (.aload_n 0, 1)), (29, (.getfield 42, 3)), (32, (.iload_n 1, 1)), (33, (.iaload, 1)), (34, (.isub, 1)), (35, (.istore_n 3, 1)), (36, (.iload_n 3, 1)), (37, (.ifCond .eq 7, 3)), (40, (.iload_n 3, 1)), (41, (.goto 14, 3)), (44, (.aload_n 0, 1)), (45, (.iload_n 1, 1)), (46, (.invokevirtual 250, 3)), (49, (.aload_n 0, 1)), (50, (.iload_n 2, 1)), (51, (.invokevirtual 250, 3)), (54, (.isub, 1)), (55, (.istore_n 3, 1)), (56, (.iload_n 3, 1)), (57, (.ifCond .eq 7, 3)), (60, (.iload_n 3, 1)), (61, (.goto 16, 3)), (64, (.aload_n 0, 1)), (65, (.getfield 45, 3)), (68, (.iload_n 2, 1)), (69, (.iaload, 1)), (70, (.aload_n 0, 1)), (71, (.getfield 45, 3)), (74, (.iload_n 1, 1)), (75, (.iaload, 1)), (76, (.isub, 1)), (77, (.istore_n 3, 1))]
theorem t_Mo_isBetter_0_ok : ∀ q ∈ t_Mo_isBetter_0, decode prog_12_method_55_code q.1 = .ok q.2 := by decide +kernel
def t_Mo_isBetter_1 : List (Nat × Instr × Nat) := [(78, (.iload_n 3, 1)), (79, (.ifCond .eq 15, 3)), (82, (.iload_n 3, 1)), (83, (.ifCond .le 7, 3)), (86, (.iconst 1, 1)), (87, (.goto 13, 3)), (90, (.iconst 0, 1)), (91, (.goto 9, 3)), (94, (.aload_n 0, 1)), (95, (.iload_n 1, 1)), (96, (.iload_n 2, 1)), (97, (.invokevirtual 292, 3)), (100, (.ireturn, 1))]
theorem t_Mo_isBetter_1_ok : ∀ q ∈ t_Mo_isBetter_1, decode prog_12_method_55_code q.1 = .ok q.2 := by decide +kernel
def m_Mo_isBetter : mM := (⟨"LinkTimesModel", "isBetter", "(II)Z"⟩, prog_12_method_55_code, 4, (some .boolean), t_Mo_isBetter_0 ++ t_Mo_isBetter_1)
theorem ok_Mo_isBetter : mOK m_Mo_isBetter := ⟨by decide, tm 1603 (by decide +kernel) rfl, all_app (t_Mo_isBetter_0_ok) t_Mo_isBetter_1_ok, tm 123 (by decide +kernel) rfl, by decide, by decide⟩
theorem vm_Mo_isBetter : mVt m_Mo_isBetter := ⟨tm 1602 (by decide +kernel) rfl, tm 92 (by decide +kernel) rfl⟩
def t_Mo_best_0 : List (Nat × Instr × Nat) := [(0, (.iload_n 1, 1)), (1, (.iload_n 2, 1)), (2, (.if_icmp .ne 5, 3)), (5, (.iload_n 3, 1)), (6, (.ireturn, 1)), (7, (.aload_n 0, 1)), (8, (.iload_n 2, 1)), (9, (.invokevirtual 298, 3)), (12, (.aload_n 0, 1)), (13, (.iload_n 1, 1)), (14, (.iload_n 3, 1)), (15, (.invokevirtual 301, 3)), (18, (.istore 4, 2)), (20, (.iload 4, 2)), (22, (.iconst (-1), 1)), (23, (.if_icmp .ne 8, 3)), (26, (.bipush (-2), 2)), (28, (.goto 10, 3)), (31, (.aload_n 0, 1)), (32, (.getfield 39, 3)), (35, (.iload 4, 2)), (37, (.iaload, 1)), (38, (.ireturn, 1))]
theorem t_Mo_best_0_ok : ∀ q ∈ t_Mo_best_0, decode prog_12_method_56_code q.1 = .ok q.2 := by decide +kernel
def m_Mo_best : mM := (⟨"LinkTimesModel", "best", "(III)I"⟩, prog_12_method_56_code, 5, (some .int), t_Mo_best_0)
theorem ok_Mo_best : mOK m_Mo_best := ⟨by decide, tm 1571 (by decide +kernel) rfl, t_Mo_best_0_ok, tm 123 (by decide +kernel) rfl, by decide, by decide⟩
theorem vm_Mo_best : mVt m_Mo_best := ⟨tm 1570 (by decide +kernel) rfl, tm 84 (by decide +kernel) rfl⟩
def t_Mo_wayWhy_0 : List (Nat × Instr × Nat) := [(0, (.aload_n 0, 1)), (1, (.iload_n 1, 1)), (2, (.invokevirtual 263, 3)), (5, (.ifCond .eq 15, 3)), (8, (.aload_n 0, 1)), (9, (.iload_n 2, 1)), (10, (.invokevirtual 263, 3)), (13, (.ifCond .eq 7, 3)), (16, (.iconst 1, 1)), (17, (.goto 4, 3)), (20, (.iconst 0, 1)), (21, (.iload_n 3, 1)), (22, (.iconst 0, 1)), (23, (.sipush 1999, 3)), (26, (.invokestatic 107, 3)), (29, (.invokestatic 304, 3)), (32, (.ireturn, 1))]
theorem t_Mo_wayWhy_0_ok : ∀ q ∈ t_Mo_wayWhy_0, decode prog_12_method_57_code q.1 = .ok q.2 := by decide +kernel
def m_Mo_wayWhy : mM := (⟨"LinkTimesModel", "wayWhy", "(III)I"⟩, prog_12_method_57_code, 4, (some .int), t_Mo_wayWhy_0)
theorem ok_Mo_wayWhy : mOK m_Mo_wayWhy := ⟨by decide, tm 1564 (by decide +kernel) rfl, t_Mo_wayWhy_0_ok, tm 123 (by decide +kernel) rfl, by decide, by decide⟩
theorem vm_Mo_wayWhy : mVt m_Mo_wayWhy := ⟨tm 1563 (by decide +kernel) rfl, tm 83 (by decide +kernel) rfl⟩
def t_Mo_arrives_0 : List (Nat × Instr × Nat) := [(0, (.aload_n 0, 1)), (1, (.aload_n 0, 1)), (2, (.iload_n 1, 1)), (3, (.iload_n 2, 1)), (4, (.iload_n 3, 1)), (5, (.invokevirtual 307, 3)), (8, (.invokevirtual 228, 3)), (11, (.ifCond .eq 7, 3)), (14, (.iconst (-1), 1)), (15, (.goto 10, 3)), (18, (.aload_n 0, 1)), (19, (.iload_n 1, 1)), (20, (.iload_n 2, 1)), (21, (.iload_n 3, 1)), (22, (.invokevirtual 311, 3)), (25, (.ireturn, 1))]
theorem t_Mo_arrives_0_ok : ∀ q ∈ t_Mo_arrives_0, decode prog_12_method_58_code q.1 = .ok q.2 := by decide +kernel
def m_Mo_arrives : mM := (⟨"LinkTimesModel", "arrives", "(III)I"⟩, prog_12_method_58_code, 4, (some .int), t_Mo_arrives_0)
theorem ok_Mo_arrives : mOK m_Mo_arrives := ⟨by decide, tm 1560 (by decide +kernel) rfl, t_Mo_arrives_0_ok, tm 123 (by decide +kernel) rfl, by decide, by decide⟩
theorem vm_Mo_arrives : mVt m_Mo_arrives := ⟨tm 1558 (by decide +kernel) rfl, tm 1559 (by decide +kernel) rfl⟩
def t_Mo_begins__0 : List (Nat × Instr × Nat) := [(0, (.aload_n 0, 1)), (1, (.iload_n 1, 1)), (2, (.iload_n 2, 1)), (3, (.iload_n 3, 1)), (4, (.invokevirtual 311, 3)), (7, (.istore 4, 2)), (9, (.iload_n 1, 1)), (10, (.iload_n 2, 1)), (11, (.if_icmp .eq 10, 3)), (14, (.iload 4, 2)), (16, (.bipush (-2), 2)), (18, (.if_icmp .ne 7, 3)), (21, (.iconst (-1), 1)), (22, (.goto 9, 3)), (25, (.aload_n 0, 1)), (26, (.iload_n 1, 1)), (27, (.iload_n 3, 1)), (28, (.invokevirtual 301, 3)), (31, (.ireturn, 1))]
theorem t_Mo_begins__0_ok : ∀ q ∈ t_Mo_begins__0, decode prog_12_method_59_code q.1 = .ok q.2 := by decide +kernel
def m_Mo_begins_ : mM := (⟨"LinkTimesModel", "begins", "(III)I"⟩, prog_12_method_59_code, 5, (some .int), t_Mo_begins__0)
theorem ok_Mo_begins_ : mOK m_Mo_begins_ := ⟨by decide, tm 1611 (by decide +kernel) rfl, t_Mo_begins__0_ok, tm 123 (by decide +kernel) rfl, by decide, by decide⟩
theorem vm_Mo_begins_ : mVt m_Mo_begins_ := ⟨tm 1610 (by decide +kernel) rfl, tm 93 (by decide +kernel) rfl⟩
def t_Mo_changes_0 : List (Nat × Instr × Nat) := [(0, (.aload_n 0, 1)), (1, (.aload_n 0, 1)), (2, (.iload_n 1, 1)), (3, (.iload_n 2, 1)), (4, (.iload_n 3, 1)), (5, (.invokevirtual 307, 3)), (8, (.invokevirtual 228, 3)), (11, (.ifCond .eq 5, 3)), (14, (.iconst (-1), 1)), (15, (.ireturn, 1)), (16, (.aload_n 0, 1)), (17, (.iload_n 1, 1)), (18, (.iload_n 2, 1)), (19, (.iload_n 3, 1)), (20, (.invokevirtual 314, 3)), (23, (.istore 4, 2)), (25, (.iload 4, 2)), (27, (.iconst (-1), 1)), (28, (.if_icmp .ne 17, 3)), (31, (.iload_n 1, 1)), (32, (.iload_n 2, 1)), (33, (.if_icmp .ne 7, 3)), (36, (.iconst 0, 1)), (37, (.goto 15, 3)), (40, (.bipush (-2), 2)), (42, (.goto 10, 3)), (45, (.aload_n 0, 1)), (46, (.getfield 42, 3)), (49, (.iload 4, 2)), (51, (.iaload, 1)), (52, (.ireturn, 1))]
theorem t_Mo_changes_0_ok : ∀ q ∈ t_Mo_changes_0, decode prog_12_method_60_code q.1 = .ok q.2 := by decide +kernel
def m_Mo_changes : mM := (⟨"LinkTimesModel", "changes", "(III)I"⟩, prog_12_method_60_code, 5, (some .int), t_Mo_changes_0)
theorem ok_Mo_changes : mOK m_Mo_changes := ⟨by decide, tm 1607 (by decide +kernel) rfl, t_Mo_changes_0_ok, tm 123 (by decide +kernel) rfl, by decide, by decide⟩
theorem vm_Mo_changes : mVt m_Mo_changes := ⟨tm 1605 (by decide +kernel) rfl, tm 1606 (by decide +kernel) rfl⟩
def t_Mo_leaves_0 : List (Nat × Instr × Nat) := [(0, (.aload_n 0, 1)), (1, (.aload_n 0, 1)), (2, (.iload_n 1, 1)), (3, (.iload_n 2, 1)), (4, (.iload_n 3, 1)), (5, (.invokevirtual 307, 3)), (8, (.invokevirtual 228, 3)), (11, (.ifCond .eq 5, 3)), (14, (.iconst (-1), 1)), (15, (.ireturn, 1)), (16, (.aload_n 0, 1)), (17, (.iload_n 1, 1)), (18, (.iload_n 2, 1)), (19, (.iload_n 3, 1)), (20, (.invokevirtual 314, 3)), (23, (.istore 4, 2)), (25, (.iload 4, 2)), (27, (.iconst (-1), 1)), (28, (.if_icmp .ne 17, 3)), (31, (.iload_n 1, 1)), (32, (.iload_n 2, 1)), (33, (.if_icmp .ne 7, 3)), (36, (.iload_n 3, 1)), (37, (.goto 14, 3)), (40, (.bipush (-2), 2)), (42, (.goto 9, 3)), (45, (.aload_n 0, 1)), (46, (.iload 4, 2)), (48, (.invokevirtual 250, 3)), (51, (.ireturn, 1))]
theorem t_Mo_leaves_0_ok : ∀ q ∈ t_Mo_leaves_0, decode prog_12_method_61_code q.1 = .ok q.2 := by decide +kernel
def m_Mo_leaves : mM := (⟨"LinkTimesModel", "leaves", "(III)I"⟩, prog_12_method_61_code, 5, (some .int), t_Mo_leaves_0)
theorem ok_Mo_leaves : mOK m_Mo_leaves := ⟨by decide, tm 1615 (by decide +kernel) rfl, t_Mo_leaves_0_ok, tm 123 (by decide +kernel) rfl, by decide, by decide⟩
theorem vm_Mo_leaves : mVt m_Mo_leaves := ⟨tm 1613 (by decide +kernel) rfl, tm 1614 (by decide +kernel) rfl⟩
def t_Mo_rides_0 : List (Nat × Instr × Nat) := [(0, (.aload_n 0, 1)), (1, (.aload_n 0, 1)), (2, (.iload_n 1, 1)), (3, (.iload_n 2, 1)), (4, (.iload_n 3, 1)), (5, (.invokevirtual 307, 3)), (8, (.invokevirtual 228, 3)), (11, (.ifCond .eq 5, 3)), (14, (.iconst (-1), 1)), (15, (.ireturn, 1)), (16, (.aload_n 0, 1)), (17, (.iload_n 1, 1)), (18, (.iload_n 2, 1)), (19, (.iload_n 3, 1)), (20, (.invokevirtual 314, 3)), (23, (.istore 4, 2)), (25, (.iload 4, 2)), (27, (.iconst (-1), 1)), (28, (.if_icmp .ne 17, 3)), (31, (.iload_n 1, 1)), (32, (.iload_n 2, 1)), (33, (.if_icmp .ne 7, 3)), (36, (.iconst 0, 1)), (37, (.goto 15, 3)), (40, (.bipush (-2), 2)), (42, (.goto 10, 3)), (45, (.aload_n 0, 1)), (46, (.getfield 45, 3)), (49, (.iload 4, 2)), (51, (.iaload, 1)), (52, (.ireturn, 1))]
theorem t_Mo_rides_0_ok : ∀ q ∈ t_Mo_rides_0, decode prog_12_method_62_code q.1 = .ok q.2 := by decide +kernel
def m_Mo_rides : mM := (⟨"LinkTimesModel", "rides", "(III)I"⟩, prog_12_method_62_code, 5, (some .int), t_Mo_rides_0)
theorem ok_Mo_rides : mOK m_Mo_rides := ⟨by decide, tm 1619 (by decide +kernel) rfl, t_Mo_rides_0_ok, tm 123 (by decide +kernel) rfl, by decide, by decide⟩
theorem vm_Mo_rides : mVt m_Mo_rides := ⟨tm 1617 (by decide +kernel) rfl, tm 1618 (by decide +kernel) rfl⟩
def t_Mo_ride_0 : List (Nat × Instr × Nat) := [(0, (.aload_n 0, 1)), (1, (.aload_n 0, 1)), (2, (.iload_n 1, 1)), (3, (.iload_n 2, 1)), (4, (.iload_n 3, 1)), (5, (.invokevirtual 307, 3)), (8, (.invokevirtual 228, 3)), (11, (.ifCond .eq 5, 3)), (14, (.iconst (-1), 1)), (15, (.ireturn, 1)), (16, (.aload_n 0, 1)), (17, (.iload_n 1, 1)), (18, (.iload_n 2, 1)), (19, (.iload_n 3, 1)), (20, (.invokevirtual 314, 3)), (23, (.istore 5, 2)), (25, (.iload 5, 2)), (27, (.iconst (-1), 1)), (28, (.if_icmp .ne 11, 3)), (31, (.iload_n 1, 1)), (32, (.iload_n 2, 1)), (33, (.if_icmp .eq 6, 3)), (36, (.bipush (-2), 2)), (38, (.ireturn, 1)), (39, (.iconst 0, 1)), (40, (.istore 6, 2)), (42, (.iload 6, 2)), (44, (.iload 4, 2)), (46, (.if_icmp .ge 24, 3)), (49, (.iload 5, 2)), (51, (.iconst (-1), 1)), (52, (.if_icmp .eq 18, 3)), (55, (.aload_n 0, 1)), (56, (.getfield 48, 3)), (59, (.iload 5, 2)), (61, (.iaload, 1)), (62, (.istore 5, 2)), (64, (.iinc 6 1, 3)), (67, (.goto (-25), 3)), (70, (.iload 4, 2)), (72, (.ifCond .lt 9, 3)), (75, (.iload 5, 2)), (77, (.iconst (-1), 1)), (78, (.if_icmp .ne 11, 3)), (81, (.aload_n 0, 1)), (82, (.iconst 1, 1)), (83, (.invokevirtual 237, 3)), (86, (.goto 5, 3)), (89, (.iload 5, 2)), (91, (.ireturn, 1))]
theorem t_Mo_ride_0_ok : ∀ q ∈ t_Mo_ride_0, decode prog_12_method_63_code q.1 = .ok q.2 := by decide +kernel
def m_Mo_ride : mM := (⟨"LinkTimesModel", "ride", "(IIII)I"⟩, prog_12_method_63_code, 7, (some .int), t_Mo_ride_0)
theorem ok_Mo_ride : mOK m_Mo_ride := ⟨by decide, tm 1623 (by decide +kernel) rfl, t_Mo_ride_0_ok, tm 123 (by decide +kernel) rfl, by decide, by decide⟩
theorem vm_Mo_ride : mVt m_Mo_ride := ⟨tm 1621 (by decide +kernel) rfl, tm 1622 (by decide +kernel) rfl⟩
def t_Mo_soonest_0 : List (Nat × Instr × Nat) := [(0, (.aload_n 0, 1)), (1, (.getfield 54, 3)), (4, (.bipush 120, 2)), (6, (.iload_n 1, 1)), (7, (.imul, 1)), (8, (.iload_n 2, 1)), (9, (.iadd, 1)), (10, (.iaload, 1)), (11, (.ireturn, 1))]
theorem t_Mo_soonest_0_ok : ∀ q ∈ t_Mo_soonest_0, decode prog_12_method_64_code q.1 = .ok q.2 := by decide +kernel
def m_Mo_soonest : mM := (⟨"LinkTimesModel", "soonest", "(II)I"⟩, prog_12_method_64_code, 3, (some .int), t_Mo_soonest_0)
theorem ok_Mo_soonest : mOK m_Mo_soonest := ⟨by decide, tm 1635 (by decide +kernel) rfl, t_Mo_soonest_0_ok, tm 123 (by decide +kernel) rfl, by decide, by decide⟩
theorem vm_Mo_soonest : mVt m_Mo_soonest := ⟨tm 1634 (by decide +kernel) rfl, tm 95 (by decide +kernel) rfl⟩
def t_Mo_laysWithin_0 : List (Nat × Instr × Nat) := [(0, (.aload_n 0, 1)), (1, (.invokevirtual 278, 3)), (4, (.iconst 0, 1)), (5, (.istore_n 3, 1)), (6, (.iload_n 3, 1)), (7, (.aload_n 0, 1)), (8, (.getfield 275, 3)), (11, (.if_icmp .ge 161, 3)), (14, (.aload_n 0, 1)), (15, (.getfield 51, 3)), (18, (.iload_n 3, 1)), (19, (.iaload, 1)), (20, (.istore 4, 2)), (22, (.iconst 0, 1)), (23, (.istore 5, 2)), (25, (.iload 5, 2)), (27, (.iload_n 2, 1)), (28, (.if_icmp .gt 138, 3)), (31, (.aload_n 0, 1)), (32, (.getfield 17, 3)), (35, (.iload 4, 2)), (37, (.iconst 2, 1)), (38, (.invokestatic 209, 3)), (41, (.iaload, 1)), (42, (.iload_n 1, 1)), (43, (.if_icmp .ne 12, 3)), (46, (.aload_n 0, 1)), (47, (.iload 4, 2)), (49, (.invokevirtual 272, 3)), (52, (.goto 6, 3)), (55, (.sipush 9999, 3)), (58, (.istore 6, 2)), (60, (.iconst 0, 1)), (61, (.istore 7, 2)), (63, (.iload 7, 2)), (65, (.iload_n 3, 1)), (66, (.if_icmp .ge 79, 3)), (69, (.aload_n 0, 1)), (70, (.getfield 51, 3)), (73, (.iload 7, 2)), (75, (.iaload, 1)), (76, (.istore 8, 2)), (78, (.aload_n 0, 1)), (79, (.iload 4, 2)), (81, (.iload 8, 2)), (83, (.invokevirtual 285, 3)), (86, (.ifCond .eq 17, 3)), (89, (.iload 5, 2)), (91, (.aload_n 0, 1)), (92, (.iload 4, 2))]
theorem t_Mo_laysWithin_0_ok : ∀ q ∈ t_Mo_laysWithin_0, decode prog_12_method_65_code q.1 = .ok q.2 := by decide +kernel
def t_Mo_laysWithin_1 : List (Nat × Instr × Nat) := [(94, (.iload 8, 2)), (96, (.invokevirtual 289, 3)), (99, (.isub, 1)), (100, (.goto 4, 3)), (103, (.iconst (-1), 1)), (104, (.istore 9, 2)), (106, (.iload 9, 2)), (108, (.ifCond .lt 27, 3)), (111, (.aload_n 0, 1)), (112, (.iload 8, 2)), (114, (.iload 9, 2)), (116, (.invokevirtual 316, 3)), (119, (.iload 6, 2)), (121, (.if_icmp .ge 14, 3)), (124, (.aload_n 0, 1)), (125, (.iload 8, 2)), (127, (.iload 9, 2)), (129, (.invokevirtual 316, 3)), (132, (.goto 5, 3)), (135, (.iload 6, 2)), (137, (.istore 6, 2)), (139, (.iinc 7 1, 3)), (142, (.goto (-79), 3)), (145, (.aload_n 0, 1)), (146, (.getfield 54, 3)), (149, (.bipush 120, 2)), (151, (.iload 4, 2)), (153, (.imul, 1)), (154, (.iload 5, 2)), (156, (.iadd, 1)), (157, (.iload 6, 2)), (159, (.iastore, 1)), (160, (.iinc 5 1, 3)), (163, (.goto (-138), 3)), (166, (.iinc 3 1, 3)), (169, (.goto (-163), 3)), (172, (.return_, 1))]
theorem t_Mo_laysWithin_1_ok : ∀ q ∈ t_Mo_laysWithin_1, decode prog_12_method_65_code q.1 = .ok q.2 := by decide +kernel
def m_Mo_laysWithin : mM := (⟨"LinkTimesModel", "laysWithin", "(II)V"⟩, prog_12_method_65_code, 10, none, t_Mo_laysWithin_0 ++ t_Mo_laysWithin_1)
theorem ok_Mo_laysWithin : mOK m_Mo_laysWithin := ⟨by decide, tm 1631 (by decide +kernel) rfl, all_app (t_Mo_laysWithin_0_ok) t_Mo_laysWithin_1_ok, tm 123 (by decide +kernel) rfl, by decide, by decide⟩
theorem vm_Mo_laysWithin : mVt m_Mo_laysWithin := ⟨tm 1630 (by decide +kernel) rfl, tm 94 (by decide +kernel) rfl⟩
def t_Mo_within_0 : List (Nat × Instr × Nat) := [(0, (.aload_n 0, 1)), (1, (.iload_n 1, 1)), (2, (.iload_n 2, 1)), (3, (.iload_n 3, 1)), (4, (.invokevirtual 307, 3)), (7, (.istore 5, 2)), (9, (.aload_n 0, 1)), (10, (.iload 5, 2)), (12, (.ifCond .ne 18, 3)), (15, (.iload 4, 2)), (17, (.iconst 0, 1)), (18, (.bipush 20, 2)), (20, (.invokestatic 107, 3)), (23, (.ifCond .ne 7, 3)), (26, (.iconst 2, 1)), (27, (.goto 5, 3)), (30, (.iload 5, 2)), (32, (.invokevirtual 228, 3)), (35, (.ifCond .eq 5, 3)), (38, (.iconst (-1), 1)), (39, (.ireturn, 1)), (40, (.iload_n 1, 1)), (41, (.iload_n 2, 1)), (42, (.if_icmp .ne 5, 3)), (45, (.iload_n 3, 1)), (46, (.ireturn, 1)), (47, (.aload_n 0, 1)), (48, (.iload_n 2, 1)), (49, (.bipush 20, 2)), (51, (.invokevirtual 319, 3)), (54, (.aload_n 0, 1)), (55, (.iload_n 1, 1)), (56, (.iload_n 3, 1)), (57, (.iload 4, 2)), (59, (.invokevirtual 322, 3)), (62, (.istore 6, 2)), (64, (.iload 6, 2)), (66, (.sipush 9999, 3)), (69, (.if_icmp .ne 8, 3)), (72, (.bipush (-2), 2)), (74, (.goto 5, 3)), (77, (.iload 6, 2)), (79, (.ireturn, 1))]
theorem t_Mo_within_0_ok : ∀ q ∈ t_Mo_within_0, decode prog_12_method_66_code q.1 = .ok q.2 := by decide +kernel
def m_Mo_within : mM := (⟨"LinkTimesModel", "within", "(IIII)I"⟩, prog_12_method_66_code, 7, (some .int), t_Mo_within_0)
theorem ok_Mo_within : mOK m_Mo_within := ⟨by decide, tm 1627 (by decide +kernel) rfl, t_Mo_within_0_ok, tm 123 (by decide +kernel) rfl, by decide, by decide⟩
theorem vm_Mo_within : mVt m_Mo_within := ⟨tm 1625 (by decide +kernel) rfl, tm 1626 (by decide +kernel) rfl⟩
def t_Mo_soonestBy_0 : List (Nat × Instr × Nat) := [(0, (.sipush 9999, 3)), (3, (.istore 4, 2)), (5, (.iconst 0, 1)), (6, (.istore 5, 2)), (8, (.iload 5, 2)), (10, (.aload_n 0, 1)), (11, (.getfield 17, 3)), (14, (.iconst 4, 1)), (15, (.iaload, 1)), (16, (.if_icmp .ge 81, 3)), (19, (.aload_n 0, 1)), (20, (.iload 5, 2)), (22, (.invokevirtual 253, 3)), (25, (.ifCond .eq 32, 3)), (28, (.aload_n 0, 1)), (29, (.getfield 17, 3)), (32, (.iload 5, 2)), (34, (.iconst 1, 1)), (35, (.invokestatic 209, 3)), (38, (.iaload, 1)), (39, (.iload_n 1, 1)), (40, (.if_icmp .ne 17, 3)), (43, (.aload_n 0, 1)), (44, (.iload 5, 2)), (46, (.invokevirtual 250, 3)), (49, (.iload_n 2, 1)), (50, (.if_icmp .lt 7, 3)), (53, (.iconst 1, 1)), (54, (.goto 4, 3)), (57, (.iconst 0, 1)), (58, (.istore 6, 2)), (60, (.iload 6, 2)), (62, (.ifCond .eq 25, 3)), (65, (.aload_n 0, 1)), (66, (.iload 5, 2)), (68, (.iload_n 3, 1)), (69, (.invokevirtual 316, 3)), (72, (.iload 4, 2)), (74, (.if_icmp .ge 13, 3)), (77, (.aload_n 0, 1)), (78, (.iload 5, 2)), (80, (.iload_n 3, 1)), (81, (.invokevirtual 316, 3)), (84, (.goto 5, 3)), (87, (.iload 4, 2)), (89, (.istore 4, 2)), (91, (.iinc 5 1, 3)), (94, (.goto (-86), 3)), (97, (.iload 4, 2)), (99, (.ireturn, 1))]
theorem t_Mo_soonestBy_0_ok : ∀ q ∈ t_Mo_soonestBy_0, decode prog_12_method_67_code q.1 = .ok q.2 := by decide +kernel
def m_Mo_soonestBy : mM := (⟨"LinkTimesModel", "soonestBy", "(III)I"⟩, prog_12_method_67_code, 7, (some .int), t_Mo_soonestBy_0)
theorem ok_Mo_soonestBy : mOK m_Mo_soonestBy := ⟨by decide, tm 1639 (by decide +kernel) rfl, t_Mo_soonestBy_0_ok, tm 123 (by decide +kernel) rfl, by decide, by decide⟩
theorem vm_Mo_soonestBy : mVt m_Mo_soonestBy := ⟨tm 1638 (by decide +kernel) rfl, tm 96 (by decide +kernel) rfl⟩
def t_Mo_laysTrades_0 : List (Nat × Instr × Nat) := [(0, (.aload_n 0, 1)), (1, (.iload_n 2, 1)), (2, (.bipush 119, 2)), (4, (.invokevirtual 319, 3)), (7, (.aload_n 0, 1)), (8, (.iconst 0, 1)), (9, (.putfield 325, 3)), (12, (.sipush 9999, 3)), (15, (.istore 4, 2)), (17, (.iconst 0, 1)), (18, (.istore 5, 2)), (20, (.iload 5, 2)), (22, (.bipush 120, 2)), (24, (.if_icmp .ge 62, 3)), (27, (.aload_n 0, 1)), (28, (.iload_n 1, 1)), (29, (.iload_n 3, 1)), (30, (.iload 5, 2)), (32, (.invokevirtual 322, 3)), (35, (.istore 6, 2)), (37, (.iload 6, 2)), (39, (.iload 4, 2)), (41, (.if_icmp .ge 39, 3)), (44, (.aload_n 0, 1)), (45, (.getfield 57, 3)), (48, (.aload_n 0, 1)), (49, (.getfield 325, 3)), (52, (.iload 6, 2)), (54, (.iastore, 1)), (55, (.aload_n 0, 1)), (56, (.getfield 60, 3)), (59, (.aload_n 0, 1)), (60, (.getfield 325, 3)), (63, (.iload 5, 2)), (65, (.iastore, 1)), (66, (.aload_n 0, 1)), (67, (.dup, 1)), (68, (.getfield 325, 3)), (71, (.iconst 1, 1)), (72, (.iadd, 1)), (73, (.putfield 325, 3)), (76, (.iload 6, 2)), (78, (.istore 4, 2)), (80, (.iinc 5 1, 3)), (83, (.goto (-63), 3)), (86, (.return_, 1))]
theorem t_Mo_laysTrades_0_ok : ∀ q ∈ t_Mo_laysTrades_0, decode prog_12_method_68_code q.1 = .ok q.2 := by decide +kernel
def m_Mo_laysTrades : mM := (⟨"LinkTimesModel", "laysTrades", "(III)V"⟩, prog_12_method_68_code, 7, none, t_Mo_laysTrades_0)
theorem ok_Mo_laysTrades : mOK m_Mo_laysTrades := ⟨by decide, tm 1647 (by decide +kernel) rfl, t_Mo_laysTrades_0_ok, tm 123 (by decide +kernel) rfl, by decide, by decide⟩
theorem vm_Mo_laysTrades : mVt m_Mo_laysTrades := ⟨tm 1646 (by decide +kernel) rfl, tm 97 (by decide +kernel) rfl⟩
def t_Mo_trades_0 : List (Nat × Instr × Nat) := [(0, (.aload_n 0, 1)), (1, (.aload_n 0, 1)), (2, (.iload_n 1, 1)), (3, (.iload_n 2, 1)), (4, (.iload_n 3, 1)), (5, (.invokevirtual 307, 3)), (8, (.invokevirtual 228, 3)), (11, (.ifCond .eq 5, 3)), (14, (.iconst (-1), 1)), (15, (.ireturn, 1)), (16, (.iload_n 1, 1)), (17, (.iload_n 2, 1)), (18, (.if_icmp .ne 5, 3)), (21, (.iconst 1, 1)), (22, (.ireturn, 1)), (23, (.aload_n 0, 1)), (24, (.iload_n 1, 1)), (25, (.iload_n 2, 1)), (26, (.iload_n 3, 1)), (27, (.invokevirtual 328, 3)), (30, (.aload_n 0, 1)), (31, (.getfield 325, 3)), (34, (.ifCond .ne 8, 3)), (37, (.bipush (-2), 2)), (39, (.goto 7, 3)), (42, (.aload_n 0, 1)), (43, (.getfield 325, 3)), (46, (.ireturn, 1))]
theorem t_Mo_trades_0_ok : ∀ q ∈ t_Mo_trades_0, decode prog_12_method_69_code q.1 = .ok q.2 := by decide +kernel
def m_Mo_trades : mM := (⟨"LinkTimesModel", "trades", "(III)I"⟩, prog_12_method_69_code, 4, (some .int), t_Mo_trades_0)
theorem ok_Mo_trades : mOK m_Mo_trades := ⟨by decide, tm 1643 (by decide +kernel) rfl, t_Mo_trades_0_ok, tm 123 (by decide +kernel) rfl, by decide, by decide⟩
theorem vm_Mo_trades : mVt m_Mo_trades := ⟨tm 1641 (by decide +kernel) rfl, tm 1642 (by decide +kernel) rfl⟩
def t_Mo_latestOf_0 : List (Nat × Instr × Nat) := [(0, (.bipush (-2), 2)), (2, (.istore 5, 2)), (4, (.iconst 0, 1)), (5, (.istore 6, 2)), (7, (.iload 6, 2)), (9, (.aload_n 0, 1)), (10, (.getfield 17, 3)), (13, (.iconst 4, 1)), (14, (.iaload, 1)), (15, (.if_icmp .ge 91, 3)), (18, (.aload_n 0, 1)), (19, (.iload 6, 2)), (21, (.invokevirtual 253, 3)), (24, (.ifCond .eq 44, 3)), (27, (.aload_n 0, 1)), (28, (.getfield 17, 3)), (31, (.iload 6, 2)), (33, (.iconst 1, 1)), (34, (.invokestatic 209, 3)), (37, (.iaload, 1)), (38, (.iload_n 1, 1)), (39, (.if_icmp .ne 29, 3)), (42, (.aload_n 0, 1)), (43, (.iload 6, 2)), (45, (.invokevirtual 250, 3)), (48, (.iload_n 2, 1)), (49, (.if_icmp .lt 19, 3)), (52, (.aload_n 0, 1)), (53, (.iload 6, 2)), (55, (.iload_n 3, 1)), (56, (.invokevirtual 316, 3)), (59, (.iload 4, 2)), (61, (.if_icmp .ne 7, 3)), (64, (.iconst 1, 1)), (65, (.goto 4, 3)), (68, (.iconst 0, 1)), (69, (.istore 7, 2)), (71, (.iload 7, 2)), (73, (.ifCond .eq 23, 3)), (76, (.aload_n 0, 1)), (77, (.iload 6, 2)), (79, (.invokevirtual 250, 3)), (82, (.iload 5, 2)), (84, (.if_icmp .le 12, 3)), (87, (.aload_n 0, 1)), (88, (.iload 6, 2)), (90, (.invokevirtual 250, 3)), (93, (.goto 5, 3)), (96, (.iload 5, 2)), (98, (.istore 5, 2))]
theorem t_Mo_latestOf_0_ok : ∀ q ∈ t_Mo_latestOf_0, decode prog_12_method_70_code q.1 = .ok q.2 := by decide +kernel
def t_Mo_latestOf_1 : List (Nat × Instr × Nat) := [(100, (.iinc 6 1, 3)), (103, (.goto (-96), 3)), (106, (.iload 5, 2)), (108, (.ireturn, 1))]
theorem t_Mo_latestOf_1_ok : ∀ q ∈ t_Mo_latestOf_1, decode prog_12_method_70_code q.1 = .ok q.2 := by decide +kernel
def m_Mo_latestOf : mM := (⟨"LinkTimesModel", "latestOf", "(IIII)I"⟩, prog_12_method_70_code, 8, (some .int), t_Mo_latestOf_0 ++ t_Mo_latestOf_1)
theorem ok_Mo_latestOf : mOK m_Mo_latestOf := ⟨by decide, tm 1655 (by decide +kernel) rfl, all_app (t_Mo_latestOf_0_ok) t_Mo_latestOf_1_ok, tm 123 (by decide +kernel) rfl, by decide, by decide⟩
theorem vm_Mo_latestOf : mVt m_Mo_latestOf := ⟨tm 1654 (by decide +kernel) rfl, tm 98 (by decide +kernel) rfl⟩
def t_Mo_trade_0 : List (Nat × Instr × Nat) := [(0, (.aload_n 0, 1)), (1, (.aload_n 0, 1)), (2, (.iload_n 1, 1)), (3, (.iload_n 2, 1)), (4, (.iload_n 3, 1)), (5, (.invokevirtual 307, 3)), (8, (.invokevirtual 228, 3)), (11, (.ifCond .eq 5, 3)), (14, (.iconst (-1), 1)), (15, (.ireturn, 1)), (16, (.iload_n 1, 1)), (17, (.iload_n 2, 1)), (18, (.if_icmp .ne 38, 3)), (21, (.iload 4, 2)), (23, (.ifCond .ne 13, 3)), (26, (.iload 5, 2)), (28, (.iconst 0, 1)), (29, (.iconst 2, 1)), (30, (.invokestatic 107, 3)), (33, (.ifCond .ne 11, 3)), (36, (.aload_n 0, 1)), (37, (.iconst 1, 1)), (38, (.invokevirtual 237, 3)), (41, (.goto 14, 3)), (44, (.iload 5, 2)), (46, (.iconst 1, 1)), (47, (.if_icmp .ne 7, 3)), (50, (.iconst 0, 1)), (51, (.goto 4, 3)), (54, (.iload_n 3, 1)), (55, (.ireturn, 1)), (56, (.aload_n 0, 1)), (57, (.iload_n 1, 1)), (58, (.iload_n 2, 1)), (59, (.iload_n 3, 1)), (60, (.invokevirtual 328, 3)), (63, (.aload_n 0, 1)), (64, (.getfield 325, 3)), (67, (.ifCond .ne 6, 3)), (70, (.bipush (-2), 2)), (72, (.ireturn, 1)), (73, (.iload 4, 2)), (75, (.iconst 0, 1)), (76, (.aload_n 0, 1)), (77, (.getfield 325, 3)), (80, (.iconst 1, 1)), (81, (.isub, 1)), (82, (.invokestatic 107, 3)), (85, (.ifCond .eq 13, 3)), (88, (.iload 5, 2))]
theorem t_Mo_trade_0_ok : ∀ q ∈ t_Mo_trade_0, decode prog_12_method_71_code q.1 = .ok q.2 := by decide +kernel
def t_Mo_trade_1 : List (Nat × Instr × Nat) := [(90, (.iconst 0, 1)), (91, (.iconst 2, 1)), (92, (.invokestatic 107, 3)), (95, (.ifCond .ne 9, 3)), (98, (.aload_n 0, 1)), (99, (.iconst 1, 1)), (100, (.invokevirtual 237, 3)), (103, (.ireturn, 1)), (104, (.iload 5, 2)), (106, (.ifCond .ne 13, 3)), (109, (.aload_n 0, 1)), (110, (.getfield 57, 3)), (113, (.iload 4, 2)), (115, (.iaload, 1)), (116, (.goto 39, 3)), (119, (.iload 5, 2)), (121, (.iconst 1, 1)), (122, (.if_icmp .ne 13, 3)), (125, (.aload_n 0, 1)), (126, (.getfield 60, 3)), (129, (.iload 4, 2)), (131, (.iaload, 1)), (132, (.goto 23, 3)), (135, (.aload_n 0, 1)), (136, (.iload_n 1, 1)), (137, (.iload_n 3, 1)), (138, (.aload_n 0, 1)), (139, (.getfield 60, 3)), (142, (.iload 4, 2)), (144, (.iaload, 1)), (145, (.aload_n 0, 1)), (146, (.getfield 57, 3)), (149, (.iload 4, 2)), (151, (.iaload, 1)), (152, (.invokevirtual 332, 3)), (155, (.ireturn, 1))]
theorem t_Mo_trade_1_ok : ∀ q ∈ t_Mo_trade_1, decode prog_12_method_71_code q.1 = .ok q.2 := by decide +kernel
def m_Mo_trade : mM := (⟨"LinkTimesModel", "trade", "(IIIII)I"⟩, prog_12_method_71_code, 6, (some .int), t_Mo_trade_0 ++ t_Mo_trade_1)
theorem ok_Mo_trade : mOK m_Mo_trade := ⟨by decide, tm 1651 (by decide +kernel) rfl, all_app (t_Mo_trade_0_ok) t_Mo_trade_1_ok, tm 123 (by decide +kernel) rfl, by decide, by decide⟩
theorem vm_Mo_trade : mVt m_Mo_trade := ⟨tm 1649 (by decide +kernel) rfl, tm 1650 (by decide +kernel) rfl⟩
def t_Mo_stands_0 : List (Nat × Instr × Nat) := [(0, (.aload_n 0, 1)), (1, (.aload_n 0, 1)), (2, (.iload_n 1, 1)), (3, (.iload_n 2, 1)), (4, (.iload_n 3, 1)), (5, (.invokevirtual 307, 3)), (8, (.invokevirtual 228, 3)), (11, (.ifCond .eq 5, 3)), (14, (.iconst (-1), 1)), (15, (.ireturn, 1)), (16, (.aload_n 0, 1)), (17, (.iload_n 1, 1)), (18, (.iload_n 2, 1)), (19, (.iload_n 3, 1)), (20, (.invokevirtual 314, 3)), (23, (.istore 4, 2)), (25, (.iload 4, 2)), (27, (.iconst (-1), 1)), (28, (.if_icmp .ne 15, 3)), (31, (.iload_n 1, 1)), (32, (.iload_n 2, 1)), (33, (.if_icmp .ne 7, 3)), (36, (.iconst 0, 1)), (37, (.goto 5, 3)), (40, (.bipush (-2), 2)), (42, (.ireturn, 1)), (43, (.iconst 0, 1)), (44, (.istore 5, 2)), (46, (.aload_n 0, 1)), (47, (.getfield 48, 3)), (50, (.iload 4, 2)), (52, (.iaload, 1)), (53, (.iconst (-1), 1)), (54, (.if_icmp .eq 38, 3)), (57, (.iload 5, 2)), (59, (.aload_n 0, 1)), (60, (.aload_n 0, 1)), (61, (.getfield 48, 3)), (64, (.iload 4, 2)), (66, (.iaload, 1)), (67, (.invokevirtual 250, 3)), (70, (.aload_n 0, 1)), (71, (.iload 4, 2)), (73, (.invokevirtual 272, 3)), (76, (.isub, 1)), (77, (.iadd, 1)), (78, (.istore 5, 2)), (80, (.aload_n 0, 1)), (81, (.getfield 48, 3)), (84, (.iload 4, 2))]
theorem t_Mo_stands_0_ok : ∀ q ∈ t_Mo_stands_0, decode prog_12_method_72_code q.1 = .ok q.2 := by decide +kernel
def t_Mo_stands_1 : List (Nat × Instr × Nat) := [(86, (.iaload, 1)), (87, (.istore 4, 2)), (89, (.goto (-43), 3)), (92, (.iload 5, 2)), (94, (.ireturn, 1))]
theorem t_Mo_stands_1_ok : ∀ q ∈ t_Mo_stands_1, decode prog_12_method_72_code q.1 = .ok q.2 := by decide +kernel
def m_Mo_stands : mM := (⟨"LinkTimesModel", "stands", "(III)I"⟩, prog_12_method_72_code, 6, (some .int), t_Mo_stands_0 ++ t_Mo_stands_1)
theorem ok_Mo_stands : mOK m_Mo_stands := ⟨by decide, tm 1659 (by decide +kernel) rfl, all_app (t_Mo_stands_0_ok) t_Mo_stands_1_ok, tm 123 (by decide +kernel) rfl, by decide, by decide⟩
theorem vm_Mo_stands : mVt m_Mo_stands := ⟨tm 1657 (by decide +kernel) rfl, tm 1658 (by decide +kernel) rfl⟩
def t_Mo_latest_0 : List (Nat × Instr × Nat) := [(0, (.aload_n 0, 1)), (1, (.aload_n 0, 1)), (2, (.iload_n 1, 1)), (3, (.iload_n 2, 1)), (4, (.iload_n 3, 1)), (5, (.invokevirtual 307, 3)), (8, (.invokevirtual 228, 3)), (11, (.ifCond .eq 5, 3)), (14, (.iconst (-1), 1)), (15, (.ireturn, 1)), (16, (.iload_n 1, 1)), (17, (.iload_n 2, 1)), (18, (.if_icmp .ne 5, 3)), (21, (.iload_n 3, 1)), (22, (.ireturn, 1)), (23, (.aload_n 0, 1)), (24, (.iload_n 2, 1)), (25, (.invokevirtual 298, 3)), (28, (.bipush (-2), 2)), (30, (.istore 4, 2)), (32, (.iconst 0, 1)), (33, (.istore 5, 2)), (35, (.iload 5, 2)), (37, (.aload_n 0, 1)), (38, (.getfield 17, 3)), (41, (.iconst 4, 1)), (42, (.iaload, 1)), (43, (.if_icmp .ge 80, 3)), (46, (.aload_n 0, 1)), (47, (.iload 5, 2)), (49, (.invokevirtual 253, 3)), (52, (.ifCond .eq 33, 3)), (55, (.aload_n 0, 1)), (56, (.getfield 17, 3)), (59, (.iload 5, 2)), (61, (.iconst 1, 1)), (62, (.invokestatic 209, 3)), (65, (.iaload, 1)), (66, (.iload_n 1, 1)), (67, (.if_icmp .ne 18, 3)), (70, (.aload_n 0, 1)), (71, (.getfield 39, 3)), (74, (.iload 5, 2)), (76, (.iaload, 1)), (77, (.iload_n 3, 1)), (78, (.if_icmp .gt 7, 3)), (81, (.iconst 1, 1)), (82, (.goto 4, 3)), (85, (.iconst 0, 1)), (86, (.istore 6, 2))]
theorem t_Mo_latest_0_ok : ∀ q ∈ t_Mo_latest_0, decode prog_12_method_73_code q.1 = .ok q.2 := by decide +kernel
def t_Mo_latest_1 : List (Nat × Instr × Nat) := [(88, (.iload 6, 2)), (90, (.ifCond .eq 23, 3)), (93, (.aload_n 0, 1)), (94, (.iload 5, 2)), (96, (.invokevirtual 250, 3)), (99, (.iload 4, 2)), (101, (.if_icmp .le 12, 3)), (104, (.aload_n 0, 1)), (105, (.iload 5, 2)), (107, (.invokevirtual 250, 3)), (110, (.goto 5, 3)), (113, (.iload 4, 2)), (115, (.istore 4, 2)), (117, (.iinc 5 1, 3)), (120, (.goto (-85), 3)), (123, (.iload 4, 2)), (125, (.ireturn, 1))]
theorem t_Mo_latest_1_ok : ∀ q ∈ t_Mo_latest_1, decode prog_12_method_73_code q.1 = .ok q.2 := by decide +kernel
def m_Mo_latest : mM := (⟨"LinkTimesModel", "latest", "(III)I"⟩, prog_12_method_73_code, 7, (some .int), t_Mo_latest_0 ++ t_Mo_latest_1)
theorem ok_Mo_latest : mOK m_Mo_latest := ⟨by decide, tm 1663 (by decide +kernel) rfl, all_app (t_Mo_latest_0_ok) t_Mo_latest_1_ok, tm 123 (by decide +kernel) rfl, by decide, by decide⟩
theorem vm_Mo_latest : mVt m_Mo_latest := ⟨tm 1661 (by decide +kernel) rfl, tm 1662 (by decide +kernel) rfl⟩
def t_Mo_reach_0 : List (Nat × Instr × Nat) := [(0, (.aload_n 0, 1)), (1, (.aload_n 0, 1)), (2, (.iload_n 1, 1)), (3, (.invokevirtual 263, 3)), (6, (.iload_n 2, 1)), (7, (.iconst 0, 1)), (8, (.sipush 1999, 3)), (11, (.invokestatic 107, 3)), (14, (.ifCond .eq 18, 3)), (17, (.iload_n 3, 1)), (18, (.iconst 0, 1)), (19, (.sipush 1999, 3)), (22, (.invokestatic 107, 3)), (25, (.ifCond .eq 7, 3)), (28, (.iconst 1, 1)), (29, (.goto 4, 3)), (32, (.iconst 0, 1)), (33, (.invokestatic 304, 3)), (36, (.invokevirtual 228, 3)), (39, (.ifCond .eq 5, 3)), (42, (.iconst (-1), 1)), (43, (.ireturn, 1)), (44, (.iconst 0, 1)), (45, (.istore 4, 2)), (47, (.iconst 0, 1)), (48, (.istore 5, 2)), (50, (.iload 5, 2)), (52, (.aload_n 0, 1)), (53, (.getfield 17, 3)), (56, (.iconst 1, 1)), (57, (.iaload, 1)), (58, (.if_icmp .ge 45, 3)), (61, (.aload_n 0, 1)), (62, (.iload_n 1, 1)), (63, (.iload 5, 2)), (65, (.iload_n 2, 1)), (66, (.invokevirtual 311, 3)), (69, (.istore 6, 2)), (71, (.iload 4, 2)), (73, (.iload 6, 2)), (75, (.bipush (-2), 2)), (77, (.if_icmp .eq 16, 3)), (80, (.iload 6, 2)), (82, (.iload_n 3, 1)), (83, (.if_icmp .gt 10, 3)), (86, (.iconst 1, 1)), (87, (.iload 5, 2)), (89, (.ishl, 1)), (90, (.goto 4, 3)), (93, (.iconst 0, 1))]
theorem t_Mo_reach_0_ok : ∀ q ∈ t_Mo_reach_0, decode prog_12_method_74_code q.1 = .ok q.2 := by decide +kernel
def t_Mo_reach_1 : List (Nat × Instr × Nat) := [(94, (.ior, 1)), (95, (.istore 4, 2)), (97, (.iinc 5 1, 3)), (100, (.goto (-50), 3)), (103, (.iload 4, 2)), (105, (.ireturn, 1))]
theorem t_Mo_reach_1_ok : ∀ q ∈ t_Mo_reach_1, decode prog_12_method_74_code q.1 = .ok q.2 := by decide +kernel
def m_Mo_reach : mM := (⟨"LinkTimesModel", "reach", "(III)I"⟩, prog_12_method_74_code, 7, (some .int), t_Mo_reach_0 ++ t_Mo_reach_1)
theorem ok_Mo_reach : mOK m_Mo_reach := ⟨by decide, tm 1667 (by decide +kernel) rfl, all_app (t_Mo_reach_0_ok) t_Mo_reach_1_ok, tm 123 (by decide +kernel) rfl, by decide, by decide⟩
theorem vm_Mo_reach : mVt m_Mo_reach := ⟨tm 1665 (by decide +kernel) rfl, tm 1666 (by decide +kernel) rfl⟩
def t_Mo_farthest_0 : List (Nat × Instr × Nat) := [(0, (.aload_n 0, 1)), (1, (.aload_n 0, 1)), (2, (.iload_n 1, 1)), (3, (.invokevirtual 263, 3)), (6, (.iload_n 2, 1)), (7, (.iconst 0, 1)), (8, (.sipush 1999, 3)), (11, (.invokestatic 107, 3)), (14, (.invokestatic 304, 3)), (17, (.invokevirtual 228, 3)), (20, (.ifCond .eq 5, 3)), (23, (.iconst (-1), 1)), (24, (.ireturn, 1)), (25, (.iconst (-1), 1)), (26, (.istore_n 3, 1)), (27, (.bipush (-2), 2)), (29, (.istore 4, 2)), (31, (.iconst 0, 1)), (32, (.istore 5, 2)), (34, (.iload 5, 2)), (36, (.aload_n 0, 1)), (37, (.getfield 17, 3)), (40, (.iconst 1, 1)), (41, (.iaload, 1)), (42, (.if_icmp .ge 33, 3)), (45, (.aload_n 0, 1)), (46, (.iload_n 1, 1)), (47, (.iload 5, 2)), (49, (.iload_n 2, 1)), (50, (.invokevirtual 311, 3)), (53, (.istore 6, 2)), (55, (.iload 6, 2)), (57, (.iload 4, 2)), (59, (.if_icmp .le 10, 3)), (62, (.iload 6, 2)), (64, (.istore 4, 2)), (66, (.iload 5, 2)), (68, (.istore_n 3, 1)), (69, (.iinc 5 1, 3)), (72, (.goto (-38), 3)), (75, (.iload_n 3, 1)), (76, (.ireturn, 1))]
theorem t_Mo_farthest_0_ok : ∀ q ∈ t_Mo_farthest_0, decode prog_12_method_75_code q.1 = .ok q.2 := by decide +kernel
def m_Mo_farthest : mM := (⟨"LinkTimesModel", "farthest", "(II)I"⟩, prog_12_method_75_code, 7, (some .int), t_Mo_farthest_0)
theorem ok_Mo_farthest : mOK m_Mo_farthest := ⟨by decide, tm 1671 (by decide +kernel) rfl, t_Mo_farthest_0_ok, tm 123 (by decide +kernel) rfl, by decide, by decide⟩
theorem vm_Mo_farthest : mVt m_Mo_farthest := ⟨tm 1669 (by decide +kernel) rfl, tm 1670 (by decide +kernel) rfl⟩
def t_Mo_meets_0 : List (Nat × Instr × Nat) := [(0, (.aload_n 0, 1)), (1, (.aload_n 0, 1)), (2, (.iload_n 1, 1)), (3, (.iload_n 2, 1)), (4, (.iload_n 3, 1)), (5, (.invokevirtual 307, 3)), (8, (.invokevirtual 228, 3)), (11, (.ifCond .eq 5, 3)), (14, (.iconst (-1), 1)), (15, (.ireturn, 1)), (16, (.bipush (-2), 2)), (18, (.istore 4, 2)), (20, (.sipush 9999, 3)), (23, (.istore 5, 2)), (25, (.iconst 0, 1)), (26, (.istore 6, 2)), (28, (.iload 6, 2)), (30, (.aload_n 0, 1)), (31, (.getfield 17, 3)), (34, (.iconst 1, 1)), (35, (.iaload, 1)), (36, (.if_icmp .ge 74, 3)), (39, (.aload_n 0, 1)), (40, (.iload_n 1, 1)), (41, (.iload 6, 2)), (43, (.iload_n 3, 1)), (44, (.invokevirtual 311, 3)), (47, (.istore 7, 2)), (49, (.aload_n 0, 1)), (50, (.iload_n 2, 1)), (51, (.iload 6, 2)), (53, (.iload_n 3, 1)), (54, (.invokevirtual 311, 3)), (57, (.istore 8, 2)), (59, (.iload 7, 2)), (61, (.iload 8, 2)), (63, (.if_icmp .le 8, 3)), (66, (.iload 7, 2)), (68, (.goto 5, 3)), (71, (.iload 8, 2)), (73, (.istore 9, 2)), (75, (.iload 7, 2)), (77, (.bipush (-2), 2)), (79, (.if_icmp .eq 25, 3)), (82, (.iload 8, 2)), (84, (.bipush (-2), 2)), (86, (.if_icmp .eq 18, 3)), (89, (.iload 9, 2)), (91, (.iload 5, 2)), (93, (.if_icmp .ge 11, 3))]
theorem t_Mo_meets_0_ok : ∀ q ∈ t_Mo_meets_0, decode prog_12_method_76_code q.1 = .ok q.2 := by decide +kernel
def t_Mo_meets_1 : List (Nat × Instr × Nat) := [(96, (.iload 9, 2)), (98, (.istore 5, 2)), (100, (.iload 6, 2)), (102, (.istore 4, 2)), (104, (.iinc 6 1, 3)), (107, (.goto (-79), 3)), (110, (.iload 4, 2)), (112, (.ireturn, 1))]
theorem t_Mo_meets_1_ok : ∀ q ∈ t_Mo_meets_1, decode prog_12_method_76_code q.1 = .ok q.2 := by decide +kernel
def m_Mo_meets : mM := (⟨"LinkTimesModel", "meets", "(III)I"⟩, prog_12_method_76_code, 10, (some .int), t_Mo_meets_0 ++ t_Mo_meets_1)
theorem ok_Mo_meets : mOK m_Mo_meets := ⟨by decide, tm 1675 (by decide +kernel) rfl, all_app (t_Mo_meets_0_ok) t_Mo_meets_1_ok, tm 123 (by decide +kernel) rfl, by decide, by decide⟩
theorem vm_Mo_meets : mVt m_Mo_meets := ⟨tm 1673 (by decide +kernel) rfl, tm 1674 (by decide +kernel) rfl⟩
def t_Mo_round_0 : List (Nat × Instr × Nat) := [(0, (.aload_n 0, 1)), (1, (.iload_n 1, 1)), (2, (.iload_n 2, 1)), (3, (.iload_n 3, 1)), (4, (.invokevirtual 307, 3)), (7, (.istore 5, 2)), (9, (.aload_n 0, 1)), (10, (.iload 5, 2)), (12, (.ifCond .ne 19, 3)), (15, (.iload 4, 2)), (17, (.iconst 0, 1)), (18, (.sipush 999, 3)), (21, (.invokestatic 107, 3)), (24, (.ifCond .ne 7, 3)), (27, (.iconst 2, 1)), (28, (.goto 5, 3)), (31, (.iload 5, 2)), (33, (.invokevirtual 228, 3)), (36, (.ifCond .eq 5, 3)), (39, (.iconst (-1), 1)), (40, (.ireturn, 1)), (41, (.aload_n 0, 1)), (42, (.iload_n 1, 1)), (43, (.iload_n 2, 1)), (44, (.iload_n 3, 1)), (45, (.invokevirtual 311, 3)), (48, (.istore 6, 2)), (50, (.iload 6, 2)), (52, (.bipush (-2), 2)), (54, (.if_icmp .ne 8, 3)), (57, (.bipush (-2), 2)), (59, (.goto 14, 3)), (62, (.aload_n 0, 1)), (63, (.iload_n 2, 1)), (64, (.iload_n 1, 1)), (65, (.iload 6, 2)), (67, (.iload 4, 2)), (69, (.iadd, 1)), (70, (.invokevirtual 311, 3)), (73, (.ireturn, 1))]
theorem t_Mo_round_0_ok : ∀ q ∈ t_Mo_round_0, decode prog_12_method_77_code q.1 = .ok q.2 := by decide +kernel
def m_Mo_round : mM := (⟨"LinkTimesModel", "round", "(IIII)I"⟩, prog_12_method_77_code, 7, (some .int), t_Mo_round_0)
theorem ok_Mo_round : mOK m_Mo_round := ⟨by decide, tm 1679 (by decide +kernel) rfl, t_Mo_round_0_ok, tm 123 (by decide +kernel) rfl, by decide, by decide⟩
theorem vm_Mo_round : mVt m_Mo_round := ⟨tm 1677 (by decide +kernel) rfl, tm 1678 (by decide +kernel) rfl⟩
def t_Mo_beginsStep_0 : List (Nat × Instr × Nat) := [(0, (.aload_n 0, 1)), (1, (.iload_n 2, 1)), (2, (.invokevirtual 253, 3)), (5, (.ifCond .eq 29, 3)), (8, (.aload_n 0, 1)), (9, (.getfield 17, 3)), (12, (.iload_n 2, 1)), (13, (.iconst 1, 1)), (14, (.invokestatic 209, 3)), (17, (.iaload, 1)), (18, (.iload_n 1, 1)), (19, (.if_icmp .ne 15, 3)), (22, (.aload_n 0, 1)), (23, (.getfield 39, 3)), (26, (.iload_n 2, 1)), (27, (.iaload, 1)), (28, (.sipush 9999, 3)), (31, (.if_icmp .ne 5, 3)), (34, (.iconst 0, 1)), (35, (.ireturn, 1)), (36, (.iconst 0, 1)), (37, (.istore_n 3, 1)), (38, (.iload_n 3, 1)), (39, (.aload_n 0, 1)), (40, (.getfield 17, 3)), (43, (.iconst 4, 1)), (44, (.iaload, 1)), (45, (.if_icmp .ge 173, 3)), (48, (.iload_n 3, 1)), (49, (.iload_n 2, 1)), (50, (.if_icmp .eq 162, 3)), (53, (.aload_n 0, 1)), (54, (.iload_n 3, 1)), (55, (.invokevirtual 253, 3)), (58, (.ifCond .eq 154, 3)), (61, (.aload_n 0, 1)), (62, (.getfield 17, 3)), (65, (.iload_n 3, 1)), (66, (.iconst 1, 1)), (67, (.invokestatic 209, 3)), (70, (.iaload, 1)), (71, (.iload_n 1, 1)), (72, (.if_icmp .ne 140, 3)), (75, (.aload_n 0, 1)), (76, (.getfield 39, 3)), (79, (.iload_n 3, 1)), (80, (.iaload, 1)), (81, (.sipush 9999, 3)), (84, (.if_icmp .ne 6, 3)), (87, (.goto 125, 3))]
theorem t_Mo_beginsStep_0_ok : ∀ q ∈ t_Mo_beginsStep_0, decode prog_12_method_78_code q.1 = .ok q.2 := by decide +kernel
def t_Mo_beginsStep_1 : List (Nat × Instr × Nat) := [(90, (.aload_n 0, 1)), (91, (.iload_n 3, 1)), (92, (.invokevirtual 250, 3)), (95, (.aload_n 0, 1)), (96, (.iload_n 2, 1)), (97, (.invokevirtual 250, 3)), (100, (.if_icmp .lt 22, 3)), (103, (.aload_n 0, 1)), (104, (.getfield 39, 3)), (107, (.iload_n 3, 1)), (108, (.iaload, 1)), (109, (.aload_n 0, 1)), (110, (.getfield 39, 3)), (113, (.iload_n 2, 1)), (114, (.iaload, 1)), (115, (.if_icmp .gt 7, 3)), (118, (.iconst 1, 1)), (119, (.goto 4, 3)), (122, (.iconst 0, 1)), (123, (.istore 4, 2)), (125, (.aload_n 0, 1)), (126, (.iload_n 3, 1)), (127, (.invokevirtual 250, 3)), (130, (.aload_n 0, 1)), (131, (.iload_n 2, 1)), (132, (.invokevirtual 250, 3)), (135, (.if_icmp .ne 22, 3)), (138, (.aload_n 0, 1)), (139, (.getfield 39, 3)), (142, (.iload_n 3, 1)), (143, (.iaload, 1)), (144, (.aload_n 0, 1)), (145, (.getfield 39, 3)), (148, (.iload_n 2, 1)), (149, (.iaload, 1)), (150, (.if_icmp .ne 7, 3)), (153, (.iconst 1, 1)), (154, (.goto 4, 3)), (157, (.iconst 0, 1)), (158, (.istore 5, 2)), (160, (.iload 4, 2)), (162, (.ifCond .eq 8, 3)), (165, (.iload 5, 2)), (167, (.ifCond .eq 43, 3)), (170, (.iload 5, 2)), (172, (.ifCond .eq 40, 3)), (175, (.aload_n 0, 1)), (176, (.getfield 42, 3)), (179, (.iload_n 3, 1)), (180, (.iaload, 1))]
theorem t_Mo_beginsStep_1_ok : ∀ q ∈ t_Mo_beginsStep_1, decode prog_12_method_78_code q.1 = .ok q.2 := by decide +kernel
def t_Mo_beginsStep_2 : List (Nat × Instr × Nat) := [(181, (.aload_n 0, 1)), (182, (.getfield 42, 3)), (185, (.iload_n 2, 1)), (186, (.iaload, 1)), (187, (.if_icmp .lt 23, 3)), (190, (.aload_n 0, 1)), (191, (.getfield 42, 3)), (194, (.iload_n 3, 1)), (195, (.iaload, 1)), (196, (.aload_n 0, 1)), (197, (.getfield 42, 3)), (200, (.iload_n 2, 1)), (201, (.iaload, 1)), (202, (.if_icmp .ne 10, 3)), (205, (.iload_n 3, 1)), (206, (.iload_n 2, 1)), (207, (.if_icmp .ge 5, 3)), (210, (.iconst 0, 1)), (211, (.ireturn, 1)), (212, (.iinc 3 1, 3)), (215, (.goto (-177), 3)), (218, (.iconst 1, 1)), (219, (.ireturn, 1))]
theorem t_Mo_beginsStep_2_ok : ∀ q ∈ t_Mo_beginsStep_2, decode prog_12_method_78_code q.1 = .ok q.2 := by decide +kernel
def m_Mo_beginsStep : mM := (⟨"LinkTimesModel", "beginsStep", "(II)Z"⟩, prog_12_method_78_code, 6, (some .boolean), t_Mo_beginsStep_0 ++ t_Mo_beginsStep_1 ++ t_Mo_beginsStep_2)
theorem ok_Mo_beginsStep : mOK m_Mo_beginsStep := ⟨by decide, tm 1735 (by decide +kernel) rfl, all_app (all_app (t_Mo_beginsStep_0_ok) t_Mo_beginsStep_1_ok) t_Mo_beginsStep_2_ok, tm 123 (by decide +kernel) rfl, by decide, by decide⟩
theorem vm_Mo_beginsStep : mVt m_Mo_beginsStep := ⟨tm 1734 (by decide +kernel) rfl, tm 106 (by decide +kernel) rfl⟩
def t_Mo_laysSteps_0 : List (Nat × Instr × Nat) := [(0, (.aload_n 0, 1)), (1, (.iload_n 2, 1)), (2, (.invokevirtual 298, 3)), (5, (.aload_n 0, 1)), (6, (.iconst 0, 1)), (7, (.putfield 336, 3)), (10, (.aload_n 0, 1)), (11, (.getfield 275, 3)), (14, (.iconst 1, 1)), (15, (.isub, 1)), (16, (.istore_n 3, 1)), (17, (.iload_n 3, 1)), (18, (.ifCond .lt 84, 3)), (21, (.aload_n 0, 1)), (22, (.getfield 51, 3)), (25, (.iload_n 3, 1)), (26, (.iaload, 1)), (27, (.istore 4, 2)), (29, (.aload_n 0, 1)), (30, (.iload_n 1, 1)), (31, (.iload 4, 2)), (33, (.invokevirtual 339, 3)), (36, (.ifCond .eq 60, 3)), (39, (.aload_n 0, 1)), (40, (.getfield 63, 3)), (43, (.aload_n 0, 1)), (44, (.getfield 336, 3)), (47, (.aload_n 0, 1)), (48, (.iload 4, 2)), (50, (.invokevirtual 250, 3)), (53, (.iastore, 1)), (54, (.aload_n 0, 1)), (55, (.getfield 66, 3)), (58, (.aload_n 0, 1)), (59, (.getfield 336, 3)), (62, (.aload_n 0, 1)), (63, (.getfield 39, 3)), (66, (.iload 4, 2)), (68, (.iaload, 1)), (69, (.iastore, 1)), (70, (.aload_n 0, 1)), (71, (.getfield 69, 3)), (74, (.aload_n 0, 1)), (75, (.getfield 336, 3)), (78, (.aload_n 0, 1)), (79, (.getfield 42, 3)), (82, (.iload 4, 2)), (84, (.iaload, 1)), (85, (.iastore, 1)), (86, (.aload_n 0, 1))]
theorem t_Mo_laysSteps_0_ok : ∀ q ∈ t_Mo_laysSteps_0, decode prog_12_method_79_code q.1 = .ok q.2 := by decide +kernel
def t_Mo_laysSteps_1 : List (Nat × Instr × Nat) := [(87, (.dup, 1)), (88, (.getfield 336, 3)), (91, (.iconst 1, 1)), (92, (.iadd, 1)), (93, (.putfield 336, 3)), (96, (.iinc 3 (-1), 3)), (99, (.goto (-82), 3)), (102, (.return_, 1))]
theorem t_Mo_laysSteps_1_ok : ∀ q ∈ t_Mo_laysSteps_1, decode prog_12_method_79_code q.1 = .ok q.2 := by decide +kernel
def m_Mo_laysSteps : mM := (⟨"LinkTimesModel", "laysSteps", "(II)V"⟩, prog_12_method_79_code, 5, none, t_Mo_laysSteps_0 ++ t_Mo_laysSteps_1)
theorem ok_Mo_laysSteps : mOK m_Mo_laysSteps := ⟨by decide, tm 1731 (by decide +kernel) rfl, all_app (t_Mo_laysSteps_0_ok) t_Mo_laysSteps_1_ok, tm 123 (by decide +kernel) rfl, by decide, by decide⟩
theorem vm_Mo_laysSteps : mVt m_Mo_laysSteps := ⟨tm 1730 (by decide +kernel) rfl, tm 105 (by decide +kernel) rfl⟩
def t_Mo_laysOthers_0 : List (Nat × Instr × Nat) := [(0, (.aload_n 0, 1)), (1, (.invokevirtual 342, 3)), (4, (.aload_n 0, 1)), (5, (.iconst 0, 1)), (6, (.putfield 345, 3)), (9, (.aload_n 0, 1)), (10, (.iload_n 1, 1)), (11, (.iload_n 2, 1)), (12, (.iload_n 3, 1)), (13, (.invokevirtual 314, 3)), (16, (.istore 4, 2)), (18, (.iload 4, 2)), (20, (.iconst (-1), 1)), (21, (.if_icmp .eq 72, 3)), (24, (.aload_n 0, 1)), (25, (.getfield 72, 3)), (28, (.aload_n 0, 1)), (29, (.getfield 345, 3)), (32, (.aload_n 0, 1)), (33, (.getfield 39, 3)), (36, (.iload 4, 2)), (38, (.iaload, 1)), (39, (.iastore, 1)), (40, (.aload_n 0, 1)), (41, (.dup, 1)), (42, (.getfield 345, 3)), (45, (.iconst 1, 1)), (46, (.iadd, 1)), (47, (.putfield 345, 3)), (50, (.iload 4, 2)), (52, (.iconst (-1), 1)), (53, (.if_icmp .eq 28, 3)), (56, (.aload_n 0, 1)), (57, (.getfield 17, 3)), (60, (.iload 4, 2)), (62, (.bipush 6, 2)), (64, (.invokestatic 209, 3)), (67, (.iconst 0, 1)), (68, (.iastore, 1)), (69, (.aload_n 0, 1)), (70, (.getfield 48, 3)), (73, (.iload 4, 2)), (75, (.iaload, 1)), (76, (.istore 4, 2)), (78, (.goto (-28), 3)), (81, (.aload_n 0, 1)), (82, (.iload_n 1, 1)), (83, (.iload_n 2, 1)), (84, (.iload_n 3, 1)), (85, (.invokevirtual 314, 3))]
theorem t_Mo_laysOthers_0_ok : ∀ q ∈ t_Mo_laysOthers_0, decode prog_12_method_80_code q.1 = .ok q.2 := by decide +kernel
def t_Mo_laysOthers_1 : List (Nat × Instr × Nat) := [(88, (.istore 4, 2)), (90, (.goto (-72), 3)), (93, (.aload_n 0, 1)), (94, (.invokevirtual 348, 3)), (97, (.return_, 1))]
theorem t_Mo_laysOthers_1_ok : ∀ q ∈ t_Mo_laysOthers_1, decode prog_12_method_80_code q.1 = .ok q.2 := by decide +kernel
def m_Mo_laysOthers : mM := (⟨"LinkTimesModel", "laysOthers", "(III)V"⟩, prog_12_method_80_code, 5, none, t_Mo_laysOthers_0 ++ t_Mo_laysOthers_1)
theorem ok_Mo_laysOthers : mOK m_Mo_laysOthers := ⟨by decide, tm 1691 (by decide +kernel) rfl, all_app (t_Mo_laysOthers_0_ok) t_Mo_laysOthers_1_ok, tm 123 (by decide +kernel) rfl, by decide, by decide⟩
theorem vm_Mo_laysOthers : mVt m_Mo_laysOthers := ⟨tm 1690 (by decide +kernel) rfl, tm 100 (by decide +kernel) rfl⟩
def t_Mo_others_0 : List (Nat × Instr × Nat) := [(0, (.aload_n 0, 1)), (1, (.aload_n 0, 1)), (2, (.iload_n 1, 1)), (3, (.iload_n 2, 1)), (4, (.invokevirtual 351, 3)), (7, (.iload_n 3, 1)), (8, (.iconst 0, 1)), (9, (.sipush 1999, 3)), (12, (.invokestatic 107, 3)), (15, (.invokestatic 304, 3)), (18, (.invokevirtual 228, 3)), (21, (.ifCond .eq 5, 3)), (24, (.iconst (-1), 1)), (25, (.ireturn, 1)), (26, (.aload_n 0, 1)), (27, (.iload_n 1, 1)), (28, (.iload_n 2, 1)), (29, (.iload_n 3, 1)), (30, (.invokevirtual 354, 3)), (33, (.aload_n 0, 1)), (34, (.getfield 345, 3)), (37, (.ireturn, 1))]
theorem t_Mo_others_0_ok : ∀ q ∈ t_Mo_others_0, decode prog_12_method_81_code q.1 = .ok q.2 := by decide +kernel
def m_Mo_others : mM := (⟨"LinkTimesModel", "others", "(III)I"⟩, prog_12_method_81_code, 4, (some .int), t_Mo_others_0)
theorem ok_Mo_others : mOK m_Mo_others := ⟨by decide, tm 1683 (by decide +kernel) rfl, t_Mo_others_0_ok, tm 123 (by decide +kernel) rfl, by decide, by decide⟩
theorem vm_Mo_others : mVt m_Mo_others := ⟨tm 1681 (by decide +kernel) rfl, tm 1682 (by decide +kernel) rfl⟩
def t_Mo_other_0 : List (Nat × Instr × Nat) := [(0, (.aload_n 0, 1)), (1, (.aload_n 0, 1)), (2, (.iload_n 1, 1)), (3, (.iload_n 2, 1)), (4, (.invokevirtual 351, 3)), (7, (.iload_n 3, 1)), (8, (.iconst 0, 1)), (9, (.sipush 1999, 3)), (12, (.invokestatic 107, 3)), (15, (.invokestatic 304, 3)), (18, (.invokevirtual 228, 3)), (21, (.ifCond .eq 5, 3)), (24, (.iconst (-1), 1)), (25, (.ireturn, 1)), (26, (.aload_n 0, 1)), (27, (.iload_n 1, 1)), (28, (.iload_n 2, 1)), (29, (.iload_n 3, 1)), (30, (.invokevirtual 354, 3)), (33, (.iload 4, 2)), (35, (.iconst 0, 1)), (36, (.aload_n 0, 1)), (37, (.getfield 345, 3)), (40, (.iconst 1, 1)), (41, (.isub, 1)), (42, (.invokestatic 107, 3)), (45, (.ifCond .eq 13, 3)), (48, (.aload_n 0, 1)), (49, (.getfield 72, 3)), (52, (.iload 4, 2)), (54, (.iaload, 1)), (55, (.goto 8, 3)), (58, (.aload_n 0, 1)), (59, (.iconst 1, 1)), (60, (.invokevirtual 237, 3)), (63, (.ireturn, 1))]
theorem t_Mo_other_0_ok : ∀ q ∈ t_Mo_other_0, decode prog_12_method_82_code q.1 = .ok q.2 := by decide +kernel
def m_Mo_other : mM := (⟨"LinkTimesModel", "other", "(IIII)I"⟩, prog_12_method_82_code, 5, (some .int), t_Mo_other_0)
theorem ok_Mo_other : mOK m_Mo_other := ⟨by decide, tm 1703 (by decide +kernel) rfl, t_Mo_other_0_ok, tm 123 (by decide +kernel) rfl, by decide, by decide⟩
theorem vm_Mo_other : mVt m_Mo_other := ⟨tm 1701 (by decide +kernel) rfl, tm 1702 (by decide +kernel) rfl⟩
def t_Mo_laysPairs_0 : List (Nat × Instr × Nat) := [(0, (.aload_n 0, 1)), (1, (.iconst 0, 1)), (2, (.putfield 357, 3)), (5, (.aload_n 0, 1)), (6, (.bipush (-2), 2)), (8, (.putfield 360, 3)), (11, (.iconst 0, 1)), (12, (.istore_n 2, 1)), (13, (.iload_n 2, 1)), (14, (.bipush 10, 2)), (16, (.if_icmp .ge 16, 3)), (19, (.aload_n 0, 1)), (20, (.getfield 75, 3)), (23, (.iload_n 2, 1)), (24, (.iconst 0, 1)), (25, (.iastore, 1)), (26, (.iinc 2 1, 3)), (29, (.goto (-16), 3)), (32, (.iconst 0, 1)), (33, (.istore_n 2, 1)), (34, (.iload_n 2, 1)), (35, (.aload_n 0, 1)), (36, (.getfield 17, 3)), (39, (.iconst 1, 1)), (40, (.iaload, 1)), (41, (.if_icmp .ge 159, 3)), (44, (.aload_n 0, 1)), (45, (.iload_n 2, 1)), (46, (.invokevirtual 298, 3)), (49, (.iconst 0, 1)), (50, (.istore_n 3, 1)), (51, (.iload_n 3, 1)), (52, (.aload_n 0, 1)), (53, (.getfield 17, 3)), (56, (.iconst 1, 1)), (57, (.iaload, 1)), (58, (.if_icmp .ge 136, 3)), (61, (.iload_n 3, 1)), (62, (.iload_n 2, 1)), (63, (.if_icmp .ne 7, 3)), (66, (.iconst (-1), 1)), (67, (.goto 9, 3)), (70, (.aload_n 0, 1)), (71, (.iload_n 3, 1)), (72, (.iload_n 1, 1)), (73, (.invokevirtual 301, 3)), (76, (.istore 4, 2)), (78, (.iload 4, 2)), (80, (.iconst (-1), 1)), (81, (.if_icmp .ne 6, 3))]
theorem t_Mo_laysPairs_0_ok : ∀ q ∈ t_Mo_laysPairs_0, decode prog_12_method_83_code q.1 = .ok q.2 := by decide +kernel
def t_Mo_laysPairs_1 : List (Nat × Instr × Nat) := [(84, (.goto 104, 3)), (87, (.aload_n 0, 1)), (88, (.dup, 1)), (89, (.getfield 357, 3)), (92, (.iconst 1, 1)), (93, (.iadd, 1)), (94, (.putfield 357, 3)), (97, (.aload_n 0, 1)), (98, (.aload_n 0, 1)), (99, (.getfield 39, 3)), (102, (.iload 4, 2)), (104, (.iaload, 1)), (105, (.iload_n 1, 1)), (106, (.isub, 1)), (107, (.aload_n 0, 1)), (108, (.getfield 360, 3)), (111, (.if_icmp .le 15, 3)), (114, (.aload_n 0, 1)), (115, (.getfield 39, 3)), (118, (.iload 4, 2)), (120, (.iaload, 1)), (121, (.iload_n 1, 1)), (122, (.isub, 1)), (123, (.goto 7, 3)), (126, (.aload_n 0, 1)), (127, (.getfield 360, 3)), (130, (.putfield 360, 3)), (133, (.aload_n 0, 1)), (134, (.getfield 48, 3)), (137, (.iload 4, 2)), (139, (.iaload, 1)), (140, (.iconst (-1), 1)), (141, (.if_icmp .eq 47, 3)), (144, (.aload_n 0, 1)), (145, (.getfield 75, 3)), (148, (.aload_n 0, 1)), (149, (.getfield 17, 3)), (152, (.iload 4, 2)), (154, (.iconst 2, 1)), (155, (.invokestatic 209, 3)), (158, (.iaload, 1)), (159, (.dup2, 1)), (160, (.iaload, 1)), (161, (.aload_n 0, 1)), (162, (.iload 4, 2)), (164, (.aload_n 0, 1)), (165, (.getfield 48, 3)), (168, (.iload 4, 2)), (170, (.iaload, 1)), (171, (.invokevirtual 289, 3))]
theorem t_Mo_laysPairs_1_ok : ∀ q ∈ t_Mo_laysPairs_1, decode prog_12_method_83_code q.1 = .ok q.2 := by decide +kernel
def t_Mo_laysPairs_2 : List (Nat × Instr × Nat) := [(174, (.iadd, 1)), (175, (.iastore, 1)), (176, (.aload_n 0, 1)), (177, (.getfield 48, 3)), (180, (.iload 4, 2)), (182, (.iaload, 1)), (183, (.istore 4, 2)), (185, (.goto (-52), 3)), (188, (.iinc 3 1, 3)), (191, (.goto (-140), 3)), (194, (.iinc 2 1, 3)), (197, (.goto (-163), 3)), (200, (.return_, 1))]
theorem t_Mo_laysPairs_2_ok : ∀ q ∈ t_Mo_laysPairs_2, decode prog_12_method_83_code q.1 = .ok q.2 := by decide +kernel
def m_Mo_laysPairs : mM := (⟨"LinkTimesModel", "laysPairs", "(I)V"⟩, prog_12_method_83_code, 5, none, t_Mo_laysPairs_0 ++ t_Mo_laysPairs_1 ++ t_Mo_laysPairs_2)
theorem ok_Mo_laysPairs : mOK m_Mo_laysPairs := ⟨by decide, tm 1715 (by decide +kernel) rfl, all_app (all_app (t_Mo_laysPairs_0_ok) t_Mo_laysPairs_1_ok) t_Mo_laysPairs_2_ok, tm 123 (by decide +kernel) rfl, by decide, by decide⟩
theorem vm_Mo_laysPairs : mVt m_Mo_laysPairs := ⟨tm 1714 (by decide +kernel) rfl, tm 104 (by decide +kernel) rfl⟩
def t_Mo_isAsked_0 : List (Nat × Instr × Nat) := [(0, (.aload_n 0, 1)), (1, (.aload_n 0, 1)), (2, (.getfield 244, 3)), (5, (.iload_n 1, 1)), (6, (.iconst 0, 1)), (7, (.sipush 1999, 3)), (10, (.invokestatic 107, 3)), (13, (.invokestatic 304, 3)), (16, (.invokevirtual 228, 3)), (19, (.ifCond .eq 5, 3)), (22, (.iconst 0, 1)), (23, (.ireturn, 1)), (24, (.aload_n 0, 1)), (25, (.iload_n 1, 1)), (26, (.invokevirtual 363, 3)), (29, (.iconst 1, 1)), (30, (.ireturn, 1))]
theorem t_Mo_isAsked_0_ok : ∀ q ∈ t_Mo_isAsked_0, decode prog_12_method_84_code q.1 = .ok q.2 := by decide +kernel
def m_Mo_isAsked : mM := (⟨"LinkTimesModel", "isAsked", "(I)Z"⟩, prog_12_method_84_code, 2, (some .boolean), t_Mo_isAsked_0)
theorem ok_Mo_isAsked : mOK m_Mo_isAsked := ⟨by decide, tm 1711 (by decide +kernel) rfl, t_Mo_isAsked_0_ok, tm 123 (by decide +kernel) rfl, by decide, by decide⟩
theorem vm_Mo_isAsked : mVt m_Mo_isAsked := ⟨tm 1710 (by decide +kernel) rfl, tm 103 (by decide +kernel) rfl⟩
def t_Mo_pairs_0 : List (Nat × Instr × Nat) := [(0, (.aload_n 0, 1)), (1, (.iload_n 1, 1)), (2, (.invokevirtual 366, 3)), (5, (.ifCond .eq 10, 3)), (8, (.aload_n 0, 1)), (9, (.getfield 357, 3)), (12, (.goto 4, 3)), (15, (.iconst (-1), 1)), (16, (.ireturn, 1))]
theorem t_Mo_pairs_0_ok : ∀ q ∈ t_Mo_pairs_0, decode prog_12_method_85_code q.1 = .ok q.2 := by decide +kernel
def m_Mo_pairs : mM := (⟨"LinkTimesModel", "pairs", "(I)I"⟩, prog_12_method_85_code, 2, (some .int), t_Mo_pairs_0)
theorem ok_Mo_pairs : mOK m_Mo_pairs := ⟨by decide, tm 1707 (by decide +kernel) rfl, t_Mo_pairs_0_ok, tm 123 (by decide +kernel) rfl, by decide, by decide⟩
theorem vm_Mo_pairs : mVt m_Mo_pairs := ⟨tm 1705 (by decide +kernel) rfl, tm 1706 (by decide +kernel) rfl⟩
def t_Mo_hub_0 : List (Nat × Instr × Nat) := [(0, (.aload_n 0, 1)), (1, (.iload_n 1, 1)), (2, (.invokevirtual 366, 3)), (5, (.ifCond .ne 5, 3)), (8, (.iconst (-1), 1)), (9, (.ireturn, 1)), (10, (.bipush (-2), 2)), (12, (.istore_n 2, 1)), (13, (.iconst 0, 1)), (14, (.istore_n 3, 1)), (15, (.iload_n 3, 1)), (16, (.bipush 10, 2)), (18, (.if_icmp .ge 44, 3)), (21, (.iload_n 2, 1)), (22, (.bipush (-2), 2)), (24, (.if_icmp .ne 7, 3)), (27, (.iconst 0, 1)), (28, (.goto 9, 3)), (31, (.aload_n 0, 1)), (32, (.getfield 75, 3)), (35, (.iload_n 2, 1)), (36, (.iaload, 1)), (37, (.istore 4, 2)), (39, (.aload_n 0, 1)), (40, (.getfield 75, 3)), (43, (.iload_n 3, 1)), (44, (.iaload, 1)), (45, (.iload 4, 2)), (47, (.if_icmp .le 7, 3)), (50, (.iload_n 3, 1)), (51, (.goto 4, 3)), (54, (.iload_n 2, 1)), (55, (.istore_n 2, 1)), (56, (.iinc 3 1, 3)), (59, (.goto (-44), 3)), (62, (.iload_n 2, 1)), (63, (.ireturn, 1))]
theorem t_Mo_hub_0_ok : ∀ q ∈ t_Mo_hub_0, decode prog_12_method_86_code q.1 = .ok q.2 := by decide +kernel
def m_Mo_hub : mM := (⟨"LinkTimesModel", "hub", "(I)I"⟩, prog_12_method_86_code, 5, (some .int), t_Mo_hub_0)
theorem ok_Mo_hub : mOK m_Mo_hub := ⟨by decide, tm 1719 (by decide +kernel) rfl, t_Mo_hub_0_ok, tm 123 (by decide +kernel) rfl, by decide, by decide⟩
theorem vm_Mo_hub : mVt m_Mo_hub := ⟨tm 1717 (by decide +kernel) rfl, tm 1718 (by decide +kernel) rfl⟩
def t_Mo_slowest_0 : List (Nat × Instr × Nat) := [(0, (.aload_n 0, 1)), (1, (.iload_n 1, 1)), (2, (.invokevirtual 366, 3)), (5, (.ifCond .eq 10, 3)), (8, (.aload_n 0, 1)), (9, (.getfield 360, 3)), (12, (.goto 4, 3)), (15, (.iconst (-1), 1)), (16, (.ireturn, 1))]
theorem t_Mo_slowest_0_ok : ∀ q ∈ t_Mo_slowest_0, decode prog_12_method_87_code q.1 = .ok q.2 := by decide +kernel
def m_Mo_slowest : mM := (⟨"LinkTimesModel", "slowest", "(I)I"⟩, prog_12_method_87_code, 2, (some .int), t_Mo_slowest_0)
theorem ok_Mo_slowest : mOK m_Mo_slowest := ⟨by decide, tm 1723 (by decide +kernel) rfl, t_Mo_slowest_0_ok, tm 123 (by decide +kernel) rfl, by decide, by decide⟩
theorem vm_Mo_slowest : mVt m_Mo_slowest := ⟨tm 1721 (by decide +kernel) rfl, tm 1722 (by decide +kernel) rfl⟩
def t_Mo_areUnlike_0 : List (Nat × Instr × Nat) := [(0, (.aload_n 0, 1)), (1, (.iload_n 1, 1)), (2, (.invokevirtual 263, 3)), (5, (.ifCond .eq 20, 3)), (8, (.aload_n 0, 1)), (9, (.iload_n 2, 1)), (10, (.invokevirtual 263, 3)), (13, (.ifCond .eq 12, 3)), (16, (.iload_n 1, 1)), (17, (.iload_n 2, 1)), (18, (.if_icmp .eq 7, 3)), (21, (.iconst 1, 1)), (22, (.goto 4, 3)), (25, (.iconst 0, 1)), (26, (.ireturn, 1))]
theorem t_Mo_areUnlike_0_ok : ∀ q ∈ t_Mo_areUnlike_0, decode prog_12_method_88_code q.1 = .ok q.2 := by decide +kernel
def m_Mo_areUnlike : mM := (⟨"LinkTimesModel", "areUnlike", "(II)Z"⟩, prog_12_method_88_code, 3, (some .boolean), t_Mo_areUnlike_0)
theorem ok_Mo_areUnlike : mOK m_Mo_areUnlike := ⟨by decide, tm 1687 (by decide +kernel) rfl, t_Mo_areUnlike_0_ok, tm 123 (by decide +kernel) rfl, by decide, by decide⟩
theorem vm_Mo_areUnlike : mVt m_Mo_areUnlike := ⟨tm 1686 (by decide +kernel) rfl, tm 99 (by decide +kernel) rfl⟩
def t_Mo_steps_0 : List (Nat × Instr × Nat) := [(0, (.aload_n 0, 1)), (1, (.aload_n 0, 1)), (2, (.iload_n 1, 1)), (3, (.iload_n 2, 1)), (4, (.invokevirtual 351, 3)), (7, (.invokestatic 256, 3)), (10, (.invokevirtual 228, 3)), (13, (.ifCond .eq 5, 3)), (16, (.iconst (-1), 1)), (17, (.ireturn, 1)), (18, (.aload_n 0, 1)), (19, (.iload_n 1, 1)), (20, (.iload_n 2, 1)), (21, (.invokevirtual 369, 3)), (24, (.aload_n 0, 1)), (25, (.getfield 336, 3)), (28, (.ireturn, 1))]
theorem t_Mo_steps_0_ok : ∀ q ∈ t_Mo_steps_0, decode prog_12_method_89_code q.1 = .ok q.2 := by decide +kernel
def m_Mo_steps : mM := (⟨"LinkTimesModel", "steps", "(II)I"⟩, prog_12_method_89_code, 3, (some .int), t_Mo_steps_0)
theorem ok_Mo_steps : mOK m_Mo_steps := ⟨by decide, tm 1727 (by decide +kernel) rfl, t_Mo_steps_0_ok, tm 123 (by decide +kernel) rfl, by decide, by decide⟩
theorem vm_Mo_steps : mVt m_Mo_steps := ⟨tm 1725 (by decide +kernel) rfl, tm 1726 (by decide +kernel) rfl⟩
def t_Mo_step_0 : List (Nat × Instr × Nat) := [(0, (.aload_n 0, 1)), (1, (.aload_n 0, 1)), (2, (.iload_n 1, 1)), (3, (.iload_n 2, 1)), (4, (.invokevirtual 351, 3)), (7, (.ifCond .eq 17, 3)), (10, (.iload 4, 2)), (12, (.iconst 0, 1)), (13, (.iconst 2, 1)), (14, (.invokestatic 107, 3)), (17, (.ifCond .eq 7, 3)), (20, (.iconst 1, 1)), (21, (.goto 4, 3)), (24, (.iconst 0, 1)), (25, (.invokestatic 256, 3)), (28, (.invokevirtual 228, 3)), (31, (.ifCond .eq 5, 3)), (34, (.iconst (-1), 1)), (35, (.ireturn, 1)), (36, (.aload_n 0, 1)), (37, (.iload_n 1, 1)), (38, (.iload_n 2, 1)), (39, (.invokevirtual 369, 3)), (42, (.iload_n 3, 1)), (43, (.iconst 0, 1)), (44, (.aload_n 0, 1)), (45, (.getfield 336, 3)), (48, (.iconst 1, 1)), (49, (.isub, 1)), (50, (.invokestatic 107, 3)), (53, (.ifCond .ne 9, 3)), (56, (.aload_n 0, 1)), (57, (.iconst 1, 1)), (58, (.invokevirtual 237, 3)), (61, (.ireturn, 1)), (62, (.iload 4, 2)), (64, (.ifCond .ne 12, 3)), (67, (.aload_n 0, 1)), (68, (.getfield 63, 3)), (71, (.iload_n 3, 1)), (72, (.iaload, 1)), (73, (.goto 24, 3)), (76, (.iload 4, 2)), (78, (.iconst 1, 1)), (79, (.if_icmp .ne 12, 3)), (82, (.aload_n 0, 1)), (83, (.getfield 66, 3)), (86, (.iload_n 3, 1)), (87, (.iaload, 1)), (88, (.goto 9, 3))]
theorem t_Mo_step_0_ok : ∀ q ∈ t_Mo_step_0, decode prog_12_method_90_code q.1 = .ok q.2 := by decide +kernel
def t_Mo_step_1 : List (Nat × Instr × Nat) := [(91, (.aload_n 0, 1)), (92, (.getfield 69, 3)), (95, (.iload_n 3, 1)), (96, (.iaload, 1)), (97, (.ireturn, 1))]
theorem t_Mo_step_1_ok : ∀ q ∈ t_Mo_step_1, decode prog_12_method_90_code q.1 = .ok q.2 := by decide +kernel
def m_Mo_step : mM := (⟨"LinkTimesModel", "step", "(IIII)I"⟩, prog_12_method_90_code, 5, (some .int), t_Mo_step_0 ++ t_Mo_step_1)
theorem ok_Mo_step : mOK m_Mo_step := ⟨by decide, tm 1739 (by decide +kernel) rfl, all_app (t_Mo_step_0_ok) t_Mo_step_1_ok, tm 123 (by decide +kernel) rfl, by decide, by decide⟩
theorem vm_Mo_step : mVt m_Mo_step := ⟨tm 1737 (by decide +kernel) rfl, tm 1738 (by decide +kernel) rfl⟩
def t_Mo_quickest_0 : List (Nat × Instr × Nat) := [(0, (.aload_n 0, 1)), (1, (.aload_n 0, 1)), (2, (.iload_n 1, 1)), (3, (.iload_n 2, 1)), (4, (.invokevirtual 351, 3)), (7, (.invokestatic 256, 3)), (10, (.invokevirtual 228, 3)), (13, (.ifCond .eq 5, 3)), (16, (.iconst (-1), 1)), (17, (.ireturn, 1)), (18, (.aload_n 0, 1)), (19, (.iload_n 1, 1)), (20, (.iload_n 2, 1)), (21, (.invokevirtual 369, 3)), (24, (.bipush (-2), 2)), (26, (.istore_n 3, 1)), (27, (.iconst 0, 1)), (28, (.istore 4, 2)), (30, (.iload 4, 2)), (32, (.aload_n 0, 1)), (33, (.getfield 336, 3)), (36, (.if_icmp .ge 45, 3)), (39, (.aload_n 0, 1)), (40, (.getfield 66, 3)), (43, (.iload 4, 2)), (45, (.iaload, 1)), (46, (.aload_n 0, 1)), (47, (.getfield 63, 3)), (50, (.iload 4, 2)), (52, (.iaload, 1)), (53, (.isub, 1)), (54, (.istore 5, 2)), (56, (.iload_n 3, 1)), (57, (.bipush (-2), 2)), (59, (.if_icmp .eq 9, 3)), (62, (.iload 5, 2)), (64, (.iload_n 3, 1)), (65, (.if_icmp .ge 8, 3)), (68, (.iload 5, 2)), (70, (.goto 4, 3)), (73, (.iload_n 3, 1)), (74, (.istore_n 3, 1)), (75, (.iinc 4 1, 3)), (78, (.goto (-48), 3)), (81, (.iload_n 3, 1)), (82, (.ireturn, 1))]
theorem t_Mo_quickest_0_ok : ∀ q ∈ t_Mo_quickest_0, decode prog_12_method_91_code q.1 = .ok q.2 := by decide +kernel
def m_Mo_quickest : mM := (⟨"LinkTimesModel", "quickest", "(II)I"⟩, prog_12_method_91_code, 6, (some .int), t_Mo_quickest_0)
theorem ok_Mo_quickest : mOK m_Mo_quickest := ⟨by decide, tm 1743 (by decide +kernel) rfl, t_Mo_quickest_0_ok, tm 123 (by decide +kernel) rfl, by decide, by decide⟩
theorem vm_Mo_quickest : mVt m_Mo_quickest := ⟨tm 1741 (by decide +kernel) rfl, tm 1742 (by decide +kernel) rfl⟩
def t_Mo_spent_0 : List (Nat × Instr × Nat) := [(0, (.aload_n 0, 1)), (1, (.aload_n 0, 1)), (2, (.iload_n 1, 1)), (3, (.iload_n 2, 1)), (4, (.invokevirtual 351, 3)), (7, (.iload_n 3, 1)), (8, (.iconst 0, 1)), (9, (.sipush 1999, 3)), (12, (.invokestatic 107, 3)), (15, (.ifCond .eq 19, 3)), (18, (.iload 4, 2)), (20, (.iload_n 3, 1)), (21, (.sipush 1999, 3)), (24, (.invokestatic 107, 3)), (27, (.ifCond .eq 7, 3)), (30, (.iconst 1, 1)), (31, (.goto 4, 3)), (34, (.iconst 0, 1)), (35, (.invokestatic 304, 3)), (38, (.invokevirtual 228, 3)), (41, (.ifCond .eq 5, 3)), (44, (.iconst (-1), 1)), (45, (.ireturn, 1)), (46, (.aload_n 0, 1)), (47, (.iload_n 2, 1)), (48, (.invokevirtual 298, 3)), (51, (.iconst 0, 1)), (52, (.istore 5, 2)), (54, (.iload_n 3, 1)), (55, (.istore 6, 2)), (57, (.iload 6, 2)), (59, (.iload 4, 2)), (61, (.if_icmp .gt 42, 3)), (64, (.aload_n 0, 1)), (65, (.iload_n 1, 1)), (66, (.iload 6, 2)), (68, (.invokevirtual 301, 3)), (71, (.istore 7, 2)), (73, (.iload 7, 2)), (75, (.iconst (-1), 1)), (76, (.if_icmp .ne 6, 3)), (79, (.bipush (-2), 2)), (81, (.ireturn, 1)), (82, (.iload 5, 2)), (84, (.aload_n 0, 1)), (85, (.getfield 39, 3)), (88, (.iload 7, 2)), (90, (.iaload, 1)), (91, (.iload 6, 2)), (93, (.isub, 1))]
theorem t_Mo_spent_0_ok : ∀ q ∈ t_Mo_spent_0, decode prog_12_method_92_code q.1 = .ok q.2 := by decide +kernel
def t_Mo_spent_1 : List (Nat × Instr × Nat) := [(94, (.iadd, 1)), (95, (.istore 5, 2)), (97, (.iinc 6 1, 3)), (100, (.goto (-43), 3)), (103, (.iload 5, 2)), (105, (.ireturn, 1))]
theorem t_Mo_spent_1_ok : ∀ q ∈ t_Mo_spent_1, decode prog_12_method_92_code q.1 = .ok q.2 := by decide +kernel
def m_Mo_spent : mM := (⟨"LinkTimesModel", "spent", "(IIII)I"⟩, prog_12_method_92_code, 8, (some .int), t_Mo_spent_0 ++ t_Mo_spent_1)
theorem ok_Mo_spent : mOK m_Mo_spent := ⟨by decide, tm 1747 (by decide +kernel) rfl, all_app (t_Mo_spent_0_ok) t_Mo_spent_1_ok, tm 123 (by decide +kernel) rfl, by decide, by decide⟩
theorem vm_Mo_spent : mVt m_Mo_spent := ⟨tm 1745 (by decide +kernel) rfl, tm 1746 (by decide +kernel) rfl⟩
def t_Mo_laysAside_0 : List (Nat × Instr × Nat) := [(0, (.aload_n 0, 1)), (1, (.getfield 17, 3)), (4, (.iconst 0, 1)), (5, (.aload_n 0, 1)), (6, (.getfield 23, 3)), (9, (.iconst 0, 1)), (10, (.invokestatic 240, 3)), (13, (.return_, 1))]
theorem t_Mo_laysAside_0_ok : ∀ q ∈ t_Mo_laysAside_0, decode prog_12_method_93_code q.1 = .ok q.2 := by decide +kernel
def m_Mo_laysAside : mM := (⟨"LinkTimesModel", "laysAside", "()V"⟩, prog_12_method_93_code, 1, none, t_Mo_laysAside_0)
theorem ok_Mo_laysAside : mOK m_Mo_laysAside := ⟨by decide, tm 1695 (by decide +kernel) rfl, t_Mo_laysAside_0_ok, tm 123 (by decide +kernel) rfl, by decide, by decide⟩
theorem vm_Mo_laysAside : mVt m_Mo_laysAside := ⟨tm 1694 (by decide +kernel) rfl, tm 101 (by decide +kernel) rfl⟩
def t_Mo_takesBack_0 : List (Nat × Instr × Nat) := [(0, (.aload_n 0, 1)), (1, (.getfield 23, 3)), (4, (.iconst 0, 1)), (5, (.aload_n 0, 1)), (6, (.getfield 17, 3)), (9, (.iconst 0, 1)), (10, (.invokestatic 240, 3)), (13, (.return_, 1))]
theorem t_Mo_takesBack_0_ok : ∀ q ∈ t_Mo_takesBack_0, decode prog_12_method_94_code q.1 = .ok q.2 := by decide +kernel
def m_Mo_takesBack : mM := (⟨"LinkTimesModel", "takesBack", "()V"⟩, prog_12_method_94_code, 1, none, t_Mo_takesBack_0)
theorem ok_Mo_takesBack : mOK m_Mo_takesBack := ⟨by decide, tm 1699 (by decide +kernel) rfl, t_Mo_takesBack_0_ok, tm 123 (by decide +kernel) rfl, by decide, by decide⟩
theorem vm_Mo_takesBack : mVt m_Mo_takesBack := ⟨tm 1698 (by decide +kernel) rfl, tm 102 (by decide +kernel) rfl⟩
def t_Mo_without_0 : List (Nat × Instr × Nat) := [(0, (.aload_n 0, 1)), (1, (.getfield 17, 3)), (4, (.iload 4, 2)), (6, (.bipush 6, 2)), (8, (.invokestatic 209, 3)), (11, (.iaload, 1)), (12, (.istore 5, 2)), (14, (.aload_n 0, 1)), (15, (.getfield 17, 3)), (18, (.iload 4, 2)), (20, (.bipush 6, 2)), (22, (.invokestatic 209, 3)), (25, (.iconst 0, 1)), (26, (.iastore, 1)), (27, (.aload_n 0, 1)), (28, (.iload_n 1, 1)), (29, (.iload_n 2, 1)), (30, (.iload_n 3, 1)), (31, (.invokevirtual 311, 3)), (34, (.istore 6, 2)), (36, (.aload_n 0, 1)), (37, (.getfield 17, 3)), (40, (.iload 4, 2)), (42, (.bipush 6, 2)), (44, (.invokestatic 209, 3)), (47, (.iload 5, 2)), (49, (.iastore, 1)), (50, (.iload 6, 2)), (52, (.ireturn, 1))]
theorem t_Mo_without_0_ok : ∀ q ∈ t_Mo_without_0, decode prog_12_method_95_code q.1 = .ok q.2 := by decide +kernel
def m_Mo_without : mM := (⟨"LinkTimesModel", "without", "(IIII)I"⟩, prog_12_method_95_code, 7, (some .int), t_Mo_without_0)
theorem ok_Mo_without : mOK m_Mo_without := ⟨by decide, tm 1755 (by decide +kernel) rfl, t_Mo_without_0_ok, tm 123 (by decide +kernel) rfl, by decide, by decide⟩
theorem vm_Mo_without : mVt m_Mo_without := ⟨tm 1754 (by decide +kernel) rfl, tm 107 (by decide +kernel) rfl⟩
def t_Mo_needs_0 : List (Nat × Instr × Nat) := [(0, (.aload_n 0, 1)), (1, (.aload_n 0, 1)), (2, (.iload_n 1, 1)), (3, (.invokevirtual 263, 3)), (6, (.ifCond .eq 24, 3)), (9, (.aload_n 0, 1)), (10, (.iload_n 2, 1)), (11, (.invokevirtual 263, 3)), (14, (.ifCond .eq 16, 3)), (17, (.aload_n 0, 1)), (18, (.iload 4, 2)), (20, (.invokevirtual 269, 3)), (23, (.ifCond .eq 7, 3)), (26, (.iconst 1, 1)), (27, (.goto 4, 3)), (30, (.iconst 0, 1)), (31, (.iload_n 3, 1)), (32, (.iconst 0, 1)), (33, (.sipush 1999, 3)), (36, (.invokestatic 107, 3)), (39, (.invokestatic 304, 3)), (42, (.invokevirtual 228, 3)), (45, (.ifCond .eq 5, 3)), (48, (.iconst (-1), 1)), (49, (.ireturn, 1)), (50, (.aload_n 0, 1)), (51, (.iload_n 1, 1)), (52, (.iload_n 2, 1)), (53, (.iload_n 3, 1)), (54, (.invokevirtual 311, 3)), (57, (.istore 5, 2)), (59, (.aload_n 0, 1)), (60, (.iload_n 1, 1)), (61, (.iload_n 2, 1)), (62, (.iload_n 3, 1)), (63, (.iload 4, 2)), (65, (.invokevirtual 372, 3)), (68, (.istore 6, 2)), (70, (.iload 5, 2)), (72, (.bipush (-2), 2)), (74, (.if_icmp .ne 8, 3)), (77, (.bipush (-3), 2)), (79, (.goto 20, 3)), (82, (.iload 6, 2)), (84, (.bipush (-2), 2)), (86, (.if_icmp .ne 8, 3)), (89, (.bipush (-2), 2)), (91, (.goto 8, 3)), (94, (.iload 6, 2)), (96, (.iload 5, 2))]
theorem t_Mo_needs_0_ok : ∀ q ∈ t_Mo_needs_0, decode prog_12_method_96_code q.1 = .ok q.2 := by decide +kernel
def t_Mo_needs_1 : List (Nat × Instr × Nat) := [(98, (.isub, 1)), (99, (.ireturn, 1))]
theorem t_Mo_needs_1_ok : ∀ q ∈ t_Mo_needs_1, decode prog_12_method_96_code q.1 = .ok q.2 := by decide +kernel
def m_Mo_needs : mM := (⟨"LinkTimesModel", "needs", "(IIII)I"⟩, prog_12_method_96_code, 7, (some .int), t_Mo_needs_0 ++ t_Mo_needs_1)
theorem ok_Mo_needs : mOK m_Mo_needs := ⟨by decide, tm 1751 (by decide +kernel) rfl, all_app (t_Mo_needs_0_ok) t_Mo_needs_1_ok, tm 123 (by decide +kernel) rfl, by decide, by decide⟩
theorem vm_Mo_needs : mVt m_Mo_needs := ⟨tm 1749 (by decide +kernel) rfl, tm 1750 (by decide +kernel) rfl⟩
def t_Mo_vital_0 : List (Nat × Instr × Nat) := [(0, (.aload_n 0, 1)), (1, (.aload_n 0, 1)), (2, (.iload_n 1, 1)), (3, (.iload_n 2, 1)), (4, (.iload_n 3, 1)), (5, (.invokevirtual 307, 3)), (8, (.invokevirtual 228, 3)), (11, (.ifCond .eq 5, 3)), (14, (.iconst (-1), 1)), (15, (.ireturn, 1)), (16, (.aload_n 0, 1)), (17, (.iload_n 1, 1)), (18, (.iload_n 2, 1)), (19, (.iload_n 3, 1)), (20, (.invokevirtual 311, 3)), (23, (.istore 4, 2)), (25, (.iload 4, 2)), (27, (.bipush (-2), 2)), (29, (.if_icmp .ne 6, 3)), (32, (.bipush (-2), 2)), (34, (.ireturn, 1)), (35, (.iconst 0, 1)), (36, (.istore 5, 2)), (38, (.iconst 0, 1)), (39, (.istore 6, 2)), (41, (.iload 6, 2)), (43, (.aload_n 0, 1)), (44, (.getfield 17, 3)), (47, (.iconst 4, 1)), (48, (.iaload, 1)), (49, (.if_icmp .ge 33, 3)), (52, (.iload 5, 2)), (54, (.aload_n 0, 1)), (55, (.iload_n 1, 1)), (56, (.iload_n 2, 1)), (57, (.iload_n 3, 1)), (58, (.iload 6, 2)), (60, (.invokevirtual 372, 3)), (63, (.iload 4, 2)), (65, (.if_icmp .eq 7, 3)), (68, (.iconst 1, 1)), (69, (.goto 4, 3)), (72, (.iconst 0, 1)), (73, (.iadd, 1)), (74, (.istore 5, 2)), (76, (.iinc 6 1, 3)), (79, (.goto (-38), 3)), (82, (.iload 5, 2)), (84, (.ireturn, 1))]
theorem t_Mo_vital_0_ok : ∀ q ∈ t_Mo_vital_0, decode prog_12_method_97_code q.1 = .ok q.2 := by decide +kernel
def m_Mo_vital : mM := (⟨"LinkTimesModel", "vital", "(III)I"⟩, prog_12_method_97_code, 7, (some .int), t_Mo_vital_0)
theorem ok_Mo_vital : mOK m_Mo_vital := ⟨by decide, tm 1759 (by decide +kernel) rfl, t_Mo_vital_0_ok, tm 123 (by decide +kernel) rfl, by decide, by decide⟩
theorem vm_Mo_vital : mVt m_Mo_vital := ⟨tm 1757 (by decide +kernel) rfl, tm 1758 (by decide +kernel) rfl⟩
def t_Mo_slack_0 : List (Nat × Instr × Nat) := [(0, (.aload_n 0, 1)), (1, (.aload_n 0, 1)), (2, (.iload_n 1, 1)), (3, (.invokevirtual 263, 3)), (6, (.ifCond .eq 24, 3)), (9, (.aload_n 0, 1)), (10, (.iload_n 2, 1)), (11, (.invokevirtual 263, 3)), (14, (.ifCond .eq 16, 3)), (17, (.aload_n 0, 1)), (18, (.iload 4, 2)), (20, (.invokevirtual 269, 3)), (23, (.ifCond .eq 7, 3)), (26, (.iconst 1, 1)), (27, (.goto 4, 3)), (30, (.iconst 0, 1)), (31, (.iload_n 3, 1)), (32, (.iconst 0, 1)), (33, (.sipush 1999, 3)), (36, (.invokestatic 107, 3)), (39, (.invokestatic 304, 3)), (42, (.invokevirtual 228, 3)), (45, (.ifCond .eq 5, 3)), (48, (.iconst (-1), 1)), (49, (.ireturn, 1)), (50, (.aload_n 0, 1)), (51, (.iload_n 1, 1)), (52, (.iload_n 2, 1)), (53, (.iload_n 3, 1)), (54, (.invokevirtual 311, 3)), (57, (.istore 5, 2)), (59, (.iload 5, 2)), (61, (.bipush (-2), 2)), (63, (.if_icmp .ne 6, 3)), (66, (.bipush (-2), 2)), (68, (.ireturn, 1)), (69, (.aload_n 0, 1)), (70, (.invokevirtual 342, 3)), (73, (.iconst 0, 1)), (74, (.istore 6, 2)), (76, (.iconst 1, 1)), (77, (.istore 7, 2)), (79, (.iload 6, 2)), (81, (.bipush 99, 2)), (83, (.if_icmp .ge 71, 3)), (86, (.iload 7, 2)), (88, (.ifCond .eq 66, 3)), (91, (.aload_n 0, 1)), (92, (.getfield 17, 3)), (95, (.iload 4, 2))]
theorem t_Mo_slack_0_ok : ∀ q ∈ t_Mo_slack_0, decode prog_12_method_98_code q.1 = .ok q.2 := by decide +kernel
def t_Mo_slack_1 : List (Nat × Instr × Nat) := [(97, (.iconst 5, 1)), (98, (.invokestatic 209, 3)), (101, (.dup2, 1)), (102, (.iaload, 1)), (103, (.iconst 1, 1)), (104, (.iadd, 1)), (105, (.iastore, 1)), (106, (.aload_n 0, 1)), (107, (.iload_n 1, 1)), (108, (.iload_n 2, 1)), (109, (.iload_n 3, 1)), (110, (.invokevirtual 311, 3)), (113, (.istore 8, 2)), (115, (.iload 8, 2)), (117, (.bipush (-2), 2)), (119, (.if_icmp .eq 14, 3)), (122, (.iload 8, 2)), (124, (.iload 5, 2)), (126, (.if_icmp .gt 7, 3)), (129, (.iconst 1, 1)), (130, (.goto 4, 3)), (133, (.iconst 0, 1)), (134, (.istore 7, 2)), (136, (.iload 6, 2)), (138, (.iload 7, 2)), (140, (.ifCond .eq 7, 3)), (143, (.iconst 1, 1)), (144, (.goto 4, 3)), (147, (.iconst 0, 1)), (148, (.iadd, 1)), (149, (.istore 6, 2)), (151, (.goto (-72), 3)), (154, (.aload_n 0, 1)), (155, (.invokevirtual 348, 3)), (158, (.iload 6, 2)), (160, (.ireturn, 1))]
theorem t_Mo_slack_1_ok : ∀ q ∈ t_Mo_slack_1, decode prog_12_method_98_code q.1 = .ok q.2 := by decide +kernel
def m_Mo_slack : mM := (⟨"LinkTimesModel", "slack", "(IIII)I"⟩, prog_12_method_98_code, 9, (some .int), t_Mo_slack_0 ++ t_Mo_slack_1)
theorem ok_Mo_slack : mOK m_Mo_slack := ⟨by decide, tm 1763 (by decide +kernel) rfl, all_app (t_Mo_slack_0_ok) t_Mo_slack_1_ok, tm 123 (by decide +kernel) rfl, by decide, by decide⟩
theorem vm_Mo_slack : mVt m_Mo_slack := ⟨tm 1761 (by decide +kernel) rfl, tm 1762 (by decide +kernel) rfl⟩
def t_Mo_causes_0 : List (Nat × Instr × Nat) := [(0, (.aload_n 0, 1)), (1, (.iload_n 1, 1)), (2, (.iload_n 2, 1)), (3, (.iload_n 3, 1)), (4, (.invokevirtual 311, 3)), (7, (.bipush (-2), 2)), (9, (.if_icmp .eq 5, 3)), (12, (.iconst 0, 1)), (13, (.ireturn, 1)), (14, (.iconst 0, 1)), (15, (.istore 4, 2)), (17, (.iload 4, 2)), (19, (.aload_n 0, 1)), (20, (.getfield 17, 3)), (23, (.iconst 4, 1)), (24, (.iaload, 1)), (25, (.if_icmp .ge 34, 3)), (28, (.aload_n 0, 1)), (29, (.getfield 17, 3)), (32, (.iload 4, 2)), (34, (.iconst 5, 1)), (35, (.invokestatic 209, 3)), (38, (.iconst 0, 1)), (39, (.iastore, 1)), (40, (.aload_n 0, 1)), (41, (.getfield 17, 3)), (44, (.iload 4, 2)), (46, (.bipush 6, 2)), (48, (.invokestatic 209, 3)), (51, (.iconst 1, 1)), (52, (.iastore, 1)), (53, (.iinc 4 1, 3)), (56, (.goto (-39), 3)), (59, (.aload_n 0, 1)), (60, (.iload_n 1, 1)), (61, (.iload_n 2, 1)), (62, (.iload_n 3, 1)), (63, (.invokevirtual 311, 3)), (66, (.bipush (-2), 2)), (68, (.if_icmp .eq 5, 3)), (71, (.iconst 1, 1)), (72, (.ireturn, 1)), (73, (.iconst 0, 1)), (74, (.istore 4, 2)), (76, (.iload 4, 2)), (78, (.aload_n 0, 1)), (79, (.getfield 17, 3)), (82, (.iconst 1, 1)), (83, (.iaload, 1)), (84, (.if_icmp .ge 31, 3))]
theorem t_Mo_causes_0_ok : ∀ q ∈ t_Mo_causes_0, decode prog_12_method_99_code q.1 = .ok q.2 := by decide +kernel
def t_Mo_causes_1 : List (Nat × Instr × Nat) := [(87, (.aload_n 0, 1)), (88, (.getfield 17, 3)), (91, (.iconst 5, 1)), (92, (.iload 4, 2)), (94, (.iadd, 1)), (95, (.iconst 0, 1)), (96, (.iastore, 1)), (97, (.aload_n 0, 1)), (98, (.getfield 17, 3)), (101, (.bipush 15, 2)), (103, (.iload 4, 2)), (105, (.iadd, 1)), (106, (.bipush (-2), 2)), (108, (.iastore, 1)), (109, (.iinc 4 1, 3)), (112, (.goto (-36), 3)), (115, (.aload_n 0, 1)), (116, (.iload_n 1, 1)), (117, (.iload_n 2, 1)), (118, (.iload_n 3, 1)), (119, (.invokevirtual 311, 3)), (122, (.bipush (-2), 2)), (124, (.if_icmp .eq 5, 3)), (127, (.iconst 2, 1)), (128, (.ireturn, 1)), (129, (.aload_n 0, 1)), (130, (.iload_n 1, 1)), (131, (.iload_n 2, 1)), (132, (.iconst 0, 1)), (133, (.invokevirtual 311, 3)), (136, (.bipush (-2), 2)), (138, (.if_icmp .eq 7, 3)), (141, (.iconst 3, 1)), (142, (.goto 4, 3)), (145, (.iconst 4, 1)), (146, (.ireturn, 1))]
theorem t_Mo_causes_1_ok : ∀ q ∈ t_Mo_causes_1, decode prog_12_method_99_code q.1 = .ok q.2 := by decide +kernel
def m_Mo_causes : mM := (⟨"LinkTimesModel", "causes", "(III)I"⟩, prog_12_method_99_code, 5, (some .int), t_Mo_causes_0 ++ t_Mo_causes_1)
theorem ok_Mo_causes : mOK m_Mo_causes := ⟨by decide, tm 1771 (by decide +kernel) rfl, all_app (t_Mo_causes_0_ok) t_Mo_causes_1_ok, tm 123 (by decide +kernel) rfl, by decide, by decide⟩
theorem vm_Mo_causes : mVt m_Mo_causes := ⟨tm 1770 (by decide +kernel) rfl, tm 108 (by decide +kernel) rfl⟩
def t_Mo_why_0 : List (Nat × Instr × Nat) := [(0, (.aload_n 0, 1)), (1, (.aload_n 0, 1)), (2, (.iload_n 1, 1)), (3, (.invokevirtual 263, 3)), (6, (.ifCond .eq 15, 3)), (9, (.aload_n 0, 1)), (10, (.iload_n 2, 1)), (11, (.invokevirtual 263, 3)), (14, (.ifCond .eq 7, 3)), (17, (.iconst 1, 1)), (18, (.goto 4, 3)), (21, (.iconst 0, 1)), (22, (.iload_n 3, 1)), (23, (.iconst 0, 1)), (24, (.sipush 1999, 3)), (27, (.invokestatic 107, 3)), (30, (.ifCond .eq 12, 3)), (33, (.iload 4, 2)), (35, (.ifCond .lt 7, 3)), (38, (.iconst 1, 1)), (39, (.goto 4, 3)), (42, (.iconst 0, 1)), (43, (.invokestatic 304, 3)), (46, (.invokevirtual 228, 3)), (49, (.ifCond .eq 5, 3)), (52, (.iconst (-1), 1)), (53, (.ireturn, 1)), (54, (.aload_n 0, 1)), (55, (.invokevirtual 342, 3)), (58, (.aload_n 0, 1)), (59, (.iload_n 1, 1)), (60, (.iload_n 2, 1)), (61, (.iload_n 3, 1)), (62, (.invokevirtual 375, 3)), (65, (.istore 5, 2)), (67, (.aload_n 0, 1)), (68, (.invokevirtual 348, 3)), (71, (.iload 4, 2)), (73, (.iload 5, 2)), (75, (.if_icmp .ge 10, 3)), (78, (.iload 4, 2)), (80, (.iconst 1, 1)), (81, (.iadd, 1)), (82, (.goto 4, 3)), (85, (.iconst 0, 1)), (86, (.ireturn, 1))]
theorem t_Mo_why_0_ok : ∀ q ∈ t_Mo_why_0, decode prog_12_method_100_code q.1 = .ok q.2 := by decide +kernel
def m_Mo_why : mM := (⟨"LinkTimesModel", "why", "(IIII)I"⟩, prog_12_method_100_code, 6, (some .int), t_Mo_why_0)
theorem ok_Mo_why : mOK m_Mo_why := ⟨by decide, tm 1767 (by decide +kernel) rfl, t_Mo_why_0_ok, tm 123 (by decide +kernel) rfl, by decide, by decide⟩
theorem vm_Mo_why : mVt m_Mo_why := ⟨tm 1765 (by decide +kernel) rfl, tm 1766 (by decide +kernel) rfl⟩
def t_Mo_keeps_0 : List (Nat × Instr × Nat) := [(0, (.aload_n 0, 1)), (1, (.getfield 247, 3)), (4, (.bipush 10, 2)), (6, (.if_icmp .ne 44, 3)), (9, (.iconst 0, 1)), (10, (.istore_n 1, 1)), (11, (.iload_n 1, 1)), (12, (.sipush 8865, 3)), (15, (.if_icmp .ge 25, 3)), (18, (.aload_n 0, 1)), (19, (.getfield 26, 3)), (22, (.iload_n 1, 1)), (23, (.aload_n 0, 1)), (24, (.getfield 26, 3)), (27, (.iload_n 1, 1)), (28, (.sipush 985, 3)), (31, (.iadd, 1)), (32, (.iaload, 1)), (33, (.iastore, 1)), (34, (.iinc 1 1, 3)), (37, (.goto (-26), 3)), (40, (.aload_n 0, 1)), (41, (.dup, 1)), (42, (.getfield 247, 3)), (45, (.iconst 1, 1)), (46, (.isub, 1)), (47, (.putfield 247, 3)), (50, (.aload_n 0, 1)), (51, (.getfield 17, 3)), (54, (.iconst 0, 1)), (55, (.aload_n 0, 1)), (56, (.getfield 26, 3)), (59, (.sipush 985, 3)), (62, (.aload_n 0, 1)), (63, (.getfield 247, 3)), (66, (.imul, 1)), (67, (.invokestatic 240, 3)), (70, (.aload_n 0, 1)), (71, (.dup, 1)), (72, (.getfield 247, 3)), (75, (.iconst 1, 1)), (76, (.iadd, 1)), (77, (.putfield 247, 3)), (80, (.return_, 1))]
theorem t_Mo_keeps_0_ok : ∀ q ∈ t_Mo_keeps_0, decode prog_12_method_101_code q.1 = .ok q.2 := by decide +kernel
def m_Mo_keeps : mM := (⟨"LinkTimesModel", "keeps", "()V"⟩, prog_12_method_101_code, 2, none, t_Mo_keeps_0)
theorem ok_Mo_keeps : mOK m_Mo_keeps := ⟨by decide, tm 1783 (by decide +kernel) rfl, t_Mo_keeps_0_ok, tm 123 (by decide +kernel) rfl, by decide, by decide⟩
theorem vm_Mo_keeps : mVt m_Mo_keeps := ⟨tm 1782 (by decide +kernel) rfl, tm 110 (by decide +kernel) rfl⟩
def t_Mo_puts_0 : List (Nat × Instr × Nat) := [(0, (.aload_n 0, 1)), (1, (.invokevirtual 378, 3)), (4, (.aload_n 0, 1)), (5, (.getfield 17, 3)), (8, (.iload_n 1, 1)), (9, (.iaload, 1)), (10, (.istore_n 3, 1)), (11, (.aload_n 0, 1)), (12, (.getfield 17, 3)), (15, (.iload_n 1, 1)), (16, (.iload_n 2, 1)), (17, (.iastore, 1)), (18, (.iload_n 3, 1)), (19, (.ireturn, 1))]
theorem t_Mo_puts_0_ok : ∀ q ∈ t_Mo_puts_0, decode prog_12_method_102_code q.1 = .ok q.2 := by decide +kernel
def m_Mo_puts : mM := (⟨"LinkTimesModel", "puts", "(II)I"⟩, prog_12_method_102_code, 4, (some .int), t_Mo_puts_0)
theorem ok_Mo_puts : mOK m_Mo_puts := ⟨by decide, tm 1779 (by decide +kernel) rfl, t_Mo_puts_0_ok, tm 123 (by decide +kernel) rfl, by decide, by decide⟩
theorem vm_Mo_puts : mVt m_Mo_puts := ⟨tm 1778 (by decide +kernel) rfl, tm 109 (by decide +kernel) rfl⟩
def t_Mo_cancel_0 : List (Nat × Instr × Nat) := [(0, (.aload_n 0, 1)), (1, (.aload_n 0, 1)), (2, (.iload_n 1, 1)), (3, (.invokevirtual 269, 3)), (6, (.ifCond .ne 7, 3)), (9, (.iconst 1, 1)), (10, (.goto 16, 3)), (13, (.aload_n 0, 1)), (14, (.iload_n 1, 1)), (15, (.invokevirtual 253, 3)), (18, (.ifCond .eq 7, 3)), (21, (.iconst 0, 1)), (22, (.goto 4, 3)), (25, (.iconst 5, 1)), (26, (.invokevirtual 228, 3)), (29, (.ifCond .eq 5, 3)), (32, (.iconst (-1), 1)), (33, (.ireturn, 1)), (34, (.aload_n 0, 1)), (35, (.iload_n 1, 1)), (36, (.bipush 6, 2)), (38, (.invokestatic 209, 3)), (41, (.iconst 0, 1)), (42, (.invokevirtual 381, 3)), (45, (.istore_n 2, 1)), (46, (.aload_n 0, 1)), (47, (.invokevirtual 260, 3)), (50, (.ireturn, 1))]
theorem t_Mo_cancel_0_ok : ∀ q ∈ t_Mo_cancel_0, decode prog_12_method_103_code q.1 = .ok q.2 := by decide +kernel
def m_Mo_cancel : mM := (⟨"LinkTimesModel", "cancel", "(I)I"⟩, prog_12_method_103_code, 3, (some .int), t_Mo_cancel_0)
theorem ok_Mo_cancel : mOK m_Mo_cancel := ⟨by decide, tm 1775 (by decide +kernel) rfl, t_Mo_cancel_0_ok, tm 123 (by decide +kernel) rfl, by decide, by decide⟩
theorem vm_Mo_cancel : mVt m_Mo_cancel := ⟨tm 1773 (by decide +kernel) rfl, tm 1774 (by decide +kernel) rfl⟩
def t_Mo_run_0 : List (Nat × Instr × Nat) := [(0, (.aload_n 0, 1)), (1, (.aload_n 0, 1)), (2, (.iload_n 1, 1)), (3, (.invokevirtual 269, 3)), (6, (.ifCond .ne 7, 3)), (9, (.iconst 1, 1)), (10, (.goto 16, 3)), (13, (.aload_n 0, 1)), (14, (.iload_n 1, 1)), (15, (.invokevirtual 253, 3)), (18, (.ifCond .eq 7, 3)), (21, (.iconst 5, 1)), (22, (.goto 4, 3)), (25, (.iconst 0, 1)), (26, (.invokevirtual 228, 3)), (29, (.ifCond .eq 5, 3)), (32, (.iconst (-1), 1)), (33, (.ireturn, 1)), (34, (.aload_n 0, 1)), (35, (.iload_n 1, 1)), (36, (.bipush 6, 2)), (38, (.invokestatic 209, 3)), (41, (.iconst 1, 1)), (42, (.invokevirtual 381, 3)), (45, (.istore_n 2, 1)), (46, (.aload_n 0, 1)), (47, (.invokevirtual 260, 3)), (50, (.ireturn, 1))]
theorem t_Mo_run_0_ok : ∀ q ∈ t_Mo_run_0, decode prog_12_method_104_code q.1 = .ok q.2 := by decide +kernel
def m_Mo_run : mM := (⟨"LinkTimesModel", "run", "(I)I"⟩, prog_12_method_104_code, 3, (some .int), t_Mo_run_0)
theorem ok_Mo_run : mOK m_Mo_run := ⟨by decide, tm 1787 (by decide +kernel) rfl, t_Mo_run_0_ok, tm 123 (by decide +kernel) rfl, by decide, by decide⟩
theorem vm_Mo_run : mVt m_Mo_run := ⟨tm 1785 (by decide +kernel) rfl, tm 1786 (by decide +kernel) rfl⟩
def t_Mo_delay_0 : List (Nat × Instr × Nat) := [(0, (.aload_n 0, 1)), (1, (.aload_n 0, 1)), (2, (.iload_n 1, 1)), (3, (.invokevirtual 269, 3)), (6, (.iload_n 2, 1)), (7, (.iconst 0, 1)), (8, (.bipush 99, 2)), (10, (.invokestatic 107, 3)), (13, (.invokestatic 304, 3)), (16, (.invokevirtual 228, 3)), (19, (.ifCond .eq 7, 3)), (22, (.iconst (-1), 1)), (23, (.goto 13, 3)), (26, (.aload_n 0, 1)), (27, (.iload_n 1, 1)), (28, (.iconst 5, 1)), (29, (.invokestatic 209, 3)), (32, (.iload_n 2, 1)), (33, (.invokevirtual 381, 3)), (36, (.ireturn, 1))]
theorem t_Mo_delay_0_ok : ∀ q ∈ t_Mo_delay_0, decode prog_12_method_105_code q.1 = .ok q.2 := by decide +kernel
def m_Mo_delay : mM := (⟨"LinkTimesModel", "delay", "(II)I"⟩, prog_12_method_105_code, 3, (some .int), t_Mo_delay_0)
theorem ok_Mo_delay : mOK m_Mo_delay := ⟨by decide, tm 1791 (by decide +kernel) rfl, t_Mo_delay_0_ok, tm 123 (by decide +kernel) rfl, by decide, by decide⟩
theorem vm_Mo_delay : mVt m_Mo_delay := ⟨tm 1789 (by decide +kernel) rfl, tm 1790 (by decide +kernel) rfl⟩
def t_Mo_change_0 : List (Nat × Instr × Nat) := [(0, (.aload_n 0, 1)), (1, (.aload_n 0, 1)), (2, (.iload_n 1, 1)), (3, (.invokevirtual 263, 3)), (6, (.iload_n 2, 1)), (7, (.iconst 0, 1)), (8, (.bipush 99, 2)), (10, (.invokestatic 107, 3)), (13, (.invokestatic 304, 3)), (16, (.invokevirtual 228, 3)), (19, (.ifCond .eq 7, 3)), (22, (.iconst (-1), 1)), (23, (.goto 11, 3)), (26, (.aload_n 0, 1)), (27, (.iconst 5, 1)), (28, (.iload_n 1, 1)), (29, (.iadd, 1)), (30, (.iload_n 2, 1)), (31, (.invokevirtual 381, 3)), (34, (.ireturn, 1))]
theorem t_Mo_change_0_ok : ∀ q ∈ t_Mo_change_0, decode prog_12_method_106_code q.1 = .ok q.2 := by decide +kernel
def m_Mo_change : mM := (⟨"LinkTimesModel", "change", "(II)I"⟩, prog_12_method_106_code, 3, (some .int), t_Mo_change_0)
theorem ok_Mo_change : mOK m_Mo_change := ⟨by decide, tm 1795 (by decide +kernel) rfl, t_Mo_change_0_ok, tm 123 (by decide +kernel) rfl, by decide, by decide⟩
theorem vm_Mo_change : mVt m_Mo_change := ⟨tm 1793 (by decide +kernel) rfl, tm 1794 (by decide +kernel) rfl⟩
def t_Mo_hold_0 : List (Nat × Instr × Nat) := [(0, (.aload_n 0, 1)), (1, (.aload_n 0, 1)), (2, (.iload_n 1, 1)), (3, (.invokevirtual 263, 3)), (6, (.iload_n 2, 1)), (7, (.iconst (-1), 1)), (8, (.sipush 999, 3)), (11, (.invokestatic 107, 3)), (14, (.invokestatic 304, 3)), (17, (.invokevirtual 228, 3)), (20, (.ifCond .eq 7, 3)), (23, (.iconst (-1), 1)), (24, (.goto 22, 3)), (27, (.aload_n 0, 1)), (28, (.bipush 15, 2)), (30, (.iload_n 1, 1)), (31, (.iadd, 1)), (32, (.iload_n 2, 1)), (33, (.iconst (-1), 1)), (34, (.if_icmp .ne 8, 3)), (37, (.bipush (-2), 2)), (39, (.goto 4, 3)), (42, (.iload_n 2, 1)), (43, (.invokevirtual 381, 3)), (46, (.ireturn, 1))]
theorem t_Mo_hold_0_ok : ∀ q ∈ t_Mo_hold_0, decode prog_12_method_107_code q.1 = .ok q.2 := by decide +kernel
def m_Mo_hold : mM := (⟨"LinkTimesModel", "hold", "(II)I"⟩, prog_12_method_107_code, 3, (some .int), t_Mo_hold_0)
theorem ok_Mo_hold : mOK m_Mo_hold := ⟨by decide, tm 1799 (by decide +kernel) rfl, t_Mo_hold_0_ok, tm 123 (by decide +kernel) rfl, by decide, by decide⟩
theorem vm_Mo_hold : mVt m_Mo_hold := ⟨tm 1797 (by decide +kernel) rfl, tm 1798 (by decide +kernel) rfl⟩
def t_Mo_extra_0 : List (Nat × Instr × Nat) := [(0, (.aload_n 0, 1)), (1, (.iload_n 2, 1)), (2, (.iload_n 3, 1)), (3, (.invokevirtual 351, 3)), (6, (.ifCond .eq 23, 3)), (9, (.iload_n 1, 1)), (10, (.iconst 0, 1)), (11, (.aload_n 0, 1)), (12, (.getfield 17, 3)), (15, (.iconst 2, 1)), (16, (.iaload, 1)), (17, (.iconst 1, 1)), (18, (.isub, 1)), (19, (.invokestatic 107, 3)), (22, (.ifCond .eq 7, 3)), (25, (.iconst 1, 1)), (26, (.goto 4, 3)), (29, (.iconst 0, 1)), (30, (.istore 6, 2)), (32, (.aload_n 0, 1)), (33, (.iload 6, 2)), (35, (.ifCond .ne 7, 3)), (38, (.iconst 1, 1)), (39, (.goto 49, 3)), (42, (.iload 4, 2)), (44, (.iconst 0, 1)), (45, (.aload_n 0, 1)), (46, (.getfield 17, 3)), (49, (.iconst 0, 1)), (50, (.iaload, 1)), (51, (.invokestatic 107, 3)), (54, (.ifCond .eq 14, 3)), (57, (.iload 5, 2)), (59, (.iconst 1, 1)), (60, (.bipush 99, 2)), (62, (.invokestatic 107, 3)), (65, (.ifCond .ne 7, 3)), (68, (.iconst 2, 1)), (69, (.goto 19, 3)), (72, (.aload_n 0, 1)), (73, (.getfield 17, 3)), (76, (.iconst 4, 1)), (77, (.iaload, 1)), (78, (.bipush 120, 2)), (80, (.if_icmp .ne 7, 3)), (83, (.iconst 3, 1)), (84, (.goto 4, 3)), (87, (.iconst 0, 1)), (88, (.invokevirtual 228, 3)), (91, (.ifCond .eq 5, 3))]
theorem t_Mo_extra_0_ok : ∀ q ∈ t_Mo_extra_0, decode prog_12_method_108_code q.1 = .ok q.2 := by decide +kernel
def t_Mo_extra_1 : List (Nat × Instr × Nat) := [(94, (.iconst (-1), 1)), (95, (.ireturn, 1)), (96, (.aload_n 0, 1)), (97, (.invokevirtual 378, 3)), (100, (.aload_n 0, 1)), (101, (.getfield 17, 3)), (104, (.iload_n 1, 1)), (105, (.iload_n 2, 1)), (106, (.iload_n 3, 1)), (107, (.iload 4, 2)), (109, (.iload 5, 2)), (111, (.bipush (-2), 2)), (113, (.invokestatic 206, 3)), (116, (.aload_n 0, 1)), (117, (.getfield 17, 3)), (120, (.iconst 4, 1)), (121, (.iaload, 1)), (122, (.iconst 1, 1)), (123, (.isub, 1)), (124, (.ireturn, 1))]
theorem t_Mo_extra_1_ok : ∀ q ∈ t_Mo_extra_1, decode prog_12_method_108_code q.1 = .ok q.2 := by decide +kernel
def m_Mo_extra : mM := (⟨"LinkTimesModel", "extra", "(IIIII)I"⟩, prog_12_method_108_code, 7, (some .int), t_Mo_extra_0 ++ t_Mo_extra_1)
theorem ok_Mo_extra : mOK m_Mo_extra := ⟨by decide, tm 1803 (by decide +kernel) rfl, all_app (t_Mo_extra_0_ok) t_Mo_extra_1_ok, tm 123 (by decide +kernel) rfl, by decide, by decide⟩
theorem vm_Mo_extra : mVt m_Mo_extra := ⟨tm 1801 (by decide +kernel) rfl, tm 1802 (by decide +kernel) rfl⟩
def t_Mo_undo_0 : List (Nat × Instr × Nat) := [(0, (.aload_n 0, 1)), (1, (.aload_n 0, 1)), (2, (.getfield 247, 3)), (5, (.ifCond .le 7, 3)), (8, (.iconst 1, 1)), (9, (.goto 4, 3)), (12, (.iconst 0, 1)), (13, (.invokestatic 256, 3)), (16, (.invokevirtual 228, 3)), (19, (.ifCond .eq 5, 3)), (22, (.iconst 0, 1)), (23, (.ireturn, 1)), (24, (.aload_n 0, 1)), (25, (.dup, 1)), (26, (.getfield 247, 3)), (29, (.iconst 1, 1)), (30, (.isub, 1)), (31, (.putfield 247, 3)), (34, (.aload_n 0, 1)), (35, (.getfield 26, 3)), (38, (.sipush 985, 3)), (41, (.aload_n 0, 1)), (42, (.getfield 247, 3)), (45, (.imul, 1)), (46, (.aload_n 0, 1)), (47, (.getfield 17, 3)), (50, (.iconst 0, 1)), (51, (.invokestatic 240, 3)), (54, (.iconst 1, 1)), (55, (.ireturn, 1))]
theorem t_Mo_undo_0_ok : ∀ q ∈ t_Mo_undo_0, decode prog_12_method_109_code q.1 = .ok q.2 := by decide +kernel
def m_Mo_undo : mM := (⟨"LinkTimesModel", "undo", "()Z"⟩, prog_12_method_109_code, 1, (some .boolean), t_Mo_undo_0)
theorem ok_Mo_undo : mOK m_Mo_undo := ⟨by decide, tm 1807 (by decide +kernel) rfl, t_Mo_undo_0_ok, tm 123 (by decide +kernel) rfl, by decide, by decide⟩
theorem vm_Mo_undo : mVt m_Mo_undo := ⟨tm 1805 (by decide +kernel) rfl, tm 1806 (by decide +kernel) rfl⟩
def t_Mo_still_0 : List (Nat × Instr × Nat) := [(0, (.aload_n 0, 1)), (1, (.iconst 0, 1)), (2, (.putfield 78, 3)), (5, (.iconst 0, 1)), (6, (.istore_n 2, 1)), (7, (.iconst 0, 1)), (8, (.istore_n 3, 1)), (9, (.aload_n 0, 1)), (10, (.getfield 244, 3)), (13, (.ifCond .eq 45, 3)), (16, (.iload_n 3, 1)), (17, (.aload_n 0, 1)), (18, (.getfield 17, 3)), (21, (.iconst 1, 1)), (22, (.iaload, 1)), (23, (.if_icmp .ge 35, 3)), (26, (.aload_n 0, 1)), (27, (.iload_n 3, 1)), (28, (.iconst 1, 1)), (29, (.invokevirtual 266, 3)), (32, (.aload_n 0, 1)), (33, (.iload_n 3, 1)), (34, (.iconst 2, 1)), (35, (.invokevirtual 266, 3)), (38, (.iadd, 1)), (39, (.ifCond .ne 13, 3)), (42, (.iload_n 2, 1)), (43, (.iload_n 1, 1)), (44, (.if_icmp .ne 5, 3)), (47, (.iload_n 3, 1)), (48, (.ireturn, 1)), (49, (.iinc 2 1, 3)), (52, (.iinc 3 1, 3)), (55, (.goto (-46), 3)), (58, (.aload_n 0, 1)), (59, (.iconst 1, 1)), (60, (.putfield 78, 3)), (63, (.iconst 0, 1)), (64, (.ireturn, 1))]
theorem t_Mo_still_0_ok : ∀ q ∈ t_Mo_still_0, decode prog_12_method_110_code q.1 = .ok q.2 := by decide +kernel
def m_Mo_still : mM := (⟨"LinkTimesModel", "still", "(I)I"⟩, prog_12_method_110_code, 4, (some .int), t_Mo_still_0)
theorem ok_Mo_still : mOK m_Mo_still := ⟨by decide, tm 1811 (by decide +kernel) rfl, t_Mo_still_0_ok, tm 123 (by decide +kernel) rfl, by decide, by decide⟩
theorem vm_Mo_still : mVt m_Mo_still := ⟨tm 1809 (by decide +kernel) rfl, tm 1810 (by decide +kernel) rfl⟩
def t_Mo_lateMany_0 : List (Nat × Instr × Nat) := [(0, (.iconst 0, 1)), (1, (.istore_n 1, 1)), (2, (.iconst 0, 1)), (3, (.istore_n 2, 1)), (4, (.iload_n 2, 1)), (5, (.aload_n 0, 1)), (6, (.getfield 17, 3)), (9, (.iconst 4, 1)), (10, (.iaload, 1)), (11, (.if_icmp .ge 30, 3)), (14, (.iload_n 1, 1)), (15, (.aload_n 0, 1)), (16, (.getfield 17, 3)), (19, (.iload_n 2, 1)), (20, (.iconst 5, 1)), (21, (.invokestatic 209, 3)), (24, (.iaload, 1)), (25, (.ifCond .le 7, 3)), (28, (.iconst 1, 1)), (29, (.goto 4, 3)), (32, (.iconst 0, 1)), (33, (.iadd, 1)), (34, (.istore_n 1, 1)), (35, (.iinc 2 1, 3)), (38, (.goto (-34), 3)), (41, (.iload_n 1, 1)), (42, (.ireturn, 1))]
theorem t_Mo_lateMany_0_ok : ∀ q ∈ t_Mo_lateMany_0, decode prog_12_method_111_code q.1 = .ok q.2 := by decide +kernel
def m_Mo_lateMany : mM := (⟨"LinkTimesModel", "lateMany", "()I"⟩, prog_12_method_111_code, 3, (some .int), t_Mo_lateMany_0)
theorem ok_Mo_lateMany : mOK m_Mo_lateMany := ⟨by decide, tm 1819 (by decide +kernel) rfl, t_Mo_lateMany_0_ok, tm 123 (by decide +kernel) rfl, by decide, by decide⟩
theorem vm_Mo_lateMany : mVt m_Mo_lateMany := ⟨tm 1818 (by decide +kernel) rfl, tm 111 (by decide +kernel) rfl⟩
def t_Mo_size_0 : List (Nat × Instr × Nat) := [(0, (.aload_n 0, 1)), (1, (.iconst 0, 1)), (2, (.putfield 78, 3)), (5, (.iload_n 1, 1)), (6, (.tableswitch 41 0 2 #[26, 31, 36], 26)), (32, (.aload_n 0, 1)), (33, (.getfield 84, 3)), (36, (.ireturn, 1)), (37, (.aload_n 0, 1)), (38, (.getfield 247, 3)), (41, (.ireturn, 1)), (42, (.aload_n 0, 1)), (43, (.invokevirtual 384, 3)), (46, (.ireturn, 1)), (47, (.iconst (-1), 1)), (48, (.ireturn, 1))]
theorem t_Mo_size_0_ok : ∀ q ∈ t_Mo_size_0, decode prog_12_method_112_code q.1 = .ok q.2 := by decide +kernel
def m_Mo_size : mM := (⟨"LinkTimesModel", "size", "(I)I"⟩, prog_12_method_112_code, 2, (some .int), t_Mo_size_0)
theorem ok_Mo_size : mOK m_Mo_size := ⟨by decide, tm 1815 (by decide +kernel) rfl, t_Mo_size_0_ok, tm 123 (by decide +kernel) rfl, by decide, by decide⟩
theorem vm_Mo_size : mVt m_Mo_size := ⟨tm 1813 (by decide +kernel) rfl, tm 1814 (by decide +kernel) rfl⟩
def t_Mo_trouble_0 : List (Nat × Instr × Nat) := [(0, (.aload_n 0, 1)), (1, (.iconst 0, 1)), (2, (.putfield 78, 3)), (5, (.aload_n 0, 1)), (6, (.getfield 81, 3)), (9, (.ireturn, 1))]
theorem t_Mo_trouble_0_ok : ∀ q ∈ t_Mo_trouble_0, decode prog_12_method_113_code q.1 = .ok q.2 := by decide +kernel
def m_Mo_trouble : mM := (⟨"LinkTimesModel", "trouble", "()I"⟩, prog_12_method_113_code, 1, (some .int), t_Mo_trouble_0)
theorem ok_Mo_trouble : mOK m_Mo_trouble := ⟨by decide, tm 1823 (by decide +kernel) rfl, t_Mo_trouble_0_ok, tm 123 (by decide +kernel) rfl, by decide, by decide⟩
theorem vm_Mo_trouble : mVt m_Mo_trouble := ⟨tm 1821 (by decide +kernel) rfl, tm 1822 (by decide +kernel) rfl⟩
end
section
def t_La_law_0 : List (Nat × Instr × Nat) := [(0, (.new 8, 3)), (3, (.dup, 1)), (4, (.invokespecial 15, 3)), (7, (.astore_n 1, 1)), (8, (.new 16, 3)), (11, (.dup, 1)), (12, (.invokespecial 18, 3)), (15, (.astore_n 2, 1)), (16, (.iconst 1, 1)), (17, (.newarray .long, 2)), (19, (.astore_n 3, 1)), (20, (.iconst 0, 1)), (21, (.istore 4, 2)), (23, (.iload 4, 2)), (25, (.aload_n 0, 1)), (26, (.arraylength, 1)), (27, (.bipush 6, 2)), (29, (.isub, 1)), (30, (.if_icmp .gt 2148, 3)), (33, (.aload_n 0, 1)), (34, (.iload 4, 2)), (36, (.iaload, 1)), (37, (.bipush 63, 2)), (39, (.iand, 1)), (40, (.tableswitch 2132 0 44 #[196, 269, 294, 307, 320, 345, 382, 419, 444, 493, 542, 591, 640, 701, 750, 799, 872, 933, 982, 1031, 1068, 1117, 1178, 1215, 1276, 1313, 1374, 1423, 1484, 1509, 1534, 1559, 1620, 1669, 1730, 1791, 1816, 1841, 1878, 1915, 1952, 2025, 2038, 2094, 2119], 196)), (236, (.aload_n 1, 1)), (237, (.aload_n 0, 1)), (238, (.iload 4, 2)), (240, (.iconst 1, 1)), (241, (.iadd, 1)), (242, (.iaload, 1)), (243, (.aload_n 0, 1)), (244, (.iload 4, 2)), (246, (.iconst 2, 1)), (247, (.iadd, 1)), (248, (.iaload, 1)), (249, (.aload_n 0, 1)), (250, (.iload 4, 2)), (252, (.iconst 3, 1)), (253, (.iadd, 1)), (254, (.iaload, 1)), (255, (.aload_n 0, 1)), (256, (.iload 4, 2)), (258, (.iconst 4, 1)), (259, (.iadd, 1)), (260, (.iaload, 1)), (261, (.aload_n 0, 1)), (262, (.iload 4, 2)), (264, (.iconst 5, 1)), (265, (.iadd, 1))]
theorem t_La_law_0_ok : ∀ q ∈ t_La_law_0, decode code q.1 = .ok q.2 := by decide +kernel
def t_La_law_1 : List (Nat × Instr × Nat) := [(266, (.iaload, 1)), (267, (.invokevirtual 19, 3)), (270, (.aload_n 2, 1)), (271, (.aload_n 0, 1)), (272, (.iload 4, 2)), (274, (.iconst 1, 1)), (275, (.iadd, 1)), (276, (.iaload, 1)), (277, (.aload_n 0, 1)), (278, (.iload 4, 2)), (280, (.iconst 2, 1)), (281, (.iadd, 1)), (282, (.iaload, 1)), (283, (.aload_n 0, 1)), (284, (.iload 4, 2)), (286, (.iconst 3, 1)), (287, (.iadd, 1)), (288, (.iaload, 1)), (289, (.aload_n 0, 1)), (290, (.iload 4, 2)), (292, (.iconst 4, 1)), (293, (.iadd, 1)), (294, (.iaload, 1)), (295, (.aload_n 0, 1)), (296, (.iload 4, 2)), (298, (.iconst 5, 1)), (299, (.iadd, 1)), (300, (.iaload, 1)), (301, (.invokevirtual 23, 3)), (304, (.if_icmp .eq 1868, 3)), (307, (.iconst 0, 1)), (308, (.ireturn, 1)), (309, (.aload_n 1, 1)), (310, (.aload_n 0, 1)), (311, (.iload 4, 2)), (313, (.iconst 1, 1)), (314, (.iadd, 1)), (315, (.iaload, 1)), (316, (.invokevirtual 24, 3)), (319, (.aload_n 2, 1)), (320, (.aload_n 0, 1)), (321, (.iload 4, 2)), (323, (.iconst 1, 1)), (324, (.iadd, 1)), (325, (.iaload, 1)), (326, (.invokevirtual 27, 3)), (329, (.if_icmp .eq 1843, 3)), (332, (.iconst 0, 1)), (333, (.ireturn, 1)), (334, (.aload_n 1, 1))]
theorem t_La_law_1_ok : ∀ q ∈ t_La_law_1, decode code q.1 = .ok q.2 := by decide +kernel
def t_La_law_2 : List (Nat × Instr × Nat) := [(335, (.invokevirtual 28, 3)), (338, (.aload_n 2, 1)), (339, (.invokevirtual 32, 3)), (342, (.if_icmp .eq 1830, 3)), (345, (.iconst 0, 1)), (346, (.ireturn, 1)), (347, (.aload_n 1, 1)), (348, (.invokevirtual 33, 3)), (351, (.aload_n 2, 1)), (352, (.invokevirtual 36, 3)), (355, (.if_icmp .eq 1817, 3)), (358, (.iconst 0, 1)), (359, (.ireturn, 1)), (360, (.aload_n 1, 1)), (361, (.aload_n 0, 1)), (362, (.iload 4, 2)), (364, (.iconst 1, 1)), (365, (.iadd, 1)), (366, (.iaload, 1)), (367, (.invokevirtual 37, 3)), (370, (.aload_n 2, 1)), (371, (.aload_n 0, 1)), (372, (.iload 4, 2)), (374, (.iconst 1, 1)), (375, (.iadd, 1)), (376, (.iaload, 1)), (377, (.invokevirtual 40, 3)), (380, (.if_icmp .eq 1792, 3)), (383, (.iconst 0, 1)), (384, (.ireturn, 1)), (385, (.aload_n 1, 1)), (386, (.aload_n 0, 1)), (387, (.iload 4, 2)), (389, (.iconst 1, 1)), (390, (.iadd, 1)), (391, (.iaload, 1)), (392, (.aload_n 0, 1)), (393, (.iload 4, 2)), (395, (.iconst 2, 1)), (396, (.iadd, 1)), (397, (.iaload, 1)), (398, (.invokevirtual 41, 3)), (401, (.aload_n 2, 1)), (402, (.aload_n 0, 1)), (403, (.iload 4, 2)), (405, (.iconst 1, 1)), (406, (.iadd, 1)), (407, (.iaload, 1)), (408, (.aload_n 0, 1)), (409, (.iload 4, 2))]
theorem t_La_law_2_ok : ∀ q ∈ t_La_law_2, decode code q.1 = .ok q.2 := by decide +kernel
def t_La_law_3 : List (Nat × Instr × Nat) := [(411, (.iconst 2, 1)), (412, (.iadd, 1)), (413, (.iaload, 1)), (414, (.invokevirtual 45, 3)), (417, (.if_icmp .eq 1755, 3)), (420, (.iconst 0, 1)), (421, (.ireturn, 1)), (422, (.aload_n 1, 1)), (423, (.aload_n 0, 1)), (424, (.iload 4, 2)), (426, (.iconst 1, 1)), (427, (.iadd, 1)), (428, (.iaload, 1)), (429, (.aload_n 0, 1)), (430, (.iload 4, 2)), (432, (.iconst 2, 1)), (433, (.iadd, 1)), (434, (.iaload, 1)), (435, (.invokevirtual 46, 3)), (438, (.aload_n 2, 1)), (439, (.aload_n 0, 1)), (440, (.iload 4, 2)), (442, (.iconst 1, 1)), (443, (.iadd, 1)), (444, (.iaload, 1)), (445, (.aload_n 0, 1)), (446, (.iload 4, 2)), (448, (.iconst 2, 1)), (449, (.iadd, 1)), (450, (.iaload, 1)), (451, (.invokevirtual 49, 3)), (454, (.if_icmp .eq 1718, 3)), (457, (.iconst 0, 1)), (458, (.ireturn, 1)), (459, (.aload_n 1, 1)), (460, (.aload_n 0, 1)), (461, (.iload 4, 2)), (463, (.iconst 1, 1)), (464, (.iadd, 1)), (465, (.iaload, 1)), (466, (.invokevirtual 50, 3)), (469, (.aload_n 2, 1)), (470, (.aload_n 0, 1)), (471, (.iload 4, 2)), (473, (.iconst 1, 1)), (474, (.iadd, 1)), (475, (.iaload, 1)), (476, (.invokevirtual 53, 3)), (479, (.if_icmp .eq 1693, 3)), (482, (.iconst 0, 1))]
theorem t_La_law_3_ok : ∀ q ∈ t_La_law_3, decode code q.1 = .ok q.2 := by decide +kernel
def t_La_law_4 : List (Nat × Instr × Nat) := [(483, (.ireturn, 1)), (484, (.aload_n 1, 1)), (485, (.aload_n 0, 1)), (486, (.iload 4, 2)), (488, (.iconst 1, 1)), (489, (.iadd, 1)), (490, (.iaload, 1)), (491, (.aload_n 0, 1)), (492, (.iload 4, 2)), (494, (.iconst 2, 1)), (495, (.iadd, 1)), (496, (.iaload, 1)), (497, (.aload_n 0, 1)), (498, (.iload 4, 2)), (500, (.iconst 3, 1)), (501, (.iadd, 1)), (502, (.iaload, 1)), (503, (.invokevirtual 54, 3)), (506, (.aload_n 2, 1)), (507, (.aload_n 0, 1)), (508, (.iload 4, 2)), (510, (.iconst 1, 1)), (511, (.iadd, 1)), (512, (.iaload, 1)), (513, (.aload_n 0, 1)), (514, (.iload 4, 2)), (516, (.iconst 2, 1)), (517, (.iadd, 1)), (518, (.iaload, 1)), (519, (.aload_n 0, 1)), (520, (.iload 4, 2)), (522, (.iconst 3, 1)), (523, (.iadd, 1)), (524, (.iaload, 1)), (525, (.invokevirtual 58, 3)), (528, (.if_icmp .eq 1644, 3)), (531, (.iconst 0, 1)), (532, (.ireturn, 1)), (533, (.aload_n 1, 1)), (534, (.aload_n 0, 1)), (535, (.iload 4, 2)), (537, (.iconst 1, 1)), (538, (.iadd, 1)), (539, (.iaload, 1)), (540, (.aload_n 0, 1)), (541, (.iload 4, 2)), (543, (.iconst 2, 1)), (544, (.iadd, 1)), (545, (.iaload, 1)), (546, (.aload_n 0, 1))]
theorem t_La_law_4_ok : ∀ q ∈ t_La_law_4, decode code q.1 = .ok q.2 := by decide +kernel
def t_La_law_5 : List (Nat × Instr × Nat) := [(547, (.iload 4, 2)), (549, (.iconst 3, 1)), (550, (.iadd, 1)), (551, (.iaload, 1)), (552, (.invokevirtual 59, 3)), (555, (.aload_n 2, 1)), (556, (.aload_n 0, 1)), (557, (.iload 4, 2)), (559, (.iconst 1, 1)), (560, (.iadd, 1)), (561, (.iaload, 1)), (562, (.aload_n 0, 1)), (563, (.iload 4, 2)), (565, (.iconst 2, 1)), (566, (.iadd, 1)), (567, (.iaload, 1)), (568, (.aload_n 0, 1)), (569, (.iload 4, 2)), (571, (.iconst 3, 1)), (572, (.iadd, 1)), (573, (.iaload, 1)), (574, (.invokevirtual 62, 3)), (577, (.if_icmp .eq 1595, 3)), (580, (.iconst 0, 1)), (581, (.ireturn, 1)), (582, (.aload_n 1, 1)), (583, (.aload_n 0, 1)), (584, (.iload 4, 2)), (586, (.iconst 1, 1)), (587, (.iadd, 1)), (588, (.iaload, 1)), (589, (.aload_n 0, 1)), (590, (.iload 4, 2)), (592, (.iconst 2, 1)), (593, (.iadd, 1)), (594, (.iaload, 1)), (595, (.aload_n 0, 1)), (596, (.iload 4, 2)), (598, (.iconst 3, 1)), (599, (.iadd, 1)), (600, (.iaload, 1)), (601, (.invokevirtual 63, 3)), (604, (.aload_n 2, 1)), (605, (.aload_n 0, 1)), (606, (.iload 4, 2)), (608, (.iconst 1, 1)), (609, (.iadd, 1)), (610, (.iaload, 1)), (611, (.aload_n 0, 1)), (612, (.iload 4, 2))]
theorem t_La_law_5_ok : ∀ q ∈ t_La_law_5, decode code q.1 = .ok q.2 := by decide +kernel
def t_La_law_6 : List (Nat × Instr × Nat) := [(614, (.iconst 2, 1)), (615, (.iadd, 1)), (616, (.iaload, 1)), (617, (.aload_n 0, 1)), (618, (.iload 4, 2)), (620, (.iconst 3, 1)), (621, (.iadd, 1)), (622, (.iaload, 1)), (623, (.invokevirtual 66, 3)), (626, (.if_icmp .eq 1546, 3)), (629, (.iconst 0, 1)), (630, (.ireturn, 1)), (631, (.aload_n 1, 1)), (632, (.aload_n 0, 1)), (633, (.iload 4, 2)), (635, (.iconst 1, 1)), (636, (.iadd, 1)), (637, (.iaload, 1)), (638, (.aload_n 0, 1)), (639, (.iload 4, 2)), (641, (.iconst 2, 1)), (642, (.iadd, 1)), (643, (.iaload, 1)), (644, (.aload_n 0, 1)), (645, (.iload 4, 2)), (647, (.iconst 3, 1)), (648, (.iadd, 1)), (649, (.iaload, 1)), (650, (.invokevirtual 67, 3)), (653, (.aload_n 2, 1)), (654, (.aload_n 0, 1)), (655, (.iload 4, 2)), (657, (.iconst 1, 1)), (658, (.iadd, 1)), (659, (.iaload, 1)), (660, (.aload_n 0, 1)), (661, (.iload 4, 2)), (663, (.iconst 2, 1)), (664, (.iadd, 1)), (665, (.iaload, 1)), (666, (.aload_n 0, 1)), (667, (.iload 4, 2)), (669, (.iconst 3, 1)), (670, (.iadd, 1)), (671, (.iaload, 1)), (672, (.invokevirtual 70, 3)), (675, (.if_icmp .eq 1497, 3)), (678, (.iconst 0, 1)), (679, (.ireturn, 1)), (680, (.aload_n 1, 1))]
theorem t_La_law_6_ok : ∀ q ∈ t_La_law_6, decode code q.1 = .ok q.2 := by decide +kernel
def t_La_law_7 : List (Nat × Instr × Nat) := [(681, (.aload_n 0, 1)), (682, (.iload 4, 2)), (684, (.iconst 1, 1)), (685, (.iadd, 1)), (686, (.iaload, 1)), (687, (.aload_n 0, 1)), (688, (.iload 4, 2)), (690, (.iconst 2, 1)), (691, (.iadd, 1)), (692, (.iaload, 1)), (693, (.aload_n 0, 1)), (694, (.iload 4, 2)), (696, (.iconst 3, 1)), (697, (.iadd, 1)), (698, (.iaload, 1)), (699, (.aload_n 0, 1)), (700, (.iload 4, 2)), (702, (.iconst 4, 1)), (703, (.iadd, 1)), (704, (.iaload, 1)), (705, (.invokevirtual 71, 3)), (708, (.aload_n 2, 1)), (709, (.aload_n 0, 1)), (710, (.iload 4, 2)), (712, (.iconst 1, 1)), (713, (.iadd, 1)), (714, (.iaload, 1)), (715, (.aload_n 0, 1)), (716, (.iload 4, 2)), (718, (.iconst 2, 1)), (719, (.iadd, 1)), (720, (.iaload, 1)), (721, (.aload_n 0, 1)), (722, (.iload 4, 2)), (724, (.iconst 3, 1)), (725, (.iadd, 1)), (726, (.iaload, 1)), (727, (.aload_n 0, 1)), (728, (.iload 4, 2)), (730, (.iconst 4, 1)), (731, (.iadd, 1)), (732, (.iaload, 1)), (733, (.invokevirtual 75, 3)), (736, (.if_icmp .eq 1436, 3)), (739, (.iconst 0, 1)), (740, (.ireturn, 1)), (741, (.aload_n 1, 1)), (742, (.aload_n 0, 1)), (743, (.iload 4, 2)), (745, (.iconst 1, 1))]
theorem t_La_law_7_ok : ∀ q ∈ t_La_law_7, decode code q.1 = .ok q.2 := by decide +kernel
def t_La_law_8 : List (Nat × Instr × Nat) := [(746, (.iadd, 1)), (747, (.iaload, 1)), (748, (.aload_n 0, 1)), (749, (.iload 4, 2)), (751, (.iconst 2, 1)), (752, (.iadd, 1)), (753, (.iaload, 1)), (754, (.aload_n 0, 1)), (755, (.iload 4, 2)), (757, (.iconst 3, 1)), (758, (.iadd, 1)), (759, (.iaload, 1)), (760, (.invokevirtual 76, 3)), (763, (.aload_n 2, 1)), (764, (.aload_n 0, 1)), (765, (.iload 4, 2)), (767, (.iconst 1, 1)), (768, (.iadd, 1)), (769, (.iaload, 1)), (770, (.aload_n 0, 1)), (771, (.iload 4, 2)), (773, (.iconst 2, 1)), (774, (.iadd, 1)), (775, (.iaload, 1)), (776, (.aload_n 0, 1)), (777, (.iload 4, 2)), (779, (.iconst 3, 1)), (780, (.iadd, 1)), (781, (.iaload, 1)), (782, (.invokevirtual 79, 3)), (785, (.if_icmp .eq 1387, 3)), (788, (.iconst 0, 1)), (789, (.ireturn, 1)), (790, (.aload_n 1, 1)), (791, (.aload_n 0, 1)), (792, (.iload 4, 2)), (794, (.iconst 1, 1)), (795, (.iadd, 1)), (796, (.iaload, 1)), (797, (.aload_n 0, 1)), (798, (.iload 4, 2)), (800, (.iconst 2, 1)), (801, (.iadd, 1)), (802, (.iaload, 1)), (803, (.aload_n 0, 1)), (804, (.iload 4, 2)), (806, (.iconst 3, 1)), (807, (.iadd, 1)), (808, (.iaload, 1)), (809, (.invokevirtual 80, 3))]
theorem t_La_law_8_ok : ∀ q ∈ t_La_law_8, decode code q.1 = .ok q.2 := by decide +kernel
def t_La_law_9 : List (Nat × Instr × Nat) := [(812, (.aload_n 2, 1)), (813, (.aload_n 0, 1)), (814, (.iload 4, 2)), (816, (.iconst 1, 1)), (817, (.iadd, 1)), (818, (.iaload, 1)), (819, (.aload_n 0, 1)), (820, (.iload 4, 2)), (822, (.iconst 2, 1)), (823, (.iadd, 1)), (824, (.iaload, 1)), (825, (.aload_n 0, 1)), (826, (.iload 4, 2)), (828, (.iconst 3, 1)), (829, (.iadd, 1)), (830, (.iaload, 1)), (831, (.invokevirtual 83, 3)), (834, (.if_icmp .eq 1338, 3)), (837, (.iconst 0, 1)), (838, (.ireturn, 1)), (839, (.aload_n 1, 1)), (840, (.aload_n 0, 1)), (841, (.iload 4, 2)), (843, (.iconst 1, 1)), (844, (.iadd, 1)), (845, (.iaload, 1)), (846, (.aload_n 0, 1)), (847, (.iload 4, 2)), (849, (.iconst 2, 1)), (850, (.iadd, 1)), (851, (.iaload, 1)), (852, (.aload_n 0, 1)), (853, (.iload 4, 2)), (855, (.iconst 3, 1)), (856, (.iadd, 1)), (857, (.iaload, 1)), (858, (.aload_n 0, 1)), (859, (.iload 4, 2)), (861, (.iconst 4, 1)), (862, (.iadd, 1)), (863, (.iaload, 1)), (864, (.aload_n 0, 1)), (865, (.iload 4, 2)), (867, (.iconst 5, 1)), (868, (.iadd, 1)), (869, (.iaload, 1)), (870, (.invokevirtual 84, 3)), (873, (.aload_n 2, 1)), (874, (.aload_n 0, 1)), (875, (.iload 4, 2))]
theorem t_La_law_9_ok : ∀ q ∈ t_La_law_9, decode code q.1 = .ok q.2 := by decide +kernel
def t_La_law_10 : List (Nat × Instr × Nat) := [(877, (.iconst 1, 1)), (878, (.iadd, 1)), (879, (.iaload, 1)), (880, (.aload_n 0, 1)), (881, (.iload 4, 2)), (883, (.iconst 2, 1)), (884, (.iadd, 1)), (885, (.iaload, 1)), (886, (.aload_n 0, 1)), (887, (.iload 4, 2)), (889, (.iconst 3, 1)), (890, (.iadd, 1)), (891, (.iaload, 1)), (892, (.aload_n 0, 1)), (893, (.iload 4, 2)), (895, (.iconst 4, 1)), (896, (.iadd, 1)), (897, (.iaload, 1)), (898, (.aload_n 0, 1)), (899, (.iload 4, 2)), (901, (.iconst 5, 1)), (902, (.iadd, 1)), (903, (.iaload, 1)), (904, (.invokevirtual 87, 3)), (907, (.if_icmp .eq 1265, 3)), (910, (.iconst 0, 1)), (911, (.ireturn, 1)), (912, (.aload_n 1, 1)), (913, (.aload_n 0, 1)), (914, (.iload 4, 2)), (916, (.iconst 1, 1)), (917, (.iadd, 1)), (918, (.iaload, 1)), (919, (.aload_n 0, 1)), (920, (.iload 4, 2)), (922, (.iconst 2, 1)), (923, (.iadd, 1)), (924, (.iaload, 1)), (925, (.aload_n 0, 1)), (926, (.iload 4, 2)), (928, (.iconst 3, 1)), (929, (.iadd, 1)), (930, (.iaload, 1)), (931, (.aload_n 0, 1)), (932, (.iload 4, 2)), (934, (.iconst 4, 1)), (935, (.iadd, 1)), (936, (.iaload, 1)), (937, (.invokevirtual 88, 3)), (940, (.aload_n 2, 1))]
theorem t_La_law_10_ok : ∀ q ∈ t_La_law_10, decode code q.1 = .ok q.2 := by decide +kernel
def t_La_law_11 : List (Nat × Instr × Nat) := [(941, (.aload_n 0, 1)), (942, (.iload 4, 2)), (944, (.iconst 1, 1)), (945, (.iadd, 1)), (946, (.iaload, 1)), (947, (.aload_n 0, 1)), (948, (.iload 4, 2)), (950, (.iconst 2, 1)), (951, (.iadd, 1)), (952, (.iaload, 1)), (953, (.aload_n 0, 1)), (954, (.iload 4, 2)), (956, (.iconst 3, 1)), (957, (.iadd, 1)), (958, (.iaload, 1)), (959, (.aload_n 0, 1)), (960, (.iload 4, 2)), (962, (.iconst 4, 1)), (963, (.iadd, 1)), (964, (.iaload, 1)), (965, (.invokevirtual 91, 3)), (968, (.if_icmp .eq 1204, 3)), (971, (.iconst 0, 1)), (972, (.ireturn, 1)), (973, (.aload_n 1, 1)), (974, (.aload_n 0, 1)), (975, (.iload 4, 2)), (977, (.iconst 1, 1)), (978, (.iadd, 1)), (979, (.iaload, 1)), (980, (.aload_n 0, 1)), (981, (.iload 4, 2)), (983, (.iconst 2, 1)), (984, (.iadd, 1)), (985, (.iaload, 1)), (986, (.aload_n 0, 1)), (987, (.iload 4, 2)), (989, (.iconst 3, 1)), (990, (.iadd, 1)), (991, (.iaload, 1)), (992, (.invokevirtual 92, 3)), (995, (.aload_n 2, 1)), (996, (.aload_n 0, 1)), (997, (.iload 4, 2)), (999, (.iconst 1, 1)), (1000, (.iadd, 1)), (1001, (.iaload, 1)), (1002, (.aload_n 0, 1)), (1003, (.iload 4, 2)), (1005, (.iconst 2, 1))]
theorem t_La_law_11_ok : ∀ q ∈ t_La_law_11, decode code q.1 = .ok q.2 := by decide +kernel
def t_La_law_12 : List (Nat × Instr × Nat) := [(1006, (.iadd, 1)), (1007, (.iaload, 1)), (1008, (.aload_n 0, 1)), (1009, (.iload 4, 2)), (1011, (.iconst 3, 1)), (1012, (.iadd, 1)), (1013, (.iaload, 1)), (1014, (.invokevirtual 95, 3)), (1017, (.if_icmp .eq 1155, 3)), (1020, (.iconst 0, 1)), (1021, (.ireturn, 1)), (1022, (.aload_n 1, 1)), (1023, (.aload_n 0, 1)), (1024, (.iload 4, 2)), (1026, (.iconst 1, 1)), (1027, (.iadd, 1)), (1028, (.iaload, 1)), (1029, (.aload_n 0, 1)), (1030, (.iload 4, 2)), (1032, (.iconst 2, 1)), (1033, (.iadd, 1)), (1034, (.iaload, 1)), (1035, (.aload_n 0, 1)), (1036, (.iload 4, 2)), (1038, (.iconst 3, 1)), (1039, (.iadd, 1)), (1040, (.iaload, 1)), (1041, (.invokevirtual 96, 3)), (1044, (.aload_n 2, 1)), (1045, (.aload_n 0, 1)), (1046, (.iload 4, 2)), (1048, (.iconst 1, 1)), (1049, (.iadd, 1)), (1050, (.iaload, 1)), (1051, (.aload_n 0, 1)), (1052, (.iload 4, 2)), (1054, (.iconst 2, 1)), (1055, (.iadd, 1)), (1056, (.iaload, 1)), (1057, (.aload_n 0, 1)), (1058, (.iload 4, 2)), (1060, (.iconst 3, 1)), (1061, (.iadd, 1)), (1062, (.iaload, 1)), (1063, (.invokevirtual 99, 3)), (1066, (.if_icmp .eq 1106, 3)), (1069, (.iconst 0, 1)), (1070, (.ireturn, 1)), (1071, (.aload_n 1, 1)), (1072, (.aload_n 0, 1))]
theorem t_La_law_12_ok : ∀ q ∈ t_La_law_12, decode code q.1 = .ok q.2 := by decide +kernel
def t_La_law_13 : List (Nat × Instr × Nat) := [(1073, (.iload 4, 2)), (1075, (.iconst 1, 1)), (1076, (.iadd, 1)), (1077, (.iaload, 1)), (1078, (.aload_n 0, 1)), (1079, (.iload 4, 2)), (1081, (.iconst 2, 1)), (1082, (.iadd, 1)), (1083, (.iaload, 1)), (1084, (.invokevirtual 100, 3)), (1087, (.aload_n 2, 1)), (1088, (.aload_n 0, 1)), (1089, (.iload 4, 2)), (1091, (.iconst 1, 1)), (1092, (.iadd, 1)), (1093, (.iaload, 1)), (1094, (.aload_n 0, 1)), (1095, (.iload 4, 2)), (1097, (.iconst 2, 1)), (1098, (.iadd, 1)), (1099, (.iaload, 1)), (1100, (.invokevirtual 103, 3)), (1103, (.if_icmp .eq 1069, 3)), (1106, (.iconst 0, 1)), (1107, (.ireturn, 1)), (1108, (.aload_n 1, 1)), (1109, (.aload_n 0, 1)), (1110, (.iload 4, 2)), (1112, (.iconst 1, 1)), (1113, (.iadd, 1)), (1114, (.iaload, 1)), (1115, (.aload_n 0, 1)), (1116, (.iload 4, 2)), (1118, (.iconst 2, 1)), (1119, (.iadd, 1)), (1120, (.iaload, 1)), (1121, (.aload_n 0, 1)), (1122, (.iload 4, 2)), (1124, (.iconst 3, 1)), (1125, (.iadd, 1)), (1126, (.iaload, 1)), (1127, (.invokevirtual 104, 3)), (1130, (.aload_n 2, 1)), (1131, (.aload_n 0, 1)), (1132, (.iload 4, 2)), (1134, (.iconst 1, 1)), (1135, (.iadd, 1)), (1136, (.iaload, 1)), (1137, (.aload_n 0, 1)), (1138, (.iload 4, 2))]
theorem t_La_law_13_ok : ∀ q ∈ t_La_law_13, decode code q.1 = .ok q.2 := by decide +kernel
def t_La_law_14 : List (Nat × Instr × Nat) := [(1140, (.iconst 2, 1)), (1141, (.iadd, 1)), (1142, (.iaload, 1)), (1143, (.aload_n 0, 1)), (1144, (.iload 4, 2)), (1146, (.iconst 3, 1)), (1147, (.iadd, 1)), (1148, (.iaload, 1)), (1149, (.invokevirtual 107, 3)), (1152, (.if_icmp .eq 1020, 3)), (1155, (.iconst 0, 1)), (1156, (.ireturn, 1)), (1157, (.aload_n 1, 1)), (1158, (.aload_n 0, 1)), (1159, (.iload 4, 2)), (1161, (.iconst 1, 1)), (1162, (.iadd, 1)), (1163, (.iaload, 1)), (1164, (.aload_n 0, 1)), (1165, (.iload 4, 2)), (1167, (.iconst 2, 1)), (1168, (.iadd, 1)), (1169, (.iaload, 1)), (1170, (.aload_n 0, 1)), (1171, (.iload 4, 2)), (1173, (.iconst 3, 1)), (1174, (.iadd, 1)), (1175, (.iaload, 1)), (1176, (.aload_n 0, 1)), (1177, (.iload 4, 2)), (1179, (.iconst 4, 1)), (1180, (.iadd, 1)), (1181, (.iaload, 1)), (1182, (.invokevirtual 108, 3)), (1185, (.aload_n 2, 1)), (1186, (.aload_n 0, 1)), (1187, (.iload 4, 2)), (1189, (.iconst 1, 1)), (1190, (.iadd, 1)), (1191, (.iaload, 1)), (1192, (.aload_n 0, 1)), (1193, (.iload 4, 2)), (1195, (.iconst 2, 1)), (1196, (.iadd, 1)), (1197, (.iaload, 1)), (1198, (.aload_n 0, 1)), (1199, (.iload 4, 2)), (1201, (.iconst 3, 1)), (1202, (.iadd, 1)), (1203, (.iaload, 1))]
theorem t_La_law_14_ok : ∀ q ∈ t_La_law_14, decode code q.1 = .ok q.2 := by decide +kernel
def t_La_law_15 : List (Nat × Instr × Nat) := [(1204, (.aload_n 0, 1)), (1205, (.iload 4, 2)), (1207, (.iconst 4, 1)), (1208, (.iadd, 1)), (1209, (.iaload, 1)), (1210, (.invokevirtual 111, 3)), (1213, (.if_icmp .eq 959, 3)), (1216, (.iconst 0, 1)), (1217, (.ireturn, 1)), (1218, (.aload_n 1, 1)), (1219, (.aload_n 0, 1)), (1220, (.iload 4, 2)), (1222, (.iconst 1, 1)), (1223, (.iadd, 1)), (1224, (.iaload, 1)), (1225, (.aload_n 0, 1)), (1226, (.iload 4, 2)), (1228, (.iconst 2, 1)), (1229, (.iadd, 1)), (1230, (.iaload, 1)), (1231, (.invokevirtual 112, 3)), (1234, (.aload_n 2, 1)), (1235, (.aload_n 0, 1)), (1236, (.iload 4, 2)), (1238, (.iconst 1, 1)), (1239, (.iadd, 1)), (1240, (.iaload, 1)), (1241, (.aload_n 0, 1)), (1242, (.iload 4, 2)), (1244, (.iconst 2, 1)), (1245, (.iadd, 1)), (1246, (.iaload, 1)), (1247, (.invokevirtual 115, 3)), (1250, (.if_icmp .eq 922, 3)), (1253, (.iconst 0, 1)), (1254, (.ireturn, 1)), (1255, (.aload_n 1, 1)), (1256, (.aload_n 0, 1)), (1257, (.iload 4, 2)), (1259, (.iconst 1, 1)), (1260, (.iadd, 1)), (1261, (.iaload, 1)), (1262, (.aload_n 0, 1)), (1263, (.iload 4, 2)), (1265, (.iconst 2, 1)), (1266, (.iadd, 1)), (1267, (.iaload, 1)), (1268, (.aload_n 0, 1)), (1269, (.iload 4, 2)), (1271, (.iconst 3, 1))]
theorem t_La_law_15_ok : ∀ q ∈ t_La_law_15, decode code q.1 = .ok q.2 := by decide +kernel
def t_La_law_16 : List (Nat × Instr × Nat) := [(1272, (.iadd, 1)), (1273, (.iaload, 1)), (1274, (.aload_n 0, 1)), (1275, (.iload 4, 2)), (1277, (.iconst 4, 1)), (1278, (.iadd, 1)), (1279, (.iaload, 1)), (1280, (.invokevirtual 116, 3)), (1283, (.aload_n 2, 1)), (1284, (.aload_n 0, 1)), (1285, (.iload 4, 2)), (1287, (.iconst 1, 1)), (1288, (.iadd, 1)), (1289, (.iaload, 1)), (1290, (.aload_n 0, 1)), (1291, (.iload 4, 2)), (1293, (.iconst 2, 1)), (1294, (.iadd, 1)), (1295, (.iaload, 1)), (1296, (.aload_n 0, 1)), (1297, (.iload 4, 2)), (1299, (.iconst 3, 1)), (1300, (.iadd, 1)), (1301, (.iaload, 1)), (1302, (.aload_n 0, 1)), (1303, (.iload 4, 2)), (1305, (.iconst 4, 1)), (1306, (.iadd, 1)), (1307, (.iaload, 1)), (1308, (.invokevirtual 119, 3)), (1311, (.if_icmp .eq 861, 3)), (1314, (.iconst 0, 1)), (1315, (.ireturn, 1)), (1316, (.aload_n 1, 1)), (1317, (.aload_n 0, 1)), (1318, (.iload 4, 2)), (1320, (.iconst 1, 1)), (1321, (.iadd, 1)), (1322, (.iaload, 1)), (1323, (.aload_n 0, 1)), (1324, (.iload 4, 2)), (1326, (.iconst 2, 1)), (1327, (.iadd, 1)), (1328, (.iaload, 1)), (1329, (.invokevirtual 120, 3)), (1332, (.aload_n 2, 1)), (1333, (.aload_n 0, 1)), (1334, (.iload 4, 2)), (1336, (.iconst 1, 1)), (1337, (.iadd, 1))]
theorem t_La_law_16_ok : ∀ q ∈ t_La_law_16, decode code q.1 = .ok q.2 := by decide +kernel
def t_La_law_17 : List (Nat × Instr × Nat) := [(1338, (.iaload, 1)), (1339, (.aload_n 0, 1)), (1340, (.iload 4, 2)), (1342, (.iconst 2, 1)), (1343, (.iadd, 1)), (1344, (.iaload, 1)), (1345, (.invokevirtual 123, 3)), (1348, (.if_icmp .eq 824, 3)), (1351, (.iconst 0, 1)), (1352, (.ireturn, 1)), (1353, (.aload_n 1, 1)), (1354, (.aload_n 0, 1)), (1355, (.iload 4, 2)), (1357, (.iconst 1, 1)), (1358, (.iadd, 1)), (1359, (.iaload, 1)), (1360, (.aload_n 0, 1)), (1361, (.iload 4, 2)), (1363, (.iconst 2, 1)), (1364, (.iadd, 1)), (1365, (.iaload, 1)), (1366, (.aload_n 0, 1)), (1367, (.iload 4, 2)), (1369, (.iconst 3, 1)), (1370, (.iadd, 1)), (1371, (.iaload, 1)), (1372, (.aload_n 0, 1)), (1373, (.iload 4, 2)), (1375, (.iconst 4, 1)), (1376, (.iadd, 1)), (1377, (.iaload, 1)), (1378, (.invokevirtual 124, 3)), (1381, (.aload_n 2, 1)), (1382, (.aload_n 0, 1)), (1383, (.iload 4, 2)), (1385, (.iconst 1, 1)), (1386, (.iadd, 1)), (1387, (.iaload, 1)), (1388, (.aload_n 0, 1)), (1389, (.iload 4, 2)), (1391, (.iconst 2, 1)), (1392, (.iadd, 1)), (1393, (.iaload, 1)), (1394, (.aload_n 0, 1)), (1395, (.iload 4, 2)), (1397, (.iconst 3, 1)), (1398, (.iadd, 1)), (1399, (.iaload, 1)), (1400, (.aload_n 0, 1)), (1401, (.iload 4, 2))]
theorem t_La_law_17_ok : ∀ q ∈ t_La_law_17, decode code q.1 = .ok q.2 := by decide +kernel
def t_La_law_18 : List (Nat × Instr × Nat) := [(1403, (.iconst 4, 1)), (1404, (.iadd, 1)), (1405, (.iaload, 1)), (1406, (.invokevirtual 127, 3)), (1409, (.if_icmp .eq 763, 3)), (1412, (.iconst 0, 1)), (1413, (.ireturn, 1)), (1414, (.aload_n 1, 1)), (1415, (.aload_n 0, 1)), (1416, (.iload 4, 2)), (1418, (.iconst 1, 1)), (1419, (.iadd, 1)), (1420, (.iaload, 1)), (1421, (.aload_n 0, 1)), (1422, (.iload 4, 2)), (1424, (.iconst 2, 1)), (1425, (.iadd, 1)), (1426, (.iaload, 1)), (1427, (.aload_n 0, 1)), (1428, (.iload 4, 2)), (1430, (.iconst 3, 1)), (1431, (.iadd, 1)), (1432, (.iaload, 1)), (1433, (.invokevirtual 128, 3)), (1436, (.aload_n 2, 1)), (1437, (.aload_n 0, 1)), (1438, (.iload 4, 2)), (1440, (.iconst 1, 1)), (1441, (.iadd, 1)), (1442, (.iaload, 1)), (1443, (.aload_n 0, 1)), (1444, (.iload 4, 2)), (1446, (.iconst 2, 1)), (1447, (.iadd, 1)), (1448, (.iaload, 1)), (1449, (.aload_n 0, 1)), (1450, (.iload 4, 2)), (1452, (.iconst 3, 1)), (1453, (.iadd, 1)), (1454, (.iaload, 1)), (1455, (.invokevirtual 131, 3)), (1458, (.if_icmp .eq 714, 3)), (1461, (.iconst 0, 1)), (1462, (.ireturn, 1)), (1463, (.aload_n 1, 1)), (1464, (.aload_n 0, 1)), (1465, (.iload 4, 2)), (1467, (.iconst 1, 1)), (1468, (.iadd, 1)), (1469, (.iaload, 1))]
theorem t_La_law_18_ok : ∀ q ∈ t_La_law_18, decode code q.1 = .ok q.2 := by decide +kernel
def t_La_law_19 : List (Nat × Instr × Nat) := [(1470, (.aload_n 0, 1)), (1471, (.iload 4, 2)), (1473, (.iconst 2, 1)), (1474, (.iadd, 1)), (1475, (.iaload, 1)), (1476, (.aload_n 0, 1)), (1477, (.iload 4, 2)), (1479, (.iconst 3, 1)), (1480, (.iadd, 1)), (1481, (.iaload, 1)), (1482, (.aload_n 0, 1)), (1483, (.iload 4, 2)), (1485, (.iconst 4, 1)), (1486, (.iadd, 1)), (1487, (.iaload, 1)), (1488, (.invokevirtual 132, 3)), (1491, (.aload_n 2, 1)), (1492, (.aload_n 0, 1)), (1493, (.iload 4, 2)), (1495, (.iconst 1, 1)), (1496, (.iadd, 1)), (1497, (.iaload, 1)), (1498, (.aload_n 0, 1)), (1499, (.iload 4, 2)), (1501, (.iconst 2, 1)), (1502, (.iadd, 1)), (1503, (.iaload, 1)), (1504, (.aload_n 0, 1)), (1505, (.iload 4, 2)), (1507, (.iconst 3, 1)), (1508, (.iadd, 1)), (1509, (.iaload, 1)), (1510, (.aload_n 0, 1)), (1511, (.iload 4, 2)), (1513, (.iconst 4, 1)), (1514, (.iadd, 1)), (1515, (.iaload, 1)), (1516, (.invokevirtual 135, 3)), (1519, (.if_icmp .eq 653, 3)), (1522, (.iconst 0, 1)), (1523, (.ireturn, 1)), (1524, (.aload_n 1, 1)), (1525, (.aload_n 0, 1)), (1526, (.iload 4, 2)), (1528, (.iconst 1, 1)), (1529, (.iadd, 1)), (1530, (.iaload, 1)), (1531, (.invokevirtual 136, 3)), (1534, (.aload_n 2, 1)), (1535, (.aload_n 0, 1))]
theorem t_La_law_19_ok : ∀ q ∈ t_La_law_19, decode code q.1 = .ok q.2 := by decide +kernel
def t_La_law_20 : List (Nat × Instr × Nat) := [(1536, (.iload 4, 2)), (1538, (.iconst 1, 1)), (1539, (.iadd, 1)), (1540, (.iaload, 1)), (1541, (.invokevirtual 139, 3)), (1544, (.if_icmp .eq 628, 3)), (1547, (.iconst 0, 1)), (1548, (.ireturn, 1)), (1549, (.aload_n 1, 1)), (1550, (.aload_n 0, 1)), (1551, (.iload 4, 2)), (1553, (.iconst 1, 1)), (1554, (.iadd, 1)), (1555, (.iaload, 1)), (1556, (.invokevirtual 140, 3)), (1559, (.aload_n 2, 1)), (1560, (.aload_n 0, 1)), (1561, (.iload 4, 2)), (1563, (.iconst 1, 1)), (1564, (.iadd, 1)), (1565, (.iaload, 1)), (1566, (.invokevirtual 143, 3)), (1569, (.if_icmp .eq 603, 3)), (1572, (.iconst 0, 1)), (1573, (.ireturn, 1)), (1574, (.aload_n 1, 1)), (1575, (.aload_n 0, 1)), (1576, (.iload 4, 2)), (1578, (.iconst 1, 1)), (1579, (.iadd, 1)), (1580, (.iaload, 1)), (1581, (.invokevirtual 144, 3)), (1584, (.aload_n 2, 1)), (1585, (.aload_n 0, 1)), (1586, (.iload 4, 2)), (1588, (.iconst 1, 1)), (1589, (.iadd, 1)), (1590, (.iaload, 1)), (1591, (.invokevirtual 147, 3)), (1594, (.if_icmp .eq 578, 3)), (1597, (.iconst 0, 1)), (1598, (.ireturn, 1)), (1599, (.aload_n 1, 1)), (1600, (.aload_n 0, 1)), (1601, (.iload 4, 2)), (1603, (.iconst 1, 1)), (1604, (.iadd, 1)), (1605, (.iaload, 1)), (1606, (.aload_n 0, 1)), (1607, (.iload 4, 2))]
theorem t_La_law_20_ok : ∀ q ∈ t_La_law_20, decode code q.1 = .ok q.2 := by decide +kernel
def t_La_law_21 : List (Nat × Instr × Nat) := [(1609, (.iconst 2, 1)), (1610, (.iadd, 1)), (1611, (.iaload, 1)), (1612, (.aload_n 0, 1)), (1613, (.iload 4, 2)), (1615, (.iconst 3, 1)), (1616, (.iadd, 1)), (1617, (.iaload, 1)), (1618, (.aload_n 0, 1)), (1619, (.iload 4, 2)), (1621, (.iconst 4, 1)), (1622, (.iadd, 1)), (1623, (.iaload, 1)), (1624, (.invokevirtual 148, 3)), (1627, (.aload_n 2, 1)), (1628, (.aload_n 0, 1)), (1629, (.iload 4, 2)), (1631, (.iconst 1, 1)), (1632, (.iadd, 1)), (1633, (.iaload, 1)), (1634, (.aload_n 0, 1)), (1635, (.iload 4, 2)), (1637, (.iconst 2, 1)), (1638, (.iadd, 1)), (1639, (.iaload, 1)), (1640, (.aload_n 0, 1)), (1641, (.iload 4, 2)), (1643, (.iconst 3, 1)), (1644, (.iadd, 1)), (1645, (.iaload, 1)), (1646, (.aload_n 0, 1)), (1647, (.iload 4, 2)), (1649, (.iconst 4, 1)), (1650, (.iadd, 1)), (1651, (.iaload, 1)), (1652, (.invokevirtual 151, 3)), (1655, (.if_icmp .eq 517, 3)), (1658, (.iconst 0, 1)), (1659, (.ireturn, 1)), (1660, (.aload_n 1, 1)), (1661, (.aload_n 0, 1)), (1662, (.iload 4, 2)), (1664, (.iconst 1, 1)), (1665, (.iadd, 1)), (1666, (.iaload, 1)), (1667, (.aload_n 0, 1)), (1668, (.iload 4, 2)), (1670, (.iconst 2, 1)), (1671, (.iadd, 1)), (1672, (.iaload, 1))]
theorem t_La_law_21_ok : ∀ q ∈ t_La_law_21, decode code q.1 = .ok q.2 := by decide +kernel
def t_La_law_22 : List (Nat × Instr × Nat) := [(1673, (.aload_n 0, 1)), (1674, (.iload 4, 2)), (1676, (.iconst 3, 1)), (1677, (.iadd, 1)), (1678, (.iaload, 1)), (1679, (.invokevirtual 152, 3)), (1682, (.aload_n 2, 1)), (1683, (.aload_n 0, 1)), (1684, (.iload 4, 2)), (1686, (.iconst 1, 1)), (1687, (.iadd, 1)), (1688, (.iaload, 1)), (1689, (.aload_n 0, 1)), (1690, (.iload 4, 2)), (1692, (.iconst 2, 1)), (1693, (.iadd, 1)), (1694, (.iaload, 1)), (1695, (.aload_n 0, 1)), (1696, (.iload 4, 2)), (1698, (.iconst 3, 1)), (1699, (.iadd, 1)), (1700, (.iaload, 1)), (1701, (.invokevirtual 155, 3)), (1704, (.if_icmp .eq 468, 3)), (1707, (.iconst 0, 1)), (1708, (.ireturn, 1)), (1709, (.aload_n 1, 1)), (1710, (.aload_n 0, 1)), (1711, (.iload 4, 2)), (1713, (.iconst 1, 1)), (1714, (.iadd, 1)), (1715, (.iaload, 1)), (1716, (.aload_n 0, 1)), (1717, (.iload 4, 2)), (1719, (.iconst 2, 1)), (1720, (.iadd, 1)), (1721, (.iaload, 1)), (1722, (.aload_n 0, 1)), (1723, (.iload 4, 2)), (1725, (.iconst 3, 1)), (1726, (.iadd, 1)), (1727, (.iaload, 1)), (1728, (.aload_n 0, 1)), (1729, (.iload 4, 2)), (1731, (.iconst 4, 1)), (1732, (.iadd, 1)), (1733, (.iaload, 1)), (1734, (.invokevirtual 156, 3)), (1737, (.aload_n 2, 1)), (1738, (.aload_n 0, 1))]
theorem t_La_law_22_ok : ∀ q ∈ t_La_law_22, decode code q.1 = .ok q.2 := by decide +kernel
def t_La_law_23 : List (Nat × Instr × Nat) := [(1739, (.iload 4, 2)), (1741, (.iconst 1, 1)), (1742, (.iadd, 1)), (1743, (.iaload, 1)), (1744, (.aload_n 0, 1)), (1745, (.iload 4, 2)), (1747, (.iconst 2, 1)), (1748, (.iadd, 1)), (1749, (.iaload, 1)), (1750, (.aload_n 0, 1)), (1751, (.iload 4, 2)), (1753, (.iconst 3, 1)), (1754, (.iadd, 1)), (1755, (.iaload, 1)), (1756, (.aload_n 0, 1)), (1757, (.iload 4, 2)), (1759, (.iconst 4, 1)), (1760, (.iadd, 1)), (1761, (.iaload, 1)), (1762, (.invokevirtual 159, 3)), (1765, (.if_icmp .eq 407, 3)), (1768, (.iconst 0, 1)), (1769, (.ireturn, 1)), (1770, (.aload_n 1, 1)), (1771, (.aload_n 0, 1)), (1772, (.iload 4, 2)), (1774, (.iconst 1, 1)), (1775, (.iadd, 1)), (1776, (.iaload, 1)), (1777, (.aload_n 0, 1)), (1778, (.iload 4, 2)), (1780, (.iconst 2, 1)), (1781, (.iadd, 1)), (1782, (.iaload, 1)), (1783, (.aload_n 0, 1)), (1784, (.iload 4, 2)), (1786, (.iconst 3, 1)), (1787, (.iadd, 1)), (1788, (.iaload, 1)), (1789, (.aload_n 0, 1)), (1790, (.iload 4, 2)), (1792, (.iconst 4, 1)), (1793, (.iadd, 1)), (1794, (.iaload, 1)), (1795, (.invokevirtual 160, 3)), (1798, (.aload_n 2, 1)), (1799, (.aload_n 0, 1)), (1800, (.iload 4, 2)), (1802, (.iconst 1, 1)), (1803, (.iadd, 1))]
theorem t_La_law_23_ok : ∀ q ∈ t_La_law_23, decode code q.1 = .ok q.2 := by decide +kernel
def t_La_law_24 : List (Nat × Instr × Nat) := [(1804, (.iaload, 1)), (1805, (.aload_n 0, 1)), (1806, (.iload 4, 2)), (1808, (.iconst 2, 1)), (1809, (.iadd, 1)), (1810, (.iaload, 1)), (1811, (.aload_n 0, 1)), (1812, (.iload 4, 2)), (1814, (.iconst 3, 1)), (1815, (.iadd, 1)), (1816, (.iaload, 1)), (1817, (.aload_n 0, 1)), (1818, (.iload 4, 2)), (1820, (.iconst 4, 1)), (1821, (.iadd, 1)), (1822, (.iaload, 1)), (1823, (.invokevirtual 163, 3)), (1826, (.if_icmp .eq 346, 3)), (1829, (.iconst 0, 1)), (1830, (.ireturn, 1)), (1831, (.aload_n 1, 1)), (1832, (.aload_n 0, 1)), (1833, (.iload 4, 2)), (1835, (.iconst 1, 1)), (1836, (.iadd, 1)), (1837, (.iaload, 1)), (1838, (.invokevirtual 164, 3)), (1841, (.aload_n 2, 1)), (1842, (.aload_n 0, 1)), (1843, (.iload 4, 2)), (1845, (.iconst 1, 1)), (1846, (.iadd, 1)), (1847, (.iaload, 1)), (1848, (.invokevirtual 167, 3)), (1851, (.if_icmp .eq 321, 3)), (1854, (.iconst 0, 1)), (1855, (.ireturn, 1)), (1856, (.aload_n 1, 1)), (1857, (.aload_n 0, 1)), (1858, (.iload 4, 2)), (1860, (.iconst 1, 1)), (1861, (.iadd, 1)), (1862, (.iaload, 1)), (1863, (.invokevirtual 168, 3)), (1866, (.aload_n 2, 1)), (1867, (.aload_n 0, 1)), (1868, (.iload 4, 2)), (1870, (.iconst 1, 1)), (1871, (.iadd, 1)), (1872, (.iaload, 1))]
theorem t_La_law_24_ok : ∀ q ∈ t_La_law_24, decode code q.1 = .ok q.2 := by decide +kernel
def t_La_law_25 : List (Nat × Instr × Nat) := [(1873, (.invokevirtual 171, 3)), (1876, (.if_icmp .eq 296, 3)), (1879, (.iconst 0, 1)), (1880, (.ireturn, 1)), (1881, (.aload_n 1, 1)), (1882, (.aload_n 0, 1)), (1883, (.iload 4, 2)), (1885, (.iconst 1, 1)), (1886, (.iadd, 1)), (1887, (.iaload, 1)), (1888, (.aload_n 0, 1)), (1889, (.iload 4, 2)), (1891, (.iconst 2, 1)), (1892, (.iadd, 1)), (1893, (.iaload, 1)), (1894, (.invokevirtual 172, 3)), (1897, (.aload_n 2, 1)), (1898, (.aload_n 0, 1)), (1899, (.iload 4, 2)), (1901, (.iconst 1, 1)), (1902, (.iadd, 1)), (1903, (.iaload, 1)), (1904, (.aload_n 0, 1)), (1905, (.iload 4, 2)), (1907, (.iconst 2, 1)), (1908, (.iadd, 1)), (1909, (.iaload, 1)), (1910, (.invokevirtual 175, 3)), (1913, (.if_icmp .eq 259, 3)), (1916, (.iconst 0, 1)), (1917, (.ireturn, 1)), (1918, (.aload_n 1, 1)), (1919, (.aload_n 0, 1)), (1920, (.iload 4, 2)), (1922, (.iconst 1, 1)), (1923, (.iadd, 1)), (1924, (.iaload, 1)), (1925, (.aload_n 0, 1)), (1926, (.iload 4, 2)), (1928, (.iconst 2, 1)), (1929, (.iadd, 1)), (1930, (.iaload, 1)), (1931, (.invokevirtual 176, 3)), (1934, (.aload_n 2, 1)), (1935, (.aload_n 0, 1)), (1936, (.iload 4, 2)), (1938, (.iconst 1, 1)), (1939, (.iadd, 1)), (1940, (.iaload, 1)), (1941, (.aload_n 0, 1))]
theorem t_La_law_25_ok : ∀ q ∈ t_La_law_25, decode code q.1 = .ok q.2 := by decide +kernel
def t_La_law_26 : List (Nat × Instr × Nat) := [(1942, (.iload 4, 2)), (1944, (.iconst 2, 1)), (1945, (.iadd, 1)), (1946, (.iaload, 1)), (1947, (.invokevirtual 179, 3)), (1950, (.if_icmp .eq 222, 3)), (1953, (.iconst 0, 1)), (1954, (.ireturn, 1)), (1955, (.aload_n 1, 1)), (1956, (.aload_n 0, 1)), (1957, (.iload 4, 2)), (1959, (.iconst 1, 1)), (1960, (.iadd, 1)), (1961, (.iaload, 1)), (1962, (.aload_n 0, 1)), (1963, (.iload 4, 2)), (1965, (.iconst 2, 1)), (1966, (.iadd, 1)), (1967, (.iaload, 1)), (1968, (.invokevirtual 180, 3)), (1971, (.aload_n 2, 1)), (1972, (.aload_n 0, 1)), (1973, (.iload 4, 2)), (1975, (.iconst 1, 1)), (1976, (.iadd, 1)), (1977, (.iaload, 1)), (1978, (.aload_n 0, 1)), (1979, (.iload 4, 2)), (1981, (.iconst 2, 1)), (1982, (.iadd, 1)), (1983, (.iaload, 1)), (1984, (.invokevirtual 183, 3)), (1987, (.if_icmp .eq 185, 3)), (1990, (.iconst 0, 1)), (1991, (.ireturn, 1)), (1992, (.aload_n 1, 1)), (1993, (.aload_n 0, 1)), (1994, (.iload 4, 2)), (1996, (.iconst 1, 1)), (1997, (.iadd, 1)), (1998, (.iaload, 1)), (1999, (.aload_n 0, 1)), (2000, (.iload 4, 2)), (2002, (.iconst 2, 1)), (2003, (.iadd, 1)), (2004, (.iaload, 1)), (2005, (.aload_n 0, 1)), (2006, (.iload 4, 2)), (2008, (.iconst 3, 1)), (2009, (.iadd, 1))]
theorem t_La_law_26_ok : ∀ q ∈ t_La_law_26, decode code q.1 = .ok q.2 := by decide +kernel
def t_La_law_27 : List (Nat × Instr × Nat) := [(2010, (.iaload, 1)), (2011, (.aload_n 0, 1)), (2012, (.iload 4, 2)), (2014, (.iconst 4, 1)), (2015, (.iadd, 1)), (2016, (.iaload, 1)), (2017, (.aload_n 0, 1)), (2018, (.iload 4, 2)), (2020, (.iconst 5, 1)), (2021, (.iadd, 1)), (2022, (.iaload, 1)), (2023, (.invokevirtual 184, 3)), (2026, (.aload_n 2, 1)), (2027, (.aload_n 0, 1)), (2028, (.iload 4, 2)), (2030, (.iconst 1, 1)), (2031, (.iadd, 1)), (2032, (.iaload, 1)), (2033, (.aload_n 0, 1)), (2034, (.iload 4, 2)), (2036, (.iconst 2, 1)), (2037, (.iadd, 1)), (2038, (.iaload, 1)), (2039, (.aload_n 0, 1)), (2040, (.iload 4, 2)), (2042, (.iconst 3, 1)), (2043, (.iadd, 1)), (2044, (.iaload, 1)), (2045, (.aload_n 0, 1)), (2046, (.iload 4, 2)), (2048, (.iconst 4, 1)), (2049, (.iadd, 1)), (2050, (.iaload, 1)), (2051, (.aload_n 0, 1)), (2052, (.iload 4, 2)), (2054, (.iconst 5, 1)), (2055, (.iadd, 1)), (2056, (.iaload, 1)), (2057, (.invokevirtual 187, 3)), (2060, (.if_icmp .eq 112, 3)), (2063, (.iconst 0, 1)), (2064, (.ireturn, 1)), (2065, (.aload_n 1, 1)), (2066, (.invokevirtual 188, 3)), (2069, (.aload_n 2, 1)), (2070, (.invokevirtual 192, 3)), (2073, (.if_icmp .eq 99, 3)), (2076, (.iconst 0, 1)), (2077, (.ireturn, 1)), (2078, (.aload_n 1, 1))]
theorem t_La_law_27_ok : ∀ q ∈ t_La_law_27, decode code q.1 = .ok q.2 := by decide +kernel
def t_La_law_28 : List (Nat × Instr × Nat) := [(2079, (.aload_n 0, 1)), (2080, (.iload 4, 2)), (2082, (.iconst 1, 1)), (2083, (.iadd, 1)), (2084, (.iaload, 1)), (2085, (.aload_n 3, 1)), (2086, (.invokestatic 193, 3)), (2089, (.istore 5, 2)), (2091, (.aload_n 2, 1)), (2092, (.aload_n 0, 1)), (2093, (.iload 4, 2)), (2095, (.iconst 1, 1)), (2096, (.iadd, 1)), (2097, (.iaload, 1)), (2098, (.invokevirtual 198, 3)), (2101, (.istore 6, 2)), (2103, (.aload_n 2, 1)), (2104, (.invokevirtual 199, 3)), (2107, (.iload 5, 2)), (2109, (.if_icmp .eq 5, 3)), (2112, (.iconst 0, 1)), (2113, (.ireturn, 1)), (2114, (.iload 5, 2)), (2116, (.ifCond .ne 15, 3)), (2119, (.aload_n 3, 1)), (2120, (.iconst 0, 1)), (2121, (.laload, 1)), (2122, (.iload 6, 2)), (2124, (.i2l, 1)), (2125, (.lcmp, 1)), (2126, (.ifCond .eq 5, 3)), (2129, (.iconst 0, 1)), (2130, (.ireturn, 1)), (2131, (.goto 41, 3)), (2134, (.aload_n 1, 1)), (2135, (.aload_n 0, 1)), (2136, (.iload 4, 2)), (2138, (.iconst 1, 1)), (2139, (.iadd, 1)), (2140, (.iaload, 1)), (2141, (.invokevirtual 202, 3)), (2144, (.aload_n 2, 1)), (2145, (.aload_n 0, 1)), (2146, (.iload 4, 2)), (2148, (.iconst 1, 1)), (2149, (.iadd, 1)), (2150, (.iaload, 1)), (2151, (.invokevirtual 205, 3)), (2154, (.if_icmp .eq 18, 3)), (2157, (.iconst 0, 1))]
theorem t_La_law_28_ok : ∀ q ∈ t_La_law_28, decode code q.1 = .ok q.2 := by decide +kernel
def t_La_law_29 : List (Nat × Instr × Nat) := [(2158, (.ireturn, 1)), (2159, (.aload_n 1, 1)), (2160, (.invokevirtual 206, 3)), (2163, (.aload_n 2, 1)), (2164, (.invokevirtual 209, 3)), (2167, (.if_icmp .eq 5, 3)), (2170, (.iconst 0, 1)), (2171, (.ireturn, 1)), (2172, (.iinc 4 6, 3)), (2175, (.goto (-2152), 3)), (2178, (.iconst 1, 1)), (2179, (.ireturn, 1))]
theorem t_La_law_29_ok : ∀ q ∈ t_La_law_29, decode code q.1 = .ok q.2 := by decide +kernel
def m_La_law : mM := (⟨"LinkTimesLaw", "law", "([I)Z"⟩, code, 7, (some .boolean), t_La_law_0 ++ t_La_law_1 ++ t_La_law_2 ++ t_La_law_3 ++ t_La_law_4 ++ t_La_law_5 ++ t_La_law_6 ++ t_La_law_7 ++ t_La_law_8 ++ t_La_law_9 ++ t_La_law_10 ++ t_La_law_11 ++ t_La_law_12 ++ t_La_law_13 ++ t_La_law_14 ++ t_La_law_15 ++ t_La_law_16 ++ t_La_law_17 ++ t_La_law_18 ++ t_La_law_19 ++ t_La_law_20 ++ t_La_law_21 ++ t_La_law_22 ++ t_La_law_23 ++ t_La_law_24 ++ t_La_law_25 ++ t_La_law_26 ++ t_La_law_27 ++ t_La_law_28 ++ t_La_law_29)
end
section
theorem l_La_15 : Cond.methodLink "LinkTimesLaw" 15 m_Lt_init.1 ∈ t0_ws := tm 135 (by decide +kernel) rfl
theorem f_De_43 : mFL "LinkTimes$Desk" 43 1 0 := ⟨RX1, TX1, 15, rfl, by decide, tm 147 (by decide +kernel) rfl, rfl⟩
theorem f_Re_75 : mFL "LinkTimes$Reader" 75 1 0 := ⟨RX1, TX1, 15, rfl, by decide, tm 148 (by decide +kernel) rfl, rfl⟩
theorem f_Lt_123 : mFL "LinkTimes" 123 1 0 := ⟨RX1, TX1, 15, rfl, by decide, tm 149 (by decide +kernel) rfl, rfl⟩
theorem f_De_47 : mFL "LinkTimes$Desk" 47 1 1 := ⟨RX1, TX1, 15, rfl, by decide, tm 150 (by decide +kernel) rfl, rfl⟩
theorem f_Fl_25 : mFL "LinkTimes$Flood" 25 1 1 := ⟨RX1, TX1, 15, rfl, by decide, tm 151 (by decide +kernel) rfl, rfl⟩
theorem f_Se_52 : mFL "LinkTimes$Search" 52 1 1 := ⟨RX1, TX1, 15, rfl, by decide, tm 152 (by decide +kernel) rfl, rfl⟩
theorem f_Ne_45 : mFL "LinkTimes$Net" 45 1 1 := ⟨RX1, TX1, 15, rfl, by decide, tm 153 (by decide +kernel) rfl, rfl⟩
theorem f_Re_83 : mFL "LinkTimes$Reader" 83 1 1 := ⟨RX1, TX1, 15, rfl, by decide, tm 154 (by decide +kernel) rfl, rfl⟩
theorem f_Lt_126 : mFL "LinkTimes" 126 1 1 := ⟨RX1, TX1, 15, rfl, by decide, tm 155 (by decide +kernel) rfl, rfl⟩
theorem f_De_50 : mFL "LinkTimes$Desk" 50 1 2 := ⟨RX1, TX1, 15, rfl, by decide, tm 156 (by decide +kernel) rfl, rfl⟩
theorem f_Re_95 : mFL "LinkTimes$Reader" 95 1 2 := ⟨RX1, TX1, 15, rfl, by decide, tm 157 (by decide +kernel) rfl, rfl⟩
theorem f_Lt_129 : mFL "LinkTimes" 129 1 2 := ⟨RX1, TX1, 15, rfl, by decide, tm 158 (by decide +kernel) rfl, rfl⟩
theorem f_De_53 : mFL "LinkTimes$Desk" 53 1 3 := ⟨RX1, TX1, 15, rfl, by decide, tm 159 (by decide +kernel) rfl, rfl⟩
theorem f_Re_103 : mFL "LinkTimes$Reader" 103 1 3 := ⟨RX1, TX1, 15, rfl, by decide, tm 160 (by decide +kernel) rfl, rfl⟩
theorem f_Lt_132 : mFL "LinkTimes" 132 1 3 := ⟨RX1, TX1, 15, rfl, by decide, tm 161 (by decide +kernel) rfl, rfl⟩
theorem f_De_56 : mFL "LinkTimes$Desk" 56 1 4 := ⟨RX1, TX1, 15, rfl, by decide, tm 162 (by decide +kernel) rfl, rfl⟩
theorem f_Ne_53 : mFL "LinkTimes$Net" 53 1 4 := ⟨RX1, TX1, 15, rfl, by decide, tm 163 (by decide +kernel) rfl, rfl⟩
theorem f_Lt_110 : mFL "LinkTimes" 110 1 4 := ⟨RX1, TX1, 15, rfl, by decide, tm 164 (by decide +kernel) rfl, rfl⟩
theorem f_Lo_41 : mFL "LinkTimes$Log" 41 1 4 := ⟨RX1, TX1, 15, rfl, by decide, tm 165 (by decide +kernel) rfl, rfl⟩
theorem f_Re_155 : mFL "LinkTimes$Reader" 155 1 4 := ⟨RX1, TX1, 15, rfl, by decide, tm 166 (by decide +kernel) rfl, rfl⟩
theorem f_De_9 : mFL "LinkTimes$Desk" 9 1 5 := ⟨RX1, TX1, 15, rfl, by decide, tm 167 (by decide +kernel) rfl, rfl⟩
theorem f_Ne_51 : mFL "LinkTimes$Net" 51 1 5 := ⟨RX1, TX1, 15, rfl, by decide, tm 168 (by decide +kernel) rfl, rfl⟩
theorem f_Lo_35 : mFL "LinkTimes$Log" 35 1 5 := ⟨RX1, TX1, 15, rfl, by decide, tm 169 (by decide +kernel) rfl, rfl⟩
theorem f_Lt_143 : mFL "LinkTimes" 143 1 5 := ⟨RX1, TX1, 15, rfl, by decide, tm 170 (by decide +kernel) rfl, rfl⟩
theorem f_De_15 : mFL "LinkTimes$Desk" 15 1 6 := ⟨RX1, TX1, 15, rfl, by decide, tm 171 (by decide +kernel) rfl, rfl⟩
theorem f_Ne_52 : mFL "LinkTimes$Net" 52 1 6 := ⟨RX1, TX1, 15, rfl, by decide, tm 172 (by decide +kernel) rfl, rfl⟩
theorem f_Lo_38 : mFL "LinkTimes$Log" 38 1 6 := ⟨RX1, TX1, 15, rfl, by decide, tm 173 (by decide +kernel) rfl, rfl⟩
theorem f_Lt_147 : mFL "LinkTimes" 147 1 6 := ⟨RX1, TX1, 15, rfl, by decide, tm 174 (by decide +kernel) rfl, rfl⟩
theorem f_De_18 : mFL "LinkTimes$Desk" 18 1 7 := ⟨RX1, TX1, 15, rfl, by decide, tm 175 (by decide +kernel) rfl, rfl⟩
theorem f_Lt_159 : mFL "LinkTimes" 159 1 7 := ⟨RX1, TX1, 15, rfl, by decide, tm 176 (by decide +kernel) rfl, rfl⟩
theorem f_Ne_92 : mFL "LinkTimes$Net" 92 1 7 := ⟨RX1, TX1, 15, rfl, by decide, tm 177 (by decide +kernel) rfl, rfl⟩
theorem f_De_21 : mFL "LinkTimes$Desk" 21 1 8 := ⟨RX1, TX1, 15, rfl, by decide, tm 178 (by decide +kernel) rfl, rfl⟩
theorem f_Fl_35 : mFL "LinkTimes$Flood" 35 1 8 := ⟨RX1, TX1, 15, rfl, by decide, tm 179 (by decide +kernel) rfl, rfl⟩
theorem f_Se_72 : mFL "LinkTimes$Search" 72 1 8 := ⟨RX1, TX1, 15, rfl, by decide, tm 180 (by decide +kernel) rfl, rfl⟩
theorem f_Lt_162 : mFL "LinkTimes" 162 1 8 := ⟨RX1, TX1, 15, rfl, by decide, tm 181 (by decide +kernel) rfl, rfl⟩
theorem f_Ne_98 : mFL "LinkTimes$Net" 98 1 8 := ⟨RX1, TX1, 15, rfl, by decide, tm 182 (by decide +kernel) rfl, rfl⟩
theorem f_De_24 : mFL "LinkTimes$Desk" 24 1 9 := ⟨RX1, TX1, 15, rfl, by decide, tm 183 (by decide +kernel) rfl, rfl⟩
theorem f_Fl_51 : mFL "LinkTimes$Flood" 51 1 9 := ⟨RX1, TX1, 15, rfl, by decide, tm 184 (by decide +kernel) rfl, rfl⟩
theorem f_Ba_65 : mFL "LinkTimes$Bargains" 65 1 9 := ⟨RX1, TX1, 15, rfl, by decide, tm 185 (by decide +kernel) rfl, rfl⟩
theorem f_Se_88 : mFL "LinkTimes$Search" 88 1 9 := ⟨RX1, TX1, 15, rfl, by decide, tm 186 (by decide +kernel) rfl, rfl⟩
theorem f_Ne_85 : mFL "LinkTimes$Net" 85 1 9 := ⟨RX1, TX1, 15, rfl, by decide, tm 187 (by decide +kernel) rfl, rfl⟩
theorem f_Lt_165 : mFL "LinkTimes" 165 1 9 := ⟨RX1, TX1, 15, rfl, by decide, tm 188 (by decide +kernel) rfl, rfl⟩
theorem f_De_27 : mFL "LinkTimes$Desk" 27 1 10 := ⟨RX1, TX1, 15, rfl, by decide, tm 189 (by decide +kernel) rfl, rfl⟩
theorem f_Ne_61 : mFL "LinkTimes$Net" 61 1 10 := ⟨RX1, TX1, 15, rfl, by decide, tm 190 (by decide +kernel) rfl, rfl⟩
theorem f_Lt_168 : mFL "LinkTimes" 168 1 10 := ⟨RX1, TX1, 15, rfl, by decide, tm 191 (by decide +kernel) rfl, rfl⟩
theorem f_De_30 : mFL "LinkTimes$Desk" 30 1 11 := ⟨RX1, TX1, 15, rfl, by decide, tm 192 (by decide +kernel) rfl, rfl⟩
theorem f_Ne_67 : mFL "LinkTimes$Net" 67 1 11 := ⟨RX1, TX1, 15, rfl, by decide, tm 193 (by decide +kernel) rfl, rfl⟩
theorem f_Lt_174 : mFL "LinkTimes" 174 1 11 := ⟨RX1, TX1, 15, rfl, by decide, tm 194 (by decide +kernel) rfl, rfl⟩
theorem f_De_33 : mFL "LinkTimes$Desk" 33 1 12 := ⟨RX1, TX1, 15, rfl, by decide, tm 195 (by decide +kernel) rfl, rfl⟩
theorem f_Ne_64 : mFL "LinkTimes$Net" 64 1 12 := ⟨RX1, TX1, 15, rfl, by decide, tm 196 (by decide +kernel) rfl, rfl⟩
theorem f_Lo_32 : mFL "LinkTimes$Log" 32 1 12 := ⟨RX1, TX1, 15, rfl, by decide, tm 197 (by decide +kernel) rfl, rfl⟩
theorem f_Lt_171 : mFL "LinkTimes" 171 1 12 := ⟨RX1, TX1, 15, rfl, by decide, tm 198 (by decide +kernel) rfl, rfl⟩
theorem f_De_36 : mFL "LinkTimes$Desk" 36 1 13 := ⟨RX1, TX1, 15, rfl, by decide, tm 199 (by decide +kernel) rfl, rfl⟩
theorem f_Lt_181 : mFL "LinkTimes" 181 1 13 := ⟨RX1, TX1, 15, rfl, by decide, tm 200 (by decide +kernel) rfl, rfl⟩
theorem f_De_39 : mFL "LinkTimes$Desk" 39 1 14 := ⟨RX1, TX1, 15, rfl, by decide, tm 201 (by decide +kernel) rfl, rfl⟩
theorem f_Ne_70 : mFL "LinkTimes$Net" 70 1 14 := ⟨RX1, TX1, 15, rfl, by decide, tm 202 (by decide +kernel) rfl, rfl⟩
theorem f_Lo_26 : mFL "LinkTimes$Log" 26 1 14 := ⟨RX1, TX1, 15, rfl, by decide, tm 203 (by decide +kernel) rfl, rfl⟩
theorem f_Lt_177 : mFL "LinkTimes" 177 1 14 := ⟨RX1, TX1, 15, rfl, by decide, tm 204 (by decide +kernel) rfl, rfl⟩
theorem l_Lt_25 : Cond.methodLink "LinkTimes" 25 m_Re_init.1 ∈ t0_ws := tm 241 (by decide +kernel) rfl
theorem f_Re_41 : mFL "LinkTimes$Reader" 41 5 0 := ⟨RX5, TX5, 14, rfl, by decide, tm 245 (by decide +kernel) rfl, rfl⟩
theorem f_Lt_95 : mFL "LinkTimes" 95 5 0 := ⟨RX5, TX5, 14, rfl, by decide, tm 246 (by decide +kernel) rfl, rfl⟩
theorem f_Re_44 : mFL "LinkTimes$Reader" 44 5 1 := ⟨RX5, TX5, 14, rfl, by decide, tm 247 (by decide +kernel) rfl, rfl⟩
theorem f_Lt_101 : mFL "LinkTimes" 101 5 1 := ⟨RX5, TX5, 14, rfl, by decide, tm 248 (by decide +kernel) rfl, rfl⟩
theorem f_Re_18 : mFL "LinkTimes$Reader" 18 5 2 := ⟨RX5, TX5, 14, rfl, by decide, tm 249 (by decide +kernel) rfl, rfl⟩
theorem f_Re_32 : mFL "LinkTimes$Reader" 32 5 3 := ⟨RX5, TX5, 14, rfl, by decide, tm 250 (by decide +kernel) rfl, rfl⟩
theorem f_Re_22 : mFL "LinkTimes$Reader" 22 5 4 := ⟨RX5, TX5, 14, rfl, by decide, tm 251 (by decide +kernel) rfl, rfl⟩
theorem f_Re_9 : mFL "LinkTimes$Reader" 9 5 5 := ⟨RX5, TX5, 14, rfl, by decide, tm 252 (by decide +kernel) rfl, rfl⟩
theorem f_Re_15 : mFL "LinkTimes$Reader" 15 5 6 := ⟨RX5, TX5, 14, rfl, by decide, tm 253 (by decide +kernel) rfl, rfl⟩
theorem f_Re_137 : mFL "LinkTimes$Reader" 137 5 7 := ⟨RX5, TX5, 14, rfl, by decide, tm 254 (by decide +kernel) rfl, rfl⟩
theorem f_Re_140 : mFL "LinkTimes$Reader" 140 5 8 := ⟨RX5, TX5, 14, rfl, by decide, tm 255 (by decide +kernel) rfl, rfl⟩
theorem f_Re_143 : mFL "LinkTimes$Reader" 143 5 9 := ⟨RX5, TX5, 14, rfl, by decide, tm 256 (by decide +kernel) rfl, rfl⟩
theorem f_Re_54 : mFL "LinkTimes$Reader" 54 5 10 := ⟨RX5, TX5, 14, rfl, by decide, tm 257 (by decide +kernel) rfl, rfl⟩
theorem f_Re_64 : mFL "LinkTimes$Reader" 64 5 11 := ⟨RX5, TX5, 14, rfl, by decide, tm 258 (by decide +kernel) rfl, rfl⟩
theorem f_Re_47 : mFL "LinkTimes$Reader" 47 5 12 := ⟨RX5, TX5, 14, rfl, by decide, tm 259 (by decide +kernel) rfl, rfl⟩
theorem f_Re_119 : mFL "LinkTimes$Reader" 119 5 13 := ⟨RX5, TX5, 14, rfl, by decide, tm 260 (by decide +kernel) rfl, rfl⟩
theorem f_Lo_19 : mFL "LinkTimes$Log" 19 3 0 := ⟨RX3, TX3, 4, rfl, by decide, tm 296 (by decide +kernel) rfl, rfl⟩
theorem f_Lt_336 : mFL "LinkTimes" 336 3 0 := ⟨RX3, TX3, 4, rfl, by decide, tm 297 (by decide +kernel) rfl, rfl⟩
theorem f_Lo_9 : mFL "LinkTimes$Log" 9 3 1 := ⟨RX3, TX3, 4, rfl, by decide, tm 298 (by decide +kernel) rfl, rfl⟩
theorem f_Lo_13 : mFL "LinkTimes$Log" 13 3 2 := ⟨RX3, TX3, 4, rfl, by decide, tm 299 (by decide +kernel) rfl, rfl⟩
theorem f_Lo_16 : mFL "LinkTimes$Log" 16 3 3 := ⟨RX3, TX3, 4, rfl, by decide, tm 300 (by decide +kernel) rfl, rfl⟩
theorem l_Lt_41 : Cond.methodLink "LinkTimes" 41 m_Ne_init.1 ∈ t0_ws := tm 312 (by decide +kernel) rfl
theorem f_Ba_35 : mFL "LinkTimes$Bargains" 35 4 0 := ⟨RX4, TX4, 10, rfl, by decide, tm 316 (by decide +kernel) rfl, rfl⟩
theorem f_Fl_32 : mFL "LinkTimes$Flood" 32 4 0 := ⟨RX4, TX4, 10, rfl, by decide, tm 317 (by decide +kernel) rfl, rfl⟩
theorem f_Ne_60 : mFL "LinkTimes$Net" 60 4 0 := ⟨RX4, TX4, 10, rfl, by decide, tm 318 (by decide +kernel) rfl, rfl⟩
theorem f_Se_75 : mFL "LinkTimes$Search" 75 4 0 := ⟨RX4, TX4, 10, rfl, by decide, tm 319 (by decide +kernel) rfl, rfl⟩
theorem f_Lt_187 : mFL "LinkTimes" 187 4 0 := ⟨RX4, TX4, 10, rfl, by decide, tm 320 (by decide +kernel) rfl, rfl⟩
theorem f_Ne_9 : mFL "LinkTimes$Net" 9 4 1 := ⟨RX4, TX4, 10, rfl, by decide, tm 321 (by decide +kernel) rfl, rfl⟩
theorem f_St_39 : mFL "LinkTimes$Steps" 39 4 1 := ⟨RX4, TX4, 10, rfl, by decide, tm 322 (by decide +kernel) rfl, rfl⟩
theorem f_Fl_38 : mFL "LinkTimes$Flood" 38 4 1 := ⟨RX4, TX4, 10, rfl, by decide, tm 323 (by decide +kernel) rfl, rfl⟩
theorem f_Wa_28 : mFL "LinkTimes$Way" 28 4 1 := ⟨RX4, TX4, 10, rfl, by decide, tm 324 (by decide +kernel) rfl, rfl⟩
theorem f_Ba_92 : mFL "LinkTimes$Bargains" 92 4 1 := ⟨RX4, TX4, 10, rfl, by decide, tm 325 (by decide +kernel) rfl, rfl⟩
theorem f_Se_115 : mFL "LinkTimes$Search" 115 4 1 := ⟨RX4, TX4, 10, rfl, by decide, tm 326 (by decide +kernel) rfl, rfl⟩
theorem f_Ne_15 : mFL "LinkTimes$Net" 15 4 2 := ⟨RX4, TX4, 10, rfl, by decide, tm 327 (by decide +kernel) rfl, rfl⟩
theorem f_Fl_54 : mFL "LinkTimes$Flood" 54 4 2 := ⟨RX4, TX4, 10, rfl, by decide, tm 328 (by decide +kernel) rfl, rfl⟩
theorem f_Wa_33 : mFL "LinkTimes$Way" 33 4 2 := ⟨RX4, TX4, 10, rfl, by decide, tm 329 (by decide +kernel) rfl, rfl⟩
theorem f_Ba_70 : mFL "LinkTimes$Bargains" 70 4 2 := ⟨RX4, TX4, 10, rfl, by decide, tm 330 (by decide +kernel) rfl, rfl⟩
theorem f_Se_91 : mFL "LinkTimes$Search" 91 4 2 := ⟨RX4, TX4, 10, rfl, by decide, tm 331 (by decide +kernel) rfl, rfl⟩
theorem f_Ne_18 : mFL "LinkTimes$Net" 18 4 3 := ⟨RX4, TX4, 10, rfl, by decide, tm 332 (by decide +kernel) rfl, rfl⟩
theorem f_Fl_44 : mFL "LinkTimes$Flood" 44 4 3 := ⟨RX4, TX4, 10, rfl, by decide, tm 333 (by decide +kernel) rfl, rfl⟩
theorem f_Ba_54 : mFL "LinkTimes$Bargains" 54 4 3 := ⟨RX4, TX4, 10, rfl, by decide, tm 334 (by decide +kernel) rfl, rfl⟩
theorem f_Se_80 : mFL "LinkTimes$Search" 80 4 3 := ⟨RX4, TX4, 10, rfl, by decide, tm 335 (by decide +kernel) rfl, rfl⟩
theorem f_Lt_191 : mFL "LinkTimes" 191 4 3 := ⟨RX4, TX4, 10, rfl, by decide, tm 336 (by decide +kernel) rfl, rfl⟩
theorem f_Ne_22 : mFL "LinkTimes$Net" 22 4 4 := ⟨RX4, TX4, 10, rfl, by decide, tm 337 (by decide +kernel) rfl, rfl⟩
theorem f_Fl_41 : mFL "LinkTimes$Flood" 41 4 4 := ⟨RX4, TX4, 10, rfl, by decide, tm 338 (by decide +kernel) rfl, rfl⟩
theorem f_Ba_51 : mFL "LinkTimes$Bargains" 51 4 4 := ⟨RX4, TX4, 10, rfl, by decide, tm 339 (by decide +kernel) rfl, rfl⟩
theorem f_Se_76 : mFL "LinkTimes$Search" 76 4 4 := ⟨RX4, TX4, 10, rfl, by decide, tm 340 (by decide +kernel) rfl, rfl⟩
theorem f_Lt_188 : mFL "LinkTimes" 188 4 4 := ⟨RX4, TX4, 10, rfl, by decide, tm 341 (by decide +kernel) rfl, rfl⟩
theorem f_Ne_25 : mFL "LinkTimes$Net" 25 4 5 := ⟨RX4, TX4, 10, rfl, by decide, tm 342 (by decide +kernel) rfl, rfl⟩
theorem f_St_30 : mFL "LinkTimes$Steps" 30 4 5 := ⟨RX4, TX4, 10, rfl, by decide, tm 343 (by decide +kernel) rfl, rfl⟩
theorem f_Fl_66 : mFL "LinkTimes$Flood" 66 4 5 := ⟨RX4, TX4, 10, rfl, by decide, tm 344 (by decide +kernel) rfl, rfl⟩
theorem f_Ba_76 : mFL "LinkTimes$Bargains" 76 4 5 := ⟨RX4, TX4, 10, rfl, by decide, tm 345 (by decide +kernel) rfl, rfl⟩
theorem f_Se_97 : mFL "LinkTimes$Search" 97 4 5 := ⟨RX4, TX4, 10, rfl, by decide, tm 346 (by decide +kernel) rfl, rfl⟩
theorem f_Ne_28 : mFL "LinkTimes$Net" 28 4 6 := ⟨RX4, TX4, 10, rfl, by decide, tm 347 (by decide +kernel) rfl, rfl⟩
theorem f_St_25 : mFL "LinkTimes$Steps" 25 4 6 := ⟨RX4, TX4, 10, rfl, by decide, tm 348 (by decide +kernel) rfl, rfl⟩
theorem f_Fl_63 : mFL "LinkTimes$Flood" 63 4 6 := ⟨RX4, TX4, 10, rfl, by decide, tm 349 (by decide +kernel) rfl, rfl⟩
theorem f_Ba_73 : mFL "LinkTimes$Bargains" 73 4 6 := ⟨RX4, TX4, 10, rfl, by decide, tm 350 (by decide +kernel) rfl, rfl⟩
theorem f_Se_94 : mFL "LinkTimes$Search" 94 4 6 := ⟨RX4, TX4, 10, rfl, by decide, tm 351 (by decide +kernel) rfl, rfl⟩
theorem f_Ne_37 : mFL "LinkTimes$Net" 37 4 7 := ⟨RX4, TX4, 10, rfl, by decide, tm 352 (by decide +kernel) rfl, rfl⟩
theorem f_Fl_19 : mFL "LinkTimes$Flood" 19 4 7 := ⟨RX4, TX4, 10, rfl, by decide, tm 353 (by decide +kernel) rfl, rfl⟩
theorem f_Se_46 : mFL "LinkTimes$Search" 46 4 7 := ⟨RX4, TX4, 10, rfl, by decide, tm 354 (by decide +kernel) rfl, rfl⟩
theorem f_Ba_61 : mFL "LinkTimes$Bargains" 61 4 7 := ⟨RX4, TX4, 10, rfl, by decide, tm 355 (by decide +kernel) rfl, rfl⟩
theorem f_Ne_31 : mFL "LinkTimes$Net" 31 4 8 := ⟨RX4, TX4, 10, rfl, by decide, tm 356 (by decide +kernel) rfl, rfl⟩
theorem f_Ne_34 : mFL "LinkTimes$Net" 34 4 9 := ⟨RX4, TX4, 10, rfl, by decide, tm 357 (by decide +kernel) rfl, rfl⟩
theorem f_Wa_15 : mFL "LinkTimes$Way" 15 8 0 := ⟨RX8, TX8, 5, rfl, by decide, tm 391 (by decide +kernel) rfl, rfl⟩
theorem f_Se_62 : mFL "LinkTimes$Search" 62 8 0 := ⟨RX8, TX8, 5, rfl, by decide, tm 392 (by decide +kernel) rfl, rfl⟩
theorem f_Ne_79 : mFL "LinkTimes$Net" 79 8 0 := ⟨RX8, TX8, 5, rfl, by decide, tm 393 (by decide +kernel) rfl, rfl⟩
theorem f_Lt_212 : mFL "LinkTimes" 212 8 0 := ⟨RX8, TX8, 5, rfl, by decide, tm 394 (by decide +kernel) rfl, rfl⟩
theorem f_Wa_19 : mFL "LinkTimes$Way" 19 8 1 := ⟨RX8, TX8, 5, rfl, by decide, tm 395 (by decide +kernel) rfl, rfl⟩
theorem f_Se_118 : mFL "LinkTimes$Search" 118 8 1 := ⟨RX8, TX8, 5, rfl, by decide, tm 396 (by decide +kernel) rfl, rfl⟩
theorem f_Lt_210 : mFL "LinkTimes" 210 8 1 := ⟨RX8, TX8, 5, rfl, by decide, tm 397 (by decide +kernel) rfl, rfl⟩
theorem f_Wa_22 : mFL "LinkTimes$Way" 22 8 2 := ⟨RX8, TX8, 5, rfl, by decide, tm 398 (by decide +kernel) rfl, rfl⟩
theorem f_Se_121 : mFL "LinkTimes$Search" 121 8 2 := ⟨RX8, TX8, 5, rfl, by decide, tm 399 (by decide +kernel) rfl, rfl⟩
theorem f_Lt_202 : mFL "LinkTimes" 202 8 2 := ⟨RX8, TX8, 5, rfl, by decide, tm 400 (by decide +kernel) rfl, rfl⟩
theorem f_Wa_25 : mFL "LinkTimes$Way" 25 8 3 := ⟨RX8, TX8, 5, rfl, by decide, tm 401 (by decide +kernel) rfl, rfl⟩
theorem f_Se_123 : mFL "LinkTimes$Search" 123 8 3 := ⟨RX8, TX8, 5, rfl, by decide, tm 402 (by decide +kernel) rfl, rfl⟩
theorem f_Lt_207 : mFL "LinkTimes" 207 8 3 := ⟨RX8, TX8, 5, rfl, by decide, tm 403 (by decide +kernel) rfl, rfl⟩
theorem f_Wa_9 : mFL "LinkTimes$Way" 9 8 4 := ⟨RX8, TX8, 5, rfl, by decide, tm 404 (by decide +kernel) rfl, rfl⟩
theorem f_Se_65 : mFL "LinkTimes$Search" 65 8 4 := ⟨RX8, TX8, 5, rfl, by decide, tm 405 (by decide +kernel) rfl, rfl⟩
theorem f_Ne_82 : mFL "LinkTimes$Net" 82 8 4 := ⟨RX8, TX8, 5, rfl, by decide, tm 406 (by decide +kernel) rfl, rfl⟩
theorem f_Lt_213 : mFL "LinkTimes" 213 8 4 := ⟨RX8, TX8, 5, rfl, by decide, tm 407 (by decide +kernel) rfl, rfl⟩
theorem f_Se_12 : mFL "LinkTimes$Search" 12 6 0 := ⟨RX6, TX6, 6, rfl, by decide, tm 419 (by decide +kernel) rfl, rfl⟩
theorem f_Lt_198 : mFL "LinkTimes" 198 6 0 := ⟨RX6, TX6, 6, rfl, by decide, tm 420 (by decide +kernel) rfl, rfl⟩
theorem f_Se_18 : mFL "LinkTimes$Search" 18 6 1 := ⟨RX6, TX6, 6, rfl, by decide, tm 421 (by decide +kernel) rfl, rfl⟩
theorem f_Lt_299 : mFL "LinkTimes" 299 6 1 := ⟨RX6, TX6, 6, rfl, by decide, tm 422 (by decide +kernel) rfl, rfl⟩
theorem f_Se_22 : mFL "LinkTimes$Search" 22 6 2 := ⟨RX6, TX6, 6, rfl, by decide, tm 423 (by decide +kernel) rfl, rfl⟩
theorem f_St_33 : mFL "LinkTimes$Steps" 33 6 2 := ⟨RX6, TX6, 6, rfl, by decide, tm 424 (by decide +kernel) rfl, rfl⟩
theorem f_Se_25 : mFL "LinkTimes$Search" 25 6 3 := ⟨RX6, TX6, 6, rfl, by decide, tm 425 (by decide +kernel) rfl, rfl⟩
theorem f_St_42 : mFL "LinkTimes$Steps" 42 6 3 := ⟨RX6, TX6, 6, rfl, by decide, tm 426 (by decide +kernel) rfl, rfl⟩
theorem f_Se_28 : mFL "LinkTimes$Search" 28 6 4 := ⟨RX6, TX6, 6, rfl, by decide, tm 427 (by decide +kernel) rfl, rfl⟩
theorem f_Se_31 : mFL "LinkTimes$Search" 31 6 5 := ⟨RX6, TX6, 6, rfl, by decide, tm 428 (by decide +kernel) rfl, rfl⟩
theorem f_Fl_9 : mFL "LinkTimes$Flood" 9 2 0 := ⟨RX2, TX2, 2, rfl, by decide, tm 448 (by decide +kernel) rfl, rfl⟩
theorem f_Lt_254 : mFL "LinkTimes" 254 2 0 := ⟨RX2, TX2, 2, rfl, by decide, tm 449 (by decide +kernel) rfl, rfl⟩
theorem f_Fl_15 : mFL "LinkTimes$Flood" 15 2 1 := ⟨RX2, TX2, 2, rfl, by decide, tm 450 (by decide +kernel) rfl, rfl⟩
theorem f_St_21 : mFL "LinkTimes$Steps" 21 7 0 := ⟨RX7, TX7, 4, rfl, by decide, tm 462 (by decide +kernel) rfl, rfl⟩
theorem f_Lt_271 : mFL "LinkTimes" 271 7 0 := ⟨RX7, TX7, 4, rfl, by decide, tm 463 (by decide +kernel) rfl, rfl⟩
theorem f_St_9 : mFL "LinkTimes$Steps" 9 7 1 := ⟨RX7, TX7, 4, rfl, by decide, tm 464 (by decide +kernel) rfl, rfl⟩
theorem f_Lt_272 : mFL "LinkTimes" 272 7 1 := ⟨RX7, TX7, 4, rfl, by decide, tm 465 (by decide +kernel) rfl, rfl⟩
theorem f_St_15 : mFL "LinkTimes$Steps" 15 7 2 := ⟨RX7, TX7, 4, rfl, by decide, tm 466 (by decide +kernel) rfl, rfl⟩
theorem f_Lt_273 : mFL "LinkTimes" 273 7 2 := ⟨RX7, TX7, 4, rfl, by decide, tm 467 (by decide +kernel) rfl, rfl⟩
theorem f_St_18 : mFL "LinkTimes$Steps" 18 7 3 := ⟨RX7, TX7, 4, rfl, by decide, tm 468 (by decide +kernel) rfl, rfl⟩
theorem f_Lt_274 : mFL "LinkTimes" 274 7 3 := ⟨RX7, TX7, 4, rfl, by decide, tm 469 (by decide +kernel) rfl, rfl⟩
theorem f_Ba_27 : mFL "LinkTimes$Bargains" 27 0 0 := ⟨RX0, TX0, 6, rfl, by decide, tm 485 (by decide +kernel) rfl, rfl⟩
theorem f_Lt_224 : mFL "LinkTimes" 224 0 0 := ⟨RX0, TX0, 6, rfl, by decide, tm 486 (by decide +kernel) rfl, rfl⟩
theorem f_Ba_9 : mFL "LinkTimes$Bargains" 9 0 1 := ⟨RX0, TX0, 6, rfl, by decide, tm 487 (by decide +kernel) rfl, rfl⟩
theorem f_Lt_225 : mFL "LinkTimes" 225 0 1 := ⟨RX0, TX0, 6, rfl, by decide, tm 488 (by decide +kernel) rfl, rfl⟩
theorem f_Ba_15 : mFL "LinkTimes$Bargains" 15 0 2 := ⟨RX0, TX0, 6, rfl, by decide, tm 489 (by decide +kernel) rfl, rfl⟩
theorem f_Lt_228 : mFL "LinkTimes" 228 0 2 := ⟨RX0, TX0, 6, rfl, by decide, tm 490 (by decide +kernel) rfl, rfl⟩
theorem f_Ba_18 : mFL "LinkTimes$Bargains" 18 0 3 := ⟨RX0, TX0, 6, rfl, by decide, tm 491 (by decide +kernel) rfl, rfl⟩
theorem f_Lt_230 : mFL "LinkTimes" 230 0 3 := ⟨RX0, TX0, 6, rfl, by decide, tm 492 (by decide +kernel) rfl, rfl⟩
theorem f_Ba_21 : mFL "LinkTimes$Bargains" 21 0 4 := ⟨RX0, TX0, 6, rfl, by decide, tm 493 (by decide +kernel) rfl, rfl⟩
theorem f_Ba_24 : mFL "LinkTimes$Bargains" 24 0 5 := ⟨RX0, TX0, 6, rfl, by decide, tm 494 (by decide +kernel) rfl, rfl⟩
theorem f_Lt_9 : mFL "LinkTimes" 9 9 0 := ⟨RX9, TX9, 15, rfl, by decide, tm 508 (by decide +kernel) rfl, rfl⟩
theorem f_Lt_79 : mFL "LinkTimes" 79 9 1 := ⟨RX9, TX9, 15, rfl, by decide, tm 509 (by decide +kernel) rfl, rfl⟩
theorem f_Lt_16 : mFL "LinkTimes" 16 9 2 := ⟨RX9, TX9, 15, rfl, by decide, tm 510 (by decide +kernel) rfl, rfl⟩
theorem f_Lt_20 : mFL "LinkTimes" 20 9 3 := ⟨RX9, TX9, 15, rfl, by decide, tm 511 (by decide +kernel) rfl, rfl⟩
theorem f_Lt_28 : mFL "LinkTimes" 28 9 4 := ⟨RX9, TX9, 15, rfl, by decide, tm 512 (by decide +kernel) rfl, rfl⟩
theorem f_Lt_35 : mFL "LinkTimes" 35 9 5 := ⟨RX9, TX9, 15, rfl, by decide, tm 513 (by decide +kernel) rfl, rfl⟩
theorem f_Lt_44 : mFL "LinkTimes" 44 9 6 := ⟨RX9, TX9, 15, rfl, by decide, tm 514 (by decide +kernel) rfl, rfl⟩
theorem f_Lt_51 : mFL "LinkTimes" 51 9 7 := ⟨RX9, TX9, 15, rfl, by decide, tm 515 (by decide +kernel) rfl, rfl⟩
theorem f_Lt_58 : mFL "LinkTimes" 58 9 8 := ⟨RX9, TX9, 15, rfl, by decide, tm 516 (by decide +kernel) rfl, rfl⟩
theorem f_Lt_62 : mFL "LinkTimes" 62 9 9 := ⟨RX9, TX9, 15, rfl, by decide, tm 517 (by decide +kernel) rfl, rfl⟩
theorem f_Lt_68 : mFL "LinkTimes" 68 9 10 := ⟨RX9, TX9, 15, rfl, by decide, tm 518 (by decide +kernel) rfl, rfl⟩
theorem f_Lt_75 : mFL "LinkTimes" 75 9 11 := ⟨RX9, TX9, 15, rfl, by decide, tm 519 (by decide +kernel) rfl, rfl⟩
theorem f_Lt_116 : mFL "LinkTimes" 116 9 12 := ⟨RX9, TX9, 15, rfl, by decide, tm 520 (by decide +kernel) rfl, rfl⟩
theorem f_Lt_98 : mFL "LinkTimes" 98 9 13 := ⟨RX9, TX9, 15, rfl, by decide, tm 521 (by decide +kernel) rfl, rfl⟩
theorem f_Lt_104 : mFL "LinkTimes" 104 9 14 := ⟨RX9, TX9, 15, rfl, by decide, tm 522 (by decide +kernel) rfl, rfl⟩
theorem l_La_19 : Cond.methodLink "LinkTimesLaw" 19 m_Lt_feed.1 ∈ t0_ws := tm 554 (by decide +kernel) rfl
theorem l_Lt_83 : Cond.methodLink "LinkTimes" 83 m_Lt_putBytes.1 ∈ t0_ws := tm 558 (by decide +kernel) rfl
theorem l_La_24 : Cond.methodLink "LinkTimesLaw" 24 m_Lt_desk.1 ∈ t0_ws := tm 562 (by decide +kernel) rfl
theorem l_Lt_87 : Cond.methodLink "LinkTimes" 87 m_Lt_refuse.1 ∈ t0_ws := tm 566 (by decide +kernel) rfl
theorem l_Lt_91 : Cond.methodLink "LinkTimes" 91 m_Re_read.1 ∈ t0_ws := tm 570 (by decide +kernel) rfl
theorem l_Re_36 : Cond.methodLink "LinkTimes$Reader" 36 m_De_clear.1 ∈ t0_ws := tm 577 (by decide +kernel) rfl
theorem l_Re_50 : Cond.methodLink "LinkTimes$Reader" 50 m_Re_readLine.1 ∈ t0_ws := tm 581 (by decide +kernel) rfl
theorem l_Re_67 : Cond.methodLink "LinkTimes$Reader" 67 m_Re_advance.1 ∈ t0_ws := tm 585 (by decide +kernel) rfl
theorem l_Re_179 : Cond.methodLink "LinkTimes$Reader" 179 m_Re_isLetter.1 ∈ t0_ws := tm 589 (by decide +kernel) rfl
theorem l_Re_182 : Cond.methodLink "LinkTimes$Reader" 182 m_Re_takeWord.1 ∈ t0_ws := tm 592 (by decide +kernel) rfl
theorem l_Re_185 : Cond.methodLink "LinkTimes$Reader" 185 m_Re_isDigit.1 ∈ t0_ws := tm 596 (by decide +kernel) rfl
theorem l_Re_188 : Cond.methodLink "LinkTimes$Reader" 188 m_Re_takeWhole.1 ∈ t0_ws := tm 599 (by decide +kernel) rfl
theorem l_Re_71 : Cond.methodLink "LinkTimes$Reader" 71 m_Re_isWord.1 ∈ t0_ws := tm 604 (by decide +kernel) rfl
theorem l_Re_57 : Cond.methodLink "LinkTimes$Reader" 57 m_Re_fail.1 ∈ t0_ws := tm 656 (by decide +kernel) rfl
theorem l_Re_78 : Cond.methodLink "LinkTimes$Reader" 78 m_Re_readSpan.1 ∈ t0_ws := tm 660 (by decide +kernel) rfl
theorem l_Re_113 : Cond.methodLink "LinkTimes$Reader" 113 m_Re_expectWord.1 ∈ t0_ws := tm 665 (by decide +kernel) rfl
theorem l_Re_116 : Cond.methodLink "LinkTimes$Reader" 116 m_Re_expectWhole.1 ∈ t0_ws := tm 669 (by decide +kernel) rfl
theorem l_Re_86 : Cond.methodLink "LinkTimes$Reader" 86 m_Re_hasRoom.1 ∈ t0_ws := tm 674 (by decide +kernel) rfl
theorem l_Re_90 : Cond.methodLink "LinkTimes$Reader" 90 m_Re_readSpot.1 ∈ t0_ws := tm 678 (by decide +kernel) rfl
theorem l_Re_122 : Cond.methodLink "LinkTimes$Reader" 122 m_Re_expectNewName.1 ∈ t0_ws := tm 682 (by decide +kernel) rfl
theorem l_Re_164 : Cond.methodLink "LinkTimes$Reader" 164 m_Re_isName.1 ∈ t0_ws := tm 686 (by decide +kernel) rfl
theorem l_Re_167 : Cond.methodLink "LinkTimes$Reader" 167 m_Re_find.1 ∈ t0_ws := tm 692 (by decide +kernel) rfl
theorem l_Re_129 : Cond.methodLink "LinkTimes$Reader" 129 m_De_addSpot.1 ∈ t0_ws := tm 698 (by decide +kernel) rfl
theorem l_Re_98 : Cond.methodLink "LinkTimes$Reader" 98 m_Re_readName.1 ∈ t0_ws := tm 702 (by decide +kernel) rfl
theorem l_Re_106 : Cond.methodLink "LinkTimes$Reader" 106 m_Re_readEnds.1 ∈ t0_ws := tm 706 (by decide +kernel) rfl
theorem l_Re_133 : Cond.methodLink "LinkTimes$Reader" 133 m_Re_expectTold.1 ∈ t0_ws := tm 710 (by decide +kernel) rfl
theorem l_Re_109 : Cond.methodLink "LinkTimes$Reader" 109 m_Re_readTimes.1 ∈ t0_ws := tm 714 (by decide +kernel) rfl
theorem l_Re_160 : Cond.methodLink "LinkTimes$Reader" 160 m_De_addDeparture.1 ∈ t0_ws := tm 725 (by decide +kernel) rfl
theorem l_Re_61 : Cond.methodLink "LinkTimes$Reader" 61 m_De_isTold.1 ∈ t0_ws := tm 729 (by decide +kernel) rfl
theorem l_Lt_107 : Cond.methodLink "LinkTimes" 107 m_Lo_clear.1 ∈ t0_ws := tm 733 (by decide +kernel) rfl
theorem l_Lt_113 : Cond.methodLink "LinkTimes" 113 m_Lt_answer.1 ∈ t0_ws := tm 737 (by decide +kernel) rfl
theorem l_La_28 : Cond.methodLink "LinkTimesLaw" 28 m_Lt_fault.1 ∈ t0_ws := tm 741 (by decide +kernel) rfl
theorem l_La_33 : Cond.methodLink "LinkTimesLaw" 33 m_Lt_where.1 ∈ t0_ws := tm 745 (by decide +kernel) rfl
theorem l_La_37 : Cond.methodLink "LinkTimesLaw" 37 m_Lt_about.1 ∈ t0_ws := tm 749 (by decide +kernel) rfl
theorem l_Lt_119 : Cond.methodLink "LinkTimes" 119 m_De_isTold.1 ∈ t0_ws := tm 753 (by decide +kernel) rfl
theorem l_Lt_135 : Cond.methodLink "LinkTimes" 135 m_De_runningCount.1 ∈ t0_ws := tm 754 (by decide +kernel) rfl
theorem l_La_41 : Cond.methodLink "LinkTimesLaw" 41 m_Lt_spot.1 ∈ t0_ws := tm 758 (by decide +kernel) rfl
theorem l_Lt_139 : Cond.methodLink "LinkTimes" 139 m_De_hasSpot.1 ∈ t0_ws := tm 762 (by decide +kernel) rfl
theorem l_Lt_150 : Cond.methodLink "LinkTimes" 150 m_De_countFrom.1 ∈ t0_ws := tm 766 (by decide +kernel) rfl
theorem l_Lt_153 : Cond.methodLink "LinkTimes" 153 m_De_countTo.1 ∈ t0_ws := tm 770 (by decide +kernel) rfl
theorem l_La_46 : Cond.methodLink "LinkTimesLaw" 46 m_Lt_departure.1 ∈ t0_ws := tm 774 (by decide +kernel) rfl
theorem l_Lt_156 : Cond.methodLink "LinkTimes" 156 m_De_hasDeparture.1 ∈ t0_ws := tm 778 (by decide +kernel) rfl
theorem l_La_50 : Cond.methodLink "LinkTimesLaw" 50 m_Lt_ordered.1 ∈ t0_ws := tm 782 (by decide +kernel) rfl
theorem l_Lt_184 : Cond.methodLink "LinkTimes" 184 m_Ne_load.1 ∈ t0_ws := tm 786 (by decide +kernel) rfl
theorem l_Ne_41 : Cond.methodLink "LinkTimes$Net" 41 m_Ne_take.1 ∈ t0_ws := tm 790 (by decide +kernel) rfl
theorem l_Ne_56 : Cond.methodLink "LinkTimes$Net" 56 m_Ne_keepOrder.1 ∈ t0_ws := tm 794 (by decide +kernel) rfl
theorem l_Ne_73 : Cond.methodLink "LinkTimes$Net" 73 m_Ne_sort.1 ∈ t0_ws := tm 798 (by decide +kernel) rfl
theorem l_Ne_95 : Cond.methodLink "LinkTimes$Net" 95 m_Ne_isBehind.1 ∈ t0_ws := tm 802 (by decide +kernel) rfl
theorem l_Ne_76 : Cond.methodLink "LinkTimes$Net" 76 m_Ne_group.1 ∈ t0_ws := tm 806 (by decide +kernel) rfl
theorem l_La_54 : Cond.methodLink "LinkTimesLaw" 54 m_Lt_arrives.1 ∈ t0_ws := tm 810 (by decide +kernel) rfl
theorem l_Lt_194 : Cond.methodLink "LinkTimes" 194 m_Lt_seekBest.1 ∈ t0_ws := tm 814 (by decide +kernel) rfl
theorem l_Lt_233 : Cond.methodLink "LinkTimes" 233 m_Lt_isTime.1 ∈ t0_ws := tm 818 (by decide +kernel) rfl
theorem l_Lt_236 : Cond.methodLink "LinkTimes" 236 m_Lt_lookAtPair.1 ∈ t0_ws := tm 821 (by decide +kernel) rfl
theorem l_Lt_240 : Cond.methodLink "LinkTimes" 240 m_Lt_isRefused.1 ∈ t0_ws := tm 825 (by decide +kernel) rfl
theorem l_Lt_284 : Cond.methodLink "LinkTimes" 284 m_Se_findBest.1 ∈ t0_ws := tm 829 (by decide +kernel) rfl
theorem l_Se_34 : Cond.methodLink "LinkTimes$Search" 34 m_Wa_setEmpty.1 ∈ t0_ws := tm 833 (by decide +kernel) rfl
theorem l_Se_38 : Cond.methodLink "LinkTimes$Search" 38 m_Se_aim.1 ∈ t0_ws := tm 837 (by decide +kernel) rfl
theorem l_Se_84 : Cond.methodLink "LinkTimes$Search" 84 m_Se_aimFrom.1 ∈ t0_ws := tm 842 (by decide +kernel) rfl
theorem l_Se_100 : Cond.methodLink "LinkTimes$Search" 100 m_Ne_joins.1 ∈ t0_ws := tm 846 (by decide +kernel) rfl
theorem l_Ne_88 : Cond.methodLink "LinkTimes$Net" 88 m_Ne_isTurn.1 ∈ t0_ws := tm 850 (by decide +kernel) rfl
theorem l_Se_68 : Cond.methodLink "LinkTimes$Search" 68 m_Ne_isTurn.1 ∈ t0_ws := tm 854 (by decide +kernel) rfl
theorem l_Se_103 : Cond.methodLink "LinkTimes$Search" 103 m_Se_offer.1 ∈ t0_ws := tm 855 (by decide +kernel) rfl
theorem l_Se_107 : Cond.methodLink "LinkTimes$Search" 107 m_Se_isBetter.1 ∈ t0_ws := tm 859 (by decide +kernel) rfl
theorem l_Se_42 : Cond.methodLink "LinkTimes$Search" 42 m_Se_trace.1 ∈ t0_ws := tm 863 (by decide +kernel) rfl
theorem l_Se_111 : Cond.methodLink "LinkTimes$Search" 111 m_Se_pickFirst.1 ∈ t0_ws := tm 867 (by decide +kernel) rfl
theorem l_Se_125 : Cond.methodLink "LinkTimes$Search" 125 m_Se_isBetterFirst.1 ∈ t0_ws := tm 871 (by decide +kernel) rfl
theorem l_La_59 : Cond.methodLink "LinkTimesLaw" 59 m_Lt_changes.1 ∈ t0_ws := tm 875 (by decide +kernel) rfl
theorem l_La_63 : Cond.methodLink "LinkTimesLaw" 63 m_Lt_leaves.1 ∈ t0_ws := tm 879 (by decide +kernel) rfl
theorem l_La_67 : Cond.methodLink "LinkTimesLaw" 67 m_Lt_rides.1 ∈ t0_ws := tm 883 (by decide +kernel) rfl
theorem l_La_71 : Cond.methodLink "LinkTimesLaw" 71 m_Lt_ride.1 ∈ t0_ws := tm 887 (by decide +kernel) rfl
theorem l_La_76 : Cond.methodLink "LinkTimesLaw" 76 m_Lt_stands.1 ∈ t0_ws := tm 891 (by decide +kernel) rfl
theorem l_Lt_216 : Cond.methodLink "LinkTimes" 216 m_Wa_idleTicks.1 ∈ t0_ws := tm 895 (by decide +kernel) rfl
theorem l_La_80 : Cond.methodLink "LinkTimesLaw" 80 m_Lt_trades.1 ∈ t0_ws := tm 899 (by decide +kernel) rfl
theorem l_Lt_220 : Cond.methodLink "LinkTimes" 220 m_Lt_seekTrades.1 ∈ t0_ws := tm 903 (by decide +kernel) rfl
theorem l_Lt_348 : Cond.methodLink "LinkTimes" 348 m_Ba_collect.1 ∈ t0_ws := tm 907 (by decide +kernel) rfl
theorem l_Ba_31 : Cond.methodLink "LinkTimes$Bargains" 31 m_Ba_add.1 ∈ t0_ws := tm 911 (by decide +kernel) rfl
theorem l_Ba_39 : Cond.methodLink "LinkTimes$Bargains" 39 m_Ba_allowOneMore.1 ∈ t0_ws := tm 916 (by decide +kernel) rfl
theorem l_Ba_58 : Cond.methodLink "LinkTimes$Bargains" 58 m_Ba_soonestWith.1 ∈ t0_ws := tm 920 (by decide +kernel) rfl
theorem l_Ba_79 : Cond.methodLink "LinkTimes$Bargains" 79 m_Ne_joins.1 ∈ t0_ws := tm 924 (by decide +kernel) rfl
theorem l_Ba_83 : Cond.methodLink "LinkTimes$Bargains" 83 m_Ne_isTurn.1 ∈ t0_ws := tm 925 (by decide +kernel) rfl
theorem l_Ba_43 : Cond.methodLink "LinkTimes$Bargains" 43 m_Ba_soonestFrom.1 ∈ t0_ws := tm 927 (by decide +kernel) rfl
theorem l_Ba_47 : Cond.methodLink "LinkTimes$Bargains" 47 m_Ba_latestStart.1 ∈ t0_ws := tm 931 (by decide +kernel) rfl
theorem l_La_84 : Cond.methodLink "LinkTimesLaw" 84 m_Lt_trade.1 ∈ t0_ws := tm 936 (by decide +kernel) rfl
theorem l_La_88 : Cond.methodLink "LinkTimesLaw" 88 m_Lt_within.1 ∈ t0_ws := tm 940 (by decide +kernel) rfl
theorem l_La_92 : Cond.methodLink "LinkTimesLaw" 92 m_Lt_latest.1 ∈ t0_ws := tm 944 (by decide +kernel) rfl
theorem l_Lt_243 : Cond.methodLink "LinkTimes" 243 m_Lt_collectSteps.1 ∈ t0_ws := tm 948 (by decide +kernel) rfl
theorem l_Lt_352 : Cond.methodLink "LinkTimes" 352 m_Se_aim.1 ∈ t0_ws := tm 952 (by decide +kernel) rfl
theorem l_Lt_355 : Cond.methodLink "LinkTimes" 355 m_St_collect.1 ∈ t0_ws := tm 953 (by decide +kernel) rfl
theorem l_St_43 : Cond.methodLink "LinkTimes$Steps" 43 m_St_consider.1 ∈ t0_ws := tm 958 (by decide +kernel) rfl
theorem l_Lt_247 : Cond.methodLink "LinkTimes" 247 m_St_lastStartFor.1 ∈ t0_ws := tm 963 (by decide +kernel) rfl
theorem l_La_96 : Cond.methodLink "LinkTimesLaw" 96 m_Lt_reach.1 ∈ t0_ws := tm 967 (by decide +kernel) rfl
theorem l_Lt_250 : Cond.methodLink "LinkTimes" 250 m_Fl_spread.1 ∈ t0_ws := tm 971 (by decide +kernel) rfl
theorem l_Fl_47 : Cond.methodLink "LinkTimes$Flood" 47 m_Fl_rideOn.1 ∈ t0_ws := tm 976 (by decide +kernel) rfl
theorem l_Fl_69 : Cond.methodLink "LinkTimes$Flood" 69 m_Ne_joins.1 ∈ t0_ws := tm 981 (by decide +kernel) rfl
theorem l_La_100 : Cond.methodLink "LinkTimesLaw" 100 m_Lt_farthest.1 ∈ t0_ws := tm 982 (by decide +kernel) rfl
theorem l_La_104 : Cond.methodLink "LinkTimesLaw" 104 m_Lt_meets.1 ∈ t0_ws := tm 987 (by decide +kernel) rfl
theorem l_La_108 : Cond.methodLink "LinkTimesLaw" 108 m_Lt_round.1 ∈ t0_ws := tm 992 (by decide +kernel) rfl
theorem l_Lt_264 : Cond.methodLink "LinkTimes" 264 m_Lt_soonestAt.1 ∈ t0_ws := tm 996 (by decide +kernel) rfl
theorem l_La_112 : Cond.methodLink "LinkTimesLaw" 112 m_Lt_steps.1 ∈ t0_ws := tm 1000 (by decide +kernel) rfl
theorem l_Lt_267 : Cond.methodLink "LinkTimes" 267 m_Lt_hasUnlikeSpots.1 ∈ t0_ws := tm 1004 (by decide +kernel) rfl
theorem l_La_116 : Cond.methodLink "LinkTimesLaw" 116 m_Lt_step.1 ∈ t0_ws := tm 1008 (by decide +kernel) rfl
theorem l_La_120 : Cond.methodLink "LinkTimesLaw" 120 m_Lt_quickest.1 ∈ t0_ws := tm 1012 (by decide +kernel) rfl
theorem l_Lt_275 : Cond.methodLink "LinkTimes" 275 m_St_leastTicks.1 ∈ t0_ws := tm 1016 (by decide +kernel) rfl
theorem l_La_124 : Cond.methodLink "LinkTimesLaw" 124 m_Lt_spent.1 ∈ t0_ws := tm 1020 (by decide +kernel) rfl
theorem l_Lt_278 : Cond.methodLink "LinkTimes" 278 m_St_ticksOver.1 ∈ t0_ws := tm 1024 (by decide +kernel) rfl
theorem l_La_128 : Cond.methodLink "LinkTimesLaw" 128 m_Lt_others.1 ∈ t0_ws := tm 1028 (by decide +kernel) rfl
theorem l_Lt_281 : Cond.methodLink "LinkTimes" 281 m_Lt_lookAtUnlike.1 ∈ t0_ws := tm 1032 (by decide +kernel) rfl
theorem l_Lt_288 : Cond.methodLink "LinkTimes" 288 m_Ne_dropAll.1 ∈ t0_ws := tm 1036 (by decide +kernel) rfl
theorem l_La_132 : Cond.methodLink "LinkTimesLaw" 132 m_Lt_other.1 ∈ t0_ws := tm 1040 (by decide +kernel) rfl
theorem l_La_136 : Cond.methodLink "LinkTimesLaw" 136 m_Lt_pairs.1 ∈ t0_ws := tm 1044 (by decide +kernel) rfl
theorem l_Lt_292 : Cond.methodLink "LinkTimes" 292 m_Lt_lookAtDesk.1 ∈ t0_ws := tm 1048 (by decide +kernel) rfl
theorem l_La_140 : Cond.methodLink "LinkTimesLaw" 140 m_Lt_hub.1 ∈ t0_ws := tm 1052 (by decide +kernel) rfl
theorem l_Lt_295 : Cond.methodLink "LinkTimes" 295 m_Se_countTurns.1 ∈ t0_ws := tm 1056 (by decide +kernel) rfl
theorem l_Se_58 : Cond.methodLink "LinkTimes$Search" 58 m_Se_addTurns.1 ∈ t0_ws := tm 1060 (by decide +kernel) rfl
theorem l_La_144 : Cond.methodLink "LinkTimesLaw" 144 m_Lt_slowest.1 ∈ t0_ws := tm 1064 (by decide +kernel) rfl
theorem l_La_148 : Cond.methodLink "LinkTimesLaw" 148 m_Lt_needs.1 ∈ t0_ws := tm 1068 (by decide +kernel) rfl
theorem l_Lt_302 : Cond.methodLink "LinkTimes" 302 m_Lt_lookAtHanging.1 ∈ t0_ws := tm 1072 (by decide +kernel) rfl
theorem l_Lt_305 : Cond.methodLink "LinkTimes" 305 m_Ne_setRuns.1 ∈ t0_ws := tm 1076 (by decide +kernel) rfl
theorem l_La_152 : Cond.methodLink "LinkTimesLaw" 152 m_Lt_vital.1 ∈ t0_ws := tm 1080 (by decide +kernel) rfl
theorem l_La_156 : Cond.methodLink "LinkTimesLaw" 156 m_Lt_slack.1 ∈ t0_ws := tm 1084 (by decide +kernel) rfl
theorem l_Lt_309 : Cond.methodLink "LinkTimes" 309 m_Ne_putOff.1 ∈ t0_ws := tm 1088 (by decide +kernel) rfl
theorem l_La_160 : Cond.methodLink "LinkTimesLaw" 160 m_Lt_why.1 ∈ t0_ws := tm 1092 (by decide +kernel) rfl
theorem l_Lt_312 : Cond.methodLink "LinkTimes" 312 m_Lt_countReasons.1 ∈ t0_ws := tm 1096 (by decide +kernel) rfl
theorem l_Lt_315 : Cond.methodLink "LinkTimes" 315 m_Ne_loadAsTold.1 ∈ t0_ws := tm 1100 (by decide +kernel) rfl
theorem l_Lt_318 : Cond.methodLink "LinkTimes" 318 m_Ne_ease.1 ∈ t0_ws := tm 1104 (by decide +kernel) rfl
theorem l_La_164 : Cond.methodLink "LinkTimesLaw" 164 m_Lt_cancel.1 ∈ t0_ws := tm 1108 (by decide +kernel) rfl
theorem l_Lt_321 : Cond.methodLink "LinkTimes" 321 m_Lt_setOff.1 ∈ t0_ws := tm 1112 (by decide +kernel) rfl
theorem l_Lt_325 : Cond.methodLink "LinkTimes" 325 m_Lo_note.1 ∈ t0_ws := tm 1116 (by decide +kernel) rfl
theorem l_Lo_23 : Cond.methodLink "LinkTimes$Log" 23 m_Lo_forgetOldest.1 ∈ t0_ws := tm 1120 (by decide +kernel) rfl
theorem l_La_168 : Cond.methodLink "LinkTimesLaw" 168 m_Lt_run.1 ∈ t0_ws := tm 1124 (by decide +kernel) rfl
theorem l_La_172 : Cond.methodLink "LinkTimesLaw" 172 m_Lt_delay.1 ∈ t0_ws := tm 1128 (by decide +kernel) rfl
theorem l_La_176 : Cond.methodLink "LinkTimesLaw" 176 m_Lt_change.1 ∈ t0_ws := tm 1132 (by decide +kernel) rfl
theorem l_La_180 : Cond.methodLink "LinkTimesLaw" 180 m_Lt_hold.1 ∈ t0_ws := tm 1136 (by decide +kernel) rfl
theorem l_La_184 : Cond.methodLink "LinkTimesLaw" 184 m_Lt_extra.1 ∈ t0_ws := tm 1140 (by decide +kernel) rfl
theorem l_Lt_329 : Cond.methodLink "LinkTimes" 329 m_De_hasLine.1 ∈ t0_ws := tm 1144 (by decide +kernel) rfl
theorem l_Lt_332 : Cond.methodLink "LinkTimes" 332 m_De_addDeparture.1 ∈ t0_ws := tm 1148 (by decide +kernel) rfl
theorem l_La_188 : Cond.methodLink "LinkTimesLaw" 188 m_Lt_undo.1 ∈ t0_ws := tm 1149 (by decide +kernel) rfl
theorem l_Lt_339 : Cond.methodLink "LinkTimes" 339 m_Lo_takeBack.1 ∈ t0_ws := tm 1153 (by decide +kernel) rfl
theorem l_La_202 : Cond.methodLink "LinkTimesLaw" 202 m_Lt_size.1 ∈ t0_ws := tm 1157 (by decide +kernel) rfl
theorem l_Lt_345 : Cond.methodLink "LinkTimes" 345 m_De_lateCount.1 ∈ t0_ws := tm 1161 (by decide +kernel) rfl
theorem l_La_206 : Cond.methodLink "LinkTimesLaw" 206 m_Lt_trouble.1 ∈ t0_ws := tm 1165 (by decide +kernel) rfl
theorem l_La_7 : Cond.methodLink "LinkTimesLaw" 7 m_Lt_still.1 ∈ t0_ws := tm 1173 (by decide +kernel) rfl
theorem l_La_18 : Cond.methodLink "LinkTimesLaw" 18 m_Mo_init.1 ∈ t0_ws := tm 1240 (by decide +kernel) rfl
theorem f_Mo_78 : mFL "LinkTimesModel" 78 10 0 := ⟨RX10, TX10, 42, rfl, by decide, tm 1244 (by decide +kernel) rfl, rfl⟩
theorem f_Mo_81 : mFL "LinkTimesModel" 81 10 1 := ⟨RX10, TX10, 42, rfl, by decide, tm 1245 (by decide +kernel) rfl, rfl⟩
theorem f_Mo_231 : mFL "LinkTimesModel" 231 10 2 := ⟨RX10, TX10, 42, rfl, by decide, tm 1246 (by decide +kernel) rfl, rfl⟩
theorem f_Mo_9 : mFL "LinkTimesModel" 9 10 3 := ⟨RX10, TX10, 42, rfl, by decide, tm 1247 (by decide +kernel) rfl, rfl⟩
theorem f_Mo_13 : mFL "LinkTimesModel" 13 10 4 := ⟨RX10, TX10, 42, rfl, by decide, tm 1248 (by decide +kernel) rfl, rfl⟩
theorem f_Mo_84 : mFL "LinkTimesModel" 84 10 5 := ⟨RX10, TX10, 42, rfl, by decide, tm 1249 (by decide +kernel) rfl, rfl⟩
theorem f_Mo_17 : mFL "LinkTimesModel" 17 10 6 := ⟨RX10, TX10, 42, rfl, by decide, tm 1250 (by decide +kernel) rfl, rfl⟩
theorem f_Mo_20 : mFL "LinkTimesModel" 20 10 7 := ⟨RX10, TX10, 42, rfl, by decide, tm 1251 (by decide +kernel) rfl, rfl⟩
theorem f_Mo_23 : mFL "LinkTimesModel" 23 10 8 := ⟨RX10, TX10, 42, rfl, by decide, tm 1252 (by decide +kernel) rfl, rfl⟩
theorem f_Mo_26 : mFL "LinkTimesModel" 26 10 9 := ⟨RX10, TX10, 42, rfl, by decide, tm 1253 (by decide +kernel) rfl, rfl⟩
theorem f_Mo_247 : mFL "LinkTimesModel" 247 10 10 := ⟨RX10, TX10, 42, rfl, by decide, tm 1254 (by decide +kernel) rfl, rfl⟩
theorem f_Mo_244 : mFL "LinkTimesModel" 244 10 11 := ⟨RX10, TX10, 42, rfl, by decide, tm 1255 (by decide +kernel) rfl, rfl⟩
theorem f_Mo_91 : mFL "LinkTimesModel" 91 10 12 := ⟨RX10, TX10, 42, rfl, by decide, tm 1256 (by decide +kernel) rfl, rfl⟩
theorem f_Mo_101 : mFL "LinkTimesModel" 101 10 13 := ⟨RX10, TX10, 42, rfl, by decide, tm 1257 (by decide +kernel) rfl, rfl⟩
theorem f_Mo_94 : mFL "LinkTimesModel" 94 10 14 := ⟨RX10, TX10, 42, rfl, by decide, tm 1258 (by decide +kernel) rfl, rfl⟩
theorem f_Mo_104 : mFL "LinkTimesModel" 104 10 15 := ⟨RX10, TX10, 42, rfl, by decide, tm 1259 (by decide +kernel) rfl, rfl⟩
theorem f_Mo_111 : mFL "LinkTimesModel" 111 10 16 := ⟨RX10, TX10, 42, rfl, by decide, tm 1260 (by decide +kernel) rfl, rfl⟩
theorem f_Mo_124 : mFL "LinkTimesModel" 124 10 17 := ⟨RX10, TX10, 42, rfl, by decide, tm 1261 (by decide +kernel) rfl, rfl⟩
theorem f_Mo_127 : mFL "LinkTimesModel" 127 10 18 := ⟨RX10, TX10, 42, rfl, by decide, tm 1262 (by decide +kernel) rfl, rfl⟩
theorem f_Mo_166 : mFL "LinkTimesModel" 166 10 19 := ⟨RX10, TX10, 42, rfl, by decide, tm 1263 (by decide +kernel) rfl, rfl⟩
theorem f_Mo_29 : mFL "LinkTimesModel" 29 10 20 := ⟨RX10, TX10, 42, rfl, by decide, tm 1264 (by decide +kernel) rfl, rfl⟩
theorem f_Mo_33 : mFL "LinkTimesModel" 33 10 21 := ⟨RX10, TX10, 42, rfl, by decide, tm 1265 (by decide +kernel) rfl, rfl⟩
theorem f_Mo_36 : mFL "LinkTimesModel" 36 10 22 := ⟨RX10, TX10, 42, rfl, by decide, tm 1266 (by decide +kernel) rfl, rfl⟩
theorem f_Mo_39 : mFL "LinkTimesModel" 39 10 23 := ⟨RX10, TX10, 42, rfl, by decide, tm 1267 (by decide +kernel) rfl, rfl⟩
theorem f_Mo_42 : mFL "LinkTimesModel" 42 10 24 := ⟨RX10, TX10, 42, rfl, by decide, tm 1268 (by decide +kernel) rfl, rfl⟩
theorem f_Mo_45 : mFL "LinkTimesModel" 45 10 25 := ⟨RX10, TX10, 42, rfl, by decide, tm 1269 (by decide +kernel) rfl, rfl⟩
theorem f_Mo_48 : mFL "LinkTimesModel" 48 10 26 := ⟨RX10, TX10, 42, rfl, by decide, tm 1270 (by decide +kernel) rfl, rfl⟩
theorem f_Mo_51 : mFL "LinkTimesModel" 51 10 27 := ⟨RX10, TX10, 42, rfl, by decide, tm 1271 (by decide +kernel) rfl, rfl⟩
theorem f_Mo_275 : mFL "LinkTimesModel" 275 10 28 := ⟨RX10, TX10, 42, rfl, by decide, tm 1272 (by decide +kernel) rfl, rfl⟩
theorem f_Mo_54 : mFL "LinkTimesModel" 54 10 29 := ⟨RX10, TX10, 42, rfl, by decide, tm 1273 (by decide +kernel) rfl, rfl⟩
theorem f_Mo_57 : mFL "LinkTimesModel" 57 10 30 := ⟨RX10, TX10, 42, rfl, by decide, tm 1274 (by decide +kernel) rfl, rfl⟩
theorem f_Mo_60 : mFL "LinkTimesModel" 60 10 31 := ⟨RX10, TX10, 42, rfl, by decide, tm 1275 (by decide +kernel) rfl, rfl⟩
theorem f_Mo_325 : mFL "LinkTimesModel" 325 10 32 := ⟨RX10, TX10, 42, rfl, by decide, tm 1276 (by decide +kernel) rfl, rfl⟩
theorem f_Mo_63 : mFL "LinkTimesModel" 63 10 33 := ⟨RX10, TX10, 42, rfl, by decide, tm 1277 (by decide +kernel) rfl, rfl⟩
theorem f_Mo_66 : mFL "LinkTimesModel" 66 10 34 := ⟨RX10, TX10, 42, rfl, by decide, tm 1278 (by decide +kernel) rfl, rfl⟩
theorem f_Mo_69 : mFL "LinkTimesModel" 69 10 35 := ⟨RX10, TX10, 42, rfl, by decide, tm 1279 (by decide +kernel) rfl, rfl⟩
theorem f_Mo_336 : mFL "LinkTimesModel" 336 10 36 := ⟨RX10, TX10, 42, rfl, by decide, tm 1280 (by decide +kernel) rfl, rfl⟩
theorem f_Mo_72 : mFL "LinkTimesModel" 72 10 37 := ⟨RX10, TX10, 42, rfl, by decide, tm 1281 (by decide +kernel) rfl, rfl⟩
theorem f_Mo_345 : mFL "LinkTimesModel" 345 10 38 := ⟨RX10, TX10, 42, rfl, by decide, tm 1282 (by decide +kernel) rfl, rfl⟩
theorem f_Mo_75 : mFL "LinkTimesModel" 75 10 39 := ⟨RX10, TX10, 42, rfl, by decide, tm 1283 (by decide +kernel) rfl, rfl⟩
theorem f_Mo_357 : mFL "LinkTimesModel" 357 10 40 := ⟨RX10, TX10, 42, rfl, by decide, tm 1284 (by decide +kernel) rfl, rfl⟩
theorem f_Mo_360 : mFL "LinkTimesModel" 360 10 41 := ⟨RX10, TX10, 42, rfl, by decide, tm 1285 (by decide +kernel) rfl, rfl⟩
theorem l_La_199 : Cond.methodLink "LinkTimesLaw" 199 m_Mo_thrown.1 ∈ t0_ws := tm 1372 (by decide +kernel) rfl
theorem l_La_23 : Cond.methodLink "LinkTimesLaw" 23 m_Mo_feed.1 ∈ t0_ws := tm 1376 (by decide +kernel) rfl
theorem l_Mo_87 : Cond.methodLink "LinkTimesModel" 87 m_Mo_laysWord.1 ∈ t0_ws := tm 1380 (by decide +kernel) rfl
theorem l_La_27 : Cond.methodLink "LinkTimesLaw" 27 m_Mo_desk.1 ∈ t0_ws := tm 1384 (by decide +kernel) rfl
theorem l_Mo_107 : Cond.methodLink "LinkTimesModel" 107 m_Mo_in.1 ∈ t0_ws := tm 1388 (by decide +kernel) rfl
theorem l_Mo_228 : Cond.methodLink "LinkTimesModel" 228 m_Mo_isRefused.1 ∈ t0_ws := tm 1391 (by decide +kernel) rfl
theorem l_Mo_234 : Cond.methodLink "LinkTimesModel" 234 m_Mo_readAll.1 ∈ t0_ws := tm 1395 (by decide +kernel) rfl
theorem l_Mo_134 : Cond.methodLink "LinkTimesModel" 134 m_Mo_goesOn.1 ∈ t0_ws := tm 1399 (by decide +kernel) rfl
theorem l_Mo_97 : Cond.methodLink "LinkTimesModel" 97 m_Mo_see.1 ∈ t0_ws := tm 1403 (by decide +kernel) rfl
theorem l_Mo_225 : Cond.methodLink "LinkTimesModel" 225 m_Mo_readLine.1 ∈ t0_ws := tm 1407 (by decide +kernel) rfl
theorem l_Mo_137 : Cond.methodLink "LinkTimesModel" 137 m_Mo_isWord.1 ∈ t0_ws := tm 1412 (by decide +kernel) rfl
theorem l_Mo_213 : Cond.methodLink "LinkTimesModel" 213 m_Mo_readDesk.1 ∈ t0_ws := tm 1418 (by decide +kernel) rfl
theorem l_Mo_130 : Cond.methodLink "LinkTimesModel" 130 m_Mo_errs.1 ∈ t0_ws := tm 1422 (by decide +kernel) rfl
theorem l_Mo_172 : Cond.methodLink "LinkTimesModel" 172 m_Mo_after.1 ∈ t0_ws := tm 1427 (by decide +kernel) rfl
theorem l_Mo_141 : Cond.methodLink "LinkTimesModel" 141 m_Mo_lays.1 ∈ t0_ws := tm 1431 (by decide +kernel) rfl
theorem l_Mo_216 : Cond.methodLink "LinkTimesModel" 216 m_Mo_readSpot.1 ∈ t0_ws := tm 1436 (by decide +kernel) rfl
theorem l_Mo_176 : Cond.methodLink "LinkTimesModel" 176 m_Mo_begins.1 ∈ t0_ws := tm 1440 (by decide +kernel) rfl
theorem l_Mo_180 : Cond.methodLink "LinkTimesModel" 180 m_Mo_takesNew.1 ∈ t0_ws := tm 1444 (by decide +kernel) rfl
theorem l_Mo_154 : Cond.methodLink "LinkTimesModel" 154 m_Mo_isName.1 ∈ t0_ws := tm 1448 (by decide +kernel) rfl
theorem l_Mo_158 : Cond.methodLink "LinkTimesModel" 158 m_Mo_spelt.1 ∈ t0_ws := tm 1454 (by decide +kernel) rfl
theorem l_Mo_162 : Cond.methodLink "LinkTimesModel" 162 m_Mo_placeOf.1 ∈ t0_ws := tm 1460 (by decide +kernel) rfl
theorem l_Mo_219 : Cond.methodLink "LinkTimesModel" 219 m_Mo_readOneLine.1 ∈ t0_ws := tm 1465 (by decide +kernel) rfl
theorem l_Mo_222 : Cond.methodLink "LinkTimesModel" 222 m_Mo_readLink.1 ∈ t0_ws := tm 1469 (by decide +kernel) rfl
theorem l_Mo_191 : Cond.methodLink "LinkTimesModel" 191 m_Mo_namesLink.1 ∈ t0_ws := tm 1473 (by decide +kernel) rfl
theorem l_Mo_197 : Cond.methodLink "LinkTimesModel" 197 m_Mo_afterLink.1 ∈ t0_ws := tm 1478 (by decide +kernel) rfl
theorem l_Mo_188 : Cond.methodLink "LinkTimesModel" 188 m_Mo_laysLink.1 ∈ t0_ws := tm 1482 (by decide +kernel) rfl
theorem l_Mo_206 : Cond.methodLink "LinkTimesModel" 206 m_Mo_lays_.1 ∈ t0_ws := tm 1489 (by decide +kernel) rfl
theorem l_Mo_209 : Cond.methodLink "LinkTimesModel" 209 m_Mo_at.1 ∈ t0_ws := tm 1492 (by decide +kernel) rfl
theorem l_Mo_237 : Cond.methodLink "LinkTimesModel" 237 m_Mo_no.1 ∈ t0_ws := tm 1495 (by decide +kernel) rfl
theorem l_Mo_240 : Cond.methodLink "LinkTimesModel" 240 m_Mo_copies.1 ∈ t0_ws := tm 1499 (by decide +kernel) rfl
theorem l_La_32 : Cond.methodLink "LinkTimesLaw" 32 m_Mo_fault.1 ∈ t0_ws := tm 1502 (by decide +kernel) rfl
theorem l_La_36 : Cond.methodLink "LinkTimesLaw" 36 m_Mo_where.1 ∈ t0_ws := tm 1506 (by decide +kernel) rfl
theorem l_La_40 : Cond.methodLink "LinkTimesLaw" 40 m_Mo_about.1 ∈ t0_ws := tm 1510 (by decide +kernel) rfl
theorem l_Mo_256 : Cond.methodLink "LinkTimesModel" 256 m_Mo_unless.1 ∈ t0_ws := tm 1514 (by decide +kernel) rfl
theorem l_Mo_260 : Cond.methodLink "LinkTimesModel" 260 m_Mo_runMany.1 ∈ t0_ws := tm 1517 (by decide +kernel) rfl
theorem l_Mo_253 : Cond.methodLink "LinkTimesModel" 253 m_Mo_runs.1 ∈ t0_ws := tm 1521 (by decide +kernel) rfl
theorem l_La_45 : Cond.methodLink "LinkTimesLaw" 45 m_Mo_spot.1 ∈ t0_ws := tm 1525 (by decide +kernel) rfl
theorem l_Mo_263 : Cond.methodLink "LinkTimesModel" 263 m_Mo_isSpot.1 ∈ t0_ws := tm 1529 (by decide +kernel) rfl
theorem l_Mo_266 : Cond.methodLink "LinkTimesModel" 266 m_Mo_runsBy.1 ∈ t0_ws := tm 1533 (by decide +kernel) rfl
theorem l_La_49 : Cond.methodLink "LinkTimesLaw" 49 m_Mo_departure.1 ∈ t0_ws := tm 1537 (by decide +kernel) rfl
theorem l_Mo_269 : Cond.methodLink "LinkTimesModel" 269 m_Mo_isOne.1 ∈ t0_ws := tm 1541 (by decide +kernel) rfl
theorem l_Mo_250 : Cond.methodLink "LinkTimesModel" 250 m_Mo_leavesAt.1 ∈ t0_ws := tm 1545 (by decide +kernel) rfl
theorem l_Mo_272 : Cond.methodLink "LinkTimesModel" 272 m_Mo_arrivesAt.1 ∈ t0_ws := tm 1549 (by decide +kernel) rfl
theorem l_La_53 : Cond.methodLink "LinkTimesLaw" 53 m_Mo_ordered.1 ∈ t0_ws := tm 1553 (by decide +kernel) rfl
theorem l_La_58 : Cond.methodLink "LinkTimesLaw" 58 m_Mo_arrives.1 ∈ t0_ws := tm 1557 (by decide +kernel) rfl
theorem l_Mo_307 : Cond.methodLink "LinkTimesModel" 307 m_Mo_wayWhy.1 ∈ t0_ws := tm 1561 (by decide +kernel) rfl
theorem l_Mo_304 : Cond.methodLink "LinkTimesModel" 304 m_Mo_unless_.1 ∈ t0_ws := tm 1565 (by decide +kernel) rfl
theorem l_Mo_311 : Cond.methodLink "LinkTimesModel" 311 m_Mo_best.1 ∈ t0_ws := tm 1568 (by decide +kernel) rfl
theorem l_Mo_298 : Cond.methodLink "LinkTimesModel" 298 m_Mo_laysGoal.1 ∈ t0_ws := tm 1572 (by decide +kernel) rfl
theorem l_Mo_278 : Cond.methodLink "LinkTimesModel" 278 m_Mo_sorts.1 ∈ t0_ws := tm 1576 (by decide +kernel) rfl
theorem l_Mo_281 : Cond.methodLink "LinkTimesModel" 281 m_Mo_comesNext.1 ∈ t0_ws := tm 1580 (by decide +kernel) rfl
theorem l_Mo_285 : Cond.methodLink "LinkTimesModel" 285 m_Mo_canFollow.1 ∈ t0_ws := tm 1584 (by decide +kernel) rfl
theorem l_Mo_289 : Cond.methodLink "LinkTimesModel" 289 m_Mo_turns.1 ∈ t0_ws := tm 1588 (by decide +kernel) rfl
theorem l_Mo_292 : Cond.methodLink "LinkTimesModel" 292 m_Mo_isLessRow.1 ∈ t0_ws := tm 1592 (by decide +kernel) rfl
theorem l_Mo_301 : Cond.methodLink "LinkTimesModel" 301 m_Mo_firstOf.1 ∈ t0_ws := tm 1596 (by decide +kernel) rfl
theorem l_Mo_295 : Cond.methodLink "LinkTimesModel" 295 m_Mo_isBetter.1 ∈ t0_ws := tm 1600 (by decide +kernel) rfl
theorem l_La_62 : Cond.methodLink "LinkTimesLaw" 62 m_Mo_changes.1 ∈ t0_ws := tm 1604 (by decide +kernel) rfl
theorem l_Mo_314 : Cond.methodLink "LinkTimesModel" 314 m_Mo_begins_.1 ∈ t0_ws := tm 1608 (by decide +kernel) rfl
theorem l_La_66 : Cond.methodLink "LinkTimesLaw" 66 m_Mo_leaves.1 ∈ t0_ws := tm 1612 (by decide +kernel) rfl
theorem l_La_70 : Cond.methodLink "LinkTimesLaw" 70 m_Mo_rides.1 ∈ t0_ws := tm 1616 (by decide +kernel) rfl
theorem l_La_75 : Cond.methodLink "LinkTimesLaw" 75 m_Mo_ride.1 ∈ t0_ws := tm 1620 (by decide +kernel) rfl
theorem l_La_91 : Cond.methodLink "LinkTimesLaw" 91 m_Mo_within.1 ∈ t0_ws := tm 1624 (by decide +kernel) rfl
theorem l_Mo_319 : Cond.methodLink "LinkTimesModel" 319 m_Mo_laysWithin.1 ∈ t0_ws := tm 1628 (by decide +kernel) rfl
theorem l_Mo_316 : Cond.methodLink "LinkTimesModel" 316 m_Mo_soonest.1 ∈ t0_ws := tm 1632 (by decide +kernel) rfl
theorem l_Mo_322 : Cond.methodLink "LinkTimesModel" 322 m_Mo_soonestBy.1 ∈ t0_ws := tm 1636 (by decide +kernel) rfl
theorem l_La_83 : Cond.methodLink "LinkTimesLaw" 83 m_Mo_trades.1 ∈ t0_ws := tm 1640 (by decide +kernel) rfl
theorem l_Mo_328 : Cond.methodLink "LinkTimesModel" 328 m_Mo_laysTrades.1 ∈ t0_ws := tm 1644 (by decide +kernel) rfl
theorem l_La_87 : Cond.methodLink "LinkTimesLaw" 87 m_Mo_trade.1 ∈ t0_ws := tm 1648 (by decide +kernel) rfl
theorem l_Mo_332 : Cond.methodLink "LinkTimesModel" 332 m_Mo_latestOf.1 ∈ t0_ws := tm 1652 (by decide +kernel) rfl
theorem l_La_79 : Cond.methodLink "LinkTimesLaw" 79 m_Mo_stands.1 ∈ t0_ws := tm 1656 (by decide +kernel) rfl
theorem l_La_95 : Cond.methodLink "LinkTimesLaw" 95 m_Mo_latest.1 ∈ t0_ws := tm 1660 (by decide +kernel) rfl
theorem l_La_99 : Cond.methodLink "LinkTimesLaw" 99 m_Mo_reach.1 ∈ t0_ws := tm 1664 (by decide +kernel) rfl
theorem l_La_103 : Cond.methodLink "LinkTimesLaw" 103 m_Mo_farthest.1 ∈ t0_ws := tm 1668 (by decide +kernel) rfl
theorem l_La_107 : Cond.methodLink "LinkTimesLaw" 107 m_Mo_meets.1 ∈ t0_ws := tm 1672 (by decide +kernel) rfl
theorem l_La_111 : Cond.methodLink "LinkTimesLaw" 111 m_Mo_round.1 ∈ t0_ws := tm 1676 (by decide +kernel) rfl
theorem l_La_131 : Cond.methodLink "LinkTimesLaw" 131 m_Mo_others.1 ∈ t0_ws := tm 1680 (by decide +kernel) rfl
theorem l_Mo_351 : Cond.methodLink "LinkTimesModel" 351 m_Mo_areUnlike.1 ∈ t0_ws := tm 1684 (by decide +kernel) rfl
theorem l_Mo_354 : Cond.methodLink "LinkTimesModel" 354 m_Mo_laysOthers.1 ∈ t0_ws := tm 1688 (by decide +kernel) rfl
theorem l_Mo_342 : Cond.methodLink "LinkTimesModel" 342 m_Mo_laysAside.1 ∈ t0_ws := tm 1692 (by decide +kernel) rfl
theorem l_Mo_348 : Cond.methodLink "LinkTimesModel" 348 m_Mo_takesBack.1 ∈ t0_ws := tm 1696 (by decide +kernel) rfl
theorem l_La_135 : Cond.methodLink "LinkTimesLaw" 135 m_Mo_other.1 ∈ t0_ws := tm 1700 (by decide +kernel) rfl
theorem l_La_139 : Cond.methodLink "LinkTimesLaw" 139 m_Mo_pairs.1 ∈ t0_ws := tm 1704 (by decide +kernel) rfl
theorem l_Mo_366 : Cond.methodLink "LinkTimesModel" 366 m_Mo_isAsked.1 ∈ t0_ws := tm 1708 (by decide +kernel) rfl
theorem l_Mo_363 : Cond.methodLink "LinkTimesModel" 363 m_Mo_laysPairs.1 ∈ t0_ws := tm 1712 (by decide +kernel) rfl
theorem l_La_143 : Cond.methodLink "LinkTimesLaw" 143 m_Mo_hub.1 ∈ t0_ws := tm 1716 (by decide +kernel) rfl
theorem l_La_147 : Cond.methodLink "LinkTimesLaw" 147 m_Mo_slowest.1 ∈ t0_ws := tm 1720 (by decide +kernel) rfl
theorem l_La_115 : Cond.methodLink "LinkTimesLaw" 115 m_Mo_steps.1 ∈ t0_ws := tm 1724 (by decide +kernel) rfl
theorem l_Mo_369 : Cond.methodLink "LinkTimesModel" 369 m_Mo_laysSteps.1 ∈ t0_ws := tm 1728 (by decide +kernel) rfl
theorem l_Mo_339 : Cond.methodLink "LinkTimesModel" 339 m_Mo_beginsStep.1 ∈ t0_ws := tm 1732 (by decide +kernel) rfl
theorem l_La_119 : Cond.methodLink "LinkTimesLaw" 119 m_Mo_step.1 ∈ t0_ws := tm 1736 (by decide +kernel) rfl
theorem l_La_123 : Cond.methodLink "LinkTimesLaw" 123 m_Mo_quickest.1 ∈ t0_ws := tm 1740 (by decide +kernel) rfl
theorem l_La_127 : Cond.methodLink "LinkTimesLaw" 127 m_Mo_spent.1 ∈ t0_ws := tm 1744 (by decide +kernel) rfl
theorem l_La_151 : Cond.methodLink "LinkTimesLaw" 151 m_Mo_needs.1 ∈ t0_ws := tm 1748 (by decide +kernel) rfl
theorem l_Mo_372 : Cond.methodLink "LinkTimesModel" 372 m_Mo_without.1 ∈ t0_ws := tm 1752 (by decide +kernel) rfl
theorem l_La_155 : Cond.methodLink "LinkTimesLaw" 155 m_Mo_vital.1 ∈ t0_ws := tm 1756 (by decide +kernel) rfl
theorem l_La_159 : Cond.methodLink "LinkTimesLaw" 159 m_Mo_slack.1 ∈ t0_ws := tm 1760 (by decide +kernel) rfl
theorem l_La_163 : Cond.methodLink "LinkTimesLaw" 163 m_Mo_why.1 ∈ t0_ws := tm 1764 (by decide +kernel) rfl
theorem l_Mo_375 : Cond.methodLink "LinkTimesModel" 375 m_Mo_causes.1 ∈ t0_ws := tm 1768 (by decide +kernel) rfl
theorem l_La_167 : Cond.methodLink "LinkTimesLaw" 167 m_Mo_cancel.1 ∈ t0_ws := tm 1772 (by decide +kernel) rfl
theorem l_Mo_381 : Cond.methodLink "LinkTimesModel" 381 m_Mo_puts.1 ∈ t0_ws := tm 1776 (by decide +kernel) rfl
theorem l_Mo_378 : Cond.methodLink "LinkTimesModel" 378 m_Mo_keeps.1 ∈ t0_ws := tm 1780 (by decide +kernel) rfl
theorem l_La_171 : Cond.methodLink "LinkTimesLaw" 171 m_Mo_run.1 ∈ t0_ws := tm 1784 (by decide +kernel) rfl
theorem l_La_175 : Cond.methodLink "LinkTimesLaw" 175 m_Mo_delay.1 ∈ t0_ws := tm 1788 (by decide +kernel) rfl
theorem l_La_179 : Cond.methodLink "LinkTimesLaw" 179 m_Mo_change.1 ∈ t0_ws := tm 1792 (by decide +kernel) rfl
theorem l_La_183 : Cond.methodLink "LinkTimesLaw" 183 m_Mo_hold.1 ∈ t0_ws := tm 1796 (by decide +kernel) rfl
theorem l_La_187 : Cond.methodLink "LinkTimesLaw" 187 m_Mo_extra.1 ∈ t0_ws := tm 1800 (by decide +kernel) rfl
theorem l_La_192 : Cond.methodLink "LinkTimesLaw" 192 m_Mo_undo.1 ∈ t0_ws := tm 1804 (by decide +kernel) rfl
theorem l_La_198 : Cond.methodLink "LinkTimesLaw" 198 m_Mo_still.1 ∈ t0_ws := tm 1808 (by decide +kernel) rfl
theorem l_La_205 : Cond.methodLink "LinkTimesLaw" 205 m_Mo_size.1 ∈ t0_ws := tm 1812 (by decide +kernel) rfl
theorem l_Mo_384 : Cond.methodLink "LinkTimesModel" 384 m_Mo_lateMany.1 ∈ t0_ws := tm 1816 (by decide +kernel) rfl
theorem l_La_209 : Cond.methodLink "LinkTimesLaw" 209 m_Mo_trouble.1 ∈ t0_ws := tm 1820 (by decide +kernel) rfl
end
section
/-! the cells of the system by number, in the order in which they are made: written by wip/whole/ids_gen.py -/
def kdL : List ((FieldType × Nat) ⊕ Nat) := [.inr 9, .inl (.byte, 900), .inr 1, .inl (.int, 10), .inl (.int, 10), .inl (.int, 120), .inl (.int, 120), .inl (.int, 120), .inl (.int, 120), .inl (.int, 120), .inl (.int, 120), .inl (.int, 120), .inl (.boolean, 120), .inr 1, .inl (.int, 10), .inl (.int, 10), .inl (.int, 120), .inl (.int, 120), .inl (.int, 120), .inl (.int, 120), .inl (.int, 120), .inl (.int, 120), .inl (.int, 120), .inl (.boolean, 120), .inr 5, .inl (.int, 10), .inl (.int, 8), .inr 3, .inl (.int, 10), .inl (.int, 10), .inl (.int, 10), .inr 4, .inl (.int, 120), .inl (.int, 120), .inl (.boolean, 120), .inl (.int, 120), .inl (.int, 120), .inl (.int, 11), .inl (.int, 10), .inl (.int, 10), .inr 6, .inr 8, .inl (.int, 120), .inl (.int, 10), .inl (.int, 120), .inl (.int, 120), .inl (.int, 120), .inl (.int, 120), .inr 2, .inl (.int, 10), .inl (.boolean, 120), .inr 2, .inl (.int, 10), .inl (.boolean, 120), .inr 7, .inl (.int, 120), .inl (.int, 120), .inl (.int, 120), .inr 0, .inl (.int, 120), .inl (.int, 120), .inl (.int, 120), .inl (.int, 120), .inl (.int, 120), .inr 10, .inl (.int, 900), .inl (.int, 985), .inl (.int, 985), .inl (.int, 985), .inl (.int, 9850), .inl (.long, 10), .inl (.long, 8), .inl (.int, 7), .inl (.int, 120), .inl (.int, 120), .inl (.int, 120), .inl (.int, 120), .inl (.int, 120), .inl (.int, 14400), .inl (.int, 120), .inl (.int, 120), .inl (.int, 120), .inl (.int, 120), .inl (.int, 120), .inl (.int, 120), .inl (.int, 10), .inl (.long, 1)]
def kd (i : Nat) : (FieldType × Nat) ⊕ Nat := kdL.getD i (.inr 99)
/-- reference fields that are set once, when their object is made -/
def rfL : List (Nat × Nat × Nat) := [(0, 0, 1), (2, 5, 3), (2, 6, 4), (2, 7, 5), (2, 8, 6), (2, 9, 7), (2, 10, 8), (2, 11, 9), (2, 12, 10), (2, 13, 11), (2, 14, 12), (13, 5, 14), (13, 6, 15), (13, 7, 16), (13, 8, 17), (13, 9, 18), (13, 10, 19), (13, 11, 20), (13, 12, 21), (13, 13, 22), (13, 14, 23), (24, 5, 25), (24, 6, 26), (24, 2, 1), (0, 4, 24), (27, 1, 28), (27, 2, 29), (27, 3, 30), (0, 5, 27), (31, 1, 32), (31, 2, 33), (31, 3, 34), (31, 4, 35), (31, 5, 36), (31, 6, 37), (31, 8, 38), (31, 9, 39), (0, 6, 31), (41, 4, 42), (40, 0, 41), (40, 1, 43), (40, 2, 44), (40, 3, 45), (40, 4, 46), (40, 5, 47), (0, 7, 40), (48, 0, 49), (48, 1, 50), (0, 8, 48), (51, 0, 52), (51, 1, 53), (0, 9, 51), (54, 1, 55), (54, 2, 56), (54, 3, 57), (0, 10, 54), (58, 1, 59), (58, 2, 60), (58, 3, 61), (0, 11, 58), (64, 4, 65), (64, 6, 66), (64, 7, 67), (64, 8, 68), (64, 9, 69), (64, 20, 70), (64, 21, 71), (64, 22, 72), (64, 23, 73), (64, 24, 74), (64, 25, 75), (64, 26, 76), (64, 27, 77), (64, 29, 78), (64, 30, 79), (64, 31, 80), (64, 33, 81), (64, 34, 82), (64, 35, 83), (64, 37, 84), (64, 39, 85)]
def rfT : List (Nat × List (Nat × Nat)) := [(0, [(0, 1), (4, 24), (5, 27), (6, 31), (7, 40), (8, 48), (9, 51), (10, 54), (11, 58)]), (2, [(5, 3), (6, 4), (7, 5), (8, 6), (9, 7), (10, 8), (11, 9), (12, 10), (13, 11), (14, 12)]), (13, [(5, 14), (6, 15), (7, 16), (8, 17), (9, 18), (10, 19), (11, 20), (12, 21), (13, 22), (14, 23)]), (24, [(5, 25), (6, 26), (2, 1)]), (27, [(1, 28), (2, 29), (3, 30)]), (31, [(1, 32), (2, 33), (3, 34), (4, 35), (5, 36), (6, 37), (8, 38), (9, 39)]), (41, [(4, 42)]), (40, [(0, 41), (1, 43), (2, 44), (3, 45), (4, 46), (5, 47)]), (48, [(0, 49), (1, 50)]), (51, [(0, 52), (1, 53)]), (54, [(1, 55), (2, 56), (3, 57)]), (58, [(1, 59), (2, 60), (3, 61)]), (64, [(4, 65), (6, 66), (7, 67), (8, 68), (9, 69), (20, 70), (21, 71), (22, 72), (23, 73), (24, 74), (25, 75), (26, 76), (27, 77), (29, 78), (30, 79), (31, 80), (33, 81), (34, 82), (35, 83), (37, 84), (39, 85)])]
def rfq (i k : Nat) : Option Nat := match rfT.lookup i with
  | some l => l.lookup k
  | none => none
abbrev nIds : Nat := 87
end
section
/-! THE PURE MACHINE: values are whole numbers and cell numbers; a state is what the int fields and arrays hold (h), what the reference fields hold and how many cells there are (r) -/
abbrev mV : Type := Int ⊕ (Int ⊕ Option Nat)
abbrev mH : Type := Nat → Int → Int
abbrev mR : Type := (Nat → Nat → Option Nat) × Nat
abbrev mL : Type := List (Option mV)
abbrev mU : Type := Nat × Nat
abbrev mE : Type := Bool × Room
abbrev mX : Type := Nat → mL → List mV → mH → mR → mU → Prop
/-- D, the array classes, where the system's cells begin, the literals' Strings and byte arrays, the script -/
abbrev mG : Type := va_G × (FieldType → ClassId) × Nat × (Nat → Nat) × (Nat → Nat) × (Nat × Nat × (Nat → Int32) × Nat)
abbrev vI (x : Int) : mV := .inl x
abbrev vJ (x : Int) : mV := .inr (.inl x)
abbrev vR (i : Nat) : mV := .inr (.inr (some i))
abbrev vN : mV := .inr (.inr none)
abbrev sBase : Nat := 100000
abbrev sScr : Nat := 200000
def toV (ad : Nat → Nat) : mV → Value
  | .inl x => .int (Int32.ofInt x)
  | .inr (.inl x) => .long (Int64.ofInt x)
  | .inr (.inr none) => .null
  | .inr (.inr (some i)) => .ref (ad i)
def okI (x : Int) : Prop := -2147483648 ≤ x ∧ x ≤ 2147483647
def okJ (x : Int) : Prop := -9223372036854775808 ≤ x ∧ x ≤ 9223372036854775807
def okV (b : Nat) : mV → Prop
  | .inl x => okI x
  | .inr (.inl x) => okJ x
  | .inr (.inr none) => True
  | .inr (.inr (some t)) => t < b ∨ sBase ≤ t
theorem okV.mono {a b : Nat} {v : mV} (h : okV a v) (hab : a ≤ b) : okV b v := by
  rcases v with x | x | _ | t
  · exact h
  · exact h
  · exact h
  · exact h.elim (fun z => Or.inl (Nat.lt_of_lt_of_le z hab)) Or.inr
theorem oi_toInt {x : Int} (h : okI x) : (Int32.ofInt x).toInt = x := by
  unfold okI at h
  rw [Int32.toInt_ofInt]
  rw [Int.bmod_eq_of_le] <;> simp only [Int32.size] at * <;> omega
theorem oj_toInt {x : Int} (h : okJ x) : (Int64.ofInt x).toInt = x := by
  unfold okJ at h
  rw [Int64.toInt_ofInt]
  rw [Int.bmod_eq_of_le] <;> simp only [Int64.size] at * <;> omega
theorem oi_of (v : Int32) : okI v.toInt := by
  have h1 := Int32.le_toInt v
  have h2 := Int32.toInt_lt v
  unfold okI
  omega
theorem oj_of (v : Int64) : okJ v.toInt := by
  have h1 := Int64.le_toInt v
  have h2 := Int64.toInt_lt v
  unfold okJ
  omega
theorem oi_rt (v : Int32) : Int32.ofInt v.toInt = v := by simp
theorem oj_rt (v : Int64) : Int64.ofInt v.toInt = v := by simp
theorem oi_lt {x y : Int} (hx : okI x) (hy : okI y) : Int32.ofInt x < Int32.ofInt y ↔ x < y := by rw [Int32.lt_iff_toInt_lt, oi_toInt hx, oi_toInt hy]
theorem oi_le {x y : Int} (hx : okI x) (hy : okI y) : Int32.ofInt x ≤ Int32.ofInt y ↔ x ≤ y := by rw [Int32.le_iff_toInt_le, oi_toInt hx, oi_toInt hy]
theorem oi_eq {x y : Int} (hx : okI x) (hy : okI y) : Int32.ofInt x = Int32.ofInt y ↔ x = y := by rw [← Int32.toInt_inj, oi_toInt hx, oi_toInt hy]
theorem oi_0 : okI 0 := by unfold okI; omega
theorem oi_zero : (0 : Int32) = Int32.ofInt 0 := by decide
theorem oi_clamp {x : Int} (hx : okI x) (h0 : 0 ≤ x) : (Int32.ofInt x).toNatClampNeg = x.toNat := by
  show (Int32.ofInt x).toInt.toNat = _
  rw [oi_toInt hx]
theorem oi_in {x : Int} {n : Nat} (hx : okI x) (h0 : 0 ≤ x) (h1 : x < n) : vp_in (Int32.ofInt x) n := by
  rw [vp_in_iff, oi_toInt hx]; omega
/-- wrap-around -/
def wr (x : Int) : Int := x.bmod 4294967296
theorem wr_ok (x : Int) : okI (wr x) := by
  have h1 := Int.le_bmod (x := x) (m := 4294967296) (by omega)
  have h2 := Int.bmod_lt (x := x) (m := 4294967296) (by omega)
  unfold okI wr
  omega
theorem wr_id {x : Int} (h : okI x) : wr x = x := by
  unfold okI at h
  unfold wr
  rw [Int.bmod_eq_of_le] <;> omega
theorem wr_of (x : Int) : Int32.ofInt (wr x) = Int32.ofInt x := by
  rw [← Int32.toInt_inj, oi_toInt (wr_ok x), Int32.toInt_ofInt]; rfl
/-- what a cell holds, as the kit has it -/
def isRf : FieldType → Bool
  | .object _ => true
  | .array _ => true
  | _ => false
def mFv (ad : Nat → Nat) (h : mH) (r : mR) (i ci k : Nat) : Value := if isRf (tyCl ci k) then toV ad (.inr (.inr (r.1 i k))) else .int (Int32.ofInt (h i k))
def nfCl (ci : Nat) : Nat := match vwCl[ci]? with
  | some q => q.2.2
  | none => 0
def mAv (h : mH) (i : Nat) (ty : FieldType) (n : Nat) : vp_A := match ty with
  | .long => (n, .inr (.inl fun j => Int64.ofInt (h i j)))
  | _ => (n, .inl fun j => Int32.ofInt (h i j))
def mCe (G : mG) (ad : Nat → Nat) (h : mH) (r : mR) (i : Nat) : va_E := match kd i with
  | .inl (ty, n) => .inl (G.2.1 ty, mAv h i ty n)
  | .inr ci => .inr (ci, (List.range (nfCl ci)).map (mFv ad h r i ci))
def mW (G : mG) (ad : Nat → Nat) (h : mH) (r : mR) : va_W := (List.range r.2).map fun i => (ad i, mCe G ad h r i)
def isJ (i : Nat) : Bool := match kd i with
  | .inl (.long, _) => true
  | _ => false
def okH (h : mH) : Prop := ∀ (i : Nat) (j : Int), if isJ i then okJ (h i j) else okI (h i j)
/-- the system is made: what was set once stands -/
def rfOK (r : mR) : Prop := nIds ≤ r.2 ∧ ∀ i k t, rfq i k = some t → r.1 i k = some t
abbrev mA (G : mG) : Nat → Prop := fun q => G.2.2.1 ≤ q
/-- references go to cells that are made -/
def rOK (r : mR) : Prop := ∀ i k t, r.1 i k = some t → t < r.2
def mRep (G : mG) (g : Bool) (ad : Nat → Nat) (h : mH) (r : mR) (H : Heap) : Prop :=
  va_P G.1 vwCl (mW G ad h r) H ∧ va_D (mA G) (mW G ad h r) ∧ okH h ∧ (g = true → rfOK r) ∧ rOK r ∧ r.2 ≤ sBase ∧ (∀ i, i < 1000 → ad (sBase + i) = G.2.2.2.1 i ∧ ad (sBase + 1000 + i) = G.2.2.2.2.1 i) ∧ ad sScr = G.2.2.2.2.2.1 ∧ ad (sScr + 1) = G.2.2.2.2.2.2.2.2
abbrev mTys (G : mG) : List (ClassId × FieldType) := [(G.2.1 .int, .int), (G.2.1 .byte, .byte), (G.2.1 .boolean, .boolean), (G.2.1 .long, .long)]
def lnS : List Nat := [4, 4, 4, 4, 4, 6, 4, 4, 4, 5, 5]
def txS : List String := ["desk", "spot", "line", "link", "span", "change", "wait", "from", "till", "every", "takes"]
def byS : List (List Int32) := [[100, 101, 115, 107], [115, 112, 111, 116], [108, 105, 110, 101], [108, 105, 110, 107], [115, 112, 97, 110], [99, 104, 97, 110, 103, 101], [119, 97, 105, 116], [102, 114, 111, 109], [116, 105, 108, 108], [101, 118, 101, 114, 121], [116, 97, 107, 101, 115]]
def strW : List (String × Nat × Nat) := [("LinkTimes$Reader", 70, 0), ("LinkTimes$Reader", 112, 4), ("LinkTimes$Reader", 81, 1), ("LinkTimes$Reader", 93, 2), ("LinkTimes$Reader", 101, 3), ("LinkTimes$Reader", 125, 5), ("LinkTimes$Reader", 127, 6), ("LinkTimes$Reader", 146, 7), ("LinkTimes$Reader", 148, 8), ("LinkTimes$Reader", 150, 9), ("LinkTimes$Reader", 158, 10), ("LinkTimesModel", 148, 0), ("LinkTimesModel", 170, 4), ("LinkTimesModel", 150, 1), ("LinkTimesModel", 151, 2), ("LinkTimesModel", 153, 3), ("LinkTimesModel", 184, 5), ("LinkTimesModel", 186, 6), ("LinkTimesModel", 195, 7), ("LinkTimesModel", 200, 8), ("LinkTimesModel", 202, 9), ("LinkTimesModel", 204, 10)]
def nestW : List (String × Nat × MethodName) := [("LinkTimes", 15, m_De_init.1), ("LinkTimes", 34, m_Lo_init.1), ("LinkTimes", 50, m_Se_init.1), ("LinkTimes$Search", 11, m_Wa_init.1), ("LinkTimes", 57, m_Fl_init.1), ("LinkTimes", 67, m_St_init.1), ("LinkTimes", 74, m_Ba_init.1)]

/-- what stands of the machine's tables and of the cells that are no cells of the system -/
def mSf (G : mG) (s : State) : Prop :=
  va_K G.1 vwCl (mTys G) s ∧ G.2.2.1 ≤ s.heap.size ∧ (∀ q ∈ nestW, va_Nw (.methodLinkNest q.1 q.2.1 q.2.2 "LinkTimes") s) ∧ vk_S 11 lnS byS G.2.2.2.1 G.2.2.2.2.1 (mA G) s s.heap ∧
  (∀ q ∈ strW, vk_R q.1 q.2.1 (txS.getD q.2.2 "") (G.2.2.2.1 q.2.2) s) ∧ va_Z "java/lang/String" "COMPACT_STRINGS" "Z" (.int 1) (mA G) s s.heap ∧
  (∃ v : Value, va_Z "jdk/internal/util/Preconditions" "SIOOBE_FORMATTER" "Ljava/util/function/BiFunction;" v (mA G) s s.heap ∧ (v = .null ∨ v = .ref G.2.2.2.2.2.2.2.2)) ∧
  va_X G.2.2.2.2.2.1 G.2.2.2.2.2.2.1 G.2.2.2.2.2.2.2.1 s s.heap ∧ G.2.2.2.2.2.1 < G.2.2.1
theorem mSf.warm {G : mG} {s U : State} {H : Heap} {locs : List Loc} (h : mSf G s) (hW : s.WarmedH U.vm) (hU : U.heap = H) (hS : va_S (mA G) s.heap H locs) : mSf G U := by
  obtain ⟨h1, h2, h3, h4, h5, h6, ⟨v, h7, hv⟩, h8, h9⟩ := h
  have hk : ∀ a : Nat, a < s.heap.size → ¬ mA G a → H[a]? = s.heap[a]? := hS.2.1
  subst hU
  refine ⟨h1.moved hW.alike, Nat.le_trans h2 hS.1, fun q hq => va_Nw.warmM hW (h3 q hq), (h4.moved hW.alike).kept hk, fun q hq => vk_R.warm hW (h5 q hq), (h6.moved hW.alike).kept hk, ⟨v, (h7.moved hW.alike).kept hk, hv⟩, (h8.moved hW.alike).kept (hk _ (Nat.lt_of_lt_of_le h9 h2) (Nat.not_le.mpr h9)), h9⟩
theorem mSf.same {G : mG} {u U : State} (h : mSf G u) (hv : U.vm = u.vm) (hH : U.heap = u.heap) : mSf G U := by
  obtain ⟨h1, h2, h3, h4, h5, h6, ⟨v, h7, hz⟩, h8, h9⟩ := h
  have ha : u.vm.Alike U.vm := by rw [hv]; exact Vm.Alike.refl u.vm
  refine ⟨h1.moved ha, by rw [hH]; exact h2, fun q hq => va_Nw.same rfl hv.symm (h3 q hq), by rw [hH]; exact h4.moved ha, fun q hq => vk_R.same hv (h5 q hq), by rw [hH]; exact h6.moved ha, ⟨v, by rw [hH]; exact h7.moved ha, hz⟩, by rw [hH]; exact h8.moved ha, h9⟩
/-- the locals -/
def mLs (ad : Nat → Nat) (b : Nat) (ls : mL) (lsA : Array Slot) (n : Nat) : Prop := lsA.size = n ∧ ls.length = n ∧ lv_wf lsA ∧ ∀ (j : Nat) (v : mV), ls[j]? = some (some v) → lsA[j]? = some (.val (toV ad v)) ∧ okV b v
def lvl (ad : Nat → Nat) (ls : mL) : List (Nat × Value) := (List.range ls.length).filterMap fun j => match ls[j]? with
  | some (some v) => some (j, toV ad v)
  | _ => none
theorem lvl_mem {ad : Nat → Nat} {ls : mL} {q : Nat × Value} (h : q ∈ lvl ad ls) : ∃ v, ls[q.1]? = some (some v) ∧ q.2 = toV ad v := by
  obtain ⟨j, -, hj⟩ := List.mem_filterMap.mp h
  split at hj
  · rename_i v hv
    cases hj
    exact ⟨v, hv, rfl⟩
  · cases hj
theorem lvl_of {ad : Nat → Nat} {ls : mL} {j : Nat} {v : mV} (h : ls[j]? = some (some v)) : (j, toV ad v) ∈ lvl ad ls := by
  refine List.mem_filterMap.mpr ⟨j, List.mem_range.mpr ((List.getElem?_eq_some_iff.mp h).1), ?_⟩
  simp only [h]
theorem mLs.has {ad : Nat → Nat} {b : Nat} {ls : mL} {lsA : Array Slot} {n : Nat} (h : mLs ad b ls lsA n) : lv_has lsA n (lvl ad ls) := by
  refine ⟨h.1, h.2.2.1, fun q hq => ?_⟩
  obtain ⟨v, hv, he⟩ := lvl_mem hq
  rw [he]
  exact (h.2.2.2 _ _ hv).1
/-- no long stands just ahead -/
def pvOK (ls : mL) (i : Nat) : Bool := match i with
  | 0 => true
  | j + 1 => match ls[j]? with
    | some (some (.inr (.inl _))) => false
    | _ => true
theorem cat_toV (ad : Nat → Nat) (v : mV) : (toV ad v).category = (match v with | .inr (.inl _) => 2 | _ => 1) := by
  rcases v with x | x | _ | x <;> rfl
theorem pvOK_spec {ls : mL} {i j : Nat} {v : mV} {ad : Nat → Nat} (h : pvOK ls i = true) (hj : j + 1 = i) (hv : ls[j]? = some (some v)) : ¬ (toV ad v).category = 2 := by
  subst hj
  simp only [pvOK, hv] at h
  rw [cat_toV]
  rcases v with x | x | x
  · simp
  · simp at h
  · simp
theorem mLs.st1 {ad : Nat → Nat} {b : Nat} {ls : mL} {lsA ls' : Array Slot} {n i : Nat} {v : mV} (h : mLs ad b ls lsA n) (hv : okV b v) (hp : pvOK ls i = true)
    (h' : lv_has ls' n ((i, toV ad v) :: (lvl ad ls).filter (fun q => !(q.1 == i) && !(q.1 + 1 == i && q.2.category == 2)))) : mLs ad b (ls.set i (some v)) ls' n := by
  refine ⟨h'.1, by rw [List.length_set]; exact h.2.1, h'.2.1, fun j w hj => ?_⟩
  by_cases hij : j = i
  · subst hij
    rw [List.getElem?_set_self' ] at hj
    have hw : w = v := by
      cases hx : ls[j]? with
      | none => rw [hx] at hj; cases hj
      | some x => rw [hx] at hj; exact ((Option.some.inj (Option.some.inj hj))).symm
    subst hw
    exact ⟨h'.2.2 _ List.mem_cons_self, hv⟩
  · rw [List.getElem?_set_ne (Ne.symm hij)] at hj
    refine ⟨h'.2.2 (j, toV ad w) (List.mem_cons_of_mem _ (List.mem_filter.mpr ⟨lvl_of hj, ?_⟩)), (h.2.2.2 _ _ hj).2⟩
    by_cases hc : j + 1 = i
    · have := pvOK_spec (ad := ad) hp hc hj
      simp [hij, this]
    · simp [hij, hc]
theorem mLs.st2 {ad : Nat → Nat} {b : Nat} {ls : mL} {lsA ls' : Array Slot} {n i : Nat} {v : mV} (h : mLs ad b ls lsA n) (hv : okV b v) (hp : pvOK ls i = true)
    (h' : lv_has ls' n ((i, toV ad v) :: (lvl ad ls).filter (fun q => !(q.1 == i) && (!(q.1 == i + 1) && !(q.1 + 1 == i && q.2.category == 2))))) : mLs ad b ((ls.set i (some v)).set (i + 1) none) ls' n := by
  refine ⟨h'.1, by rw [List.length_set, List.length_set]; exact h.2.1, h'.2.1, fun j w hj => ?_⟩
  by_cases hi1 : j = i + 1
  · subst hi1
    rw [List.getElem?_set_self'] at hj
    cases hx : (ls.set i (some v))[i + 1]? with
    | none => rw [hx] at hj; cases hj
    | some x => rw [hx] at hj; cases hj
  rw [List.getElem?_set_ne (Ne.symm hi1)] at hj
  by_cases hij : j = i
  · subst hij
    rw [List.getElem?_set_self'] at hj
    have hw : w = v := by
      cases hx : ls[j]? with
      | none => rw [hx] at hj; cases hj
      | some x => rw [hx] at hj; exact ((Option.some.inj (Option.some.inj hj))).symm
    subst hw
    exact ⟨h'.2.2 _ List.mem_cons_self, hv⟩
  · rw [List.getElem?_set_ne (Ne.symm hij)] at hj
    refine ⟨h'.2.2 (j, toV ad w) (List.mem_cons_of_mem _ (List.mem_filter.mpr ⟨lvl_of hj, ?_⟩)), (h.2.2.2 _ _ hj).2⟩
    by_cases hc : j + 1 = i
    · have := pvOK_spec (ad := ad) hp hc hj
      simp [hij, hi1, this]
    · simp [hij, hi1, hc]
/-- the method's instructions -/
def dc (m : mM) (pc : Nat) : Option (Instr × Nat) := m.2.2.2.2.lookup pc
theorem lookup_mem {α : Type} {l : List (Nat × α)} {k : Nat} {v : α} (h : l.lookup k = some v) : (k, v) ∈ l := by
  induction l with
  | nil => cases h
  | cons a l ih =>
    obtain ⟨j, w⟩ := a
    rw [List.lookup_cons] at h
    split at h
    · rename_i e
      have : k = j := by simpa using e
      subst this
      cases h
      exact List.mem_cons_self
    · exact List.mem_cons_of_mem _ (ih h)
/-- the machine is in a method of ours -/
def mCx (G : mG) (m : mM) (p : Program) (s : State) (mid : MethodId) (args : Array Value) (meth : Method) (c : Code) : Prop :=
  p.tables.exec = Jvm.exec ∧ c.code = m.2.1 ∧ meth.sig.returnType = m.2.2.2.1 ∧ c.maxLocals = m.2.2.1 ∧ s.vm.findClass m.1.cls = some mid.cls ∧ meth.locks = false ∧ meth.name = m.1.name ∧ (∀ w ∈ t0_ws, w.before args s = true) ∧ mSf G s ∧ (∀ q ∈ m.2.2.2.2, decode m.2.1 q.1 = .ok q.2)
def mAg (ad ad0 : Nat → Nat) (n : Nat) : Prop := ∀ i, i < n ∨ sBase ≤ i → ad i = ad0 i
def mAt (G : mG) (E : mE) (m : mM) (p : Program) (l : Launch) (e : Env) (s : State) (mid : MethodId) (args : Array Value) (below : List Frame) (meth : Method) (c : Code) (Q : State → Prop) (ad0 : Nat → Nat) (n0 : Nat) (pc : Nat) (ls : mL) (st : List mV) (h : mH) (r : mR) (u : mU) : Prop :=
  ∀ (ad : Nat → Nat) (H : Heap) (locs : List Loc) (lsA : Array Slot), mAg ad ad0 n0 → n0 ≤ r.2 → mRep G E.1 ad h r H → va_S (mA G) s.heap H locs → mLs ad r.2 ls lsA m.2.2.1 → (∀ v ∈ st, okV r.2 v) →
    W p l e E.2 s mid args below meth c H locs u.1 u.2 Q (F0 mid pc lsA (st.map (toV ad)))
/-- from here the machine comes to a state of X (or on to where such a state would lead) -/
def WP (E : mE) (m : mM) (X : mX) (pc : Nat) (ls : mL) (st : List mV) (h : mH) (r : mR) (u : mU) : Prop :=
  ∀ (G : mG) (p : Program) (l : Launch) (e : Env) (s : State) (mid : MethodId) (args : Array Value) (below : List Frame) (meth : Method) (c : Code) (Q : State → Prop) (ad0 : Nat → Nat) (n0 : Nat), mCx G m p s mid args meth c →
    (∀ pc' ls' st' h' r' u', X pc' ls' st' h' r' u' → mAt G E m p l e s mid args below meth c Q ad0 n0 pc' ls' st' h' r' u') → mAt G E m p l e s mid args below meth c Q ad0 n0 pc ls st h r u
theorem WP.exit {E : mE} {m : mM} {X : mX} {pc : Nat} {ls : mL} {st : List mV} {h : mH} {r : mR} {u : mU} (hx : X pc ls st h r u) : WP E m X pc ls st h r u := fun _ _ _ _ _ _ _ _ _ _ _ _ _ _ hX => hX _ _ _ _ _ _ hx
theorem WP.trans {E : mE} {m : mM} {X Y : mX} {pc : Nat} {ls : mL} {st : List mV} {h : mH} {r : mR} {u : mU} (h1 : WP E m X pc ls st h r u) (h2 : ∀ pc ls st h r u, X pc ls st h r u → WP E m Y pc ls st h r u) : WP E m Y pc ls st h r u :=
  fun G p l e s mid args below meth c Q ad0 n0 hC hX => h1 G p l e s mid args below meth c Q ad0 n0 hC (fun pc' ls' st' h' r' u' hx => h2 pc' ls' st' h' r' u' hx G p l e s mid args below meth c Q ad0 n0 hC hX)
theorem mdc {G : mG} {m : mM} {p : Program} {s : State} {mid : MethodId} {args : Array Value} {meth : Method} {c : Code} (hC : mCx G m p s mid args meth c) {pc : Nat} {i : Instr × Nat} (h : dc m pc = some i) : decode m.2.1 pc = .ok i := hC.2.2.2.2.2.2.2.2.2 (pc, i) (lookup_mem h)
end
section
section OPS
variable {E : mE} {m : mM} {X : mX} {pc q : Nat} {ls : mL} {st : List mV} {h : mH} {r : mR} {u : mU}
def okb (n : Int) : Bool := decide (-2147483648 ≤ n) && decide (n ≤ 2147483647)
theorem okb_spec {n : Int} (h : okb n = true) : okI n := by
  simp only [okb, Bool.and_eq_true, decide_eq_true_eq] at h
  exact h
theorem i8_of {n : Int} (h : (decide (-128 ≤ n) && decide (n ≤ 127)) = true) : (Int8.ofInt n).toInt32 = Int32.ofInt n := by
  simp only [Bool.and_eq_true, decide_eq_true_eq] at h
  rw [← Int32.toInt_inj, Int8.toInt_toInt32, Int8.toInt_ofInt, oi_toInt (by unfold okI; omega)]
  rw [Int.bmod_eq_of_le] <;> simp only [Int8.size] at * <;> omega
theorem i16_of {n : Int} (h : (decide (-32768 ≤ n) && decide (n ≤ 32767)) = true) : (Int16.ofInt n).toInt32 = Int32.ofInt n := by
  simp only [Bool.and_eq_true, decide_eq_true_eq] at h
  rw [← Int32.toInt_inj, Int16.toInt_toInt32, Int16.toInt_ofInt, oi_toInt (by unfold okI; omega)]
  rw [Int.bmod_eq_of_le] <;> simp only [Int16.size] at * <;> omega
theorem ok_cons {b : Nat} {v : mV} {st : List mV} (hv : okV b v) (h : ∀ w ∈ st, okV b w) : ∀ w ∈ v :: st, okV b w := fun w hw => (List.mem_cons.mp hw).elim (fun e => e ▸ hv) (h w)
theorem ok_tl {b : Nat} {v : mV} {st : List mV} (h : ∀ w ∈ v :: st, okV b w) : ∀ w ∈ st, okV b w := fun w hw => h w (List.mem_cons_of_mem _ hw)
theorem ok_hd {b : Nat} {v : mV} {st : List mV} (h : ∀ w ∈ v :: st, okV b w) : okV b v := h v List.mem_cons_self
theorem wq_iconst {n : Int} (hd : dc m pc = some (.iconst n, 1)) (hq : pc + 1 = q) (ho : okb n = true) (k : WP E m X q ls (vI n :: st) h r u) : WP E m X pc ls st h r u := by
  intro G p l e s mid args below meth c Q ad0 n0 hC hX ad H locs lsA hag hn hR hS hL hst
  subst hq
  exact lv_iconst hC.1 hC.2.1 (mdc hC hd) rfl (k G p l e s mid args below meth c Q ad0 n0 hC hX ad H locs lsA hag hn hR hS hL (ok_cons (v := vI n) (okb_spec ho) hst))
theorem wq_bipush {n : Int} (hd : dc m pc = some (.bipush n, 2)) (hq : pc + 2 = q) (ho : (decide (-128 ≤ n) && decide (n ≤ 127)) = true) (k : WP E m X q ls (vI n :: st) h r u) : WP E m X pc ls st h r u := by
  intro G p l e s mid args below meth c Q ad0 n0 hC hX ad H locs lsA hag hn hR hS hL hst
  subst hq
  exact lv_bipush hC.1 hC.2.1 (mdc hC hd) (i8_of ho) (k G p l e s mid args below meth c Q ad0 n0 hC hX ad H locs lsA hag hn hR hS hL (ok_cons (v := vI n) (by simp only [Bool.and_eq_true, decide_eq_true_eq] at ho; show okI n; unfold okI; omega) hst))
theorem wq_sipush {n : Int} (hd : dc m pc = some (.sipush n, 3)) (hq : pc + 3 = q) (ho : (decide (-32768 ≤ n) && decide (n ≤ 32767)) = true) (k : WP E m X q ls (vI n :: st) h r u) : WP E m X pc ls st h r u := by
  intro G p l e s mid args below meth c Q ad0 n0 hC hX ad H locs lsA hag hn hR hS hL hst
  subst hq
  exact lv_sipush hC.1 hC.2.1 (mdc hC hd) (i16_of ho) (k G p l e s mid args below meth c Q ad0 n0 hC hX ad H locs lsA hag hn hR hS hL (ok_cons (v := vI n) (by simp only [Bool.and_eq_true, decide_eq_true_eq] at ho; show okI n; unfold okI; omega) hst))
theorem wq_ldc {ix : Nat} {n : Int} (hw : Cond.constant m.1.cls ix (Int32.ofInt n) ∈ t0_ws) (hd : dc m pc = some (.ldc ix, 2)) (hq : pc + 2 = q) (ho : okb n = true) (k : WP E m X q ls (vI n :: st) h r u) : WP E m X pc ls st h r u := by
  intro G p l e s mid args below meth c Q ad0 n0 hC hX ad H locs lsA hag hn hR hS hL hst
  subst hq
  exact lv_ldc hC.1 hC.2.1 hC.2.2.2.2.1 (hC.2.2.2.2.2.2.2.1 _ hw) (mdc hC hd) (k G p l e s mid args below meth c Q ad0 n0 hC hX ad H locs lsA hag hn hR hS hL (ok_cons (v := vI n) (okb_spec ho) hst))
theorem wq_ldcw {ix : Nat} {n : Int} (hw : Cond.constant m.1.cls ix (Int32.ofInt n) ∈ t0_ws) (hd : dc m pc = some (.ldc_w ix, 3)) (hq : pc + 3 = q) (ho : okb n = true) (k : WP E m X q ls (vI n :: st) h r u) : WP E m X pc ls st h r u := by
  intro G p l e s mid args below meth c Q ad0 n0 hC hX ad H locs lsA hag hn hR hS hL hst
  subst hq
  exact lv_ldcw hC.1 hC.2.1 hC.2.2.2.2.1 (hC.2.2.2.2.2.2.2.1 _ hw) (mdc hC hd) (k G p l e s mid args below meth c Q ad0 n0 hC hX ad H locs lsA hag hn hR hS hL (ok_cons (v := vI n) (okb_spec ho) hst))
theorem wq_ldc2 {ix : Nat} {n : Int} (hw : Cond.constantLong m.1.cls ix (Int64.ofInt n) ∈ t0_ws) (hd : dc m pc = some (.ldc2_w ix, 3)) (hq : pc + 3 = q) (ho : okb n = true) (k : WP E m X q ls (vJ n :: st) h r u) : WP E m X pc ls st h r u := by
  intro G p l e s mid args below meth c Q ad0 n0 hC hX ad H locs lsA hag hn hR hS hL hst
  subst hq
  exact lv_ldc2 hC.1 hC.2.1 hC.2.2.2.2.1 (hC.2.2.2.2.2.2.2.1 _ hw) (mdc hC hd) (k G p l e s mid args below meth c Q ad0 n0 hC hX ad H locs lsA hag hn hR hS hL (ok_cons (v := vJ n) (by have := okb_spec ho; unfold okI at this; show okJ n; unfold okJ; omega) hst))
theorem wq_lconst0 (hd : dc m pc = some (.lconst 0, 1)) (hq : pc + 1 = q) (k : WP E m X q ls (vJ 0 :: st) h r u) : WP E m X pc ls st h r u := by
  intro G p l e s mid args below meth c Q ad0 n0 hC hX ad H locs lsA hag hn hR hS hL hst
  subst hq
  exact lv_lconst hC.1 hC.2.1 (mdc hC hd) (v := Int64.ofInt 0) (by decide) (k G p l e s mid args below meth c Q ad0 n0 hC hX ad H locs lsA hag hn hR hS hL (ok_cons (v := vJ 0) (by show okJ 0; unfold okJ; omega) hst))
theorem wq_iload_n {kk : Fin 4} {x : Int} (hd : dc m pc = some (.iload_n kk, 1)) (hq : pc + 1 = q) (hl : ls[(kk : Nat)]? = some (some (vI x))) (k : WP E m X q ls (vI x :: st) h r u) : WP E m X pc ls st h r u := by
  intro G p l e s mid args below meth c Q ad0 n0 hC hX ad H locs lsA hag hn hR hS hL hst
  subst hq
  have z := hL.2.2.2 _ _ hl
  exact lv_iload_n hC.1 hC.2.1 (mdc hC hd) rfl z.1 (k G p l e s mid args below meth c Q ad0 n0 hC hX ad H locs lsA hag hn hR hS hL (ok_cons z.2 hst))
theorem wq_iload {i : Nat} {x : Int} (hd : dc m pc = some (.iload i, 2)) (hq : pc + 2 = q) (hl : ls[i]? = some (some (vI x))) (k : WP E m X q ls (vI x :: st) h r u) : WP E m X pc ls st h r u := by
  intro G p l e s mid args below meth c Q ad0 n0 hC hX ad H locs lsA hag hn hR hS hL hst
  subst hq
  have z := hL.2.2.2 _ _ hl
  exact lv_iload hC.1 hC.2.1 (mdc hC hd) z.1 (k G p l e s mid args below meth c Q ad0 n0 hC hX ad H locs lsA hag hn hR hS hL (ok_cons z.2 hst))
theorem wq_istore_n {kk : Fin 4} {x : Int} (hd : dc m pc = some (.istore_n kk, 1)) (hq : pc + 1 = q) (hi : (kk : Nat) < m.2.2.1) (hp : pvOK ls (kk : Nat) = true) (k : WP E m X q (ls.set (kk : Nat) (some (vI x))) st h r u) : WP E m X pc ls (vI x :: st) h r u := by
  intro G p l e s mid args below meth c Q ad0 n0 hC hX ad H locs lsA hag hn hR hS hL hst
  subst hq
  refine lv_istore_n hC.1 hC.2.1 (mdc hC hd) rfl hL.has hi rfl (fun ls1 hl1 => ?_)
  exact k G p l e s mid args below meth c Q ad0 n0 hC hX ad H locs ls1 hag hn hR hS (hL.st1 (ok_hd hst) hp hl1) (ok_tl hst)
theorem wq_istore {i : Nat} {x : Int} (hd : dc m pc = some (.istore i, 2)) (hq : pc + 2 = q) (hi : i < m.2.2.1) (hp : pvOK ls i = true) (k : WP E m X q (ls.set i (some (vI x))) st h r u) : WP E m X pc ls (vI x :: st) h r u := by
  intro G p l e s mid args below meth c Q ad0 n0 hC hX ad H locs lsA hag hn hR hS hL hst
  subst hq
  refine lv_istore hC.1 hC.2.1 (mdc hC hd) hL.has hi rfl (fun ls1 hl1 => ?_)
  exact k G p l e s mid args below meth c Q ad0 n0 hC hX ad H locs ls1 hag hn hR hS (hL.st1 (ok_hd hst) hp hl1) (ok_tl hst)
theorem wq_lload_n {kk : Fin 4} {x : Int} (hd : dc m pc = some (.lload_n kk, 1)) (hq : pc + 1 = q) (hl : ls[(kk : Nat)]? = some (some (vJ x))) (k : WP E m X q ls (vJ x :: st) h r u) : WP E m X pc ls st h r u := by
  intro G p l e s mid args below meth c Q ad0 n0 hC hX ad H locs lsA hag hn hR hS hL hst
  subst hq
  have z := hL.2.2.2 _ _ hl
  exact lv_lload_n hC.1 hC.2.1 (mdc hC hd) rfl z.1 (k G p l e s mid args below meth c Q ad0 n0 hC hX ad H locs lsA hag hn hR hS hL (ok_cons z.2 hst))
theorem wq_lload {i : Nat} {x : Int} (hd : dc m pc = some (.lload i, 2)) (hq : pc + 2 = q) (hl : ls[i]? = some (some (vJ x))) (k : WP E m X q ls (vJ x :: st) h r u) : WP E m X pc ls st h r u := by
  intro G p l e s mid args below meth c Q ad0 n0 hC hX ad H locs lsA hag hn hR hS hL hst
  subst hq
  have z := hL.2.2.2 _ _ hl
  exact lv_lload hC.1 hC.2.1 (mdc hC hd) z.1 (k G p l e s mid args below meth c Q ad0 n0 hC hX ad H locs lsA hag hn hR hS hL (ok_cons z.2 hst))
theorem wq_lstore_n {kk : Fin 4} {x : Int} (hd : dc m pc = some (.lstore_n kk, 1)) (hq : pc + 1 = q) (hi : (kk : Nat) + 1 < m.2.2.1) (hp : pvOK ls (kk : Nat) = true) (k : WP E m X q ((ls.set (kk : Nat) (some (vJ x))).set ((kk : Nat) + 1) none) st h r u) : WP E m X pc ls (vJ x :: st) h r u := by
  intro G p l e s mid args below meth c Q ad0 n0 hC hX ad H locs lsA hag hn hR hS hL hst
  subst hq
  refine lv_lstore_n hC.1 hC.2.1 (mdc hC hd) rfl hL.has hi rfl (fun ls1 hl1 => ?_)
  exact k G p l e s mid args below meth c Q ad0 n0 hC hX ad H locs ls1 hag hn hR hS (hL.st2 (ok_hd hst) hp hl1) (ok_tl hst)
theorem wq_lstore {i : Nat} {x : Int} (hd : dc m pc = some (.lstore i, 2)) (hq : pc + 2 = q) (hi : i + 1 < m.2.2.1) (hp : pvOK ls i = true) (k : WP E m X q ((ls.set i (some (vJ x))).set (i + 1) none) st h r u) : WP E m X pc ls (vJ x :: st) h r u := by
  intro G p l e s mid args below meth c Q ad0 n0 hC hX ad H locs lsA hag hn hR hS hL hst
  subst hq
  refine lv_lstore hC.1 hC.2.1 (mdc hC hd) hL.has hi rfl (fun ls1 hl1 => ?_)
  exact k G p l e s mid args below meth c Q ad0 n0 hC hX ad H locs ls1 hag hn hR hS (hL.st2 (ok_hd hst) hp hl1) (ok_tl hst)
theorem wq_aload_n {kk : Fin 4} {x : Nat} (hd : dc m pc = some (.aload_n kk, 1)) (hq : pc + 1 = q) (hl : ls[(kk : Nat)]? = some (some (vR x))) (k : WP E m X q ls (vR x :: st) h r u) : WP E m X pc ls st h r u := by
  intro G p l e s mid args below meth c Q ad0 n0 hC hX ad H locs lsA hag hn hR hS hL hst
  subst hq
  have z := hL.2.2.2 _ _ hl
  exact lv_aload_n hC.1 hC.2.1 (mdc hC hd) rfl z.1 (k G p l e s mid args below meth c Q ad0 n0 hC hX ad H locs lsA hag hn hR hS hL (ok_cons z.2 hst))
theorem wq_aload {i : Nat} {x : Nat} (hd : dc m pc = some (.aload i, 2)) (hq : pc + 2 = q) (hl : ls[i]? = some (some (vR x))) (k : WP E m X q ls (vR x :: st) h r u) : WP E m X pc ls st h r u := by
  intro G p l e s mid args below meth c Q ad0 n0 hC hX ad H locs lsA hag hn hR hS hL hst
  subst hq
  have z := hL.2.2.2 _ _ hl
  exact lv_aload hC.1 hC.2.1 (mdc hC hd) z.1 (k G p l e s mid args below meth c Q ad0 n0 hC hX ad H locs lsA hag hn hR hS hL (ok_cons z.2 hst))
theorem wq_astore_n {kk : Fin 4} {x : Nat} (hd : dc m pc = some (.astore_n kk, 1)) (hq : pc + 1 = q) (hi : (kk : Nat) < m.2.2.1) (hp : pvOK ls (kk : Nat) = true) (k : WP E m X q (ls.set (kk : Nat) (some (vR x))) st h r u) : WP E m X pc ls (vR x :: st) h r u := by
  intro G p l e s mid args below meth c Q ad0 n0 hC hX ad H locs lsA hag hn hR hS hL hst
  subst hq
  refine lv_astore_n hC.1 hC.2.1 (mdc hC hd) rfl hL.has hi rfl (fun ls1 hl1 => ?_)
  exact k G p l e s mid args below meth c Q ad0 n0 hC hX ad H locs ls1 hag hn hR hS (hL.st1 (ok_hd hst) hp hl1) (ok_tl hst)
theorem wq_astore {i : Nat} {x : Nat} (hd : dc m pc = some (.astore i, 2)) (hq : pc + 2 = q) (hi : i < m.2.2.1) (hp : pvOK ls i = true) (k : WP E m X q (ls.set i (some (vR x))) st h r u) : WP E m X pc ls (vR x :: st) h r u := by
  intro G p l e s mid args below meth c Q ad0 n0 hC hX ad H locs lsA hag hn hR hS hL hst
  subst hq
  refine lv_astore hC.1 hC.2.1 (mdc hC hd) hL.has hi rfl (fun ls1 hl1 => ?_)
  exact k G p l e s mid args below meth c Q ad0 n0 hC hX ad H locs ls1 hag hn hR hS (hL.st1 (ok_hd hst) hp hl1) (ok_tl hst)
theorem wq_iinc {i : Nat} {n x : Int} (hd : dc m pc = some (.iinc i n, 3)) (hq : pc + 3 = q) (hl : ls[i]? = some (some (vI x))) (hi : i < m.2.2.1) (hp : pvOK ls i = true) (h1 : -2147483648 ≤ x + n) (h2 : x + n ≤ 2147483647) (k : WP E m X q (ls.set i (some (vI (x + n)))) st h r u) : WP E m X pc ls st h r u := by
  intro G p l e s mid args below meth c Q ad0 n0 hC hX ad H locs lsA hag hn hR hS hL hst
  subst hq
  have z := hL.2.2.2 _ _ hl
  have hm := lvl_of (ad := ad) hl
  obtain ⟨kk, hk⟩ := List.getElem?_of_mem hm
  have he : Int32.ofInt x + Int32.ofInt n = Int32.ofInt (x + n) := (Int32.ofInt_add x n).symm
  refine lv_iinc hC.1 hC.2.1 (mdc hC hd) hL.has hk he hi rfl (fun ls1 hl1 => ?_)
  exact k G p l e s mid args below meth c Q ad0 n0 hC hX ad H locs ls1 hag hn hR hS (hL.st1 (v := vI (x + n)) ⟨h1, h2⟩ hp hl1) hst
theorem wq_iadd {x y : Int} (hd : dc m pc = some (.iadd, 1)) (hq : pc + 1 = q) (h1 : -2147483648 ≤ x + y) (h2 : x + y ≤ 2147483647) (k : WP E m X q ls (vI (x + y) :: st) h r u) : WP E m X pc ls (vI y :: vI x :: st) h r u := by
  intro G p l e s mid args below meth c Q ad0 n0 hC hX ad H locs lsA hag hn hR hS hL hst
  subst hq
  refine lv_iadd hC.1 hC.2.1 (mdc hC hd) ?_
  rw [← Int32.ofInt_add]
  exact k G p l e s mid args below meth c Q ad0 n0 hC hX ad H locs lsA hag hn hR hS hL (ok_cons (v := vI (x + y)) ⟨h1, h2⟩ (ok_tl (ok_tl hst)))
theorem wq_iaddw {x y : Int} (hd : dc m pc = some (.iadd, 1)) (hq : pc + 1 = q) (k : WP E m X q ls (vI (wr (x + y)) :: st) h r u) : WP E m X pc ls (vI y :: vI x :: st) h r u := by
  intro G p l e s mid args below meth c Q ad0 n0 hC hX ad H locs lsA hag hn hR hS hL hst
  subst hq
  refine lv_iadd hC.1 hC.2.1 (mdc hC hd) ?_
  rw [← Int32.ofInt_add, ← wr_of]
  exact k G p l e s mid args below meth c Q ad0 n0 hC hX ad H locs lsA hag hn hR hS hL (ok_cons (v := vI (wr (x + y))) (wr_ok _) (ok_tl (ok_tl hst)))
theorem wq_isub {x y : Int} (hd : dc m pc = some (.isub, 1)) (hq : pc + 1 = q) (h1 : -2147483648 ≤ x - y) (h2 : x - y ≤ 2147483647) (k : WP E m X q ls (vI (x - y) :: st) h r u) : WP E m X pc ls (vI y :: vI x :: st) h r u := by
  intro G p l e s mid args below meth c Q ad0 n0 hC hX ad H locs lsA hag hn hR hS hL hst
  subst hq
  refine lv_isub hC.1 hC.2.1 (mdc hC hd) ?_
  rw [← Int32.ofInt_sub]
  exact k G p l e s mid args below meth c Q ad0 n0 hC hX ad H locs lsA hag hn hR hS hL (ok_cons (v := vI (x - y)) ⟨h1, h2⟩ (ok_tl (ok_tl hst)))
theorem wq_isubw {x y : Int} (hd : dc m pc = some (.isub, 1)) (hq : pc + 1 = q) (k : WP E m X q ls (vI (wr (x - y)) :: st) h r u) : WP E m X pc ls (vI y :: vI x :: st) h r u := by
  intro G p l e s mid args below meth c Q ad0 n0 hC hX ad H locs lsA hag hn hR hS hL hst
  subst hq
  refine lv_isub hC.1 hC.2.1 (mdc hC hd) ?_
  rw [← Int32.ofInt_sub, ← wr_of]
  exact k G p l e s mid args below meth c Q ad0 n0 hC hX ad H locs lsA hag hn hR hS hL (ok_cons (v := vI (wr (x - y))) (wr_ok _) (ok_tl (ok_tl hst)))
theorem wq_imul {x y : Int} (hd : dc m pc = some (.imul, 1)) (hq : pc + 1 = q) (h1 : -2147483648 ≤ x * y) (h2 : x * y ≤ 2147483647) (k : WP E m X q ls (vI (x * y) :: st) h r u) : WP E m X pc ls (vI y :: vI x :: st) h r u := by
  intro G p l e s mid args below meth c Q ad0 n0 hC hX ad H locs lsA hag hn hR hS hL hst
  subst hq
  refine lv_imul hC.1 hC.2.1 (mdc hC hd) ?_
  rw [← Int32.ofInt_mul]
  exact k G p l e s mid args below meth c Q ad0 n0 hC hX ad H locs lsA hag hn hR hS hL (ok_cons (v := vI (x * y)) ⟨h1, h2⟩ (ok_tl (ok_tl hst)))
theorem wq_imulw {x y : Int} (hd : dc m pc = some (.imul, 1)) (hq : pc + 1 = q) (k : WP E m X q ls (vI (wr (x * y)) :: st) h r u) : WP E m X pc ls (vI y :: vI x :: st) h r u := by
  intro G p l e s mid args below meth c Q ad0 n0 hC hX ad H locs lsA hag hn hR hS hL hst
  subst hq
  refine lv_imul hC.1 hC.2.1 (mdc hC hd) ?_
  rw [← Int32.ofInt_mul, ← wr_of]
  exact k G p l e s mid args below meth c Q ad0 n0 hC hX ad H locs lsA hag hn hR hS hL (ok_cons (v := vI (wr (x * y))) (wr_ok _) (ok_tl (ok_tl hst)))
theorem wq_iand {x y : Int} (hd : dc m pc = some (.iand, 1)) (hq : pc + 1 = q) (k : WP E m X q ls (vI (Int32.ofInt x &&& Int32.ofInt y).toInt :: st) h r u) : WP E m X pc ls (vI y :: vI x :: st) h r u := by
  intro G p l e s mid args below meth c Q ad0 n0 hC hX ad H locs lsA hag hn hR hS hL hst
  subst hq
  refine lv_iand hC.1 hC.2.1 (mdc hC hd) ?_
  have kk := k G p l e s mid args below meth c Q ad0 n0 hC hX ad H locs lsA hag hn hR hS hL (ok_cons (v := vI (Int32.ofInt x &&& Int32.ofInt y).toInt) (oi_of _) (ok_tl (ok_tl hst)))
  simp only [List.map_cons, toV, oi_rt] at kk
  exact kk
theorem wq_ior {x y : Int} (hd : dc m pc = some (.ior, 1)) (hq : pc + 1 = q) (k : WP E m X q ls (vI (Int32.ofInt x ||| Int32.ofInt y).toInt :: st) h r u) : WP E m X pc ls (vI y :: vI x :: st) h r u := by
  intro G p l e s mid args below meth c Q ad0 n0 hC hX ad H locs lsA hag hn hR hS hL hst
  subst hq
  refine lv_ior hC.1 hC.2.1 (mdc hC hd) ?_
  have kk := k G p l e s mid args below meth c Q ad0 n0 hC hX ad H locs lsA hag hn hR hS hL (ok_cons (v := vI (Int32.ofInt x ||| Int32.ofInt y).toInt) (oi_of _) (ok_tl (ok_tl hst)))
  simp only [List.map_cons, toV, oi_rt] at kk
  exact kk
theorem wq_ishl {x y : Int} (hd : dc m pc = some (.ishl, 1)) (hq : pc + 1 = q) (k : WP E m X q ls (vI (Int32.ofInt x <<< (Int32.ofInt y &&& 31)).toInt :: st) h r u) : WP E m X pc ls (vI y :: vI x :: st) h r u := by
  intro G p l e s mid args below meth c Q ad0 n0 hC hX ad H locs lsA hag hn hR hS hL hst
  subst hq
  refine lv_ishl hC.1 hC.2.1 (mdc hC hd) ?_
  have kk := k G p l e s mid args below meth c Q ad0 n0 hC hX ad H locs lsA hag hn hR hS hL (ok_cons (v := vI (Int32.ofInt x <<< (Int32.ofInt y &&& 31)).toInt) (oi_of _) (ok_tl (ok_tl hst)))
  simp only [List.map_cons, toV, oi_rt] at kk
  exact kk
theorem wq_ishr {x y : Int} (hd : dc m pc = some (.ishr, 1)) (hq : pc + 1 = q) (k : WP E m X q ls (vI (Int32.ofInt x >>> (Int32.ofInt y &&& 31)).toInt :: st) h r u) : WP E m X pc ls (vI y :: vI x :: st) h r u := by
  intro G p l e s mid args below meth c Q ad0 n0 hC hX ad H locs lsA hag hn hR hS hL hst
  subst hq
  refine lv_ishr hC.1 hC.2.1 (mdc hC hd) ?_
  have kk := k G p l e s mid args below meth c Q ad0 n0 hC hX ad H locs lsA hag hn hR hS hL (ok_cons (v := vI (Int32.ofInt x >>> (Int32.ofInt y &&& 31)).toInt) (oi_of _) (ok_tl (ok_tl hst)))
  simp only [List.map_cons, toV, oi_rt] at kk
  exact kk
theorem wq_idiv {x y : Int} (hd : dc m pc = some (.idiv, 1)) (hq : pc + 1 = q) (hy : ¬ y = 0) (k : WP E m X q ls (vI (Int32.ofInt x / Int32.ofInt y).toInt :: st) h r u) : WP E m X pc ls (vI y :: vI x :: st) h r u := by
  intro G p l e s mid args below meth c Q ad0 n0 hC hX ad H locs lsA hag hn hR hS hL hst
  subst hq
  refine lv_idiv hC.1 hC.2.1 (mdc hC hd) (fun z => hy ((oi_eq (ok_hd hst) oi_0).mp (z.trans oi_zero))) ?_
  have kk := k G p l e s mid args below meth c Q ad0 n0 hC hX ad H locs lsA hag hn hR hS hL (ok_cons (v := vI (Int32.ofInt x / Int32.ofInt y).toInt) (oi_of _) (ok_tl (ok_tl hst)))
  simp only [List.map_cons, toV, oi_rt] at kk
  exact kk
theorem wq_i2b {x : Int} (hd : dc m pc = some (.i2b, 1)) (hq : pc + 1 = q) (k : WP E m X q ls (vI ((Int32.ofInt x).toInt8.toInt32).toInt :: st) h r u) : WP E m X pc ls (vI x :: st) h r u := by
  intro G p l e s mid args below meth c Q ad0 n0 hC hX ad H locs lsA hag hn hR hS hL hst
  subst hq
  refine lv_i2b hC.1 hC.2.1 (mdc hC hd) rfl ?_
  have kk := k G p l e s mid args below meth c Q ad0 n0 hC hX ad H locs lsA hag hn hR hS hL (ok_cons (v := vI ((Int32.ofInt x).toInt8.toInt32).toInt) (oi_of _) (ok_tl hst))
  simp only [List.map_cons, toV, oi_rt] at kk
  exact kk
theorem wq_i2l {x : Int} (hd : dc m pc = some (.i2l, 1)) (hq : pc + 1 = q) (k : WP E m X q ls (vJ x :: st) h r u) : WP E m X pc ls (vI x :: st) h r u := by
  intro G p l e s mid args below meth c Q ad0 n0 hC hX ad H locs lsA hag hn hR hS hL hst
  subst hq
  have hx : okI x := ok_hd hst
  have hj : okJ x := by unfold okI at hx; unfold okJ; omega
  refine lv_i2l hC.1 hC.2.1 (mdc hC hd) (v := Int64.ofInt x) (by rw [← Int64.toInt_inj, Int32.toInt_toInt64, oi_toInt hx, oj_toInt hj]) ?_
  exact k G p l e s mid args below meth c Q ad0 n0 hC hX ad H locs lsA hag hn hR hS hL (ok_cons (v := vJ x) hj (ok_tl hst))
theorem wq_ladd {x y : Int} (hd : dc m pc = some (.ladd, 1)) (hq : pc + 1 = q) (h1 : -9223372036854775808 ≤ x + y) (h2 : x + y ≤ 9223372036854775807) (k : WP E m X q ls (vJ (x + y) :: st) h r u) : WP E m X pc ls (vJ y :: vJ x :: st) h r u := by
  intro G p l e s mid args below meth c Q ad0 n0 hC hX ad H locs lsA hag hn hR hS hL hst
  subst hq
  refine lv_ladd hC.1 hC.2.1 (mdc hC hd) ?_
  rw [← Int64.ofInt_add]
  exact k G p l e s mid args below meth c Q ad0 n0 hC hX ad H locs lsA hag hn hR hS hL (ok_cons (v := vJ (x + y)) ⟨h1, h2⟩ (ok_tl (ok_tl hst)))
theorem wq_lsub {x y : Int} (hd : dc m pc = some (.lsub, 1)) (hq : pc + 1 = q) (h1 : -9223372036854775808 ≤ x - y) (h2 : x - y ≤ 9223372036854775807) (k : WP E m X q ls (vJ (x - y) :: st) h r u) : WP E m X pc ls (vJ y :: vJ x :: st) h r u := by
  intro G p l e s mid args below meth c Q ad0 n0 hC hX ad H locs lsA hag hn hR hS hL hst
  subst hq
  refine lv_lsub hC.1 hC.2.1 (mdc hC hd) ?_
  rw [← Int64.ofInt_sub]
  exact k G p l e s mid args below meth c Q ad0 n0 hC hX ad H locs lsA hag hn hR hS hL (ok_cons (v := vJ (x - y)) ⟨h1, h2⟩ (ok_tl (ok_tl hst)))
theorem wq_lmul {x y : Int} (hd : dc m pc = some (.lmul, 1)) (hq : pc + 1 = q) (h1 : -9223372036854775808 ≤ x * y) (h2 : x * y ≤ 9223372036854775807) (k : WP E m X q ls (vJ (x * y) :: st) h r u) : WP E m X pc ls (vJ y :: vJ x :: st) h r u := by
  intro G p l e s mid args below meth c Q ad0 n0 hC hX ad H locs lsA hag hn hR hS hL hst
  subst hq
  refine lv_lmul hC.1 hC.2.1 (mdc hC hd) ?_
  rw [← Int64.ofInt_mul]
  exact k G p l e s mid args below meth c Q ad0 n0 hC hX ad H locs lsA hag hn hR hS hL (ok_cons (v := vJ (x * y)) ⟨h1, h2⟩ (ok_tl (ok_tl hst)))
theorem wq_lcmp {x y : Int} (hd : dc m pc = some (.lcmp, 1)) (hq : pc + 1 = q) (k : WP E m X q ls (vI (if y < x then 1 else if x = y then 0 else -1) :: st) h r u) : WP E m X pc ls (vJ y :: vJ x :: st) h r u := by
  intro G p l e s mid args below meth c Q ad0 n0 hC hX ad H locs lsA hag hn hR hS hL hst
  subst hq
  have hy : okJ y := ok_hd hst
  have hx : okJ x := ok_hd (ok_tl hst)
  refine W.lcmp hC.1 hC.2.1 (mdc hC hd) ?_
  have he : lg_cmp (Int64.ofInt x) (Int64.ofInt y) = Int32.ofInt (if y < x then 1 else if x = y then 0 else -1) := by
    unfold lg_cmp
    simp only [gt_iff_lt, Int64.lt_iff_toInt_lt, ← Int64.toInt_inj, oj_toInt hx, oj_toInt hy]
    split
    · rfl
    · split <;> rfl
  rw [he]
  exact k G p l e s mid args below meth c Q ad0 n0 hC hX ad H locs lsA hag hn hR hS hL (ok_cons (v := vI (if y < x then 1 else if x = y then 0 else -1)) (by show okI _; unfold okI; split; omega; split <;> omega) (ok_tl (ok_tl hst)))
theorem wq_dup {v : mV} (hd : dc m pc = some (.dup, 1)) (hq : pc + 1 = q) (hv : (match v with | .inr (.inl _) => false | _ => true) = true) (k : WP E m X q ls (v :: v :: st) h r u) : WP E m X pc ls (v :: st) h r u := by
  intro G p l e s mid args below meth c Q ad0 n0 hC hX ad H locs lsA hag hn hR hS hL hst
  subst hq
  refine lv_dup hC.1 hC.2.1 (mdc hC hd) (by rw [cat_toV]; rcases v with x | x | x <;> first | rfl | simp at hv) ?_
  exact k G p l e s mid args below meth c Q ad0 n0 hC hX ad H locs lsA hag hn hR hS hL (ok_cons (ok_hd hst) hst)
theorem wq_pop {v : mV} (hd : dc m pc = some (.pop, 1)) (hq : pc + 1 = q) (hv : (match v with | .inr (.inl _) => false | _ => true) = true) (k : WP E m X q ls st h r u) : WP E m X pc ls (v :: st) h r u := by
  intro G p l e s mid args below meth c Q ad0 n0 hC hX ad H locs lsA hag hn hR hS hL hst
  subst hq
  refine lv_pop hC.1 hC.2.1 (mdc hC hd) (by rw [cat_toV]; rcases v with x | x | x <;> first | rfl | simp at hv) ?_
  exact k G p l e s mid args below meth c Q ad0 n0 hC hX ad H locs lsA hag hn hR hS hL (ok_tl hst)
theorem wq_dup2 {v w : mV} (hd : dc m pc = some (.dup2, 1)) (hq : pc + 1 = q) (hv : (match v with | .inr (.inl _) => false | _ => true) = true) (hw : (match w with | .inr (.inl _) => false | _ => true) = true) (k : WP E m X q ls (v :: w :: v :: w :: st) h r u) : WP E m X pc ls (v :: w :: st) h r u := by
  intro G p l e s mid args below meth c Q ad0 n0 hC hX ad H locs lsA hag hn hR hS hL hst
  subst hq
  refine lv_dup2_11 hC.1 hC.2.1 (mdc hC hd) (by rw [cat_toV]; rcases v with x | x | x <;> first | rfl | simp at hv) (by rw [cat_toV]; rcases w with x | x | x <;> first | rfl | simp at hw) ?_
  exact k G p l e s mid args below meth c Q ad0 n0 hC hX ad H locs lsA hag hn hR hS hL (ok_cons (ok_hd hst) (ok_cons (ok_hd (ok_tl hst)) hst))
theorem wq_icmp_eq {x y : Int} {off : Int} {tgt : Nat} (hd : dc m pc = some (.if_icmp .eq off, 3)) (hq : pc + 3 = q) (ht : (pc : Int) + off = (tgt : Int)) (kt : x = y → WP E m X tgt ls st h r u) (kf : ¬ x = y → WP E m X q ls st h r u) : WP E m X pc ls (vI y :: vI x :: st) h r u := by
  intro G p l e s mid args below meth c Q ad0 n0 hC hX ad H locs lsA hag hn hR hS hL hst
  subst hq
  have hy : okI y := ok_hd hst
  have hx : okI x := ok_hd (ok_tl hst)
  exact lv_icmp_eq hC.1 hC.2.1 (mdc hC hd) ht (fun z => kt ((oi_eq hx hy).mp z) G p l e s mid args below meth c Q ad0 n0 hC hX ad H locs lsA hag hn hR hS hL (ok_tl (ok_tl hst))) (fun z => kf (fun w => z ((oi_eq hx hy).mpr w)) G p l e s mid args below meth c Q ad0 n0 hC hX ad H locs lsA hag hn hR hS hL (ok_tl (ok_tl hst)))
theorem wq_if_eq {x : Int} {off : Int} {tgt : Nat} (hd : dc m pc = some (.ifCond .eq off, 3)) (hq : pc + 3 = q) (ht : (pc : Int) + off = (tgt : Int)) (kt : x = 0 → WP E m X tgt ls st h r u) (kf : ¬ x = 0 → WP E m X q ls st h r u) : WP E m X pc ls (vI x :: st) h r u := by
  intro G p l e s mid args below meth c Q ad0 n0 hC hX ad H locs lsA hag hn hR hS hL hst
  subst hq
  have hx : okI x := ok_hd hst
  refine lv_if_eq hC.1 hC.2.1 (mdc hC hd) ht (fun z => ?_) (fun z => ?_)
  · rw [oi_zero] at z
    exact kt ((oi_eq hx oi_0).mp (z)) G p l e s mid args below meth c Q ad0 n0 hC hX ad H locs lsA hag hn hR hS hL (ok_tl hst)
  · rw [oi_zero] at z
    exact kf (fun w => z ((oi_eq hx oi_0).mpr w)) G p l e s mid args below meth c Q ad0 n0 hC hX ad H locs lsA hag hn hR hS hL (ok_tl hst)
theorem wq_icmp_ne {x y : Int} {off : Int} {tgt : Nat} (hd : dc m pc = some (.if_icmp .ne off, 3)) (hq : pc + 3 = q) (ht : (pc : Int) + off = (tgt : Int)) (kt : ¬ x = y → WP E m X tgt ls st h r u) (kf : x = y → WP E m X q ls st h r u) : WP E m X pc ls (vI y :: vI x :: st) h r u := by
  intro G p l e s mid args below meth c Q ad0 n0 hC hX ad H locs lsA hag hn hR hS hL hst
  subst hq
  have hy : okI y := ok_hd hst
  have hx : okI x := ok_hd (ok_tl hst)
  exact lv_icmp_ne hC.1 hC.2.1 (mdc hC hd) ht (fun z => kt (fun w => z ((oi_eq hx hy).mpr w)) G p l e s mid args below meth c Q ad0 n0 hC hX ad H locs lsA hag hn hR hS hL (ok_tl (ok_tl hst))) (fun z => kf ((oi_eq hx hy).mp z) G p l e s mid args below meth c Q ad0 n0 hC hX ad H locs lsA hag hn hR hS hL (ok_tl (ok_tl hst)))
theorem wq_if_ne {x : Int} {off : Int} {tgt : Nat} (hd : dc m pc = some (.ifCond .ne off, 3)) (hq : pc + 3 = q) (ht : (pc : Int) + off = (tgt : Int)) (kt : ¬ x = 0 → WP E m X tgt ls st h r u) (kf : x = 0 → WP E m X q ls st h r u) : WP E m X pc ls (vI x :: st) h r u := by
  intro G p l e s mid args below meth c Q ad0 n0 hC hX ad H locs lsA hag hn hR hS hL hst
  subst hq
  have hx : okI x := ok_hd hst
  refine lv_if_ne hC.1 hC.2.1 (mdc hC hd) ht (fun z => ?_) (fun z => ?_)
  · rw [oi_zero] at z
    exact kt (fun w => z ((oi_eq hx oi_0).mpr w)) G p l e s mid args below meth c Q ad0 n0 hC hX ad H locs lsA hag hn hR hS hL (ok_tl hst)
  · rw [oi_zero] at z
    exact kf ((oi_eq hx oi_0).mp (z)) G p l e s mid args below meth c Q ad0 n0 hC hX ad H locs lsA hag hn hR hS hL (ok_tl hst)
theorem wq_icmp_lt {x y : Int} {off : Int} {tgt : Nat} (hd : dc m pc = some (.if_icmp .lt off, 3)) (hq : pc + 3 = q) (ht : (pc : Int) + off = (tgt : Int)) (kt : x < y → WP E m X tgt ls st h r u) (kf : ¬ x < y → WP E m X q ls st h r u) : WP E m X pc ls (vI y :: vI x :: st) h r u := by
  intro G p l e s mid args below meth c Q ad0 n0 hC hX ad H locs lsA hag hn hR hS hL hst
  subst hq
  have hy : okI y := ok_hd hst
  have hx : okI x := ok_hd (ok_tl hst)
  exact lv_icmp_lt hC.1 hC.2.1 (mdc hC hd) ht (fun z => kt ((oi_lt hx hy).mp z) G p l e s mid args below meth c Q ad0 n0 hC hX ad H locs lsA hag hn hR hS hL (ok_tl (ok_tl hst))) (fun z => kf (fun w => z ((oi_lt hx hy).mpr w)) G p l e s mid args below meth c Q ad0 n0 hC hX ad H locs lsA hag hn hR hS hL (ok_tl (ok_tl hst)))
theorem wq_if_lt {x : Int} {off : Int} {tgt : Nat} (hd : dc m pc = some (.ifCond .lt off, 3)) (hq : pc + 3 = q) (ht : (pc : Int) + off = (tgt : Int)) (kt : x < 0 → WP E m X tgt ls st h r u) (kf : ¬ x < 0 → WP E m X q ls st h r u) : WP E m X pc ls (vI x :: st) h r u := by
  intro G p l e s mid args below meth c Q ad0 n0 hC hX ad H locs lsA hag hn hR hS hL hst
  subst hq
  have hx : okI x := ok_hd hst
  refine lv_if_lt hC.1 hC.2.1 (mdc hC hd) ht (fun z => ?_) (fun z => ?_)
  · rw [oi_zero] at z
    exact kt ((oi_lt hx oi_0).mp (z)) G p l e s mid args below meth c Q ad0 n0 hC hX ad H locs lsA hag hn hR hS hL (ok_tl hst)
  · rw [oi_zero] at z
    exact kf (fun w => z ((oi_lt hx oi_0).mpr w)) G p l e s mid args below meth c Q ad0 n0 hC hX ad H locs lsA hag hn hR hS hL (ok_tl hst)
theorem wq_icmp_ge {x y : Int} {off : Int} {tgt : Nat} (hd : dc m pc = some (.if_icmp .ge off, 3)) (hq : pc + 3 = q) (ht : (pc : Int) + off = (tgt : Int)) (kt : y ≤ x → WP E m X tgt ls st h r u) (kf : ¬ y ≤ x → WP E m X q ls st h r u) : WP E m X pc ls (vI y :: vI x :: st) h r u := by
  intro G p l e s mid args below meth c Q ad0 n0 hC hX ad H locs lsA hag hn hR hS hL hst
  subst hq
  have hy : okI y := ok_hd hst
  have hx : okI x := ok_hd (ok_tl hst)
  exact lv_icmp_ge hC.1 hC.2.1 (mdc hC hd) ht (fun z => kt ((oi_le hy hx).mp z) G p l e s mid args below meth c Q ad0 n0 hC hX ad H locs lsA hag hn hR hS hL (ok_tl (ok_tl hst))) (fun z => kf (fun w => z ((oi_le hy hx).mpr w)) G p l e s mid args below meth c Q ad0 n0 hC hX ad H locs lsA hag hn hR hS hL (ok_tl (ok_tl hst)))
theorem wq_if_ge {x : Int} {off : Int} {tgt : Nat} (hd : dc m pc = some (.ifCond .ge off, 3)) (hq : pc + 3 = q) (ht : (pc : Int) + off = (tgt : Int)) (kt : 0 ≤ x → WP E m X tgt ls st h r u) (kf : ¬ 0 ≤ x → WP E m X q ls st h r u) : WP E m X pc ls (vI x :: st) h r u := by
  intro G p l e s mid args below meth c Q ad0 n0 hC hX ad H locs lsA hag hn hR hS hL hst
  subst hq
  have hx : okI x := ok_hd hst
  refine lv_if_ge hC.1 hC.2.1 (mdc hC hd) ht (fun z => ?_) (fun z => ?_)
  · rw [oi_zero] at z
    exact kt ((oi_le oi_0 hx).mp (z)) G p l e s mid args below meth c Q ad0 n0 hC hX ad H locs lsA hag hn hR hS hL (ok_tl hst)
  · rw [oi_zero] at z
    exact kf (fun w => z ((oi_le oi_0 hx).mpr w)) G p l e s mid args below meth c Q ad0 n0 hC hX ad H locs lsA hag hn hR hS hL (ok_tl hst)
theorem wq_icmp_gt {x y : Int} {off : Int} {tgt : Nat} (hd : dc m pc = some (.if_icmp .gt off, 3)) (hq : pc + 3 = q) (ht : (pc : Int) + off = (tgt : Int)) (kt : y < x → WP E m X tgt ls st h r u) (kf : ¬ y < x → WP E m X q ls st h r u) : WP E m X pc ls (vI y :: vI x :: st) h r u := by
  intro G p l e s mid args below meth c Q ad0 n0 hC hX ad H locs lsA hag hn hR hS hL hst
  subst hq
  have hy : okI y := ok_hd hst
  have hx : okI x := ok_hd (ok_tl hst)
  exact lv_icmp_gt hC.1 hC.2.1 (mdc hC hd) ht (fun z => kt ((oi_lt hy hx).mp z) G p l e s mid args below meth c Q ad0 n0 hC hX ad H locs lsA hag hn hR hS hL (ok_tl (ok_tl hst))) (fun z => kf (fun w => z ((oi_lt hy hx).mpr w)) G p l e s mid args below meth c Q ad0 n0 hC hX ad H locs lsA hag hn hR hS hL (ok_tl (ok_tl hst)))
theorem wq_if_gt {x : Int} {off : Int} {tgt : Nat} (hd : dc m pc = some (.ifCond .gt off, 3)) (hq : pc + 3 = q) (ht : (pc : Int) + off = (tgt : Int)) (kt : 0 < x → WP E m X tgt ls st h r u) (kf : ¬ 0 < x → WP E m X q ls st h r u) : WP E m X pc ls (vI x :: st) h r u := by
  intro G p l e s mid args below meth c Q ad0 n0 hC hX ad H locs lsA hag hn hR hS hL hst
  subst hq
  have hx : okI x := ok_hd hst
  refine lv_if_gt hC.1 hC.2.1 (mdc hC hd) ht (fun z => ?_) (fun z => ?_)
  · rw [oi_zero] at z
    exact kt ((oi_lt oi_0 hx).mp (z)) G p l e s mid args below meth c Q ad0 n0 hC hX ad H locs lsA hag hn hR hS hL (ok_tl hst)
  · rw [oi_zero] at z
    exact kf (fun w => z ((oi_lt oi_0 hx).mpr w)) G p l e s mid args below meth c Q ad0 n0 hC hX ad H locs lsA hag hn hR hS hL (ok_tl hst)
theorem wq_icmp_le {x y : Int} {off : Int} {tgt : Nat} (hd : dc m pc = some (.if_icmp .le off, 3)) (hq : pc + 3 = q) (ht : (pc : Int) + off = (tgt : Int)) (kt : x ≤ y → WP E m X tgt ls st h r u) (kf : ¬ x ≤ y → WP E m X q ls st h r u) : WP E m X pc ls (vI y :: vI x :: st) h r u := by
  intro G p l e s mid args below meth c Q ad0 n0 hC hX ad H locs lsA hag hn hR hS hL hst
  subst hq
  have hy : okI y := ok_hd hst
  have hx : okI x := ok_hd (ok_tl hst)
  exact lv_icmp_le hC.1 hC.2.1 (mdc hC hd) ht (fun z => kt ((oi_le hx hy).mp z) G p l e s mid args below meth c Q ad0 n0 hC hX ad H locs lsA hag hn hR hS hL (ok_tl (ok_tl hst))) (fun z => kf (fun w => z ((oi_le hx hy).mpr w)) G p l e s mid args below meth c Q ad0 n0 hC hX ad H locs lsA hag hn hR hS hL (ok_tl (ok_tl hst)))
theorem wq_if_le {x : Int} {off : Int} {tgt : Nat} (hd : dc m pc = some (.ifCond .le off, 3)) (hq : pc + 3 = q) (ht : (pc : Int) + off = (tgt : Int)) (kt : x ≤ 0 → WP E m X tgt ls st h r u) (kf : ¬ x ≤ 0 → WP E m X q ls st h r u) : WP E m X pc ls (vI x :: st) h r u := by
  intro G p l e s mid args below meth c Q ad0 n0 hC hX ad H locs lsA hag hn hR hS hL hst
  subst hq
  have hx : okI x := ok_hd hst
  refine lv_if_le hC.1 hC.2.1 (mdc hC hd) ht (fun z => ?_) (fun z => ?_)
  · rw [oi_zero] at z
    exact kt ((oi_le hx oi_0).mp (z)) G p l e s mid args below meth c Q ad0 n0 hC hX ad H locs lsA hag hn hR hS hL (ok_tl hst)
  · rw [oi_zero] at z
    exact kf (fun w => z ((oi_le hx oi_0).mpr w)) G p l e s mid args below meth c Q ad0 n0 hC hX ad H locs lsA hag hn hR hS hL (ok_tl hst)
theorem wq_goto {off : Int} {tgt : Nat} (hd : dc m pc = some (.goto off, 3)) (ht : (pc : Int) + off = (tgt : Int)) (k : WP E m X tgt ls st h r u) : WP E m X pc ls st h r u := by
  intro G p l e s mid args below meth c Q ad0 n0 hC hX ad H locs lsA hag hn hR hS hL hst
  exact lv_goto hC.1 hC.2.1 (mdc hC hd) ht (k G p l e s mid args below meth c Q ad0 n0 hC hX ad H locs lsA hag hn hR hS hL hst)
theorem wq_tab {dflt lo hi : Int} {offs : Array Int} {len : Nat} {x : Int} (hd : dc m pc = some (.tableswitch dflt lo hi offs, len)) (kd : x < lo ∨ hi < x → ∃ tgt : Nat, (pc : Int) + dflt = (tgt : Int) ∧ WP E m X tgt ls st h r u) (ki : lo ≤ x → x ≤ hi → ∃ (off : Int) (tgt : Nat), offs[(x - lo).toNat]? = some off ∧ (pc : Int) + off = (tgt : Int) ∧ WP E m X tgt ls st h r u) : WP E m X pc ls (vI x :: st) h r u := by
  intro G p l e s mid args below meth c Q ad0 n0 hC hX ad H locs lsA hag hn hR hS hL hst
  have hx : okI x := ok_hd hst
  by_cases ho : x < lo ∨ hi < x
  · obtain ⟨tgt, ht, k⟩ := kd ho
    exact lv_tableOut hC.1 hC.2.1 (mdc hC hd) (by rw [oi_toInt hx]; exact ho) ht (k G p l e s mid args below meth c Q ad0 n0 hC hX ad H locs lsA hag hn hR hS hL (ok_tl hst))
  · obtain ⟨off, tgt, h1, ht, k⟩ := ki (by omega) (by omega)
    exact lv_tableIn hC.1 hC.2.1 (mdc hC hd) (by rw [oi_toInt hx]; omega) (by rw [oi_toInt hx]; omega) (by rw [oi_toInt hx]; exact h1) ht (k G p l e s mid args below meth c Q ad0 n0 hC hX ad H locs lsA hag hn hR hS hL (ok_tl hst))
end OPS
end
section
/-! the pure machine's rows for fields and arrays -/
def hup (h : mH) (i : Nat) (j v : Int) : mH := fun a b => if a = i ∧ b = j then v else h a b
def rup (r : mR) (i k : Nat) (v : Option Nat) : mR := (fun a b => if a = i ∧ b = k then v else r.1 a b, r.2)
def finCl (ci k : Nat) : Bool := match vwCl[ci]? with
  | some q => (q.2.1 k).2.2.2
  | none => true
theorem rfq_spec {r : mR} {i k t : Nat} (h : rfOK r) (hq : rfq i k = some t) : r.1 i k = some t := h.2 i k t hq
theorem rfOK.up {r : mR} {i k : Nat} {v : Option Nat} (h : rfOK r) (hq : rfq i k = none) : rfOK (rup r i k v) := by
  refine ⟨h.1, fun a b t hm => ?_⟩
  have hne : ¬ (a = i ∧ b = k) := by
    rintro ⟨rfl, rfl⟩
    rw [hq] at hm
    cases hm
  show (if a = i ∧ b = k then v else r.1 a b) = _
  rw [if_neg hne]
  exact h.2 a b t hm
theorem rOK.up {r : mR} {i k : Nat} {v : Option Nat} (h : rOK r) (hv : ∀ t, v = some t → t < r.2) : rOK (rup r i k v) := by
  intro a b t ht
  unfold rup at ht
  dsimp only at ht
  split at ht
  · exact hv t ht
  · exact h a b t ht
section MW
variable {G : mG} {ad : Nat → Nat} {h : mH} {r : mR} {i : Nat}
theorem mW_get (hi : i < r.2) : (mW G ad h r)[i]? = some (ad i, mCe G ad h r i) := by
  unfold mW
  rw [List.getElem?_map, List.getElem?_range hi]
  rfl
theorem hup_ne {a : Nat} {j v : Int} (hne : ¬ a = i) : hup h i j v a = h a := by
  funext b
  simp [hup, hne]
theorem mCe_hup {a : Nat} {j v : Int} (hne : ¬ a = i) : mCe G ad (hup h i j v) r a = mCe G ad h r a := by
  have e := hup_ne (h := h) (j := j) (v := v) hne
  unfold mCe mAv
  split
  · simp only [e]
  · have : mFv ad (hup h i j v) r a = mFv ad h r a := by
      funext ci k
      simp only [mFv, e]
    rw [this]
theorem mW_hup {j v : Int} (hi : i < r.2) : (mW G ad h r).set i (ad i, mCe G ad (hup h i j v) r i) = mW G ad (hup h i j v) r := by
  apply List.ext_getElem?
  intro a
  by_cases ha : a = i
  · subst ha
    rw [List.getElem?_set_self (by unfold mW; simpa using hi), mW_get hi]
  · rw [List.getElem?_set_ne (Ne.symm ha)]
    by_cases hb : a < r.2
    · rw [mW_get hb, mW_get hb, mCe_hup ha]
    · rw [List.getElem?_eq_none (by unfold mW; simpa using hb), List.getElem?_eq_none (by unfold mW; simpa using hb)]
theorem mCe_rup {a k : Nat} {v : Option Nat} (hne : ¬ a = i) : mCe G ad h (rup r i k v) a = mCe G ad h r a := by
  unfold mCe
  split
  · rfl
  · have : mFv ad h (rup r i k v) a = mFv ad h r a := by
      funext ci b
      simp only [mFv, rup, hne, false_and, if_false]
    rw [this]
theorem mW_rup {k : Nat} {v : Option Nat} (hi : i < r.2) : (mW G ad h r).set i (ad i, mCe G ad h (rup r i k v) i) = mW G ad h (rup r i k v) := by
  apply List.ext_getElem?
  intro a
  have hi' : i < (rup r i k v).2 := hi
  by_cases ha : a = i
  · subst ha
    rw [List.getElem?_set_self (by unfold mW; simpa using hi), mW_get hi']
  · rw [List.getElem?_set_ne (Ne.symm ha)]
    by_cases hb : a < r.2
    · have hb' : a < (rup r i k v).2 := hb
      rw [mW_get hb, mW_get hb', mCe_rup ha]
    · have hb' : ¬ a < (rup r i k v).2 := hb
      rw [List.getElem?_eq_none (by unfold mW; simpa using hb), List.getElem?_eq_none (by unfold mW; simpa using hb')]
theorem mCe_arr {ty : FieldType} {n : Nat} (hk : kd i = .inl (ty, n)) : mCe G ad h r i = .inl (G.2.1 ty, mAv h i ty n) := by
  unfold mCe
  rw [hk]
theorem mCe_obj {ci : Nat} (hk : kd i = .inr ci) : mCe G ad h r i = .inr (ci, (List.range (nfCl ci)).map (mFv ad h r i ci)) := by
  unfold mCe
  rw [hk]
theorem okH.int {j : Int} (hh : okH h) (hj : isJ i = false) : okI (h i j) := by
  have := hh i j
  rw [hj] at this
  exact this
theorem okH.up {j v : Int} (hh : okH h) (hv : if isJ i then okJ v else okI v) : okH (hup h i j v) := by
  intro a b
  unfold hup
  by_cases hab : a = i ∧ b = j
  · rw [if_pos hab, hab.1]
    exact hv
  · rw [if_neg hab]
    exact hh a b
theorem upd_hup {j v : Int} (h0 : 0 ≤ j) : upd (fun b : Nat => Int32.ofInt (h i b)) j.toNat (Int32.ofInt v) = fun b : Nat => Int32.ofInt (hup h i j v i b) := by
  funext b
  unfold upd hup
  by_cases hb : b = j.toNat
  · rw [if_pos hb, if_pos ⟨rfl, by omega⟩]
  · rw [if_neg hb, if_neg (by rintro ⟨-, e⟩; omega)]
theorem updL_hup {j v : Int} (h0 : 0 ≤ j) : vp_updL (fun b : Nat => Int64.ofInt (h i b)) j.toNat (Int64.ofInt v) = fun b : Nat => Int64.ofInt (hup h i j v i b) := by
  funext b
  unfold vp_updL hup
  by_cases hb : b = j.toNat
  · rw [if_pos hb, if_pos ⟨rfl, by omega⟩]
  · rw [if_neg hb, if_neg (by rintro ⟨-, e⟩; omega)]
end MW
def mIn (E : mE) (r : mR) (i : Nat) : Prop := (E.1 = true ∧ i < nIds) ∨ i < r.2
theorem mIn.lt {E : mE} {r : mR} {i : Nat} {G : mG} {ad : Nat → Nat} {h : mH} {H : Heap} (hi : mIn E r i) (hR : mRep G E.1 ad h r H) : i < r.2 := by
  rcases hi with ⟨he, hi⟩ | hi
  · exact Nat.lt_of_lt_of_le hi (hR.2.2.2.1 he).1
  · exact hi
section HP
variable {E : mE} {m : mM} {X : mX} {pc q : Nat} {ls : mL} {st : List mV} {h : mH} {r : mR} {u : mU}
theorem wq_iald {i n : Nat} {x : Int} (hk : kd i = .inl (.int, n)) (hi : mIn E r i) (hd : dc m pc = some (.iaload, 1)) (hq : pc + 1 = q) (h0 : 0 ≤ x) (h1 : x < n) (k : WP E m X q ls (vI (h i x) :: st) h r u) : WP E m X pc ls (vI x :: vR i :: st) h r u := by
  intro G p l e s mid args below meth c Q ad0 n0 hC hX ad H locs lsA hag hn hR hS hL hst
  subst hq
  have hx : okI x := ok_hd hst
  have hi' := hi.lt hR
  have hg : (mW G ad h r)[i]? = some (ad i, .inl (G.2.1 .int, n, .inl fun j => Int32.ofInt (h i j))) := by rw [mW_get hi', mCe_arr hk]; rfl
  refine va_iald hC.1 hC.2.1 hC.2.2.2.2.2.2.2.2.1.1 hR.1 i 0 hg rfl (oi_in hx h0 h1) (mdc hC hd) ?_
  rw [oi_clamp hx h0, Int.toNat_of_nonneg h0]
  exact k G p l e s mid args below meth c Q ad0 n0 hC hX ad H locs lsA hag hn hR hS hL (ok_cons (v := vI (h i x)) (hR.2.2.1.int (by simp only [isJ, hk])) (ok_tl (ok_tl hst)))
theorem wq_zald {i n : Nat} {x : Int} (hk : kd i = .inl (.boolean, n)) (hi : mIn E r i) (hd : dc m pc = some (.baload, 1)) (hq : pc + 1 = q) (h0 : 0 ≤ x) (h1 : x < n) (k : WP E m X q ls (vI (h i x) :: st) h r u) : WP E m X pc ls (vI x :: vR i :: st) h r u := by
  intro G p l e s mid args below meth c Q ad0 n0 hC hX ad H locs lsA hag hn hR hS hL hst
  subst hq
  have hx : okI x := ok_hd hst
  have hi' := hi.lt hR
  have hg : (mW G ad h r)[i]? = some (ad i, .inl (G.2.1 .boolean, n, .inl fun j => Int32.ofInt (h i j))) := by rw [mW_get hi', mCe_arr hk]; rfl
  refine va_zald hC.1 hC.2.1 hC.2.2.2.2.2.2.2.2.1.1 hR.1 i 2 hg rfl (oi_in hx h0 h1) (mdc hC hd) ?_
  rw [oi_clamp hx h0, Int.toNat_of_nonneg h0]
  exact k G p l e s mid args below meth c Q ad0 n0 hC hX ad H locs lsA hag hn hR hS hL (ok_cons (v := vI (h i x)) (hR.2.2.1.int (by simp only [isJ, hk])) (ok_tl (ok_tl hst)))
theorem wq_bald {i n : Nat} {x : Int} (hk : kd i = .inl (.byte, n)) (hi : mIn E r i) (hd : dc m pc = some (.baload, 1)) (hq : pc + 1 = q) (h0 : 0 ≤ x) (h1 : x < n) (k : WP E m X q ls (vI (h i x) :: st) h r u) : WP E m X pc ls (vI x :: vR i :: st) h r u := by
  intro G p l e s mid args below meth c Q ad0 n0 hC hX ad H locs lsA hag hn hR hS hL hst
  subst hq
  have hx : okI x := ok_hd hst
  have hi' := hi.lt hR
  have hg : (mW G ad h r)[i]? = some (ad i, .inl (G.2.1 .byte, n, .inl fun j => Int32.ofInt (h i j))) := by rw [mW_get hi', mCe_arr hk]; rfl
  refine va_bald hC.1 hC.2.1 hC.2.2.2.2.2.2.2.2.1.1 hR.1 i 1 hg rfl (oi_in hx h0 h1) (mdc hC hd) ?_
  rw [oi_clamp hx h0, Int.toNat_of_nonneg h0]
  exact k G p l e s mid args below meth c Q ad0 n0 hC hX ad H locs lsA hag hn hR hS hL (ok_cons (v := vI (h i x)) (hR.2.2.1.int (by simp only [isJ, hk])) (ok_tl (ok_tl hst)))
theorem wq_lald {i n : Nat} {x : Int} (hk : kd i = .inl (.long, n)) (hi : mIn E r i) (hd : dc m pc = some (.laload, 1)) (hq : pc + 1 = q) (h0 : 0 ≤ x) (h1 : x < n) (k : WP E m X q ls (vJ (h i x) :: st) h r u) : WP E m X pc ls (vI x :: vR i :: st) h r u := by
  intro G p l e s mid args below meth c Q ad0 n0 hC hX ad H locs lsA hag hn hR hS hL hst
  subst hq
  have hx : okI x := ok_hd hst
  have hi' := hi.lt hR
  have hg : (mW G ad h r)[i]? = some (ad i, .inl (G.2.1 .long, n, .inr (.inl fun j => Int64.ofInt (h i j)))) := by rw [mW_get hi', mCe_arr hk]; rfl
  refine va_lald hC.1 hC.2.1 hC.2.2.2.2.2.2.2.2.1.1 hR.1 i 3 hg rfl (oi_in hx h0 h1) (mdc hC hd) ?_
  rw [oi_clamp hx h0, Int.toNat_of_nonneg h0]
  exact k G p l e s mid args below meth c Q ad0 n0 hC hX ad H locs lsA hag hn hR hS hL (ok_cons (v := vJ (h i x)) (by have := hR.2.2.1 i x; simp only [isJ, hk, if_true] at this; exact this) (ok_tl (ok_tl hst)))
theorem mRep.up {G : mG} {g : Bool} {ad : Nat → Nat} {H H1 : Heap} {i : Nat} {j v : Int} (hR : mRep G g ad h r H) (hi : i < r.2) (hv : if isJ i then okJ v else okI v) (h1 : va_P G.1 vwCl ((mW G ad h r).set i (ad i, mCe G ad (hup h i j v) r i)) H1) (h2 : va_D (mA G) ((mW G ad h r).set i (ad i, mCe G ad (hup h i j v) r i))) : mRep G g ad (hup h i j v) r H1 := by
  rw [mW_hup hi] at h1 h2
  exact ⟨h1, h2, hR.2.2.1.up hv, hR.2.2.2⟩
theorem wq_iast {i n : Nat} {x v : Int} (hk : kd i = .inl (.int, n)) (hi : mIn E r i) (hd : dc m pc = some (.iastore, 1)) (hq : pc + 1 = q) (h0 : 0 ≤ x) (h1 : x < n) (k : WP E m X q ls st (hup h i x v) r u) : WP E m X pc ls (vI v :: vI x :: vR i :: st) h r u := by
  intro G p l e s mid args below meth c Q ad0 n0 hC hX ad H locs lsA hag hn hR hS hL hst
  subst hq
  have hv : okI v := ok_hd hst
  have hx : okI x := ok_hd (ok_tl hst)
  have hi' := hi.lt hR
  have hg : (mW G ad h r)[i]? = some (ad i, .inl (G.2.1 .int, n, .inl fun j => Int32.ofInt (h i j))) := by rw [mW_get hi', mCe_arr hk]; rfl
  refine va_iast hC.1 hC.2.1 hC.2.2.2.2.2.2.2.2.1.1 hR.1 hR.2.1 hS i 0 hg rfl (oi_in hx h0 h1) (mdc hC hd) (fun H1 locs1 a1 a2 a3 => ?_)
  have e1 : (.inl (G.2.1 .int, n, .inl (upd (fun j : Nat => Int32.ofInt (h i j)) (Int32.ofInt x).toNatClampNeg (Int32.ofInt v))) : va_E) = mCe G ad (hup h i x v) r i := by
    rw [mCe_arr hk, oi_clamp hx h0, upd_hup h0]; rfl
  rw [e1] at a1 a2
  exact k G p l e s mid args below meth c Q ad0 n0 hC hX ad H1 locs1 lsA hag hn (hR.up hi' (by simp only [isJ, hk]; exact hv) a1 a2) a3 hL (ok_tl (ok_tl (ok_tl hst)))
theorem wq_zast {i n : Nat} {x v : Int} (hk : kd i = .inl (.boolean, n)) (hi : mIn E r i) (hd : dc m pc = some (.bastore, 1)) (hq : pc + 1 = q) (h0 : 0 ≤ x) (h1 : x < n) (hz : v = 0 ∨ v = 1) (k : WP E m X q ls st (hup h i x v) r u) : WP E m X pc ls (vI v :: vI x :: vR i :: st) h r u := by
  intro G p l e s mid args below meth c Q ad0 n0 hC hX ad H locs lsA hag hn hR hS hL hst
  subst hq
  have hv : okI v := ok_hd hst
  have hx : okI x := ok_hd (ok_tl hst)
  have hi' := hi.lt hR
  have hg : (mW G ad h r)[i]? = some (ad i, .inl (G.2.1 .boolean, n, .inl fun j => Int32.ofInt (h i j))) := by rw [mW_get hi', mCe_arr hk]; rfl
  refine va_zast hC.1 hC.2.1 hC.2.2.2.2.2.2.2.2.1.1 hR.1 hR.2.1 hS i 2 hg rfl (oi_in hx h0 h1) (mdc hC hd) (fun H1 locs1 a1 a2 a3 => ?_)
  have e0 : vp_nar .boolean (Int32.ofInt v) = Int32.ofInt v := by rcases hz with rfl | rfl <;> decide
  have e1 : (.inl (G.2.1 .boolean, n, .inl (upd (fun j : Nat => Int32.ofInt (h i j)) (Int32.ofInt x).toNatClampNeg (vp_nar .boolean (Int32.ofInt v)))) : va_E) = mCe G ad (hup h i x v) r i := by
    rw [mCe_arr hk, oi_clamp hx h0, e0, upd_hup h0]; rfl
  rw [e1] at a1 a2
  exact k G p l e s mid args below meth c Q ad0 n0 hC hX ad H1 locs1 lsA hag hn (hR.up hi' (by simp only [isJ, hk]; exact hv) a1 a2) a3 hL (ok_tl (ok_tl (ok_tl hst)))
theorem wq_bast {i n : Nat} {x v : Int} (hk : kd i = .inl (.byte, n)) (hi : mIn E r i) (hd : dc m pc = some (.bastore, 1)) (hq : pc + 1 = q) (h0 : 0 ≤ x) (h1 : x < n) (hz : -128 ≤ v ∧ v ≤ 127) (k : WP E m X q ls st (hup h i x v) r u) : WP E m X pc ls (vI v :: vI x :: vR i :: st) h r u := by
  intro G p l e s mid args below meth c Q ad0 n0 hC hX ad H locs lsA hag hn hR hS hL hst
  subst hq
  have hv : okI v := ok_hd hst
  have hx : okI x := ok_hd (ok_tl hst)
  have hi' := hi.lt hR
  have hg : (mW G ad h r)[i]? = some (ad i, .inl (G.2.1 .byte, n, .inl fun j => Int32.ofInt (h i j))) := by rw [mW_get hi', mCe_arr hk]; rfl
  refine va_bast hC.1 hC.2.1 hC.2.2.2.2.2.2.2.2.1.1 hR.1 hR.2.1 hS i 1 hg rfl (oi_in hx h0 h1) (mdc hC hd) (fun H1 locs1 a1 a2 a3 => ?_)
  have e0 : vp_nar .byte (Int32.ofInt v) = Int32.ofInt v := by
    rw [vp_nar_byte, ← Int32.toInt_inj, Int8.toInt_toInt32, Int32.toInt_toInt8, oi_toInt hv]
    rw [Int.bmod_eq_of_le] <;> omega
  have e1 : (.inl (G.2.1 .byte, n, .inl (upd (fun j : Nat => Int32.ofInt (h i j)) (Int32.ofInt x).toNatClampNeg (vp_nar .byte (Int32.ofInt v)))) : va_E) = mCe G ad (hup h i x v) r i := by
    rw [mCe_arr hk, oi_clamp hx h0, e0, upd_hup h0]; rfl
  rw [e1] at a1 a2
  exact k G p l e s mid args below meth c Q ad0 n0 hC hX ad H1 locs1 lsA hag hn (hR.up hi' (by simp only [isJ, hk]; exact hv) a1 a2) a3 hL (ok_tl (ok_tl (ok_tl hst)))
theorem wq_last {i n : Nat} {x v : Int} (hk : kd i = .inl (.long, n)) (hi : mIn E r i) (hd : dc m pc = some (.lastore, 1)) (hq : pc + 1 = q) (h0 : 0 ≤ x) (h1 : x < n) (k : WP E m X q ls st (hup h i x v) r u) : WP E m X pc ls (vJ v :: vI x :: vR i :: st) h r u := by
  intro G p l e s mid args below meth c Q ad0 n0 hC hX ad H locs lsA hag hn hR hS hL hst
  subst hq
  have hv : okJ v := ok_hd hst
  have hx : okI x := ok_hd (ok_tl hst)
  have hi' := hi.lt hR
  have hg : (mW G ad h r)[i]? = some (ad i, .inl (G.2.1 .long, n, .inr (.inl fun j => Int64.ofInt (h i j)))) := by rw [mW_get hi', mCe_arr hk]; rfl
  refine va_last hC.1 hC.2.1 hC.2.2.2.2.2.2.2.2.1.1 hR.1 hR.2.1 hS i 3 hg rfl (oi_in hx h0 h1) (mdc hC hd) (fun H1 locs1 a1 a2 a3 => ?_)
  have e1 : (.inl (G.2.1 .long, n, .inr (.inl (vp_updL (fun j : Nat => Int64.ofInt (h i j)) (Int32.ofInt x).toNatClampNeg (Int64.ofInt v)))) : va_E) = mCe G ad (hup h i x v) r i := by
    rw [mCe_arr hk, oi_clamp hx h0, updL_hup h0]; rfl
  rw [e1] at a1 a2
  exact k G p l e s mid args below meth c Q ad0 n0 hC hX ad H1 locs1 lsA hag hn (hR.up hi' (by simp only [isJ, hk, if_true]; exact hv) a1 a2) a3 hL (ok_tl (ok_tl (ok_tl hst)))
theorem wq_alenI {i n : Nat} (hk : kd i = .inl (.int, n)) (hi : mIn E r i) (hd : dc m pc = some (.arraylength, 1)) (hq : pc + 1 = q) (ho : okb n = true) (k : WP E m X q ls (vI n :: st) h r u) : WP E m X pc ls (vR i :: st) h r u := by
  intro G p l e s mid args below meth c Q ad0 n0 hC hX ad H locs lsA hag hn hR hS hL hst
  subst hq
  have hi' := hi.lt hR
  have hg : (mW G ad h r)[i]? = some (ad i, .inl (G.2.1 .int, n, .inl fun j => Int32.ofInt (h i j))) := by rw [mW_get hi', mCe_arr hk]; rfl
  exact va_alen hC.1 hC.2.1 hC.2.2.2.2.2.2.2.2.1.1 hR.1 i 0 hg rfl rfl (mdc hC hd) (k G p l e s mid args below meth c Q ad0 n0 hC hX ad H locs lsA hag hn hR hS hL (ok_cons (v := vI n) (okb_spec ho) (ok_tl hst)))
theorem wq_alenB {i n : Nat} (hk : kd i = .inl (.byte, n)) (hi : mIn E r i) (hd : dc m pc = some (.arraylength, 1)) (hq : pc + 1 = q) (ho : okb n = true) (k : WP E m X q ls (vI n :: st) h r u) : WP E m X pc ls (vR i :: st) h r u := by
  intro G p l e s mid args below meth c Q ad0 n0 hC hX ad H locs lsA hag hn hR hS hL hst
  subst hq
  have hi' := hi.lt hR
  have hg : (mW G ad h r)[i]? = some (ad i, .inl (G.2.1 .byte, n, .inl fun j => Int32.ofInt (h i j))) := by rw [mW_get hi', mCe_arr hk]; rfl
  exact va_alen hC.1 hC.2.1 hC.2.2.2.2.2.2.2.2.1.1 hR.1 i 1 hg rfl rfl (mdc hC hd) (k G p l e s mid args below meth c Q ad0 n0 hC hX ad H locs lsA hag hn hR hS hL (ok_cons (v := vI n) (okb_spec ho) (ok_tl hst)))
theorem nf_of {ci : Nat} {C : String} {T : u_T} {N : Nat} (hc : vwCl[ci]? = some (C, T, N)) : nfCl ci = N := by unfold nfCl; rw [hc]
theorem wq_getA {i ci kf idx : Nat} (hf : mFL m.1.cls idx ci kf) (hk : kd i = .inr ci) (hi : mIn E r i) (hd : dc m pc = some (.getfield idx, 3)) (v : mV) (hq : pc + 3 = q) (hv : ∀ (G : mG) (ad : Nat → Nat) (H : Heap), mRep G E.1 ad h r H → mFv ad h r i ci kf = toV ad v ∧ okV r.2 v) (k : WP E m X q ls (v :: st) h r u) : WP E m X pc ls (vR i :: st) h r u := by
  intro G p l e s mid args below meth c Q ad0 n0 hC hX ad H locs lsA hag hn hR hS hL hst
  subst hq
  have hi' := hi.lt hR
  obtain ⟨C, T, N, hc, hkN, hlk, hTC⟩ := hf
  have hg : (mW G ad h r)[i]? = some (ad i, .inr (ci, (List.range (nfCl ci)).map (mFv ad h r i ci))) := by rw [mW_get hi', mCe_obj hk]
  obtain ⟨e1, e2⟩ := hv G ad H hR
  refine va_get hC.1 hC.2.1 hC.2.2.2.2.2.2.2.1 (ok_cl ci _ hc).1 hC.2.2.2.2.1 hC.2.2.2.2.2.2.2.2.1.1 hR.1 i hg hc kf hkN (hC.2.2.2.2.2.2.2.1 _ hlk) (fun x hx => by rw [hTC] at hx; exact hx) (v := toV ad v) (by rw [nf_of hc, List.getElem?_map, List.getElem?_range hkN, ← e1]; rfl) (mdc hC hd) ?_
  exact k G p l e s mid args below meth c Q ad0 n0 hC hX ad H locs lsA hag hn hR hS hL (ok_cons e2 (ok_tl hst))
theorem wq_getI {i ci kf idx : Nat} {kz : Int} (hkz : (kf : Int) = kz) (hf : mFL m.1.cls idx ci kf) (hk : kd i = .inr ci) (ht : isRf (tyCl ci kf) = false) (hi : mIn E r i) (hd : dc m pc = some (.getfield idx, 3)) (hq : pc + 3 = q) (k : WP E m X q ls (vI (h i kz) :: st) h r u) : WP E m X pc ls (vR i :: st) h r u := by
  subst hkz
  exact wq_getA hf hk hi hd (vI (h i kf)) hq (fun G ad H hR => ⟨by unfold mFv; rw [ht]; rfl, hR.2.2.1.int (by simp only [isJ, hk])⟩) k
theorem wq_getR {i ci kf idx t : Nat} (hf : mFL m.1.cls idx ci kf) (hk : kd i = .inr ci) (ht : isRf (tyCl ci kf) = true) (hi : mIn E r i) (hr : r.1 i kf = some t) (hd : dc m pc = some (.getfield idx, 3)) (hq : pc + 3 = q) (k : WP E m X q ls (vR t :: st) h r u) : WP E m X pc ls (vR i :: st) h r u :=
  wq_getA hf hk hi hd (vR t) hq (fun G ad H hR => ⟨by unfold mFv; rw [ht, hr]; rfl, Or.inl (hR.2.2.2.2.1 _ _ _ hr)⟩) k
theorem wq_getF {R : Room} {i ci kf idx t : Nat} (hf : mFL m.1.cls idx ci kf) (hk : kd i = .inr ci) (ht : isRf (tyCl ci kf) = true) (hi : i < nIds) (hr : rfq i kf = some t) (hd : dc m pc = some (.getfield idx, 3)) (hq : pc + 3 = q) (k : WP (true, R) m X q ls (vR t :: st) h r u) : WP (true, R) m X pc ls (vR i :: st) h r u :=
  wq_getA hf hk (Or.inl ⟨rfl, hi⟩) hd (vR t) hq (fun G ad H hR => ⟨by unfold mFv; rw [ht, rfq_spec (hR.2.2.2.1 rfl) hr]; rfl, Or.inl (hR.2.2.2.2.1 _ _ _ (rfq_spec (hR.2.2.2.1 rfl) hr))⟩) k
theorem fs_set {ad : Nat → Nat} {i ci kf : Nat} {N : Nat} {v : Value} {h' : mH} {r' : mR} (hkN : kf < N) (hv : mFv ad h' r' i ci kf = v) (ho : ∀ b, ¬ b = kf → mFv ad h' r' i ci b = mFv ad h r i ci b) : ((List.range N).map (mFv ad h r i ci)).set kf v = (List.range N).map (mFv ad h' r' i ci) := by
  apply List.ext_getElem?
  intro a
  by_cases ha : a = kf
  · subst ha
    rw [List.getElem?_set_self (by simpa using hkN), List.getElem?_map, List.getElem?_range hkN, ← hv]; rfl
  · rw [List.getElem?_set_ne (Ne.symm ha), List.getElem?_map, List.getElem?_map]
    by_cases hb : a < N
    · rw [List.getElem?_range hb]; simp only [Option.map_some, ho a ha]
    · rw [List.getElem?_eq_none (by simpa using hb)]; rfl
theorem fs_hup {ad : Nat → Nat} {i ci kf N : Nat} {v : Int} (hkN : kf < N) (ht : isRf (tyCl ci kf) = false) : ((List.range N).map (mFv ad h r i ci)).set kf (.int (Int32.ofInt v)) = (List.range N).map (mFv ad (hup h i kf v) r i ci) := by
  refine fs_set hkN ?_ (fun b hb => ?_)
  · unfold mFv; rw [ht]; simp [hup]
  · unfold mFv
    rw [show hup h i kf v i b = h i b from by unfold hup; rw [if_neg (by rintro ⟨-, e⟩; omega)]]
theorem fs_rup {ad : Nat → Nat} {i ci kf N : Nat} {v : Option Nat} (hkN : kf < N) (ht : isRf (tyCl ci kf) = true) : ((List.range N).map (mFv ad h r i ci)).set kf (toV ad (.inr (.inr v))) = (List.range N).map (mFv ad h (rup r i kf v) i ci) := by
  refine fs_set hkN ?_ (fun b hb => ?_)
  · unfold mFv; rw [ht]; simp [rup]
  · unfold mFv; simp [rup, hb]
theorem fin_of {ci kf : Nat} {C : String} {T : u_T} {N : Nat} (hc : vwCl[ci]? = some (C, T, N)) : finCl ci kf = (T kf).2.2.2 := by unfold finCl; rw [hc]
theorem wq_putI {i ci kf idx : Nat} {v kz : Int} (hkz : (kf : Int) = kz) (hf : mFL m.1.cls idx ci kf) (hk : kd i = .inr ci) (ht : tyCl ci kf = .int) (hfin : finCl ci kf = false) (hi : mIn E r i) (hd : dc m pc = some (.putfield idx, 3)) (hq : pc + 3 = q) (k : WP E m X q ls st (hup h i kz v) r u) : WP E m X pc ls (vI v :: vR i :: st) h r u := by
  subst hkz
  intro G p l e s mid args below meth c Q ad0 n0 hC hX ad H locs lsA hag hn hR hS hL hst
  subst hq
  have hi' := hi.lt hR
  have hv : okI v := ok_hd hst
  obtain ⟨C, T, N, hc, hkN, hlk, hTC⟩ := hf
  have hg : (mW G ad h r)[i]? = some (ad i, .inr (ci, (List.range (nfCl ci)).map (mFv ad h r i ci))) := by rw [mW_get hi', mCe_obj hk]
  obtain ⟨o1, o2, o3⟩ := ok_cl ci _ hc
  refine va_put hC.1 hC.2.1 hC.2.2.2.2.2.2.2.1 o1 (tyCl ci) o3 o2 hC.2.2.2.2.1 hC.2.2.2.2.2.2.2.2.1.1 hR.1 hR.2.1 hS i hg hc kf hkN (hC.2.2.2.2.2.2.2.1 _ hlk) (fun x hx => by rw [hTC] at hx; exact hx) (by rw [← fin_of hc]; exact hfin) (ty := .int) (v := .int (Int32.ofInt v)) (by rw [o3 kf hkN, ht]) rfl rfl (by rw [nf_of hc]; simpa using hkN) (mdc hC hd) (fun H1 locs1 a1 a2 a3 => ?_)
  rw [nf_of hc, fs_hup hkN (by rw [ht]; rfl), ← nf_of hc, ← mCe_obj (G := G) hk] at a1 a2
  exact k G p l e s mid args below meth c Q ad0 n0 hC hX ad H1 locs1 lsA hag hn (hR.up hi' (by simp only [isJ, hk]; exact hv) a1 a2) a3 hL (ok_tl (ok_tl hst))
theorem wq_putZ {i ci kf idx : Nat} {v kz : Int} (hkz : (kf : Int) = kz) (hf : mFL m.1.cls idx ci kf) (hk : kd i = .inr ci) (ht : tyCl ci kf = .boolean) (hfin : finCl ci kf = false) (hi : mIn E r i) (hd : dc m pc = some (.putfield idx, 3)) (hq : pc + 3 = q) (hz : v = 0 ∨ v = 1) (k : WP E m X q ls st (hup h i kz v) r u) : WP E m X pc ls (vI v :: vR i :: st) h r u := by
  subst hkz
  intro G p l e s mid args below meth c Q ad0 n0 hC hX ad H locs lsA hag hn hR hS hL hst
  subst hq
  have hi' := hi.lt hR
  have hv : okI v := ok_hd hst
  obtain ⟨C, T, N, hc, hkN, hlk, hTC⟩ := hf
  have hg : (mW G ad h r)[i]? = some (ad i, .inr (ci, (List.range (nfCl ci)).map (mFv ad h r i ci))) := by rw [mW_get hi', mCe_obj hk]
  obtain ⟨o1, o2, o3⟩ := ok_cl ci _ hc
  refine va_put hC.1 hC.2.1 hC.2.2.2.2.2.2.2.1 o1 (tyCl ci) o3 o2 hC.2.2.2.2.1 hC.2.2.2.2.2.2.2.2.1.1 hR.1 hR.2.1 hS i hg hc kf hkN (hC.2.2.2.2.2.2.2.1 _ hlk) (fun x hx => by rw [hTC] at hx; exact hx) (by rw [← fin_of hc]; exact hfin) (ty := .boolean) (v := .int (Int32.ofInt v)) (by rw [o3 kf hkN, ht]) (by rcases hz with rfl | rfl <;> decide) (by rcases hz with rfl | rfl <;> decide) (by rw [nf_of hc]; simpa using hkN) (mdc hC hd) (fun H1 locs1 a1 a2 a3 => ?_)
  rw [nf_of hc, fs_hup hkN (by rw [ht]; rfl), ← nf_of hc, ← mCe_obj (G := G) hk] at a1 a2
  exact k G p l e s mid args below meth c Q ad0 n0 hC hX ad H1 locs1 lsA hag hn (hR.up hi' (by simp only [isJ, hk]; exact hv) a1 a2) a3 hL (ok_tl (ok_tl hst))
theorem mRep.rup {G : mG} {g : Bool} {ad : Nat → Nat} {H H1 : Heap} {i k : Nat} {v : Option Nat} (hR : mRep G g ad h r H) (hi : i < r.2) (hg : g = true → rfq i k = none) (hv : ∀ t, v = some t → t < r.2) (h1 : va_P G.1 vwCl ((mW G ad h r).set i (ad i, mCe G ad h (rup r i k v) i)) H1) (h2 : va_D (mA G) ((mW G ad h r).set i (ad i, mCe G ad h (rup r i k v) i))) : mRep G g ad h (rup r i k v) H1 := by
  rw [mW_rup hi] at h1 h2
  obtain ⟨-, -, h3, h4, h5, h6, h7⟩ := hR
  exact ⟨h1, h2, h3, fun e => (h4 e).up (hg e), h5.up hv, h6, h7⟩
theorem rf_nar {ty : FieldType} {ad : Nat → Nat} {v : Option Nat} (h : isRf ty = true) : narrow ty (toV ad (.inr (.inr v))) = toV ad (.inr (.inr v)) ∧ fits ty (toV ad (.inr (.inr v))) = true := by
  cases v <;> cases ty <;> first | exact ⟨rfl, rfl⟩ | (simp [isRf] at h)
theorem wq_putR {i ci kf idx t : Nat} (hf : mFL m.1.cls idx ci kf) (hk : kd i = .inr ci) (ht : isRf (tyCl ci kf) = true) (hfin : finCl ci kf = false) (hi : mIn E r i) (hti : mIn E r t) (hg : E.1 = true → rfq i kf = none) (hd : dc m pc = some (.putfield idx, 3)) (hq : pc + 3 = q) (k : WP E m X q ls st h (rup r i kf (some t)) u) : WP E m X pc ls (vR t :: vR i :: st) h r u := by
  intro G p l e s mid args below meth c Q ad0 n0 hC hX ad H locs lsA hag hn hR hS hL hst
  subst hq
  have hi' := hi.lt hR
  have ht' := hti.lt hR
  obtain ⟨C, T, N, hc, hkN, hlk, hTC⟩ := hf
  have hge : (mW G ad h r)[i]? = some (ad i, .inr (ci, (List.range (nfCl ci)).map (mFv ad h r i ci))) := by rw [mW_get hi', mCe_obj hk]
  obtain ⟨o1, o2, o3⟩ := ok_cl ci _ hc
  obtain ⟨z1, z2⟩ := rf_nar (ad := ad) (v := some t) ht
  refine va_put hC.1 hC.2.1 hC.2.2.2.2.2.2.2.1 o1 (tyCl ci) o3 o2 hC.2.2.2.2.1 hC.2.2.2.2.2.2.2.2.1.1 hR.1 hR.2.1 hS i hge hc kf hkN (hC.2.2.2.2.2.2.2.1 _ hlk) (fun x hx => by rw [hTC] at hx; exact hx) (by rw [← fin_of hc]; exact hfin) (ty := tyCl ci kf) (v := toV ad (vR t)) (by rw [o3 kf hkN]) z1 z2 (by rw [nf_of hc]; simpa using hkN) (mdc hC hd) (fun H1 locs1 a1 a2 a3 => ?_)
  rw [nf_of hc, fs_rup hkN ht, ← nf_of hc, ← mCe_obj (G := G) hk] at a1 a2
  exact k G p l e s mid args below meth c Q ad0 n0 hC hX ad H1 locs1 lsA hag hn (hR.rup hi' hg (fun a ha => by cases ha; exact ht') a1 a2) a3 hL (ok_tl (ok_tl hst))
/-- a final field, in its class's constructor -/
theorem wq_putF {i ci kf idx t : Nat} (hf : mFL m.1.cls idx ci kf) (hk : kd i = .inr ci) (ht : isRf (tyCl ci kf) = true) (hfin : finCl ci kf = true) (hin : m.1.name = "<init>") (hown : (vwCl[ci]?).map (fun q => q.1) = some m.1.cls) (hi : mIn E r i) (hti : mIn E r t) (hg : E.1 = true → rfq i kf = none) (hd : dc m pc = some (.putfield idx, 3)) (hq : pc + 3 = q) (k : WP E m X q ls st h (rup r i kf (some t)) u) : WP E m X pc ls (vR t :: vR i :: st) h r u := by
  intro G p l e s mid args below meth c Q ad0 n0 hC hX ad H locs lsA hag hn hR hS hL hst
  subst hq
  have hi' := hi.lt hR
  have ht' := hti.lt hR
  obtain ⟨C, T, N, hc, hkN, hlk, hTC⟩ := hf
  have hge : (mW G ad h r)[i]? = some (ad i, .inr (ci, (List.range (nfCl ci)).map (mFv ad h r i ci))) := by rw [mW_get hi', mCe_obj hk]
  obtain ⟨o1, o2, o3⟩ := ok_cl ci _ hc
  obtain ⟨z1, z2⟩ := rf_nar (ad := ad) (v := some t) ht
  rw [hc] at hown
  have hCo : C = m.1.cls := Option.some.inj hown
  refine va_putF hC.1 hC.2.1 hC.2.2.2.2.2.2.2.1 o1 (tyCl ci) o3 o2 hC.2.2.2.2.1 hC.2.2.2.2.2.2.2.2.1.1 hR.1 hR.2.1 hS i hge hc kf hkN (hC.2.2.2.2.2.2.2.1 _ hlk) (fun x hx => by rw [hTC] at hx; exact hx) (by rw [← fin_of hc]; exact hfin) (by rw [hC.2.2.2.2.2.2.1]; exact hin) (hTC.trans hCo) (ty := tyCl ci kf) (v := toV ad (vR t)) (by rw [o3 kf hkN]) z1 z2 (by rw [nf_of hc]; simpa using hkN) (mdc hC hd) (fun H1 locs1 a1 a2 a3 => ?_)
  rw [nf_of hc, fs_rup hkN ht, ← nf_of hc, ← mCe_obj (G := G) hk] at a1 a2
  exact k G p l e s mid args below meth c Q ad0 n0 hC hX ad H1 locs1 lsA hag hn (hR.rup hi' hg (fun a ha => by cases ha; exact ht') a1 a2) a3 hL (ok_tl (ok_tl hst))
end HP
end
section
/-! calls: a method's contract is what WP says from its entry -/
def ent : List mV → mL
  | [] => []
  | v :: vs => match v with
    | .inr (.inl _) => some v :: none :: ent vs
    | _ => some v :: ent vs
def entry (n : Nat) (av : List mV) : mL := ent av ++ List.replicate (n - (ent av).length) none
abbrev mP : Type := Option mV → mH → mR → Prop
/-- a method's end -/
def rt (m : mM) (R : Room) (post : mP) : mX := fun pc _ st h r u => u.1 ≤ R.cells ∧ u.2 ≤ R.slots ∧
  ((dc m pc = some (.ireturn, 1) ∧ ∃ x, st = [vI x] ∧ (∃ ty, m.2.2.2.1 = some ty ∧ narrow ty (.int (Int32.ofInt x)) = .int (Int32.ofInt x)) ∧ post (some (vI x)) h r) ∨
   (dc m pc = some (.return_, 1) ∧ st = [] ∧ m.2.2.2.1 = none ∧ post none h r) ∨
   (dc m pc = some (.lreturn, 1) ∧ ∃ x, st = [vJ x] ∧ m.2.2.2.1 = some .long ∧ post (some (vJ x)) h r))
def Meets (g : Bool) (R : Room) (m : mM) (av : List mV) (h : mH) (r : mR) (post : mP) : Prop :=
  mOK m ∧ (ent av).length ≤ m.2.2.1 ∧ WP (g, R) m (rt m R post) 0 (entry m.2.2.1 av) [] h r (0, 0)
theorem ent_sl (ad : Nat → Nat) : ∀ (av : List mV), (ent av).length = (lg_sl (av.map (toV ad))).length ∧ ∀ (j : Nat) (v : mV), (ent av)[j]? = some (some v) → v ∈ av ∧ (lg_sl (av.map (toV ad)))[j]? = some (.val (toV ad v))
  | [] => ⟨rfl, fun j v h => by simp [ent] at h⟩
  | v :: vs => by
    obtain ⟨h1, h2⟩ := ent_sl ad vs
    have key : ∀ (w : mV), (toV ad w).category = 1 ∨ (toV ad w).category = 2 := fun w => lv_cat _
    rcases v with x | x | x
    · refine ⟨by simp [ent, lg_sl, toV, Value.category] at h1 ⊢; exact h1, fun j w hj => ?_⟩
      cases j with
      | zero => simp [ent] at hj; subst hj; exact ⟨List.mem_cons_self, by simp [lg_sl, toV, Value.category]⟩
      | succ j =>
        obtain ⟨a, b⟩ := h2 j w (by simpa [ent] using hj)
        exact ⟨List.mem_cons_of_mem _ a, by simpa [lg_sl, toV, Value.category] using b⟩
    · refine ⟨by simp [ent, lg_sl, toV, Value.category] at h1 ⊢; exact h1, fun j w hj => ?_⟩
      match j, hj with
      | 0, hj => simp [ent] at hj; subst hj; exact ⟨List.mem_cons_self, by simp [lg_sl, toV, Value.category]⟩
      | 1, hj => simp [ent] at hj
      | j + 2, hj =>
        obtain ⟨a, b⟩ := h2 j w (by simpa [ent] using hj)
        exact ⟨List.mem_cons_of_mem _ a, by simpa [lg_sl, toV, Value.category] using b⟩
    · have hc : (toV ad (.inr (.inr x))).category = 1 := by cases x <;> rfl
      refine ⟨by simp [ent, lg_sl, hc] at h1 ⊢; exact h1, fun j w hj => ?_⟩
      cases j with
      | zero => simp [ent] at hj; subst hj; exact ⟨List.mem_cons_self, by simp [lg_sl, hc]⟩
      | succ j =>
        obtain ⟨a, b⟩ := h2 j w (by simpa [ent] using hj)
        exact ⟨List.mem_cons_of_mem _ a, by simpa [lg_sl, hc] using b⟩
theorem entry_ls {ad : Nat → Nat} {b n : Nat} {av : List mV} (hn : (ent av).length ≤ n) (hv : ∀ v ∈ av, okV b v) : mLs ad b (entry n av) ((lg_sl (av.map (toV ad)) ++ List.replicate (n - (lg_sl (av.map (toV ad))).length) Slot.unset).toArray) n := by
  obtain ⟨e1, e2⟩ := ent_sl ad av
  obtain ⟨l1, l2, -⟩ := lv_entry (av.map (toV ad)) (n := n) (by rw [← e1]; exact hn)
  refine ⟨l1, by unfold entry; simp; omega, l2, fun j v hj => ?_⟩
  unfold entry at hj
  by_cases hl : j < (ent av).length
  · rw [List.getElem?_append_left hl] at hj
    obtain ⟨a, c⟩ := e2 j v hj
    refine ⟨?_, hv v a⟩
    rw [List.getElem?_toArray, List.getElem?_append_left (by rw [← e1]; exact hl)]
    exact c
  · rw [List.getElem?_append_right (by omega), List.getElem?_replicate] at hj
    split at hj
    · cases hj
    · cases hj
/-- what a caller gets -/
def mQ (G : mG) (g : Bool) (ad : Nat → Nat) (n0 : Nat) (post : mP) : Array Value → State → Outcome → State → Prop := fun _ st oc t =>
  (∃ (rv : Option mV) (h' : mH) (r' : mR) (ad' : Nat → Nat), oc = .returned (rv.map (toV ad')) ∧ post rv h' r' ∧ (∀ v, rv = some v → okV r'.2 v) ∧ mAg ad' ad n0 ∧ n0 ≤ r'.2 ∧ mRep G g ad' h' r' t.heap) ∧ va_F (mA G) st t
def mPre (G : mG) (g : Bool) (ad : Nat → Nat) (av : List mV) (h : mH) (r : mR) : Array Value → State → Prop := va_Pc (av.map (toV ad)) (fun U => mSf G U ∧ mRep G g ad h r U.heap ∧ ∀ v ∈ av, okV r.2 v)
def mWs (m : mM) : List Cond := Cond.code m.1 m.2.1 m.2.2.1 m.2.2.2.1 :: t0_ws
set_option maxHeartbeats 1000000 in
theorem Meets.met {g : Bool} {R : Room} {m : mM} {av : List mV} {h : mH} {r : mR} {post : mP} (hM : Meets g R m av h r post) (l : Launch) (G : mG) (ad : Nat → Nat) :
    Met l m.1 (mWs m) R (mPre G g ad av h r) (mQ G g ad r.2 post) R.cells R.slots (mA G) := by
  obtain ⟨⟨k1, k2, k3, k4, k5⟩, hn, hW⟩ := hM
  refine Met.ofW (cc := m.2.1) (maxL := m.2.2.1) (ret := m.2.2.2.1) k1 rfl ?_
  intro p e s mid args below meth c s₁ B hml hv
  obtain ⟨rfl, hsf, hR, hok⟩ := hv
  have hts := atoms_spec (ws := mWs m) B.pre
  have hts0 : ∀ w ∈ t0_ws, w.before (av.map (toV ad)).toArray s = true := fun w hw => hts w (List.mem_cons_of_mem _ hw)
  have hC : mCx G m p s mid (av.map (toV ad)).toArray meth c := ⟨B.exec, B.bytes, B.returns, hml, findClass_of_methodNamed B.named, B.notSynchronized, (name_of_methodNamed B.named B.method).1, hts0, hsf, k3⟩
  have hS : va_S (mA G) s.heap s.heap [] := va_S.rf
  rw [lg_entry_eq]
  refine hW G p l e s mid _ below meth c (MQ below (mQ G g ad r.2 post) (av.map (toV ad)).toArray s R.cells R.slots (mA G)) ad r.2 hC ?_ ad s.heap [] _ (fun _ _ => rfl) (Nat.le_refl _) hR hS (entry_ls hn hok) (fun v hv => absurd hv List.not_mem_nil)
  intro pc' ls' st' h' r' u' hx ad1 H1 locs1 lsA1 hag1 hn1 hR1 hS1 hL1 hst1
  have hlocks : meth.locks = false := B.notSynchronized
  obtain ⟨hu1, hu2, hx⟩ := hx
  refine W.widen hu1 hu2 ?_
  rcases hx with ⟨hd, x, rfl, hrt, hp⟩ | ⟨hd, rfl, hrt, hp⟩ | ⟨hd, x, rfl, hrt, hp⟩
  · have hx : okI x := ok_hd hst1
    have hq : ∀ t : State, t.heap = H1 → s.WarmedH t.vm → mQ G g ad r.2 post (av.map (toV ad)).toArray s (.returned (some (.int (Int32.ofInt x)))) t := fun t ht _ =>
      ⟨⟨some (vI x), h', r', ad1, rfl, hp, fun v hv => by cases hv; exact hx, hag1, hn1, by rw [ht]; exact hR1⟩, hS1.F ht⟩
    obtain ⟨ty, hrt, hz⟩ := hrt
    exact W.zret (ty := ty) B.exec B.bytes (B.returns.trans hrt) hz hq hS1.2.2 (mdc hC hd)
  · exact W.vret B.exec B.bytes (B.returns.trans hrt) (fun t ht _ => ⟨⟨none, h', r', ad1, rfl, hp, (fun v hv => by cases hv), hag1, hn1, by rw [ht]; exact hR1⟩, hS1.F ht⟩) hS1.2.2 (mdc hC hd)
  · have hx : okJ x := ok_hd hst1
    exact W.lret B.exec B.bytes (B.returns.trans hrt) (fun t ht _ => ⟨⟨some (vJ x), h', r', ad1, rfl, hp, fun v hv => by cases hv; exact hx, hag1, hn1, by rw [ht]; exact hR1⟩, hS1.F ht⟩) hS1.2.2 (mdc hC hd)
theorem mPre.blind {G : mG} {g : Bool} {ad : Nat → Nat} {av : List mV} {h : mH} {r : mR} : FrameBlind (mPre G g ad av h r) := by
  intro a U gf mk hP
  obtain ⟨h1, h2, h3, h4⟩ := hP
  exact ⟨h1, h2.same rfl rfl, h3, h4⟩
theorem good_t0 {m m' : mM} (hm : mOK m') : GoodIn (mWs m) (mWs m') := by
  intro w hw
  have hw0 : w ∈ t0_ws := by
    rcases List.mem_cons.mp hw with rfl | hw
    · exact hm.2.1
    · exact hw
  exact ⟨List.mem_cons_of_mem _ hw0, good_of_word (List.mem_filter.mp hw0).2⟩
section CL
variable {E : mE} {m : mM} {X : mX} {pc q : Nat} {ls : mL} {st : List mV} {h : mH} {r : mR} {u : mU}
theorem toV_ag {ad ad' : Nat → Nat} {b : Nat} {v : mV} (ha : mAg ad' ad b) (hv : okV b v) : toV ad' v = toV ad v := by
  rcases v with x | x | _ | t
  · rfl
  · rfl
  · rfl
  · show Value.ref (ad' t) = Value.ref (ad t)
    rw [ha t hv]
theorem map_ag {ad ad' : Nat → Nat} {b : Nat} {st : List mV} (ha : mAg ad' ad b) (hv : ∀ v ∈ st, okV b v) : st.map (toV ad') = st.map (toV ad) := List.map_congr_left fun v h => toV_ag ha (hv v h)
theorem mLs.ag {ad ad' : Nat → Nat} {b b' n : Nat} {ls : mL} {lsA : Array Slot} (hL : mLs ad b ls lsA n) (ha : mAg ad' ad b) (hb : b ≤ b') : mLs ad' b' ls lsA n :=
  ⟨hL.1, hL.2.1, hL.2.2.1, fun j v hj => ⟨by rw [toV_ag ha (hL.2.2.2 j v hj).2]; exact (hL.2.2.2 j v hj).1, (hL.2.2.2 j v hj).2.mono hb⟩⟩
/-- behind any call -/
theorem call_back {G : mG} {p : Program} {l : Launch} {e : Env} {s : State} {mid : MethodId} {args : Array Value} {below : List Frame} {meth : Method} {c : Code} {Q : State → Prop} {ad0 : Nat → Nat} {n0 : Nat} (hC : mCx G m p s mid args meth c) (hX : ∀ pc' ls' st' h' r' u', X pc' ls' st' h' r' u' → mAt G E m p l e s mid args below meth c Q ad0 n0 pc' ls' st' h' r' u')
    {ad : Nat → Nat} {H : Heap} {locs : List Loc} {lsA : Array Slot} (hag : mAg ad ad0 n0) (hn : n0 ≤ r.2) (hS : va_S (mA G) s.heap H locs) (hL : mLs ad r.2 ls lsA m.2.2.1) {rest : List mV} (hst : ∀ v ∈ rest, okV r.2 v) {R' : Room} {post : mP} {st0 : List Value} {a : Array Value}
    (hr : va_Run p l e E.2 s mid args below meth c H locs u.1 u.2 R'.cells R'.slots (F0 mid pc lsA st0) (rest.map (toV ad)) (mQ G E.1 ad r.2 post a) (mA G)) (hq : pc + 3 = q)
    (k : ∀ rv h' r', post rv h' r' → r.2 ≤ r'.2 → WP E m X q ls (rv.toList ++ rest) h' r' (u.1 + R'.cells, u.2 + R'.slots)) : W p l e E.2 s mid args below meth c H locs u.1 u.2 Q (F0 mid pc lsA st0) := by
  intro T hT X0
  obtain ⟨v, st₀, t, T', L, h0, X', hLo, e1, e2, ⟨⟨rv, h', r', ad', hv, hp, hvok, hag', hn', hR'⟩, hz, hkeep⟩, stp⟩ := hr T hT X0
  have hv' : v = rv.map (toV ad') := by cases hv; rfl
  subst hv'
  rw [h0] at hz hkeep
  have hS' : va_S (mA G) s.heap T'.heap (locs ++ L) := ⟨Nat.le_trans hS.1 (by rw [e1]; exact hz), fun q h1 h2 => by rw [e1, hkeep q (Nat.lt_of_lt_of_le h1 hS.1) h2]; exact hS.2.1 q h1 h2, fun q hq => by
      rcases List.mem_append.mp hq with h | h
      · exact hS.2.2 q h
      · exact hLo q h⟩
  have hag2 : mAg ad' ad0 n0 := fun i hi => (hag' i (hi.elim (fun z => Or.inl (Nat.lt_of_lt_of_le z hn)) Or.inr)).trans (hag i hi)
  have hstk : (rv.map (toV ad')).toList ++ rest.map (toV ad) = (rv.toList ++ rest).map (toV ad') := by
    rw [List.map_append, map_ag hag' hst]
    cases rv <;> rfl
  have kk := k rv h' r' hp hn' G p l e s mid args below meth c Q ad0 n0 hC hX ad' T'.heap (locs ++ L) lsA hag2 (Nat.le_trans hn hn') (by rw [e1]; exact hR') hS' (hL.ag hag' hn') (fun w hw => by
    rcases List.mem_append.mp hw with h | h
    · cases rv with
      | none => simp at h
      | some x => simp at h; subst h; exact hvok _ rfl
    · exact (hst w h).mono hn')
  obtain ⟨t2, a1, b1⟩ := kk T' rfl X'
  refine ⟨t2, stp t2 ?_, b1⟩
  rw [hstk]
  subst hq
  exact a1
theorem cats_sum {mid : MethodId} {lsA : Array Slot} {st0 : List Value} {ad : Nat → Nat} {rest : List mV} (h : rest.length ≤ 4) : 2 * (F0 mid pc lsA st0).monitorRoom + ((rest.map (toV ad)).map fun v => v.category).sum ≤ 8 := by
  have : ∀ (l : List mV), ((l.map (toV ad)).map fun v => v.category).sum ≤ 2 * l.length := by
    intro l
    induction l with
    | nil => simp
    | cons a l ih =>
      simp only [List.map_cons, List.sum_cons, List.length_cons]
      have := lv_cat (toV ad a)
      omega
  exact lv_room (Nat.le_trans (this rest) (by omega))
theorem mRep.recv {G : mG} {g : Bool} {ad : Nat → Nat} {H : Heap} {s : State} {i ci : Nat} (hR : mRep G g ad h r H) (hsf : mSf G s) (hi : i < r.2) (hk : kd i = .inr ci) {C : String} (hc : (vwCl[ci]?).map (fun q => q.1) = some C) : ∃ cell : Cell, H[ad i]? = some cell ∧ cell.vm.isStatics = false ∧ s.vm.findClass C = some cell.cls := by
  cases hq : vwCl[ci]? with
  | none => rw [hq] at hc; cases hc
  | some qq =>
    rw [hq] at hc
    cases hc
    have hg : (mW G ad h r)[i]? = some (ad i, .inr (ci, (List.range (nfCl ci)).map (mFv ad h r i ci))) := by rw [mW_get hi, mCe_obj hk]
    exact va_recv hsf.1 hR.1 hq hg
theorem wq_callV {idx : Nat} {m' : mM} {R' : Room} {As rest : List mV} {i ci : Nat} {post : mP} (hd : dc m pc = some (.invokevirtual idx, 3)) (hq : pc + 3 = q) (hl : Cond.methodLink m.1.cls idx m'.1 ∈ t0_ws) (hv : mVt m')
    (hpar : (parseMethodDescriptor m'.1.desc).map (fun d => d.parameters.length) = some As.length) (hk : kd i = .inr ci) (hc : (vwCl[ci]?).map (fun q => q.1) = some m'.1.cls) (hi : mIn E r i)
    (hR1 : R'.frames + 1 ≤ E.2.frames) (hR2 : 8 + (m'.2.2.1 + 11) + R'.locals ≤ E.2.locals) (hb1 : u.1 + R'.cells ≤ E.2.cells) (hb2 : u.2 + R'.slots ≤ E.2.slots) (hrest : rest.length ≤ 4)
    (hM : Meets E.1 R' m' (vR i :: As) h r post) (hs : st = As.reverse ++ vR i :: rest)
    (k : ∀ rv h' r', post rv h' r' → r.2 ≤ r'.2 → WP E m X q ls (rv.toList ++ rest) h' r' (u.1 + R'.cells, u.2 + R'.slots)) : WP E m X pc ls st h r u := by
  intro G p l e s mid args below meth c Q ad0 n0 hC hX ad H locs lsA hag hn hR hS hL hst
  have hm' := hM.1
  have hts : ∀ w ∈ t0_ws, w.before args s = true := hC.2.2.2.2.2.2.2.1
  have hG : GoodIn t0_ws (mWs m') := fun w hw => ⟨by rcases List.mem_cons.mp hw with rfl | hw; exact hm'.2.1; exact hw, (good_t0 (m := m) hm' w hw).2⟩
  have cw : CallW E.2 s args m.1.cls m'.1.cls idx m'.1 m'.2.1 m'.2.2.1 m'.2.2.2.1 (mWs m') R' R'.cells R'.slots As.length :=
    ⟨callB_of As.length hts hG rfl rfl rfl (hts _ hm'.2.2.2.1) (hts _ hl) ⟨hm'.2.2.2.2.1, hm'.2.2.2.2.2, hpar⟩ ⟨hR1, hR2⟩, hts _ hv.1, hts _ hv.2⟩
  have hsf := hC.2.2.2.2.2.2.2.2.1
  subst hs
  have hst' : ∀ v ∈ rest, okV r.2 v := fun v hv => hst v (List.mem_append_right _ (List.mem_cons_of_mem _ hv))
  have hav : ∀ v ∈ vR i :: As, okV r.2 v := fun v hv => by
    rcases List.mem_cons.mp hv with rfl | hv
    · exact hst _ (List.mem_append_right _ List.mem_cons_self)
    · exact hst v (List.mem_append_left _ (List.mem_reverse.mpr hv))
  refine call_back hC hX hag hn hS hL hst' (va_runV (Ts := t0_ws) (cc := m.2.1) (nL := m.2.2.1) (own := m.1.cls) (C := m'.1.cls) (As := As.map (toV ad)) (b := ad i) ⟨hC.1, hC.2.1, hC.2.2.2.1, hC.2.2.2.2.1, hts⟩ (hM.met l G ad) cw ⟨mPre.blind, hR.recv hsf (hi.lt hR) hk hc, fun U hU hW => ⟨rfl, hsf.warm hW hU hS, by rw [hU]; exact hR, hav⟩⟩ rfl (by simp) hL.1 (by simp [toV]) (cats_sum hrest) (mdc hC hd) ⟨hb1, hb2⟩) hq k
theorem wq_callS {idx : Nat} {m' : mM} {R' : Room} {As rest : List mV} {post : mP} (hd : dc m pc = some (.invokestatic idx, 3)) (hq : pc + 3 = q) (hl : Cond.methodLink m.1.cls idx m'.1 ∈ t0_ws) (hv : Cond.static m'.1 ∈ t0_ws)
    (hpar : (parseMethodDescriptor m'.1.desc).map (fun d => d.parameters.length) = some As.length)
    (hR1 : R'.frames + 1 ≤ E.2.frames) (hR2 : 8 + (m'.2.2.1 + 11) + R'.locals ≤ E.2.locals) (hb1 : u.1 + R'.cells ≤ E.2.cells) (hb2 : u.2 + R'.slots ≤ E.2.slots) (hrest : rest.length ≤ 4)
    (hM : Meets E.1 R' m' As h r post) (hs : st = As.reverse ++ rest)
    (k : ∀ rv h' r', post rv h' r' → r.2 ≤ r'.2 → WP E m X q ls (rv.toList ++ rest) h' r' (u.1 + R'.cells, u.2 + R'.slots)) : WP E m X pc ls st h r u := by
  intro G p l e s mid args below meth c Q ad0 n0 hC hX ad H locs lsA hag hn hR hS hL hst
  have hm' := hM.1
  have hts : ∀ w ∈ t0_ws, w.before args s = true := hC.2.2.2.2.2.2.2.1
  have hG : GoodIn t0_ws (mWs m') := fun w hw => ⟨by rcases List.mem_cons.mp hw with rfl | hw; exact hm'.2.1; exact hw, (good_t0 (m := m) hm' w hw).2⟩
  have cw : CallB E.2 s args m.1.cls idx m'.1 m'.2.1 m'.2.2.1 m'.2.2.2.1 (mWs m') R' R'.cells R'.slots As.length ∧ (Cond.static m'.1).before args s = true :=
    ⟨callB_of As.length hts hG rfl rfl rfl (hts _ hm'.2.2.2.1) (hts _ hl) ⟨hm'.2.2.2.2.1, hm'.2.2.2.2.2, hpar⟩ ⟨hR1, hR2⟩, hts _ hv⟩
  have hsf := hC.2.2.2.2.2.2.2.2.1
  subst hs
  have hst' : ∀ v ∈ rest, okV r.2 v := fun v hv => hst v (List.mem_append_right _ hv)
  have hav : ∀ v ∈ As, okV r.2 v := fun v hv => hst v (List.mem_append_left _ (List.mem_reverse.mpr hv))
  refine call_back hC hX hag hn hS hL hst' (va_runS (Ts := t0_ws) (cc := m.2.1) (nL := m.2.2.1) (own := m.1.cls) (As := As.map (toV ad)) ⟨hC.1, hC.2.1, hC.2.2.2.1, hC.2.2.2.2.1, hts⟩ (hM.met l G ad) cw ⟨mPre.blind, fun U hU hW => ⟨rfl, hsf.warm hW hU hS, by rw [hU]; exact hR, hav⟩⟩ rfl (by simp) hL.1 (by simp) (cats_sum hrest) (mdc hC hd) ⟨hb1, hb2⟩) hq k
/-- Math.max, Math.min -/
theorem wq_max {R : Room} {g : Bool} {idx : Nat} {x y : Int} (hl : Cond.methodLink m.1.cls idx Lib.Math.max.name ∈ t0_ws) (hc : Cond.code Lib.Math.max.name Lib.Math.max.code 2 (some .int) ∈ t0_ws) (hs : Cond.static Lib.Math.max.name ∈ t0_ws) (hi : Cond.initialized "java/lang/Math" ∈ t0_ws) (hd : dc m pc = some (.invokestatic idx, 3)) (hq : pc + 3 = q) (h1 : 1 ≤ R.frames) (h2 : 21 ≤ R.locals) (hb1 : u.1 ≤ R.cells) (hb2 : u.2 ≤ R.slots) (hrest : st.length ≤ 4) (k : WP (g, R) m X q ls (vI (if x < y then y else x) :: st) h r u) : WP (g, R) m X pc ls (vI y :: vI x :: st) h r u := by
  intro G p l e s mid args below meth c Q ad0 n0 hC hX ad H locs lsA hag hn hR hS hL hst
  have hts : ∀ w ∈ t0_ws, w.before args s = true := hC.2.2.2.2.2.2.2.1
  have hy : okI y := ok_hd hst
  have hx : okI x := ok_hd (ok_tl hst)
  subst hq
  have hsum := cats_sum (mid := mid) (pc := pc) (lsA := lsA) (st0 := []) (ad := ad) hrest
  have hlo : (List.map (fun v => v.category) (List.map (toV ad) st)).sum + 13 ≤ R.locals := by omega
  refine va_mmax hC.1 hC.2.1 (hC.2.2.2.1.trans hL.1.symm) hC.2.2.2.2.1 (hts _ hl) (hts _ hs) (hts _ hi) (hts _ hc) h1 hlo hb1 hb2 (mdc hC hd) ?_
  have e1 : (if Int32.ofInt x < Int32.ofInt y then Int32.ofInt y else Int32.ofInt x) = Int32.ofInt (if x < y then y else x) := by
    simp only [oi_lt hx hy]
    split <;> rfl
  rw [e1]
  exact k G p l e s mid args below meth c Q ad0 n0 hC hX ad H locs lsA hag hn hR hS hL (ok_cons (v := vI (if x < y then y else x)) (by show okI _; split <;> assumption) (ok_tl (ok_tl hst)))
theorem wq_min {R : Room} {g : Bool} {idx : Nat} {x y : Int} (hl : Cond.methodLink m.1.cls idx Lib.Math.min.name ∈ t0_ws) (hc : Cond.code Lib.Math.min.name Lib.Math.min.code 2 (some .int) ∈ t0_ws) (hs : Cond.static Lib.Math.min.name ∈ t0_ws) (hi : Cond.initialized "java/lang/Math" ∈ t0_ws) (hd : dc m pc = some (.invokestatic idx, 3)) (hq : pc + 3 = q) (h1 : 1 ≤ R.frames) (h2 : 21 ≤ R.locals) (hb1 : u.1 ≤ R.cells) (hb2 : u.2 ≤ R.slots) (hrest : st.length ≤ 4) (k : WP (g, R) m X q ls (vI (if y < x then y else x) :: st) h r u) : WP (g, R) m X pc ls (vI y :: vI x :: st) h r u := by
  intro G p l e s mid args below meth c Q ad0 n0 hC hX ad H locs lsA hag hn hR hS hL hst
  have hts : ∀ w ∈ t0_ws, w.before args s = true := hC.2.2.2.2.2.2.2.1
  have hy : okI y := ok_hd hst
  have hx : okI x := ok_hd (ok_tl hst)
  subst hq
  have hsum := cats_sum (mid := mid) (pc := pc) (lsA := lsA) (st0 := []) (ad := ad) hrest
  have hlo : (List.map (fun v => v.category) (List.map (toV ad) st)).sum + 13 ≤ R.locals := by omega
  refine va_mmin hC.1 hC.2.1 (hC.2.2.2.1.trans hL.1.symm) hC.2.2.2.2.1 (hts _ hl) (hts _ hs) (hts _ hi) (hts _ hc) h1 hlo hb1 hb2 (mdc hC hd) ?_
  have e1 : (if Int32.ofInt y < Int32.ofInt x then Int32.ofInt y else Int32.ofInt x) = Int32.ofInt (if y < x then y else x) := by
    simp only [oi_lt hy hx]
    split <;> rfl
  rw [e1]
  exact k G p l e s mid args below meth c Q ad0 n0 hC hX ad H locs lsA hag hn hR hS hL (ok_cons (v := vI (if y < x then y else x)) (by show okI _; split <;> assumption) (ok_tl (ok_tl hst)))
/-- the ends -/
theorem wq_iret {g : Bool} {R : Room} {post : mP} {x : Int} (hd : dc m pc = some (.ireturn, 1)) (hrt : m.2.2.2.1 = some .int) (hb1 : u.1 ≤ R.cells) (hb2 : u.2 ≤ R.slots) (hp : post (some (vI x)) h r) : WP (g, R) m (rt m R post) pc ls [vI x] h r u :=
  WP.exit ⟨hb1, hb2, Or.inl ⟨hd, x, rfl, ⟨_, hrt, rfl⟩, hp⟩⟩
theorem wq_zret {g : Bool} {R : Room} {post : mP} {x : Int} (hd : dc m pc = some (.ireturn, 1)) (hrt : m.2.2.2.1 = some .boolean) (hb1 : u.1 ≤ R.cells) (hb2 : u.2 ≤ R.slots) (hz : x = 0 ∨ x = 1) (hp : post (some (vI x)) h r) : WP (g, R) m (rt m R post) pc ls [vI x] h r u :=
  WP.exit ⟨hb1, hb2, Or.inl ⟨hd, x, rfl, ⟨_, hrt, by rcases hz with rfl | rfl <;> decide⟩, hp⟩⟩
theorem wq_vret {g : Bool} {R : Room} {post : mP} (hd : dc m pc = some (.return_, 1)) (hrt : m.2.2.2.1 = none) (hb1 : u.1 ≤ R.cells) (hb2 : u.2 ≤ R.slots) (hp : post none h r) : WP (g, R) m (rt m R post) pc ls [] h r u :=
  WP.exit ⟨hb1, hb2, Or.inr (Or.inl ⟨hd, rfl, hrt, hp⟩)⟩
theorem wq_lret {g : Bool} {R : Room} {post : mP} {x : Int} (hd : dc m pc = some (.lreturn, 1)) (hrt : m.2.2.2.1 = some .long) (hb1 : u.1 ≤ R.cells) (hb2 : u.2 ≤ R.slots) (hp : post (some (vJ x)) h r) : WP (g, R) m (rt m R post) pc ls [vJ x] h r u :=
  WP.exit ⟨hb1, hb2, Or.inr (Or.inr ⟨hd, x, rfl, hrt, hp⟩)⟩
end CL
end
section
/-! what the walks of all methods share -/
abbrev rm (d : Nat) : Room := { frames := d, cells := 0, slots := 0, locals := 40 * d }
abbrev pI (x : Int) (h : mH) (r : mR) : mP := fun rv h' r' => rv = some (vI x) ∧ h' = h ∧ r' = r
abbrev pU (h : mH) (r : mR) : mP := fun rv h' r' => rv = none ∧ h' = h ∧ r' = r
noncomputable def bI (P : Prop) : Int := @ite Int P (Classical.propDecidable P) 1 0
theorem bI_t {P : Prop} (h : P) : bI P = 1 := by unfold bI; rw [if_pos h]
theorem bI_f {P : Prop} (h : ¬ P) : bI P = 0 := by unfold bI; rw [if_neg h]
theorem bI_z (P : Prop) : bI P = 0 ∨ bI P = 1 := (Classical.em P).elim (fun h => Or.inr (bI_t h)) (fun h => Or.inl (bI_f h))
theorem bI_c {P Q : Prop} (h : P ↔ Q) : bI P = bI Q := by rw [propext h]
theorem pC_t {P : Prop} {h : mH} {r : mR} (hp : P) : pI (bI P) h r (some (vI 1)) h r := by rw [bI_t hp]; exact ⟨rfl, rfl, rfl⟩
theorem pC_f {P : Prop} {h : mH} {r : mR} (hp : ¬ P) : pI (bI P) h r (some (vI 0)) h r := by rw [bI_f hp]; exact ⟨rfl, rfl, rfl⟩
section BS
variable {E : mE} {m : mM} {X : mX} {pc q : Nat} {ls : mL} {st : List mV} {h : mH} {r : mR} {u : mU}
theorem wq_bif_eq {P : Prop} [Decidable P] {off : Int} {tgt : Nat} (hd : dc m pc = some (.ifCond .eq off, 3)) (hq : pc + 3 = q) (ht : (pc : Int) + off = (tgt : Int)) (kt : ¬ P → WP E m X tgt ls st h r u) (kf : P → WP E m X q ls st h r u) : WP E m X pc ls (vI (if P then 1 else 0) :: st) h r u :=
  wq_if_eq hd hq ht (fun c => kt (fun p => by rw [if_pos p] at c; omega)) (fun c => kf (Classical.byContradiction fun p => c (if_neg p)))
theorem wq_bif_ne {P : Prop} [Decidable P] {off : Int} {tgt : Nat} (hd : dc m pc = some (.ifCond .ne off, 3)) (hq : pc + 3 = q) (ht : (pc : Int) + off = (tgt : Int)) (kt : P → WP E m X tgt ls st h r u) (kf : ¬ P → WP E m X q ls st h r u) : WP E m X pc ls (vI (if P then 1 else 0) :: st) h r u :=
  wq_if_ne hd hq ht (fun c => kt (Classical.byContradiction fun p => c (if_neg p))) (fun c => kf (fun p => by rw [if_pos p] at c; omega))
theorem wq_cif_eq {P : Prop} {off : Int} {tgt : Nat} (hd : dc m pc = some (.ifCond .eq off, 3)) (hq : pc + 3 = q) (ht : (pc : Int) + off = (tgt : Int)) (kt : ¬ P → WP E m X tgt ls st h r u) (kf : P → WP E m X q ls st h r u) : WP E m X pc ls (vI (bI P) :: st) h r u :=
  wq_if_eq hd hq ht (fun c => kt (fun p => by rw [bI_t p] at c; omega)) (fun c => kf (Classical.byContradiction fun p => c (bI_f p)))
theorem wq_cif_ne {P : Prop} {off : Int} {tgt : Nat} (hd : dc m pc = some (.ifCond .ne off, 3)) (hq : pc + 3 = q) (ht : (pc : Int) + off = (tgt : Int)) (kt : P → WP E m X tgt ls st h r u) (kf : ¬ P → WP E m X q ls st h r u) : WP E m X pc ls (vI (bI P) :: st) h r u :=
  wq_if_ne hd hq ht (fun c => kt (Classical.byContradiction fun p => c (bI_f p))) (fun c => kf (fun p => by rw [bI_t p] at c; omega))
theorem Meets.mono {g : Bool} {R : Room} {av : List mV} {post post' : mP} (hM : Meets g R m av h r post) (hp : ∀ rv h' r', post rv h' r' → post' rv h' r') : Meets g R m av h r post' :=
  ⟨hM.1, hM.2.1, hM.2.2.trans fun pc ls st h r u hx => WP.exit ⟨hx.1, hx.2.1, hx.2.2.imp (fun ⟨a, x, b, c, d⟩ => ⟨a, x, b, c, hp _ _ _ d⟩) (fun z => z.imp (fun ⟨a, b, c, d⟩ => ⟨a, b, c, hp _ _ _ d⟩) (fun ⟨a, x, b, c, d⟩ => ⟨a, x, b, c, hp _ _ _ d⟩))⟩⟩
end BS
theorem pB_t {P : Prop} [Decidable P] {h : mH} {r : mR} (hp : P) : pI (if P then 1 else 0) h r (some (vI 1)) h r := by rw [if_pos hp]; exact ⟨rfl, rfl, rfl⟩
theorem pB_f {P : Prop} [Decidable P] {h : mH} {r : mR} (hp : ¬ P) : pI (if P then 1 else 0) h r (some (vI 0)) h r := by rw [if_neg hp]; exact ⟨rfl, rfl, rfl⟩
abbrev pH (h' : mH) (r : mR) : mP := fun rv h1 r1 => rv = none ∧ h1 = h' ∧ r1 = r
/-- how many of 0 .. k-1 are so -/
def cn (f : Int → Bool) : Nat → Int
  | 0 => 0
  | k + 1 => cn f k + (if f k then 1 else 0)
theorem cn_b (f : Int → Bool) (k : Nat) : 0 ≤ cn f k ∧ cn f k ≤ k := by
  induction k with
  | zero => exact ⟨Int.le_refl _, Int.le_refl _⟩
  | succ k ih => unfold cn; split <;> omega
theorem cn_s {f : Int → Bool} {d : Int} (h0 : 0 ≤ d) : cn f (d + 1).toNat = cn f d.toNat + (if f d then 1 else 0) := by
  have e : (d + 1).toNat = d.toNat + 1 := by omega
  have e2 : ((d.toNat : Nat) : Int) = d := by omega
  rw [e, cn, e2]
theorem cn_t {f : Int → Bool} {d : Int} (h0 : 0 ≤ d) (hf : f d = true) : cn f (d + 1).toNat = cn f d.toNat + 1 := by rw [cn_s h0, hf]; rfl
theorem cn_f {f : Int → Bool} {d : Int} (h0 : 0 ≤ d) (hf : f d = false) : cn f (d + 1).toNat = cn f d.toNat + 0 := by rw [cn_s h0, hf]; rfl
theorem cn_congr {f g : Int → Bool} : ∀ {k : Nat}, (∀ d : Int, 0 ≤ d → d < k → f d = g d) → cn f k = cn g k
  | 0, _ => rfl
  | k + 1, h => by unfold cn; rw [cn_congr (k := k) (fun d h0 h1 => h d h0 (by omega)), h k (by omega) (by omega)]
theorem hup_s {h : mH} {i : Nat} {j v : Int} : hup h i j v i j = v := by simp [hup]
theorem hup_i {h : mH} {i a : Nat} {j v b : Int} (ha : ¬ a = i) : hup h i j v a b = h a b := by simp [hup, ha]
theorem hup_j {h : mH} {i a : Nat} {j v b : Int} (hb : ¬ b = j) : hup h i j v a b = h a b := by simp [hup, hb]
theorem k_math_i : Cond.initialized "java/lang/Math" ∈ t0_ws := tm 124 (by decide +kernel) rfl
theorem k_Re_26 : Cond.methodLink "LinkTimes$Reader" 26 Lib.Math.min.name ∈ t0_ws := tm 574 (by decide +kernel) rfl
theorem k_math_min_s : Cond.static Lib.Math.min.name ∈ t0_ws := tm 575 (by decide +kernel) rfl
theorem k_math_min : Cond.code Lib.Math.min.name Lib.Math.min.code 2 (some .int) ∈ t0_ws := tm 576 (by decide +kernel) rfl
theorem k_Re_152 : Cond.methodLink "LinkTimes$Reader" 152 Lib.Math.max.name ∈ t0_ws := tm 721 (by decide +kernel) rfl
theorem k_math_max_s : Cond.static Lib.Math.max.name ∈ t0_ws := tm 722 (by decide +kernel) rfl
theorem k_math_max : Cond.code Lib.Math.max.name Lib.Math.max.code 2 (some .int) ∈ t0_ws := tm 723 (by decide +kernel) rfl
theorem k_Se_79 : Cond.constant "LinkTimes$Search" 79 (Int32.ofInt 1000000) ∈ t0_ws := tm 841 (by decide +kernel) rfl
theorem k_Ba_38 : Cond.constant "LinkTimes$Bargains" 38 (Int32.ofInt 1000000) ∈ t0_ws := tm 915 (by decide +kernel) rfl
theorem k_Ba_86 : Cond.methodLink "LinkTimes$Bargains" 86 Lib.Math.min.name ∈ t0_ws := tm 926 (by decide +kernel) rfl
theorem k_Ba_95 : Cond.methodLink "LinkTimes$Bargains" 95 Lib.Math.max.name ∈ t0_ws := tm 935 (by decide +kernel) rfl
theorem k_St_38 : Cond.constant "LinkTimes$Steps" 38 (Int32.ofInt 1000000) ∈ t0_ws := tm 957 (by decide +kernel) rfl
theorem k_St_47 : Cond.methodLink "LinkTimes$Steps" 47 Lib.Math.min.name ∈ t0_ws := tm 962 (by decide +kernel) rfl
theorem k_Fl_31 : Cond.constant "LinkTimes$Flood" 31 (Int32.ofInt 1000000) ∈ t0_ws := tm 975 (by decide +kernel) rfl
theorem k_Fl_57 : Cond.methodLink "LinkTimes$Flood" 57 Lib.Math.min.name ∈ t0_ws := tm 980 (by decide +kernel) rfl
theorem k_Lt_257 : Cond.constant "LinkTimes" 257 (Int32.ofInt 1000000) ∈ t0_ws := tm 986 (by decide +kernel) rfl
theorem k_Lt_258 : Cond.methodLink "LinkTimes" 258 Lib.Math.max.name ∈ t0_ws := tm 991 (by decide +kernel) rfl
theorem k_Mo_144 : Cond.constantLong "LinkTimesModel" 144 (Int64.ofInt 32) ∈ t0_ws := tm 1458 (by decide +kernel) rfl
theorem k_Mo_146 : Cond.constantLong "LinkTimesModel" 146 (Int64.ofInt 96) ∈ t0_ws := tm 1459 (by decide +kernel) rfl
end
section
/-! making cells: 'new', 'newarray', constructors -/
def hnew (h : mH) (i : Nat) : mH := fun a b => if a = i then 0 else h a b
def rnew (r : mR) : mR := (fun a b => if a = r.2 then none else r.1 a b, r.2 + 1)
def adn (ad : Nat → Nat) (i a : Nat) : Nat → Nat := fun j => if j = i then a else ad j
theorem adn_ag {ad : Nat → Nat} {i a : Nat} (hi : i < sBase) : mAg (adn ad i a) ad i := by
  intro j hj
  unfold adn
  rw [if_neg (by omega)]
theorem mCe_new {G : mG} {ad : Nat → Nat} {h : mH} {r : mR} {i a : Nat} (hi : i < r.2) (hr : rOK r) (hb : r.2 ≤ sBase) : mCe G (adn ad r.2 a) (hnew h r.2) (rnew r) i = mCe G ad h r i := by
  have hne : ¬ i = r.2 := by omega
  have e : hnew h r.2 i = h i := by funext b; simp [hnew, hne]
  unfold mCe mAv
  split
  · simp only [e]
  · have : mFv (adn ad r.2 a) (hnew h r.2) (rnew r) i = mFv ad h r i := by
      funext ci k
      unfold mFv
      rw [e]
      have e2 : (rnew r).1 i k = r.1 i k := by simp [rnew, hne]
      rw [e2]
      split
      · cases hx : r.1 i k with
        | none => rfl
        | some t =>
          have ht := hr _ _ _ hx
          show Value.ref (adn ad r.2 a t) = Value.ref (ad t)
          unfold adn
          rw [if_neg (by omega)]
      · rfl
    rw [this]
theorem mW_new {G : mG} {ad : Nat → Nat} {h : mH} {r : mR} {a : Nat} (hr : rOK r) (hb : r.2 ≤ sBase) : mW G (adn ad r.2 a) (hnew h r.2) (rnew r) = mW G ad h r ++ [(a, mCe G (adn ad r.2 a) (hnew h r.2) (rnew r) r.2)] := by
  apply List.ext_getElem?
  intro i
  have hl : (mW G ad h r).length = r.2 := by unfold mW; simp
  by_cases h1 : i < r.2
  · rw [List.getElem?_append_left (by omega), mW_get h1, mW_get (show i < (rnew r).2 from by show i < r.2 + 1; omega), mCe_new h1 hr hb]
    unfold adn
    rw [if_neg (by omega)]
  · by_cases h2 : i = r.2
    · subst h2
      rw [List.getElem?_append_right (by omega), hl, mW_get (show r.2 < (rnew r).2 from by show r.2 < r.2 + 1; omega)]
      simp [adn]
    · rw [List.getElem?_eq_none (by unfold mW; simp [rnew]; omega), List.getElem?_eq_none (by simp [hl]; omega)]
theorem okH.new {h : mH} {i : Nat} (hh : okH h) : okH (hnew h i) := by
  intro a b
  unfold hnew
  by_cases hz : a = i
  · rw [if_pos hz]
    split
    · unfold okJ; omega
    · unfold okI; omega
  · rw [if_neg hz]
    exact hh a b
theorem rOK.new {r : mR} (hr : rOK r) : rOK (rnew r) := by
  intro i k t ht
  unfold rnew at ht ⊢
  dsimp only at ht ⊢
  split at ht
  · cases ht
  · have := hr i k t ht
    omega
theorem rfT_lt : ∀ q ∈ rfT, q.1 < nIds := by decide
theorem rfq_lt {i k t : Nat} (h : rfq i k = some t) : i < nIds := by
  unfold rfq at h
  split at h
  · rename_i l hl
    exact rfT_lt _ (lookup_mem hl)
  · cases h
theorem rfOK.new {r : mR} (hr : rfOK r) : rfOK (rnew r) := by
  refine ⟨by have := hr.1; show nIds ≤ r.2 + 1; omega, fun i k t hq => ?_⟩
  have h2 := rfq_lt hq
  have h3 := hr.1
  show (if i = r.2 then none else r.1 i k) = _
  rw [if_neg (by omega)]
  exact hr.2 i k t hq
theorem mRep.new {G : mG} {g : Bool} {ad : Nat → Nat} {h : mH} {r : mR} {H H1 : Heap} {a : Nat} (hR : mRep G g ad h r H) (hb : r.2 + 1 ≤ sBase) (h1 : va_P G.1 vwCl (mW G ad h r ++ [(a, mCe G (adn ad r.2 a) (hnew h r.2) (rnew r) r.2)]) H1) (h2 : va_D (mA G) (mW G ad h r ++ [(a, mCe G (adn ad r.2 a) (hnew h r.2) (rnew r) r.2)])) : mRep G g (adn ad r.2 a) (hnew h r.2) (rnew r) H1 := by
  obtain ⟨-, -, h3, h4, h5, h6, h7, h8⟩ := hR
  rw [← mW_new h5 h6] at h1 h2
  refine ⟨h1, h2, h3.new, fun e => (h4 e).new, h5.new, hb, fun i hi => ?_, ?_⟩
  · have := h7 i hi
    unfold adn
    rw [if_neg (by omega), if_neg (by omega)]
    exact this
  · have z1 : sScr = 200000 := rfl
    have z2 : sBase = 100000 := rfl
    unfold adn
    rw [if_neg (by omega), if_neg (by omega)]
    exact h8
section MK
variable {E : mE} {m : mM} {X : mX} {pc q : Nat} {ls : mL} {st : List mV} {h : mH} {r : mR} {u : mU}
theorem newa_go {ty : FieldType} {n : Nat} {at_ : ArrayType} (hw : Cond.arrayClass ty ∈ t0_ws) (hty : newarray.typeOf at_ = ty) (hk : kd r.2 = .inl (ty, n)) (ho : okb n = true) (hby : n * componentBytes ty ≤ 536870912) (hd : dc m pc = some (.newarray at_, 2)) (hq : pc + 2 = q) (hb : r.2 + 1 ≤ sBase) (hc : u.1 + 1 ≤ E.2.cells) (hs : u.2 + n ≤ E.2.slots) (hcl : ∀ (s : State) (G : mG) (cA : ClassId), mSf G s → s.vm.findClass ("[" ++ ty.toString) = some cA → cA = G.2.1 ty) (ha : ∀ (h : mH) (cA : ClassId), (∀ b, h r.2 b = 0) → vp_cell cA (mAv h r.2 ty n) = arrV cA n (fun _ => defaultValue ty))
    (k : WP E m X q ls (vR r.2 :: st) (hnew h r.2) (rnew r) (u.1 + 1, u.2 + n)) : WP E m X pc ls (vI n :: st) h r u := by
  intro G p l e s mid args below meth c Q ad0 n0 hC hX ad H locs lsA hag hn hR hS hL hst
  subst hq
  subst hty
  have hts : ∀ w ∈ t0_ws, w.before args s = true := hC.2.2.2.2.2.2.2.1
  have hsf := hC.2.2.2.2.2.2.2.2.1
  have hx : okI n := okb_spec ho
  have h0 : (0 : Int) ≤ n := Int.natCast_nonneg n
  have hz : ∀ b, hnew h r.2 r.2 b = 0 := fun b => by simp [hnew]
  refine va_newaK hC.1 hC.2.1 (hts _ hw) rfl (mdc hC hd) rfl (n := Int32.ofInt n) (N := n) (fun z => by rw [oi_zero, oi_lt hx oi_0] at z; omega) (by rw [oi_clamp hx h0]; rfl) hby hc hs rfl (fun H1 cA a1 a2 a3 a4 a5 => ?_)
  have hcA := hcl s G cA hsf a5
  subst hcA
  have hA : mA G H.size := Nat.le_trans hsf.2.1 hS.1
  have hat : va_at G.1 vwCl (H.size, mCe G (adn ad r.2 H.size) (hnew h r.2) (rnew r) r.2) H1 := by
    rw [mCe_arr hk]
    show H1[H.size]? = some (vp_cell _ _)
    rw [ha _ _ hz]
    exact a1
  have hP1 : va_P G.1 vwCl (mW G ad h r ++ [(H.size, mCe G (adn ad r.2 H.size) (hnew h r.2) (rnew r) r.2)]) H1 := by
    refine va_P.app (hR.1.kept fun j qq hj => a3 _ (hR.1 j qq hj).lt) (fun j qq hj => ?_)
    match j, hj with
    | 0, hj => cases hj; exact hat
    | j + 1, hj => simp at hj
  have hD1 : va_D (mA G) (mW G ad h r ++ [(H.size, mCe G (adn ad r.2 H.size) (hnew h r.2) (rnew r) r.2)]) := hR.2.1.push hR.1 rfl hA
  have hR1 := hR.new hb hP1 hD1
  have hS1 : va_S (mA G) s.heap H1 locs := ⟨by rw [a2]; exact Nat.le_succ_of_le hS.1, fun q h1 h2 => by rw [a3 q (Nat.lt_of_lt_of_le h1 hS.1)]; exact hS.2.1 q h1 h2, hS.2.2⟩
  have hag1 := adn_ag (ad := ad) (a := H.size) (show r.2 < sBase from hb)
  have hst1 := ok_tl hst
  have kk := k G p l e s mid args below meth c Q ad0 n0 hC hX (adn ad r.2 H.size) H1 locs lsA (fun i hi => (hag1 i (hi.elim (fun z => Or.inl (Nat.lt_of_lt_of_le z hn)) Or.inr)).trans (hag i hi)) (Nat.le_succ_of_le hn) hR1 hS1 (hL.ag hag1 (Nat.le_succ _)) (ok_cons (v := vR r.2) (Or.inl (Nat.lt_succ_self _)) (fun w hw => (hst1 w hw).mono (Nat.le_succ _)))
  have e1 : (vR r.2 :: st).map (toV (adn ad r.2 H.size)) = .ref H.size :: st.map (toV ad) := by
    rw [List.map_cons, map_ag hag1 hst1]
    simp [toV, adn]
  rw [e1] at kk
  exact kk
end MK
end
section
section MK2
variable {E : mE} {m : mM} {X : mX} {pc q : Nat} {ls : mL} {st : List mV} {h : mH} {r : mR} {u : mU}
theorem wq_newI {n : Nat} (hw : Cond.arrayClass .int ∈ t0_ws) (hk : kd r.2 = .inl (.int, n)) (ho : okb n = true) (hby : n * 4 ≤ 536870912) (hd : dc m pc = some (.newarray .int, 2)) (hq : pc + 2 = q) (hb : r.2 + 1 ≤ sBase) (hc : u.1 + 1 ≤ E.2.cells) (hs : u.2 + n ≤ E.2.slots)
    (k : WP E m X q ls (vR r.2 :: st) (hnew h r.2) (rnew r) (u.1 + 1, u.2 + n)) : WP E m X pc ls (vI n :: st) h r u :=
  newa_go hw rfl hk ho hby hd hq hb hc hs (fun s G cA hsf hf => Option.some.inj (hf.symm.trans (hsf.1.2 0 _ rfl).2)) (fun h cA hz => by
    have : (fun j : Nat => Value.int (Int32.ofInt (h r.2 j))) = fun _ => defaultValue .int := by funext j; rw [hz]; rfl
    show arrV cA n (fun j : Nat => Value.int (Int32.ofInt (h r.2 j))) = _
    rw [this]) k
theorem wq_newB {n : Nat} (hw : Cond.arrayClass .byte ∈ t0_ws) (hk : kd r.2 = .inl (.byte, n)) (ho : okb n = true) (hby : n * 1 ≤ 536870912) (hd : dc m pc = some (.newarray .byte, 2)) (hq : pc + 2 = q) (hb : r.2 + 1 ≤ sBase) (hc : u.1 + 1 ≤ E.2.cells) (hs : u.2 + n ≤ E.2.slots)
    (k : WP E m X q ls (vR r.2 :: st) (hnew h r.2) (rnew r) (u.1 + 1, u.2 + n)) : WP E m X pc ls (vI n :: st) h r u :=
  newa_go hw rfl hk ho hby hd hq hb hc hs (fun s G cA hsf hf => Option.some.inj (hf.symm.trans (hsf.1.2 1 _ rfl).2)) (fun h cA hz => by
    have : (fun j : Nat => Value.int (Int32.ofInt (h r.2 j))) = fun _ => defaultValue .byte := by funext j; rw [hz]; rfl
    show arrV cA n (fun j : Nat => Value.int (Int32.ofInt (h r.2 j))) = _
    rw [this]) k
theorem wq_newZ {n : Nat} (hw : Cond.arrayClass .boolean ∈ t0_ws) (hk : kd r.2 = .inl (.boolean, n)) (ho : okb n = true) (hby : n * 1 ≤ 536870912) (hd : dc m pc = some (.newarray .boolean, 2)) (hq : pc + 2 = q) (hb : r.2 + 1 ≤ sBase) (hc : u.1 + 1 ≤ E.2.cells) (hs : u.2 + n ≤ E.2.slots)
    (k : WP E m X q ls (vR r.2 :: st) (hnew h r.2) (rnew r) (u.1 + 1, u.2 + n)) : WP E m X pc ls (vI n :: st) h r u :=
  newa_go hw rfl hk ho hby hd hq hb hc hs (fun s G cA hsf hf => Option.some.inj (hf.symm.trans (hsf.1.2 2 _ rfl).2)) (fun h cA hz => by
    have : (fun j : Nat => Value.int (Int32.ofInt (h r.2 j))) = fun _ => defaultValue .boolean := by funext j; rw [hz]; rfl
    show arrV cA n (fun j : Nat => Value.int (Int32.ofInt (h r.2 j))) = _
    rw [this]) k
theorem wq_newL {n : Nat} (hw : Cond.arrayClass .long ∈ t0_ws) (hk : kd r.2 = .inl (.long, n)) (ho : okb n = true) (hby : n * 8 ≤ 536870912) (hd : dc m pc = some (.newarray .long, 2)) (hq : pc + 2 = q) (hb : r.2 + 1 ≤ sBase) (hc : u.1 + 1 ≤ E.2.cells) (hs : u.2 + n ≤ E.2.slots)
    (k : WP E m X q ls (vR r.2 :: st) (hnew h r.2) (rnew r) (u.1 + 1, u.2 + n)) : WP E m X pc ls (vI n :: st) h r u :=
  newa_go hw rfl hk ho hby hd hq hb hc hs (fun s G cA hsf hf => Option.some.inj (hf.symm.trans (hsf.1.2 3 _ rfl).2)) (fun h cA hz => by
    have : (fun j : Nat => Value.long (Int64.ofInt (h r.2 j))) = fun _ => defaultValue .long := by funext j; rw [hz]; rfl
    show arrV cA n (fun j : Nat => Value.long (Int64.ofInt (h r.2 j))) = _
    rw [this]) k
def dfOK (ci : Nat) : Bool := (List.range (nfCl ci)).all fun k => match tyCl ci k with
  | .int => true
  | .boolean => true
  | .object _ => true
  | .array _ => true
  | _ => false
theorem mFv_new {ad : Nat → Nat} {h : mH} {r : mR} {ci k : Nat} (hd : dfOK ci = true) (hk : k < nfCl ci) : mFv ad (hnew h r.2) (rnew r) r.2 ci k = defaultValue (tyCl ci k) := by
  have h1 := List.all_eq_true.mp hd k (List.mem_range.mpr hk)
  unfold mFv
  have e1 : hnew h r.2 r.2 k = 0 := by simp [hnew]
  have e2 : (rnew r).1 r.2 k = none := by simp [rnew]
  rw [e1, e2]
  split at h1 <;> rename_i hx <;> simp_all [isRf, defaultValue, toV]
theorem wq_new {idx ci : Nat} {C : String} {T : u_T} {N : Nat} (hcl : Cond.classLink m.1.cls idx C ∈ t0_ws) (hins : Cond.instantiable C N ∈ t0_ws) (hini : Cond.initialized C ∈ t0_ws) (hv : vwCl[ci]? = some (C, T, N)) (hk : kd r.2 = .inr ci) (hdf : dfOK ci = true) (hd : dc m pc = some (.new idx, 3)) (hq : pc + 3 = q) (hb : r.2 + 1 ≤ sBase) (hc : u.1 + 1 ≤ E.2.cells) (hs : u.2 + N ≤ E.2.slots)
    (k : WP E m X q ls (vR r.2 :: st) (hnew h r.2) (rnew r) (u.1 + 1, u.2 + N)) : WP E m X pc ls st h r u := by
  intro G p l e s mid args below meth c Q ad0 n0 hC hX ad H locs lsA hag hn hR hS hL hst
  subst hq
  have hts : ∀ w ∈ t0_ws, w.before args s = true := hC.2.2.2.2.2.2.2.1
  have hsf := hC.2.2.2.2.2.2.2.2.1
  obtain ⟨o1, o2, o3⟩ := ok_cl ci _ hv
  refine va_new (A := mA G) (fs := (List.range N).map fun k => defaultValue (tyCl ci k)) hC.1 hC.2.1 hts o1 (tyCl ci) o3 hC.2.2.2.2.1 (hts _ hcl) (hts _ hins) (hts _ hini) hsf.1 hR.1 hR.2.1 hS (fun z hz => Nat.le_trans hsf.2.1 hz) hv (fun j hj => by unfold vp_V; simp [List.getD, List.getElem?_map, List.getElem?_range hj]) hc hs (mdc hC hd) (fun a H1 hP1 hD1 hS1 => ?_)
  have e0 : mCe G (adn ad r.2 a) (hnew h r.2) (rnew r) r.2 = .inr (ci, (List.range N).map fun k => defaultValue (tyCl ci k)) := by
    rw [mCe_obj hk, nf_of hv]
    congr 1
    congr 1
    refine List.map_congr_left fun k hk => mFv_new hdf ?_
    rw [nf_of hv]
    exact List.mem_range.mp hk
  rw [← e0] at hP1 hD1
  have hR1 := hR.new hb hP1 hD1
  have hag1 := adn_ag (ad := ad) (a := a) (show r.2 < sBase from hb)
  have kk := k G p l e s mid args below meth c Q ad0 n0 hC hX (adn ad r.2 a) H1 locs lsA (fun i hi => (hag1 i (hi.elim (fun z => Or.inl (Nat.lt_of_lt_of_le z hn)) Or.inr)).trans (hag i hi)) (Nat.le_succ_of_le hn) hR1 hS1 (hL.ag hag1 (Nat.le_succ _)) (ok_cons (v := vR r.2) (Or.inl (Nat.lt_succ_self _)) (fun w hw => (hst w hw).mono (Nat.le_succ _)))
  have e1 : (vR r.2 :: st).map (toV (adn ad r.2 a)) = .ref a :: st.map (toV ad) := by
    rw [List.map_cons, map_ag hag1 hst]
    simp [toV, adn]
  rw [e1] at kk
  exact kk
theorem wq_objInit {idx i : Nat} (hl : Cond.methodLink m.1.cls idx Lib.objectInit ∈ t0_ws) (hin : Cond.instanceMethod Lib.objectInit ∈ t0_ws) (hcd : Cond.code Lib.objectInit ⟨#[0xb1]⟩ 1 none ∈ t0_ws) (hd : dc m pc = some (.invokespecial idx, 3)) (hq : pc + 3 = q) (h1 : 1 ≤ E.2.frames) (h2 : 20 ≤ E.2.locals) (hrest : st.length ≤ 4) (k : WP E m X q ls st h r u) : WP E m X pc ls (vR i :: st) h r u := by
  intro G p l e s mid args below meth c Q ad0 n0 hC hX ad H locs lsA hag hn hR hS hL hst
  have hts : ∀ w ∈ t0_ws, w.before args s = true := hC.2.2.2.2.2.2.2.1
  subst hq
  have hsum := cats_sum (mid := mid) (pc := pc) (lsA := lsA) (st0 := (vR i :: st).map (toV ad)) (ad := ad) hrest
  exact W.objInit hC.1 hC.2.1 hC.2.2.2.2.1 (hts _ hl) (hts _ hin) (hts _ hcd) rfl (hL.1.trans hC.2.2.2.1.symm) rfl (mdc hC hd) h1 (by omega) (k G p l e s mid args below meth c Q ad0 n0 hC hX ad H locs lsA hag hn hR hS hL (ok_tl hst))
theorem wq_callI {idx : Nat} {m' : mM} {R' : Room} {As rest : List mV} {i : Nat} {post : mP} (hd : dc m pc = some (.invokespecial idx, 3)) (hq : pc + 3 = q) (hl : Cond.methodLink m.1.cls idx m'.1 ∈ t0_ws) (hv : Cond.instanceMethod m'.1 ∈ t0_ws) (hname : m'.1.name = "<init>") (hret : m'.2.2.2.1 = none)
    (hpar : (parseMethodDescriptor m'.1.desc).map (fun d => d.parameters.length) = some As.length)
    (hR1 : R'.frames + 1 ≤ E.2.frames) (hR2 : 8 + (m'.2.2.1 + 11) + R'.locals ≤ E.2.locals) (hb1 : u.1 + R'.cells ≤ E.2.cells) (hb2 : u.2 + R'.slots ≤ E.2.slots) (hrest : rest.length ≤ 4)
    (hM : Meets E.1 R' m' (vR i :: As) h r post) (hs : st = As.reverse ++ vR i :: rest)
    (k : ∀ rv h' r', post rv h' r' → r.2 ≤ r'.2 → WP E m X q ls (rv.toList ++ rest) h' r' (u.1 + R'.cells, u.2 + R'.slots)) : WP E m X pc ls st h r u := by
  intro G p l e s mid args below meth c Q ad0 n0 hC hX ad H locs lsA hag hn hR hS hL hst
  have hm' := hM.1
  have hts : ∀ w ∈ t0_ws, w.before args s = true := hC.2.2.2.2.2.2.2.1
  have hG : GoodIn t0_ws (mWs m') := fun w hw => ⟨by rcases List.mem_cons.mp hw with rfl | hw; exact hm'.2.1; exact hw, (good_t0 (m := m) hm' w hw).2⟩
  have cw : CallB E.2 s args m.1.cls idx m'.1 m'.2.1 m'.2.2.1 none (mWs m') R' R'.cells R'.slots As.length ∧ m'.1.name = "<init>" ∧ (Cond.instanceMethod m'.1).before args s = true :=
    ⟨callB_of (ws' := t0_ws) As.length hts hG (by unfold mWs; rw [hret]) rfl rfl (hts _ hm'.2.2.2.1) (hts _ hl) ⟨hm'.2.2.2.2.1, hm'.2.2.2.2.2, hpar⟩ ⟨hR1, hR2⟩, hname, hts _ hv⟩
  have hsf := hC.2.2.2.2.2.2.2.2.1
  subst hs
  have hst' : ∀ v ∈ rest, okV r.2 v := fun v hv => hst v (List.mem_append_right _ (List.mem_cons_of_mem _ hv))
  have hav : ∀ v ∈ vR i :: As, okV r.2 v := fun v hv => by
    rcases List.mem_cons.mp hv with rfl | hv
    · exact hst _ (List.mem_append_right _ List.mem_cons_self)
    · exact hst v (List.mem_append_left _ (List.mem_reverse.mpr hv))
  refine call_back hC hX hag hn hS hL hst' (va_runI (Ts := t0_ws) (cc := m.2.1) (nL := m.2.2.1) (own := m.1.cls) (As := As.map (toV ad)) (b := ad i) ⟨hC.1, hC.2.1, hC.2.2.2.1, hC.2.2.2.2.1, hts⟩ (hM.met l G ad) cw ⟨mPre.blind, fun U hU hW => ⟨rfl, hsf.warm hW hU hS, by rw [hU]; exact hR, hav⟩⟩ rfl (by simp) hL.1 (by simp [toV]) (cats_sum hrest) (mdc hC hd) ⟨hb1, hb2⟩) hq k
theorem wq_callIN {idx : Nat} {m' : mM} {R' : Room} {As rest : List mV} {i : Nat} {post : mP} (hd : dc m pc = some (.invokespecial idx, 3)) (hq : pc + 3 = q) (hl : (m.1.cls, idx, m'.1) ∈ nestW) (hv : Cond.instanceMethod m'.1 ∈ t0_ws) (hname : m'.1.name = "<init>") (hret : m'.2.2.2.1 = none)
    (hpar : (parseMethodDescriptor m'.1.desc).map (fun d => d.parameters.length) = some As.length)
    (hR1 : R'.frames + 1 ≤ E.2.frames) (hR2 : 8 + (m'.2.2.1 + 11) + R'.locals ≤ E.2.locals) (hb1 : u.1 + R'.cells ≤ E.2.cells) (hb2 : u.2 + R'.slots ≤ E.2.slots) (hrest : rest.length ≤ 4)
    (hM : Meets E.1 R' m' (vR i :: As) h r post) (hs : st = As.reverse ++ vR i :: rest)
    (k : ∀ rv h' r', post rv h' r' → r.2 ≤ r'.2 → WP E m X q ls (rv.toList ++ rest) h' r' (u.1 + R'.cells, u.2 + R'.slots)) : WP E m X pc ls st h r u := by
  intro G p l e s mid args below meth c Q ad0 n0 hC hX ad H locs lsA hag hn hR hS hL hst
  have hm' := hM.1
  have hts : ∀ w ∈ t0_ws, w.before args s = true := hC.2.2.2.2.2.2.2.1
  have hG : GoodIn t0_ws (mWs m') := fun w hw => ⟨by rcases List.mem_cons.mp hw with rfl | hw; exact hm'.2.1; exact hw, (good_t0 (m := m) hm' w hw).2⟩
  have hsf := hC.2.2.2.2.2.2.2.2.1
  have cw : va_CN E.2 s args m.1.cls idx m'.1 "LinkTimes" m'.2.1 m'.2.2.1 none (mWs m') R' R'.cells R'.slots As.length ∧ m'.1.name = "<init>" ∧ (Cond.instanceMethod m'.1).before args s = true :=
    ⟨va_cnB (ws' := t0_ws) As.length hts hG (by unfold mWs; rw [hret]) rfl rfl (hsf.2.2.1 _ hl) (hts _ hm'.2.2.2.1) ⟨hm'.2.2.2.2.1, hm'.2.2.2.2.2, hpar⟩ ⟨hR1, hR2⟩, hname, hts _ hv⟩
  subst hs
  have hst' : ∀ v ∈ rest, okV r.2 v := fun v hv => hst v (List.mem_append_right _ (List.mem_cons_of_mem _ hv))
  have hav : ∀ v ∈ vR i :: As, okV r.2 v := fun v hv => by
    rcases List.mem_cons.mp hv with rfl | hv
    · exact hst _ (List.mem_append_right _ List.mem_cons_self)
    · exact hst v (List.mem_append_left _ (List.mem_reverse.mpr hv))
  refine call_back hC hX hag hn hS hL hst' (va_runIN (Ts := t0_ws) (cc := m.2.1) (nL := m.2.2.1) (own := m.1.cls) (As := As.map (toV ad)) (b := ad i) ⟨hC.1, hC.2.1, hC.2.2.2.1, hC.2.2.2.2.1, hts⟩ (hM.met l G ad) cw ⟨mPre.blind, fun U hU hW => ⟨rfl, hsf.warm hW hU hS, by rw [hU]; exact hR, hav⟩⟩ rfl (by simp) hL.1 (by simp [toV]) (cats_sum hrest) (mdc hC hd) ⟨hb1, hb2⟩) hq k
end MK2
end
section
/-! the constructors, each at the cells that it makes: written by wip/whole/ctor_gen.py -/
abbrev h0 : mH := fun _ _ => 0
theorem hn0 (n : Nat) : hnew h0 n = h0 := by funext a b; unfold hnew; split <;> rfl
theorem k_obj_i : Cond.instanceMethod Lib.objectInit ∈ t0_ws := tm 139 (by decide +kernel) rfl
theorem k_obj_c : Cond.code Lib.objectInit ⟨#[0xb1]⟩ 1 none ∈ t0_ws := tm 140 (by decide +kernel) rfl
theorem k_ac_int : Cond.arrayClass .int ∈ t0_ws := tm 237 (by decide +kernel) rfl
theorem k_ac_byte : Cond.arrayClass .byte ∈ t0_ws := tm 236 (by decide +kernel) rfl
theorem k_ac_boolean : Cond.arrayClass .boolean ∈ t0_ws := tm 238 (by decide +kernel) rfl
theorem k_ac_long : Cond.arrayClass .long ∈ t0_ws := tm 1371 (by decide +kernel) rfl
theorem k_ins_0 : Cond.instantiable "LinkTimes$Bargains" 6 ∈ t0_ws := tm 480 (by decide +kernel) rfl
theorem k_ini_0 : Cond.initialized "LinkTimes$Bargains" ∈ t0_ws := tm 122 (by decide +kernel) rfl
theorem k_ins_1 : Cond.instantiable "LinkTimes$Desk" 15 ∈ t0_ws := tm 142 (by decide +kernel) rfl
theorem k_ini_1 : Cond.initialized "LinkTimes$Desk" ∈ t0_ws := tm 114 (by decide +kernel) rfl
theorem k_ins_2 : Cond.instantiable "LinkTimes$Flood" 2 ∈ t0_ws := tm 443 (by decide +kernel) rfl
theorem k_ini_2 : Cond.initialized "LinkTimes$Flood" ∈ t0_ws := tm 120 (by decide +kernel) rfl
theorem k_ins_3 : Cond.instantiable "LinkTimes$Log" 4 ∈ t0_ws := tm 291 (by decide +kernel) rfl
theorem k_ini_3 : Cond.initialized "LinkTimes$Log" ∈ t0_ws := tm 116 (by decide +kernel) rfl
theorem k_ins_4 : Cond.instantiable "LinkTimes$Net" 10 ∈ t0_ws := tm 311 (by decide +kernel) rfl
theorem k_ini_4 : Cond.initialized "LinkTimes$Net" ∈ t0_ws := tm 117 (by decide +kernel) rfl
theorem k_ins_5 : Cond.instantiable "LinkTimes$Reader" 14 ∈ t0_ws := tm 240 (by decide +kernel) rfl
theorem k_ini_5 : Cond.initialized "LinkTimes$Reader" ∈ t0_ws := tm 115 (by decide +kernel) rfl
theorem k_ins_6 : Cond.instantiable "LinkTimes$Search" 6 ∈ t0_ws := tm 380 (by decide +kernel) rfl
theorem k_ini_6 : Cond.initialized "LinkTimes$Search" ∈ t0_ws := tm 118 (by decide +kernel) rfl
theorem k_ins_7 : Cond.instantiable "LinkTimes$Steps" 4 ∈ t0_ws := tm 457 (by decide +kernel) rfl
theorem k_ini_7 : Cond.initialized "LinkTimes$Steps" ∈ t0_ws := tm 121 (by decide +kernel) rfl
theorem k_ins_8 : Cond.instantiable "LinkTimes$Way" 5 ∈ t0_ws := tm 386 (by decide +kernel) rfl
theorem k_ini_8 : Cond.initialized "LinkTimes$Way" ∈ t0_ws := tm 119 (by decide +kernel) rfl
theorem k_ins_9 : Cond.instantiable "LinkTimes" 15 ∈ t0_ws := tm 134 (by decide +kernel) rfl
theorem k_ini_9 : Cond.initialized "LinkTimes" ∈ t0_ws := tm 113 (by decide +kernel) rfl
theorem k_ins_10 : Cond.instantiable "LinkTimesModel" 42 ∈ t0_ws := tm 1239 (by decide +kernel) rfl
theorem k_ini_10 : Cond.initialized "LinkTimesModel" ∈ t0_ws := tm 123 (by decide +kernel) rfl
theorem k_cl_La_8 : Cond.classLink "LinkTimesLaw" 8 "LinkTimes" ∈ t0_ws := tm 133 (by decide +kernel) rfl
theorem k_cl_Lt_13 : Cond.classLink "LinkTimes" 13 "LinkTimes$Desk" ∈ t0_ws := tm 141 (by decide +kernel) rfl
theorem k_cl_Lt_23 : Cond.classLink "LinkTimes" 23 "LinkTimes$Reader" ∈ t0_ws := tm 239 (by decide +kernel) rfl
theorem k_cl_Lt_32 : Cond.classLink "LinkTimes" 32 "LinkTimes$Log" ∈ t0_ws := tm 290 (by decide +kernel) rfl
theorem k_cl_Lt_39 : Cond.classLink "LinkTimes" 39 "LinkTimes$Net" ∈ t0_ws := tm 310 (by decide +kernel) rfl
theorem k_cl_Lt_48 : Cond.classLink "LinkTimes" 48 "LinkTimes$Search" ∈ t0_ws := tm 379 (by decide +kernel) rfl
theorem k_cl_Se_9 : Cond.classLink "LinkTimes$Search" 9 "LinkTimes$Way" ∈ t0_ws := tm 385 (by decide +kernel) rfl
theorem k_cl_Lt_55 : Cond.classLink "LinkTimes" 55 "LinkTimes$Flood" ∈ t0_ws := tm 442 (by decide +kernel) rfl
theorem k_cl_Lt_65 : Cond.classLink "LinkTimes" 65 "LinkTimes$Steps" ∈ t0_ws := tm 456 (by decide +kernel) rfl
theorem k_cl_Lt_72 : Cond.classLink "LinkTimes" 72 "LinkTimes$Bargains" ∈ t0_ws := tm 479 (by decide +kernel) rfl
theorem k_cl_La_16 : Cond.classLink "LinkTimesLaw" 16 "LinkTimesModel" ∈ t0_ws := tm 1238 (by decide +kernel) rfl
theorem k_ol_Lt_1 : Cond.methodLink "LinkTimes" 1 Lib.objectInit ∈ t0_ws := tm 138 (by decide +kernel) rfl
theorem k_ol_De_3 : Cond.methodLink "LinkTimes$Desk" 3 Lib.objectInit ∈ t0_ws := tm 146 (by decide +kernel) rfl
theorem k_ol_Re_3 : Cond.methodLink "LinkTimes$Reader" 3 Lib.objectInit ∈ t0_ws := tm 244 (by decide +kernel) rfl
theorem k_ol_Lo_1 : Cond.methodLink "LinkTimes$Log" 1 Lib.objectInit ∈ t0_ws := tm 295 (by decide +kernel) rfl
theorem k_ol_Ne_3 : Cond.methodLink "LinkTimes$Net" 3 Lib.objectInit ∈ t0_ws := tm 315 (by decide +kernel) rfl
theorem k_ol_Se_3 : Cond.methodLink "LinkTimes$Search" 3 Lib.objectInit ∈ t0_ws := tm 384 (by decide +kernel) rfl
theorem k_ol_Wa_3 : Cond.methodLink "LinkTimes$Way" 3 Lib.objectInit ∈ t0_ws := tm 390 (by decide +kernel) rfl
theorem k_ol_Fl_3 : Cond.methodLink "LinkTimes$Flood" 3 Lib.objectInit ∈ t0_ws := tm 447 (by decide +kernel) rfl
theorem k_ol_St_3 : Cond.methodLink "LinkTimes$Steps" 3 Lib.objectInit ∈ t0_ws := tm 461 (by decide +kernel) rfl
theorem k_ol_Ba_3 : Cond.methodLink "LinkTimes$Bargains" 3 Lib.objectInit ∈ t0_ws := tm 484 (by decide +kernel) rfl
theorem k_ol_Mo_3 : Cond.methodLink "LinkTimesModel" 3 Lib.objectInit ∈ t0_ws := tm 1243 (by decide +kernel) rfl
def x_c_De_init_2 (r : mR) : mR := (rup (rnew (rup (rnew (rup (rnew (rup (rnew (rup (rnew (rup (rnew (rup (rnew (rup (rnew (rup (rnew (rup (rnew r) 2 5 (some 3))) 2 6 (some 4))) 2 7 (some 5))) 2 8 (some 6))) 2 9 (some 7))) 2 10 (some 8))) 2 11 (some 9))) 2 12 (some 10))) 2 13 (some 11))) 2 14 (some 12))
set_option maxRecDepth 100000 in
set_option maxHeartbeats 4000000 in
theorem c_De_init_2 (r : mR) (hr : r.2 = 3) : Meets false { frames := 2, cells := 10, slots := 980, locals := 80 } m_De_init [vR 2] h0 r (fun rv h' r' => rv = none ∧ h' = h0 ∧ r' = x_c_De_init_2 r) := by
  obtain ⟨f, n⟩ := r
  cases hr
  refine ⟨ok_De_init, (Nat.le_of_ble_eq_true rfl), ?_⟩
  refine wq_aload_n (kk := 0) (q := 1) rfl rfl rfl ?_
  refine wq_objInit (q := 4) k_ol_De_3 k_obj_i k_obj_c rfl rfl (Nat.le_of_ble_eq_true rfl) (Nat.le_of_ble_eq_true rfl) (Nat.le_of_ble_eq_true rfl) ?_
  refine wq_aload_n (kk := 0) (q := 5) rfl rfl rfl ?_
  refine wq_bipush (n := 10) (q := 7) rfl rfl rfl ?_
  refine wq_newI (n := 10) (q := 9) k_ac_int rfl rfl (Nat.le_of_ble_eq_true rfl) rfl rfl (Nat.le_of_ble_eq_true rfl) (Nat.le_of_ble_eq_true rfl) (Nat.le_of_ble_eq_true rfl) ?_
  rw [hn0]
  refine wq_putF (q := 12) f_De_9 rfl rfl rfl rfl rfl (Or.inr (Nat.le_of_ble_eq_true rfl)) (Or.inr (Nat.le_of_ble_eq_true rfl)) (fun e => Bool.noConfusion e) rfl rfl ?_
  refine wq_aload_n (kk := 0) (q := 13) rfl rfl rfl ?_
  refine wq_bipush (n := 10) (q := 15) rfl rfl rfl ?_
  refine wq_newI (n := 10) (q := 17) k_ac_int rfl rfl (Nat.le_of_ble_eq_true rfl) rfl rfl (Nat.le_of_ble_eq_true rfl) (Nat.le_of_ble_eq_true rfl) (Nat.le_of_ble_eq_true rfl) ?_
  rw [hn0]
  refine wq_putF (q := 20) f_De_15 rfl rfl rfl rfl rfl (Or.inr (Nat.le_of_ble_eq_true rfl)) (Or.inr (Nat.le_of_ble_eq_true rfl)) (fun e => Bool.noConfusion e) rfl rfl ?_
  refine wq_aload_n (kk := 0) (q := 21) rfl rfl rfl ?_
  refine wq_bipush (n := 120) (q := 23) rfl rfl rfl ?_
  refine wq_newI (n := 120) (q := 25) k_ac_int rfl rfl (Nat.le_of_ble_eq_true rfl) rfl rfl (Nat.le_of_ble_eq_true rfl) (Nat.le_of_ble_eq_true rfl) (Nat.le_of_ble_eq_true rfl) ?_
  rw [hn0]
  refine wq_putF (q := 28) f_De_18 rfl rfl rfl rfl rfl (Or.inr (Nat.le_of_ble_eq_true rfl)) (Or.inr (Nat.le_of_ble_eq_true rfl)) (fun e => Bool.noConfusion e) rfl rfl ?_
  refine wq_aload_n (kk := 0) (q := 29) rfl rfl rfl ?_
  refine wq_bipush (n := 120) (q := 31) rfl rfl rfl ?_
  refine wq_newI (n := 120) (q := 33) k_ac_int rfl rfl (Nat.le_of_ble_eq_true rfl) rfl rfl (Nat.le_of_ble_eq_true rfl) (Nat.le_of_ble_eq_true rfl) (Nat.le_of_ble_eq_true rfl) ?_
  rw [hn0]
  refine wq_putF (q := 36) f_De_21 rfl rfl rfl rfl rfl (Or.inr (Nat.le_of_ble_eq_true rfl)) (Or.inr (Nat.le_of_ble_eq_true rfl)) (fun e => Bool.noConfusion e) rfl rfl ?_
  refine wq_aload_n (kk := 0) (q := 37) rfl rfl rfl ?_
  refine wq_bipush (n := 120) (q := 39) rfl rfl rfl ?_
  refine wq_newI (n := 120) (q := 41) k_ac_int rfl rfl (Nat.le_of_ble_eq_true rfl) rfl rfl (Nat.le_of_ble_eq_true rfl) (Nat.le_of_ble_eq_true rfl) (Nat.le_of_ble_eq_true rfl) ?_
  rw [hn0]
  refine wq_putF (q := 44) f_De_24 rfl rfl rfl rfl rfl (Or.inr (Nat.le_of_ble_eq_true rfl)) (Or.inr (Nat.le_of_ble_eq_true rfl)) (fun e => Bool.noConfusion e) rfl rfl ?_
  refine wq_aload_n (kk := 0) (q := 45) rfl rfl rfl ?_
  refine wq_bipush (n := 120) (q := 47) rfl rfl rfl ?_
  refine wq_newI (n := 120) (q := 49) k_ac_int rfl rfl (Nat.le_of_ble_eq_true rfl) rfl rfl (Nat.le_of_ble_eq_true rfl) (Nat.le_of_ble_eq_true rfl) (Nat.le_of_ble_eq_true rfl) ?_
  rw [hn0]
  refine wq_putF (q := 52) f_De_27 rfl rfl rfl rfl rfl (Or.inr (Nat.le_of_ble_eq_true rfl)) (Or.inr (Nat.le_of_ble_eq_true rfl)) (fun e => Bool.noConfusion e) rfl rfl ?_
  refine wq_aload_n (kk := 0) (q := 53) rfl rfl rfl ?_
  refine wq_bipush (n := 120) (q := 55) rfl rfl rfl ?_
  refine wq_newI (n := 120) (q := 57) k_ac_int rfl rfl (Nat.le_of_ble_eq_true rfl) rfl rfl (Nat.le_of_ble_eq_true rfl) (Nat.le_of_ble_eq_true rfl) (Nat.le_of_ble_eq_true rfl) ?_
  rw [hn0]
  refine wq_putF (q := 60) f_De_30 rfl rfl rfl rfl rfl (Or.inr (Nat.le_of_ble_eq_true rfl)) (Or.inr (Nat.le_of_ble_eq_true rfl)) (fun e => Bool.noConfusion e) rfl rfl ?_
  refine wq_aload_n (kk := 0) (q := 61) rfl rfl rfl ?_
  refine wq_bipush (n := 120) (q := 63) rfl rfl rfl ?_
  refine wq_newI (n := 120) (q := 65) k_ac_int rfl rfl (Nat.le_of_ble_eq_true rfl) rfl rfl (Nat.le_of_ble_eq_true rfl) (Nat.le_of_ble_eq_true rfl) (Nat.le_of_ble_eq_true rfl) ?_
  rw [hn0]
  refine wq_putF (q := 68) f_De_33 rfl rfl rfl rfl rfl (Or.inr (Nat.le_of_ble_eq_true rfl)) (Or.inr (Nat.le_of_ble_eq_true rfl)) (fun e => Bool.noConfusion e) rfl rfl ?_
  refine wq_aload_n (kk := 0) (q := 69) rfl rfl rfl ?_
  refine wq_bipush (n := 120) (q := 71) rfl rfl rfl ?_
  refine wq_newI (n := 120) (q := 73) k_ac_int rfl rfl (Nat.le_of_ble_eq_true rfl) rfl rfl (Nat.le_of_ble_eq_true rfl) (Nat.le_of_ble_eq_true rfl) (Nat.le_of_ble_eq_true rfl) ?_
  rw [hn0]
  refine wq_putF (q := 76) f_De_36 rfl rfl rfl rfl rfl (Or.inr (Nat.le_of_ble_eq_true rfl)) (Or.inr (Nat.le_of_ble_eq_true rfl)) (fun e => Bool.noConfusion e) rfl rfl ?_
  refine wq_aload_n (kk := 0) (q := 77) rfl rfl rfl ?_
  refine wq_bipush (n := 120) (q := 79) rfl rfl rfl ?_
  refine wq_newZ (n := 120) (q := 81) k_ac_boolean rfl rfl (Nat.le_of_ble_eq_true rfl) rfl rfl (Nat.le_of_ble_eq_true rfl) (Nat.le_of_ble_eq_true rfl) (Nat.le_of_ble_eq_true rfl) ?_
  rw [hn0]
  refine wq_putF (q := 84) f_De_39 rfl rfl rfl rfl rfl (Or.inr (Nat.le_of_ble_eq_true rfl)) (Or.inr (Nat.le_of_ble_eq_true rfl)) (fun e => Bool.noConfusion e) rfl rfl ?_
  exact wq_vret rfl rfl (Nat.le_of_ble_eq_true rfl) (Nat.le_of_ble_eq_true rfl) ⟨rfl, rfl, rfl⟩
def x_c_De_init_13 (r : mR) : mR := (rup (rnew (rup (rnew (rup (rnew (rup (rnew (rup (rnew (rup (rnew (rup (rnew (rup (rnew (rup (rnew (rup (rnew r) 13 5 (some 14))) 13 6 (some 15))) 13 7 (some 16))) 13 8 (some 17))) 13 9 (some 18))) 13 10 (some 19))) 13 11 (some 20))) 13 12 (some 21))) 13 13 (some 22))) 13 14 (some 23))
set_option maxRecDepth 100000 in
set_option maxHeartbeats 4000000 in
theorem c_De_init_13 (r : mR) (hr : r.2 = 14) : Meets false { frames := 2, cells := 10, slots := 980, locals := 80 } m_De_init [vR 13] h0 r (fun rv h' r' => rv = none ∧ h' = h0 ∧ r' = x_c_De_init_13 r) := by
  obtain ⟨f, n⟩ := r
  cases hr
  refine ⟨ok_De_init, (Nat.le_of_ble_eq_true rfl), ?_⟩
  refine wq_aload_n (kk := 0) (q := 1) rfl rfl rfl ?_
  refine wq_objInit (q := 4) k_ol_De_3 k_obj_i k_obj_c rfl rfl (Nat.le_of_ble_eq_true rfl) (Nat.le_of_ble_eq_true rfl) (Nat.le_of_ble_eq_true rfl) ?_
  refine wq_aload_n (kk := 0) (q := 5) rfl rfl rfl ?_
  refine wq_bipush (n := 10) (q := 7) rfl rfl rfl ?_
  refine wq_newI (n := 10) (q := 9) k_ac_int rfl rfl (Nat.le_of_ble_eq_true rfl) rfl rfl (Nat.le_of_ble_eq_true rfl) (Nat.le_of_ble_eq_true rfl) (Nat.le_of_ble_eq_true rfl) ?_
  rw [hn0]
  refine wq_putF (q := 12) f_De_9 rfl rfl rfl rfl rfl (Or.inr (Nat.le_of_ble_eq_true rfl)) (Or.inr (Nat.le_of_ble_eq_true rfl)) (fun e => Bool.noConfusion e) rfl rfl ?_
  refine wq_aload_n (kk := 0) (q := 13) rfl rfl rfl ?_
  refine wq_bipush (n := 10) (q := 15) rfl rfl rfl ?_
  refine wq_newI (n := 10) (q := 17) k_ac_int rfl rfl (Nat.le_of_ble_eq_true rfl) rfl rfl (Nat.le_of_ble_eq_true rfl) (Nat.le_of_ble_eq_true rfl) (Nat.le_of_ble_eq_true rfl) ?_
  rw [hn0]
  refine wq_putF (q := 20) f_De_15 rfl rfl rfl rfl rfl (Or.inr (Nat.le_of_ble_eq_true rfl)) (Or.inr (Nat.le_of_ble_eq_true rfl)) (fun e => Bool.noConfusion e) rfl rfl ?_
  refine wq_aload_n (kk := 0) (q := 21) rfl rfl rfl ?_
  refine wq_bipush (n := 120) (q := 23) rfl rfl rfl ?_
  refine wq_newI (n := 120) (q := 25) k_ac_int rfl rfl (Nat.le_of_ble_eq_true rfl) rfl rfl (Nat.le_of_ble_eq_true rfl) (Nat.le_of_ble_eq_true rfl) (Nat.le_of_ble_eq_true rfl) ?_
  rw [hn0]
  refine wq_putF (q := 28) f_De_18 rfl rfl rfl rfl rfl (Or.inr (Nat.le_of_ble_eq_true rfl)) (Or.inr (Nat.le_of_ble_eq_true rfl)) (fun e => Bool.noConfusion e) rfl rfl ?_
  refine wq_aload_n (kk := 0) (q := 29) rfl rfl rfl ?_
  refine wq_bipush (n := 120) (q := 31) rfl rfl rfl ?_
  refine wq_newI (n := 120) (q := 33) k_ac_int rfl rfl (Nat.le_of_ble_eq_true rfl) rfl rfl (Nat.le_of_ble_eq_true rfl) (Nat.le_of_ble_eq_true rfl) (Nat.le_of_ble_eq_true rfl) ?_
  rw [hn0]
  refine wq_putF (q := 36) f_De_21 rfl rfl rfl rfl rfl (Or.inr (Nat.le_of_ble_eq_true rfl)) (Or.inr (Nat.le_of_ble_eq_true rfl)) (fun e => Bool.noConfusion e) rfl rfl ?_
  refine wq_aload_n (kk := 0) (q := 37) rfl rfl rfl ?_
  refine wq_bipush (n := 120) (q := 39) rfl rfl rfl ?_
  refine wq_newI (n := 120) (q := 41) k_ac_int rfl rfl (Nat.le_of_ble_eq_true rfl) rfl rfl (Nat.le_of_ble_eq_true rfl) (Nat.le_of_ble_eq_true rfl) (Nat.le_of_ble_eq_true rfl) ?_
  rw [hn0]
  refine wq_putF (q := 44) f_De_24 rfl rfl rfl rfl rfl (Or.inr (Nat.le_of_ble_eq_true rfl)) (Or.inr (Nat.le_of_ble_eq_true rfl)) (fun e => Bool.noConfusion e) rfl rfl ?_
  refine wq_aload_n (kk := 0) (q := 45) rfl rfl rfl ?_
  refine wq_bipush (n := 120) (q := 47) rfl rfl rfl ?_
  refine wq_newI (n := 120) (q := 49) k_ac_int rfl rfl (Nat.le_of_ble_eq_true rfl) rfl rfl (Nat.le_of_ble_eq_true rfl) (Nat.le_of_ble_eq_true rfl) (Nat.le_of_ble_eq_true rfl) ?_
  rw [hn0]
  refine wq_putF (q := 52) f_De_27 rfl rfl rfl rfl rfl (Or.inr (Nat.le_of_ble_eq_true rfl)) (Or.inr (Nat.le_of_ble_eq_true rfl)) (fun e => Bool.noConfusion e) rfl rfl ?_
  refine wq_aload_n (kk := 0) (q := 53) rfl rfl rfl ?_
  refine wq_bipush (n := 120) (q := 55) rfl rfl rfl ?_
  refine wq_newI (n := 120) (q := 57) k_ac_int rfl rfl (Nat.le_of_ble_eq_true rfl) rfl rfl (Nat.le_of_ble_eq_true rfl) (Nat.le_of_ble_eq_true rfl) (Nat.le_of_ble_eq_true rfl) ?_
  rw [hn0]
  refine wq_putF (q := 60) f_De_30 rfl rfl rfl rfl rfl (Or.inr (Nat.le_of_ble_eq_true rfl)) (Or.inr (Nat.le_of_ble_eq_true rfl)) (fun e => Bool.noConfusion e) rfl rfl ?_
  refine wq_aload_n (kk := 0) (q := 61) rfl rfl rfl ?_
  refine wq_bipush (n := 120) (q := 63) rfl rfl rfl ?_
  refine wq_newI (n := 120) (q := 65) k_ac_int rfl rfl (Nat.le_of_ble_eq_true rfl) rfl rfl (Nat.le_of_ble_eq_true rfl) (Nat.le_of_ble_eq_true rfl) (Nat.le_of_ble_eq_true rfl) ?_
  rw [hn0]
  refine wq_putF (q := 68) f_De_33 rfl rfl rfl rfl rfl (Or.inr (Nat.le_of_ble_eq_true rfl)) (Or.inr (Nat.le_of_ble_eq_true rfl)) (fun e => Bool.noConfusion e) rfl rfl ?_
  refine wq_aload_n (kk := 0) (q := 69) rfl rfl rfl ?_
  refine wq_bipush (n := 120) (q := 71) rfl rfl rfl ?_
  refine wq_newI (n := 120) (q := 73) k_ac_int rfl rfl (Nat.le_of_ble_eq_true rfl) rfl rfl (Nat.le_of_ble_eq_true rfl) (Nat.le_of_ble_eq_true rfl) (Nat.le_of_ble_eq_true rfl) ?_
  rw [hn0]
  refine wq_putF (q := 76) f_De_36 rfl rfl rfl rfl rfl (Or.inr (Nat.le_of_ble_eq_true rfl)) (Or.inr (Nat.le_of_ble_eq_true rfl)) (fun e => Bool.noConfusion e) rfl rfl ?_
  refine wq_aload_n (kk := 0) (q := 77) rfl rfl rfl ?_
  refine wq_bipush (n := 120) (q := 79) rfl rfl rfl ?_
  refine wq_newZ (n := 120) (q := 81) k_ac_boolean rfl rfl (Nat.le_of_ble_eq_true rfl) rfl rfl (Nat.le_of_ble_eq_true rfl) (Nat.le_of_ble_eq_true rfl) (Nat.le_of_ble_eq_true rfl) ?_
  rw [hn0]
  refine wq_putF (q := 84) f_De_39 rfl rfl rfl rfl rfl (Or.inr (Nat.le_of_ble_eq_true rfl)) (Or.inr (Nat.le_of_ble_eq_true rfl)) (fun e => Bool.noConfusion e) rfl rfl ?_
  exact wq_vret rfl rfl (Nat.le_of_ble_eq_true rfl) (Nat.le_of_ble_eq_true rfl) ⟨rfl, rfl, rfl⟩
def x_c_Re_init_24 (r : mR) : mR := (rup (rup (rup (rnew (rup (rnew r) 24 5 (some 25))) 24 6 (some 26)) 24 2 (some 1)) 24 4 (some 13))
set_option maxRecDepth 100000 in
set_option maxHeartbeats 4000000 in
theorem c_Re_init_24 (r : mR) (hr : r.2 = 25) : Meets false { frames := 2, cells := 2, slots := 18, locals := 80 } m_Re_init [vR 24, vR 1, vR 13] h0 r (fun rv h' r' => rv = none ∧ h' = h0 ∧ r' = x_c_Re_init_24 r) := by
  obtain ⟨f, n⟩ := r
  cases hr
  refine ⟨ok_Re_init, (Nat.le_of_ble_eq_true rfl), ?_⟩
  refine wq_aload_n (kk := 0) (q := 1) rfl rfl rfl ?_
  refine wq_objInit (q := 4) k_ol_Re_3 k_obj_i k_obj_c rfl rfl (Nat.le_of_ble_eq_true rfl) (Nat.le_of_ble_eq_true rfl) (Nat.le_of_ble_eq_true rfl) ?_
  refine wq_aload_n (kk := 0) (q := 5) rfl rfl rfl ?_
  refine wq_bipush (n := 10) (q := 7) rfl rfl rfl ?_
  refine wq_newI (n := 10) (q := 9) k_ac_int rfl rfl (Nat.le_of_ble_eq_true rfl) rfl rfl (Nat.le_of_ble_eq_true rfl) (Nat.le_of_ble_eq_true rfl) (Nat.le_of_ble_eq_true rfl) ?_
  rw [hn0]
  refine wq_putF (q := 12) f_Re_9 rfl rfl rfl rfl rfl (Or.inr (Nat.le_of_ble_eq_true rfl)) (Or.inr (Nat.le_of_ble_eq_true rfl)) (fun e => Bool.noConfusion e) rfl rfl ?_
  refine wq_aload_n (kk := 0) (q := 13) rfl rfl rfl ?_
  refine wq_bipush (n := 8) (q := 15) rfl rfl rfl ?_
  refine wq_newI (n := 8) (q := 17) k_ac_int rfl rfl (Nat.le_of_ble_eq_true rfl) rfl rfl (Nat.le_of_ble_eq_true rfl) (Nat.le_of_ble_eq_true rfl) (Nat.le_of_ble_eq_true rfl) ?_
  rw [hn0]
  refine wq_putF (q := 20) f_Re_15 rfl rfl rfl rfl rfl (Or.inr (Nat.le_of_ble_eq_true rfl)) (Or.inr (Nat.le_of_ble_eq_true rfl)) (fun e => Bool.noConfusion e) rfl rfl ?_
  refine wq_aload_n (kk := 0) (q := 21) rfl rfl rfl ?_
  refine wq_aload_n (kk := 1) (q := 22) rfl rfl rfl ?_
  refine wq_putF (q := 25) f_Re_18 rfl rfl rfl rfl rfl (Or.inr (Nat.le_of_ble_eq_true rfl)) (Or.inr (Nat.le_of_ble_eq_true rfl)) (fun e => Bool.noConfusion e) rfl rfl ?_
  refine wq_aload_n (kk := 0) (q := 26) rfl rfl rfl ?_
  refine wq_aload_n (kk := 2) (q := 27) rfl rfl rfl ?_
  refine wq_putR (q := 30) f_Re_22 rfl rfl rfl (Or.inr (Nat.le_of_ble_eq_true rfl)) (Or.inr (Nat.le_of_ble_eq_true rfl)) (fun e => Bool.noConfusion e) rfl rfl ?_
  exact wq_vret rfl rfl (Nat.le_of_ble_eq_true rfl) (Nat.le_of_ble_eq_true rfl) ⟨rfl, rfl, rfl⟩
def x_c_Lo_init_27 (r : mR) : mR := (rup (rnew (rup (rnew (rup (rnew r) 27 1 (some 28))) 27 2 (some 29))) 27 3 (some 30))
set_option maxRecDepth 100000 in
set_option maxHeartbeats 4000000 in
theorem c_Lo_init_27 (r : mR) (hr : r.2 = 28) : Meets false { frames := 2, cells := 3, slots := 30, locals := 80 } m_Lo_init [vR 27] h0 r (fun rv h' r' => rv = none ∧ h' = h0 ∧ r' = x_c_Lo_init_27 r) := by
  obtain ⟨f, n⟩ := r
  cases hr
  refine ⟨ok_Lo_init, (Nat.le_of_ble_eq_true rfl), ?_⟩
  refine wq_aload_n (kk := 0) (q := 1) rfl rfl rfl ?_
  refine wq_objInit (q := 4) k_ol_Lo_1 k_obj_i k_obj_c rfl rfl (Nat.le_of_ble_eq_true rfl) (Nat.le_of_ble_eq_true rfl) (Nat.le_of_ble_eq_true rfl) ?_
  refine wq_aload_n (kk := 0) (q := 5) rfl rfl rfl ?_
  refine wq_bipush (n := 10) (q := 7) rfl rfl rfl ?_
  refine wq_newI (n := 10) (q := 9) k_ac_int rfl rfl (Nat.le_of_ble_eq_true rfl) rfl rfl (Nat.le_of_ble_eq_true rfl) (Nat.le_of_ble_eq_true rfl) (Nat.le_of_ble_eq_true rfl) ?_
  rw [hn0]
  refine wq_putF (q := 12) f_Lo_9 rfl rfl rfl rfl rfl (Or.inr (Nat.le_of_ble_eq_true rfl)) (Or.inr (Nat.le_of_ble_eq_true rfl)) (fun e => Bool.noConfusion e) rfl rfl ?_
  refine wq_aload_n (kk := 0) (q := 13) rfl rfl rfl ?_
  refine wq_bipush (n := 10) (q := 15) rfl rfl rfl ?_
  refine wq_newI (n := 10) (q := 17) k_ac_int rfl rfl (Nat.le_of_ble_eq_true rfl) rfl rfl (Nat.le_of_ble_eq_true rfl) (Nat.le_of_ble_eq_true rfl) (Nat.le_of_ble_eq_true rfl) ?_
  rw [hn0]
  refine wq_putF (q := 20) f_Lo_13 rfl rfl rfl rfl rfl (Or.inr (Nat.le_of_ble_eq_true rfl)) (Or.inr (Nat.le_of_ble_eq_true rfl)) (fun e => Bool.noConfusion e) rfl rfl ?_
  refine wq_aload_n (kk := 0) (q := 21) rfl rfl rfl ?_
  refine wq_bipush (n := 10) (q := 23) rfl rfl rfl ?_
  refine wq_newI (n := 10) (q := 25) k_ac_int rfl rfl (Nat.le_of_ble_eq_true rfl) rfl rfl (Nat.le_of_ble_eq_true rfl) (Nat.le_of_ble_eq_true rfl) (Nat.le_of_ble_eq_true rfl) ?_
  rw [hn0]
  refine wq_putF (q := 28) f_Lo_16 rfl rfl rfl rfl rfl (Or.inr (Nat.le_of_ble_eq_true rfl)) (Or.inr (Nat.le_of_ble_eq_true rfl)) (fun e => Bool.noConfusion e) rfl rfl ?_
  exact wq_vret rfl rfl (Nat.le_of_ble_eq_true rfl) (Nat.le_of_ble_eq_true rfl) ⟨rfl, rfl, rfl⟩
def x_c_Ne_init_31 (r : mR) : mR := (rup (rup (rnew (rup (rnew (rup (rnew (rup (rnew (rup (rnew (rup (rnew (rup (rnew (rup (rnew r) 31 1 (some 32))) 31 2 (some 33))) 31 3 (some 34))) 31 4 (some 35))) 31 5 (some 36))) 31 6 (some 37))) 31 8 (some 38))) 31 9 (some 39)) 31 7 (some 2))
set_option maxRecDepth 100000 in
set_option maxHeartbeats 4000000 in
theorem c_Ne_init_31 (r : mR) (hr : r.2 = 32) : Meets false { frames := 2, cells := 8, slots := 631, locals := 80 } m_Ne_init [vR 31, vR 2] h0 r (fun rv h' r' => rv = none ∧ h' = h0 ∧ r' = x_c_Ne_init_31 r) := by
  obtain ⟨f, n⟩ := r
  cases hr
  refine ⟨ok_Ne_init, (Nat.le_of_ble_eq_true rfl), ?_⟩
  refine wq_aload_n (kk := 0) (q := 1) rfl rfl rfl ?_
  refine wq_objInit (q := 4) k_ol_Ne_3 k_obj_i k_obj_c rfl rfl (Nat.le_of_ble_eq_true rfl) (Nat.le_of_ble_eq_true rfl) (Nat.le_of_ble_eq_true rfl) ?_
  refine wq_aload_n (kk := 0) (q := 5) rfl rfl rfl ?_
  refine wq_bipush (n := 120) (q := 7) rfl rfl rfl ?_
  refine wq_newI (n := 120) (q := 9) k_ac_int rfl rfl (Nat.le_of_ble_eq_true rfl) rfl rfl (Nat.le_of_ble_eq_true rfl) (Nat.le_of_ble_eq_true rfl) (Nat.le_of_ble_eq_true rfl) ?_
  rw [hn0]
  refine wq_putF (q := 12) f_Ne_9 rfl rfl rfl rfl rfl (Or.inr (Nat.le_of_ble_eq_true rfl)) (Or.inr (Nat.le_of_ble_eq_true rfl)) (fun e => Bool.noConfusion e) rfl rfl ?_
  refine wq_aload_n (kk := 0) (q := 13) rfl rfl rfl ?_
  refine wq_bipush (n := 120) (q := 15) rfl rfl rfl ?_
  refine wq_newI (n := 120) (q := 17) k_ac_int rfl rfl (Nat.le_of_ble_eq_true rfl) rfl rfl (Nat.le_of_ble_eq_true rfl) (Nat.le_of_ble_eq_true rfl) (Nat.le_of_ble_eq_true rfl) ?_
  rw [hn0]
  refine wq_putF (q := 20) f_Ne_15 rfl rfl rfl rfl rfl (Or.inr (Nat.le_of_ble_eq_true rfl)) (Or.inr (Nat.le_of_ble_eq_true rfl)) (fun e => Bool.noConfusion e) rfl rfl ?_
  refine wq_aload_n (kk := 0) (q := 21) rfl rfl rfl ?_
  refine wq_bipush (n := 120) (q := 23) rfl rfl rfl ?_
  refine wq_newZ (n := 120) (q := 25) k_ac_boolean rfl rfl (Nat.le_of_ble_eq_true rfl) rfl rfl (Nat.le_of_ble_eq_true rfl) (Nat.le_of_ble_eq_true rfl) (Nat.le_of_ble_eq_true rfl) ?_
  rw [hn0]
  refine wq_putF (q := 28) f_Ne_18 rfl rfl rfl rfl rfl (Or.inr (Nat.le_of_ble_eq_true rfl)) (Or.inr (Nat.le_of_ble_eq_true rfl)) (fun e => Bool.noConfusion e) rfl rfl ?_
  refine wq_aload_n (kk := 0) (q := 29) rfl rfl rfl ?_
  refine wq_bipush (n := 120) (q := 31) rfl rfl rfl ?_
  refine wq_newI (n := 120) (q := 33) k_ac_int rfl rfl (Nat.le_of_ble_eq_true rfl) rfl rfl (Nat.le_of_ble_eq_true rfl) (Nat.le_of_ble_eq_true rfl) (Nat.le_of_ble_eq_true rfl) ?_
  rw [hn0]
  refine wq_putF (q := 36) f_Ne_22 rfl rfl rfl rfl rfl (Or.inr (Nat.le_of_ble_eq_true rfl)) (Or.inr (Nat.le_of_ble_eq_true rfl)) (fun e => Bool.noConfusion e) rfl rfl ?_
  refine wq_aload_n (kk := 0) (q := 37) rfl rfl rfl ?_
  refine wq_bipush (n := 120) (q := 39) rfl rfl rfl ?_
  refine wq_newI (n := 120) (q := 41) k_ac_int rfl rfl (Nat.le_of_ble_eq_true rfl) rfl rfl (Nat.le_of_ble_eq_true rfl) (Nat.le_of_ble_eq_true rfl) (Nat.le_of_ble_eq_true rfl) ?_
  rw [hn0]
  refine wq_putF (q := 44) f_Ne_25 rfl rfl rfl rfl rfl (Or.inr (Nat.le_of_ble_eq_true rfl)) (Or.inr (Nat.le_of_ble_eq_true rfl)) (fun e => Bool.noConfusion e) rfl rfl ?_
  refine wq_aload_n (kk := 0) (q := 45) rfl rfl rfl ?_
  refine wq_bipush (n := 11) (q := 47) rfl rfl rfl ?_
  refine wq_newI (n := 11) (q := 49) k_ac_int rfl rfl (Nat.le_of_ble_eq_true rfl) rfl rfl (Nat.le_of_ble_eq_true rfl) (Nat.le_of_ble_eq_true rfl) (Nat.le_of_ble_eq_true rfl) ?_
  rw [hn0]
  refine wq_putF (q := 52) f_Ne_28 rfl rfl rfl rfl rfl (Or.inr (Nat.le_of_ble_eq_true rfl)) (Or.inr (Nat.le_of_ble_eq_true rfl)) (fun e => Bool.noConfusion e) rfl rfl ?_
  refine wq_aload_n (kk := 0) (q := 53) rfl rfl rfl ?_
  refine wq_bipush (n := 10) (q := 55) rfl rfl rfl ?_
  refine wq_newI (n := 10) (q := 57) k_ac_int rfl rfl (Nat.le_of_ble_eq_true rfl) rfl rfl (Nat.le_of_ble_eq_true rfl) (Nat.le_of_ble_eq_true rfl) (Nat.le_of_ble_eq_true rfl) ?_
  rw [hn0]
  refine wq_putF (q := 60) f_Ne_31 rfl rfl rfl rfl rfl (Or.inr (Nat.le_of_ble_eq_true rfl)) (Or.inr (Nat.le_of_ble_eq_true rfl)) (fun e => Bool.noConfusion e) rfl rfl ?_
  refine wq_aload_n (kk := 0) (q := 61) rfl rfl rfl ?_
  refine wq_bipush (n := 10) (q := 63) rfl rfl rfl ?_
  refine wq_newI (n := 10) (q := 65) k_ac_int rfl rfl (Nat.le_of_ble_eq_true rfl) rfl rfl (Nat.le_of_ble_eq_true rfl) (Nat.le_of_ble_eq_true rfl) (Nat.le_of_ble_eq_true rfl) ?_
  rw [hn0]
  refine wq_putF (q := 68) f_Ne_34 rfl rfl rfl rfl rfl (Or.inr (Nat.le_of_ble_eq_true rfl)) (Or.inr (Nat.le_of_ble_eq_true rfl)) (fun e => Bool.noConfusion e) rfl rfl ?_
  refine wq_aload_n (kk := 0) (q := 69) rfl rfl rfl ?_
  refine wq_aload_n (kk := 1) (q := 70) rfl rfl rfl ?_
  refine wq_putR (q := 73) f_Ne_37 rfl rfl rfl (Or.inr (Nat.le_of_ble_eq_true rfl)) (Or.inr (Nat.le_of_ble_eq_true rfl)) (fun e => Bool.noConfusion e) rfl rfl ?_
  exact wq_vret rfl rfl (Nat.le_of_ble_eq_true rfl) (Nat.le_of_ble_eq_true rfl) ⟨rfl, rfl, rfl⟩
def x_c_Wa_init_41 (r : mR) : mR := (rup (rnew r) 41 4 (some 42))
set_option maxRecDepth 100000 in
set_option maxHeartbeats 4000000 in
theorem c_Wa_init_41 (r : mR) (hr : r.2 = 42) : Meets false { frames := 2, cells := 1, slots := 120, locals := 80 } m_Wa_init [vR 41] h0 r (fun rv h' r' => rv = none ∧ h' = h0 ∧ r' = x_c_Wa_init_41 r) := by
  obtain ⟨f, n⟩ := r
  cases hr
  refine ⟨ok_Wa_init, (Nat.le_of_ble_eq_true rfl), ?_⟩
  refine wq_aload_n (kk := 0) (q := 1) rfl rfl rfl ?_
  refine wq_objInit (q := 4) k_ol_Wa_3 k_obj_i k_obj_c rfl rfl (Nat.le_of_ble_eq_true rfl) (Nat.le_of_ble_eq_true rfl) (Nat.le_of_ble_eq_true rfl) ?_
  refine wq_aload_n (kk := 0) (q := 5) rfl rfl rfl ?_
  refine wq_bipush (n := 120) (q := 7) rfl rfl rfl ?_
  refine wq_newI (n := 120) (q := 9) k_ac_int rfl rfl (Nat.le_of_ble_eq_true rfl) rfl rfl (Nat.le_of_ble_eq_true rfl) (Nat.le_of_ble_eq_true rfl) (Nat.le_of_ble_eq_true rfl) ?_
  rw [hn0]
  refine wq_putF (q := 12) f_Wa_9 rfl rfl rfl rfl rfl (Or.inr (Nat.le_of_ble_eq_true rfl)) (Or.inr (Nat.le_of_ble_eq_true rfl)) (fun e => Bool.noConfusion e) rfl rfl ?_
  exact wq_vret rfl rfl (Nat.le_of_ble_eq_true rfl) (Nat.le_of_ble_eq_true rfl) ⟨rfl, rfl, rfl⟩
def x_c_Se_init_40 (r : mR) : mR := (rup (rnew (rup (rnew (rup (rnew (rup (rnew (rup (rnew (rup (x_c_Wa_init_41 (rnew r)) 40 0 (some 41))) 40 1 (some 43))) 40 2 (some 44))) 40 3 (some 45))) 40 4 (some 46))) 40 5 (some 47))
set_option maxRecDepth 100000 in
set_option maxHeartbeats 4000000 in
theorem c_Se_init_40 (r : mR) (hr : r.2 = 41) : Meets false { frames := 3, cells := 7, slots := 615, locals := 120 } m_Se_init [vR 40] h0 r (fun rv h' r' => rv = none ∧ h' = h0 ∧ r' = x_c_Se_init_40 r) := by
  obtain ⟨f, n⟩ := r
  cases hr
  refine ⟨ok_Se_init, (Nat.le_of_ble_eq_true rfl), ?_⟩
  refine wq_aload_n (kk := 0) (q := 1) rfl rfl rfl ?_
  refine wq_objInit (q := 4) k_ol_Se_3 k_obj_i k_obj_c rfl rfl (Nat.le_of_ble_eq_true rfl) (Nat.le_of_ble_eq_true rfl) (Nat.le_of_ble_eq_true rfl) ?_
  refine wq_aload_n (kk := 0) (q := 5) rfl rfl rfl ?_
  refine wq_new (ci := 8) (q := 8) k_cl_Se_9 k_ins_8 k_ini_8 rfl rfl rfl rfl rfl (Nat.le_of_ble_eq_true rfl) (Nat.le_of_ble_eq_true rfl) (Nat.le_of_ble_eq_true rfl) ?_
  rw [hn0]
  refine wq_dup (q := 9) rfl rfl rfl ?_
  refine wq_callIN (q := 12) (m' := m_Wa_init) (As := []) (rest := [vR 41, vR 40]) rfl rfl (by decide +kernel) in_Wa_init rfl rfl rfl (Nat.le_of_ble_eq_true rfl) (Nat.le_of_ble_eq_true rfl) (Nat.le_of_ble_eq_true rfl) (Nat.le_of_ble_eq_true rfl) (Nat.le_of_ble_eq_true rfl) (c_Wa_init_41 _ rfl) rfl ?_
  rintro rv h1 r1 ⟨rfl, rfl, rfl⟩ -
  refine wq_putF (q := 15) f_Se_12 rfl rfl rfl rfl rfl (Or.inr (Nat.le_of_ble_eq_true rfl)) (Or.inr (Nat.le_of_ble_eq_true rfl)) (fun e => Bool.noConfusion e) rfl rfl ?_
  refine wq_aload_n (kk := 0) (q := 16) rfl rfl rfl ?_
  refine wq_bipush (n := 10) (q := 18) rfl rfl rfl ?_
  refine wq_newI (n := 10) (q := 20) k_ac_int rfl rfl (Nat.le_of_ble_eq_true rfl) rfl rfl (Nat.le_of_ble_eq_true rfl) (Nat.le_of_ble_eq_true rfl) (Nat.le_of_ble_eq_true rfl) ?_
  rw [hn0]
  refine wq_putF (q := 23) f_Se_18 rfl rfl rfl rfl rfl (Or.inr (Nat.le_of_ble_eq_true rfl)) (Or.inr (Nat.le_of_ble_eq_true rfl)) (fun e => Bool.noConfusion e) rfl rfl ?_
  refine wq_aload_n (kk := 0) (q := 24) rfl rfl rfl ?_
  refine wq_bipush (n := 120) (q := 26) rfl rfl rfl ?_
  refine wq_newI (n := 120) (q := 28) k_ac_int rfl rfl (Nat.le_of_ble_eq_true rfl) rfl rfl (Nat.le_of_ble_eq_true rfl) (Nat.le_of_ble_eq_true rfl) (Nat.le_of_ble_eq_true rfl) ?_
  rw [hn0]
  refine wq_putF (q := 31) f_Se_22 rfl rfl rfl rfl rfl (Or.inr (Nat.le_of_ble_eq_true rfl)) (Or.inr (Nat.le_of_ble_eq_true rfl)) (fun e => Bool.noConfusion e) rfl rfl ?_
  refine wq_aload_n (kk := 0) (q := 32) rfl rfl rfl ?_
  refine wq_bipush (n := 120) (q := 34) rfl rfl rfl ?_
  refine wq_newI (n := 120) (q := 36) k_ac_int rfl rfl (Nat.le_of_ble_eq_true rfl) rfl rfl (Nat.le_of_ble_eq_true rfl) (Nat.le_of_ble_eq_true rfl) (Nat.le_of_ble_eq_true rfl) ?_
  rw [hn0]
  refine wq_putF (q := 39) f_Se_25 rfl rfl rfl rfl rfl (Or.inr (Nat.le_of_ble_eq_true rfl)) (Or.inr (Nat.le_of_ble_eq_true rfl)) (fun e => Bool.noConfusion e) rfl rfl ?_
  refine wq_aload_n (kk := 0) (q := 40) rfl rfl rfl ?_
  refine wq_bipush (n := 120) (q := 42) rfl rfl rfl ?_
  refine wq_newI (n := 120) (q := 44) k_ac_int rfl rfl (Nat.le_of_ble_eq_true rfl) rfl rfl (Nat.le_of_ble_eq_true rfl) (Nat.le_of_ble_eq_true rfl) (Nat.le_of_ble_eq_true rfl) ?_
  rw [hn0]
  refine wq_putF (q := 47) f_Se_28 rfl rfl rfl rfl rfl (Or.inr (Nat.le_of_ble_eq_true rfl)) (Or.inr (Nat.le_of_ble_eq_true rfl)) (fun e => Bool.noConfusion e) rfl rfl ?_
  refine wq_aload_n (kk := 0) (q := 48) rfl rfl rfl ?_
  refine wq_bipush (n := 120) (q := 50) rfl rfl rfl ?_
  refine wq_newI (n := 120) (q := 52) k_ac_int rfl rfl (Nat.le_of_ble_eq_true rfl) rfl rfl (Nat.le_of_ble_eq_true rfl) (Nat.le_of_ble_eq_true rfl) (Nat.le_of_ble_eq_true rfl) ?_
  rw [hn0]
  refine wq_putF (q := 55) f_Se_31 rfl rfl rfl rfl rfl (Or.inr (Nat.le_of_ble_eq_true rfl)) (Or.inr (Nat.le_of_ble_eq_true rfl)) (fun e => Bool.noConfusion e) rfl rfl ?_
  exact wq_vret rfl rfl (Nat.le_of_ble_eq_true rfl) (Nat.le_of_ble_eq_true rfl) ⟨rfl, rfl, rfl⟩
def x_c_Fl_init_48 (r : mR) : mR := (rup (rnew (rup (rnew r) 48 0 (some 49))) 48 1 (some 50))
set_option maxRecDepth 100000 in
set_option maxHeartbeats 4000000 in
theorem c_Fl_init_48 (r : mR) (hr : r.2 = 49) : Meets false { frames := 2, cells := 2, slots := 130, locals := 80 } m_Fl_init [vR 48] h0 r (fun rv h' r' => rv = none ∧ h' = h0 ∧ r' = x_c_Fl_init_48 r) := by
  obtain ⟨f, n⟩ := r
  cases hr
  refine ⟨ok_Fl_init, (Nat.le_of_ble_eq_true rfl), ?_⟩
  refine wq_aload_n (kk := 0) (q := 1) rfl rfl rfl ?_
  refine wq_objInit (q := 4) k_ol_Fl_3 k_obj_i k_obj_c rfl rfl (Nat.le_of_ble_eq_true rfl) (Nat.le_of_ble_eq_true rfl) (Nat.le_of_ble_eq_true rfl) ?_
  refine wq_aload_n (kk := 0) (q := 5) rfl rfl rfl ?_
  refine wq_bipush (n := 10) (q := 7) rfl rfl rfl ?_
  refine wq_newI (n := 10) (q := 9) k_ac_int rfl rfl (Nat.le_of_ble_eq_true rfl) rfl rfl (Nat.le_of_ble_eq_true rfl) (Nat.le_of_ble_eq_true rfl) (Nat.le_of_ble_eq_true rfl) ?_
  rw [hn0]
  refine wq_putF (q := 12) f_Fl_9 rfl rfl rfl rfl rfl (Or.inr (Nat.le_of_ble_eq_true rfl)) (Or.inr (Nat.le_of_ble_eq_true rfl)) (fun e => Bool.noConfusion e) rfl rfl ?_
  refine wq_aload_n (kk := 0) (q := 13) rfl rfl rfl ?_
  refine wq_bipush (n := 120) (q := 15) rfl rfl rfl ?_
  refine wq_newZ (n := 120) (q := 17) k_ac_boolean rfl rfl (Nat.le_of_ble_eq_true rfl) rfl rfl (Nat.le_of_ble_eq_true rfl) (Nat.le_of_ble_eq_true rfl) (Nat.le_of_ble_eq_true rfl) ?_
  rw [hn0]
  refine wq_putF (q := 20) f_Fl_15 rfl rfl rfl rfl rfl (Or.inr (Nat.le_of_ble_eq_true rfl)) (Or.inr (Nat.le_of_ble_eq_true rfl)) (fun e => Bool.noConfusion e) rfl rfl ?_
  exact wq_vret rfl rfl (Nat.le_of_ble_eq_true rfl) (Nat.le_of_ble_eq_true rfl) ⟨rfl, rfl, rfl⟩
def x_c_Fl_init_51 (r : mR) : mR := (rup (rnew (rup (rnew r) 51 0 (some 52))) 51 1 (some 53))
set_option maxRecDepth 100000 in
set_option maxHeartbeats 4000000 in
theorem c_Fl_init_51 (r : mR) (hr : r.2 = 52) : Meets false { frames := 2, cells := 2, slots := 130, locals := 80 } m_Fl_init [vR 51] h0 r (fun rv h' r' => rv = none ∧ h' = h0 ∧ r' = x_c_Fl_init_51 r) := by
  obtain ⟨f, n⟩ := r
  cases hr
  refine ⟨ok_Fl_init, (Nat.le_of_ble_eq_true rfl), ?_⟩
  refine wq_aload_n (kk := 0) (q := 1) rfl rfl rfl ?_
  refine wq_objInit (q := 4) k_ol_Fl_3 k_obj_i k_obj_c rfl rfl (Nat.le_of_ble_eq_true rfl) (Nat.le_of_ble_eq_true rfl) (Nat.le_of_ble_eq_true rfl) ?_
  refine wq_aload_n (kk := 0) (q := 5) rfl rfl rfl ?_
  refine wq_bipush (n := 10) (q := 7) rfl rfl rfl ?_
  refine wq_newI (n := 10) (q := 9) k_ac_int rfl rfl (Nat.le_of_ble_eq_true rfl) rfl rfl (Nat.le_of_ble_eq_true rfl) (Nat.le_of_ble_eq_true rfl) (Nat.le_of_ble_eq_true rfl) ?_
  rw [hn0]
  refine wq_putF (q := 12) f_Fl_9 rfl rfl rfl rfl rfl (Or.inr (Nat.le_of_ble_eq_true rfl)) (Or.inr (Nat.le_of_ble_eq_true rfl)) (fun e => Bool.noConfusion e) rfl rfl ?_
  refine wq_aload_n (kk := 0) (q := 13) rfl rfl rfl ?_
  refine wq_bipush (n := 120) (q := 15) rfl rfl rfl ?_
  refine wq_newZ (n := 120) (q := 17) k_ac_boolean rfl rfl (Nat.le_of_ble_eq_true rfl) rfl rfl (Nat.le_of_ble_eq_true rfl) (Nat.le_of_ble_eq_true rfl) (Nat.le_of_ble_eq_true rfl) ?_
  rw [hn0]
  refine wq_putF (q := 20) f_Fl_15 rfl rfl rfl rfl rfl (Or.inr (Nat.le_of_ble_eq_true rfl)) (Or.inr (Nat.le_of_ble_eq_true rfl)) (fun e => Bool.noConfusion e) rfl rfl ?_
  exact wq_vret rfl rfl (Nat.le_of_ble_eq_true rfl) (Nat.le_of_ble_eq_true rfl) ⟨rfl, rfl, rfl⟩
def x_c_St_init_54 (r : mR) : mR := (rup (rnew (rup (rnew (rup (rnew r) 54 1 (some 55))) 54 2 (some 56))) 54 3 (some 57))
set_option maxRecDepth 100000 in
set_option maxHeartbeats 4000000 in
theorem c_St_init_54 (r : mR) (hr : r.2 = 55) : Meets false { frames := 2, cells := 3, slots := 360, locals := 80 } m_St_init [vR 54] h0 r (fun rv h' r' => rv = none ∧ h' = h0 ∧ r' = x_c_St_init_54 r) := by
  obtain ⟨f, n⟩ := r
  cases hr
  refine ⟨ok_St_init, (Nat.le_of_ble_eq_true rfl), ?_⟩
  refine wq_aload_n (kk := 0) (q := 1) rfl rfl rfl ?_
  refine wq_objInit (q := 4) k_ol_St_3 k_obj_i k_obj_c rfl rfl (Nat.le_of_ble_eq_true rfl) (Nat.le_of_ble_eq_true rfl) (Nat.le_of_ble_eq_true rfl) ?_
  refine wq_aload_n (kk := 0) (q := 5) rfl rfl rfl ?_
  refine wq_bipush (n := 120) (q := 7) rfl rfl rfl ?_
  refine wq_newI (n := 120) (q := 9) k_ac_int rfl rfl (Nat.le_of_ble_eq_true rfl) rfl rfl (Nat.le_of_ble_eq_true rfl) (Nat.le_of_ble_eq_true rfl) (Nat.le_of_ble_eq_true rfl) ?_
  rw [hn0]
  refine wq_putF (q := 12) f_St_9 rfl rfl rfl rfl rfl (Or.inr (Nat.le_of_ble_eq_true rfl)) (Or.inr (Nat.le_of_ble_eq_true rfl)) (fun e => Bool.noConfusion e) rfl rfl ?_
  refine wq_aload_n (kk := 0) (q := 13) rfl rfl rfl ?_
  refine wq_bipush (n := 120) (q := 15) rfl rfl rfl ?_
  refine wq_newI (n := 120) (q := 17) k_ac_int rfl rfl (Nat.le_of_ble_eq_true rfl) rfl rfl (Nat.le_of_ble_eq_true rfl) (Nat.le_of_ble_eq_true rfl) (Nat.le_of_ble_eq_true rfl) ?_
  rw [hn0]
  refine wq_putF (q := 20) f_St_15 rfl rfl rfl rfl rfl (Or.inr (Nat.le_of_ble_eq_true rfl)) (Or.inr (Nat.le_of_ble_eq_true rfl)) (fun e => Bool.noConfusion e) rfl rfl ?_
  refine wq_aload_n (kk := 0) (q := 21) rfl rfl rfl ?_
  refine wq_bipush (n := 120) (q := 23) rfl rfl rfl ?_
  refine wq_newI (n := 120) (q := 25) k_ac_int rfl rfl (Nat.le_of_ble_eq_true rfl) rfl rfl (Nat.le_of_ble_eq_true rfl) (Nat.le_of_ble_eq_true rfl) (Nat.le_of_ble_eq_true rfl) ?_
  rw [hn0]
  refine wq_putF (q := 28) f_St_18 rfl rfl rfl rfl rfl (Or.inr (Nat.le_of_ble_eq_true rfl)) (Or.inr (Nat.le_of_ble_eq_true rfl)) (fun e => Bool.noConfusion e) rfl rfl ?_
  exact wq_vret rfl rfl (Nat.le_of_ble_eq_true rfl) (Nat.le_of_ble_eq_true rfl) ⟨rfl, rfl, rfl⟩
def x_c_Ba_init_58 (r : mR) : mR := (rup (rnew (rup (rnew (rup (rnew (rup (rnew (rup (rnew r) 58 1 (some 59))) 58 2 (some 60))) 58 3 (some 61))) 58 4 (some 62))) 58 5 (some 63))
set_option maxRecDepth 100000 in
set_option maxHeartbeats 4000000 in
theorem c_Ba_init_58 (r : mR) (hr : r.2 = 59) : Meets false { frames := 2, cells := 5, slots := 600, locals := 80 } m_Ba_init [vR 58] h0 r (fun rv h' r' => rv = none ∧ h' = h0 ∧ r' = x_c_Ba_init_58 r) := by
  obtain ⟨f, n⟩ := r
  cases hr
  refine ⟨ok_Ba_init, (Nat.le_of_ble_eq_true rfl), ?_⟩
  refine wq_aload_n (kk := 0) (q := 1) rfl rfl rfl ?_
  refine wq_objInit (q := 4) k_ol_Ba_3 k_obj_i k_obj_c rfl rfl (Nat.le_of_ble_eq_true rfl) (Nat.le_of_ble_eq_true rfl) (Nat.le_of_ble_eq_true rfl) ?_
  refine wq_aload_n (kk := 0) (q := 5) rfl rfl rfl ?_
  refine wq_bipush (n := 120) (q := 7) rfl rfl rfl ?_
  refine wq_newI (n := 120) (q := 9) k_ac_int rfl rfl (Nat.le_of_ble_eq_true rfl) rfl rfl (Nat.le_of_ble_eq_true rfl) (Nat.le_of_ble_eq_true rfl) (Nat.le_of_ble_eq_true rfl) ?_
  rw [hn0]
  refine wq_putF (q := 12) f_Ba_9 rfl rfl rfl rfl rfl (Or.inr (Nat.le_of_ble_eq_true rfl)) (Or.inr (Nat.le_of_ble_eq_true rfl)) (fun e => Bool.noConfusion e) rfl rfl ?_
  refine wq_aload_n (kk := 0) (q := 13) rfl rfl rfl ?_
  refine wq_bipush (n := 120) (q := 15) rfl rfl rfl ?_
  refine wq_newI (n := 120) (q := 17) k_ac_int rfl rfl (Nat.le_of_ble_eq_true rfl) rfl rfl (Nat.le_of_ble_eq_true rfl) (Nat.le_of_ble_eq_true rfl) (Nat.le_of_ble_eq_true rfl) ?_
  rw [hn0]
  refine wq_putF (q := 20) f_Ba_15 rfl rfl rfl rfl rfl (Or.inr (Nat.le_of_ble_eq_true rfl)) (Or.inr (Nat.le_of_ble_eq_true rfl)) (fun e => Bool.noConfusion e) rfl rfl ?_
  refine wq_aload_n (kk := 0) (q := 21) rfl rfl rfl ?_
  refine wq_bipush (n := 120) (q := 23) rfl rfl rfl ?_
  refine wq_newI (n := 120) (q := 25) k_ac_int rfl rfl (Nat.le_of_ble_eq_true rfl) rfl rfl (Nat.le_of_ble_eq_true rfl) (Nat.le_of_ble_eq_true rfl) (Nat.le_of_ble_eq_true rfl) ?_
  rw [hn0]
  refine wq_putF (q := 28) f_Ba_18 rfl rfl rfl rfl rfl (Or.inr (Nat.le_of_ble_eq_true rfl)) (Or.inr (Nat.le_of_ble_eq_true rfl)) (fun e => Bool.noConfusion e) rfl rfl ?_
  refine wq_aload_n (kk := 0) (q := 29) rfl rfl rfl ?_
  refine wq_bipush (n := 120) (q := 31) rfl rfl rfl ?_
  refine wq_newI (n := 120) (q := 33) k_ac_int rfl rfl (Nat.le_of_ble_eq_true rfl) rfl rfl (Nat.le_of_ble_eq_true rfl) (Nat.le_of_ble_eq_true rfl) (Nat.le_of_ble_eq_true rfl) ?_
  rw [hn0]
  refine wq_putR (q := 36) f_Ba_21 rfl rfl rfl (Or.inr (Nat.le_of_ble_eq_true rfl)) (Or.inr (Nat.le_of_ble_eq_true rfl)) (fun e => Bool.noConfusion e) rfl rfl ?_
  refine wq_aload_n (kk := 0) (q := 37) rfl rfl rfl ?_
  refine wq_bipush (n := 120) (q := 39) rfl rfl rfl ?_
  refine wq_newI (n := 120) (q := 41) k_ac_int rfl rfl (Nat.le_of_ble_eq_true rfl) rfl rfl (Nat.le_of_ble_eq_true rfl) (Nat.le_of_ble_eq_true rfl) (Nat.le_of_ble_eq_true rfl) ?_
  rw [hn0]
  refine wq_putR (q := 44) f_Ba_24 rfl rfl rfl (Or.inr (Nat.le_of_ble_eq_true rfl)) (Or.inr (Nat.le_of_ble_eq_true rfl)) (fun e => Bool.noConfusion e) rfl rfl ?_
  exact wq_vret rfl rfl (Nat.le_of_ble_eq_true rfl) (Nat.le_of_ble_eq_true rfl) ⟨rfl, rfl, rfl⟩
def x_c_Lt_init_0 (r : mR) : mR := (rup (x_c_Ba_init_58 (rnew (rup (x_c_St_init_54 (rnew (rup (x_c_Fl_init_51 (rnew (rup (x_c_Fl_init_48 (rnew (rup (x_c_Se_init_40 (rnew (rup (x_c_Ne_init_31 (rnew (rup (x_c_Lo_init_27 (rnew (rup (x_c_Re_init_24 (rnew (rup (x_c_De_init_13 (rnew (rup (x_c_De_init_2 (rnew (rup (rnew r) 0 0 (some 1)))) 0 2 (some 2)))) 0 3 (some 13)))) 0 4 (some 24)))) 0 5 (some 27)))) 0 6 (some 31)))) 0 7 (some 40)))) 0 8 (some 48)))) 0 9 (some 51)))) 0 10 (some 54)))) 0 11 (some 58))
set_option maxRecDepth 100000 in
set_option maxHeartbeats 4000000 in
theorem c_Lt_init_0 (r : mR) (hr : r.2 = 1) : Meets false { frames := 4, cells := 63, slots := 5452, locals := 160 } m_Lt_init [vR 0] h0 r (fun rv h' r' => rv = none ∧ h' = h0 ∧ r' = x_c_Lt_init_0 r) := by
  obtain ⟨f, n⟩ := r
  cases hr
  refine ⟨ok_Lt_init, (Nat.le_of_ble_eq_true rfl), ?_⟩
  refine wq_aload_n (kk := 0) (q := 1) rfl rfl rfl ?_
  refine wq_objInit (q := 4) k_ol_Lt_1 k_obj_i k_obj_c rfl rfl (Nat.le_of_ble_eq_true rfl) (Nat.le_of_ble_eq_true rfl) (Nat.le_of_ble_eq_true rfl) ?_
  refine wq_aload_n (kk := 0) (q := 5) rfl rfl rfl ?_
  refine wq_sipush (n := 900) (q := 8) rfl rfl rfl ?_
  refine wq_newB (n := 900) (q := 10) k_ac_byte rfl rfl (Nat.le_of_ble_eq_true rfl) rfl rfl (Nat.le_of_ble_eq_true rfl) (Nat.le_of_ble_eq_true rfl) (Nat.le_of_ble_eq_true rfl) ?_
  rw [hn0]
  refine wq_putF (q := 13) f_Lt_9 rfl rfl rfl rfl rfl (Or.inr (Nat.le_of_ble_eq_true rfl)) (Or.inr (Nat.le_of_ble_eq_true rfl)) (fun e => Bool.noConfusion e) rfl rfl ?_
  refine wq_aload_n (kk := 0) (q := 14) rfl rfl rfl ?_
  refine wq_new (ci := 1) (q := 17) k_cl_Lt_13 k_ins_1 k_ini_1 rfl rfl rfl rfl rfl (Nat.le_of_ble_eq_true rfl) (Nat.le_of_ble_eq_true rfl) (Nat.le_of_ble_eq_true rfl) ?_
  rw [hn0]
  refine wq_dup (q := 18) rfl rfl rfl ?_
  refine wq_callIN (q := 21) (m' := m_De_init) (As := []) (rest := [vR 2, vR 0]) rfl rfl (by decide +kernel) in_De_init rfl rfl rfl (Nat.le_of_ble_eq_true rfl) (Nat.le_of_ble_eq_true rfl) (Nat.le_of_ble_eq_true rfl) (Nat.le_of_ble_eq_true rfl) (Nat.le_of_ble_eq_true rfl) (c_De_init_2 _ rfl) rfl ?_
  rintro rv h1 r1 ⟨rfl, rfl, rfl⟩ -
  refine wq_putR (q := 24) f_Lt_16 rfl rfl rfl (Or.inr (Nat.le_of_ble_eq_true rfl)) (Or.inr (Nat.le_of_ble_eq_true rfl)) (fun e => Bool.noConfusion e) rfl rfl ?_
  refine wq_aload_n (kk := 0) (q := 25) rfl rfl rfl ?_
  refine wq_new (ci := 1) (q := 28) k_cl_Lt_13 k_ins_1 k_ini_1 rfl rfl rfl rfl rfl (Nat.le_of_ble_eq_true rfl) (Nat.le_of_ble_eq_true rfl) (Nat.le_of_ble_eq_true rfl) ?_
  rw [hn0]
  refine wq_dup (q := 29) rfl rfl rfl ?_
  refine wq_callIN (q := 32) (m' := m_De_init) (As := []) (rest := [vR 13, vR 0]) rfl rfl (by decide +kernel) in_De_init rfl rfl rfl (Nat.le_of_ble_eq_true rfl) (Nat.le_of_ble_eq_true rfl) (Nat.le_of_ble_eq_true rfl) (Nat.le_of_ble_eq_true rfl) (Nat.le_of_ble_eq_true rfl) (c_De_init_13 _ rfl) rfl ?_
  rintro rv h1 r1 ⟨rfl, rfl, rfl⟩ -
  refine wq_putR (q := 35) f_Lt_20 rfl rfl rfl (Or.inr (Nat.le_of_ble_eq_true rfl)) (Or.inr (Nat.le_of_ble_eq_true rfl)) (fun e => Bool.noConfusion e) rfl rfl ?_
  refine wq_aload_n (kk := 0) (q := 36) rfl rfl rfl ?_
  refine wq_new (ci := 5) (q := 39) k_cl_Lt_23 k_ins_5 k_ini_5 rfl rfl rfl rfl rfl (Nat.le_of_ble_eq_true rfl) (Nat.le_of_ble_eq_true rfl) (Nat.le_of_ble_eq_true rfl) ?_
  rw [hn0]
  refine wq_dup (q := 40) rfl rfl rfl ?_
  refine wq_aload_n (kk := 0) (q := 41) rfl rfl rfl ?_
  refine wq_getR (t := 1) (q := 44) f_Lt_9 rfl rfl (Or.inr (Nat.le_of_ble_eq_true rfl)) rfl rfl rfl ?_
  refine wq_aload_n (kk := 0) (q := 45) rfl rfl rfl ?_
  refine wq_getR (t := 13) (q := 48) f_Lt_20 rfl rfl (Or.inr (Nat.le_of_ble_eq_true rfl)) rfl rfl rfl ?_
  refine wq_callI (q := 51) (m' := m_Re_init) (As := [vR 1, vR 13]) (rest := [vR 24, vR 0]) rfl rfl l_Lt_25 in_Re_init rfl rfl rfl (Nat.le_of_ble_eq_true rfl) (Nat.le_of_ble_eq_true rfl) (Nat.le_of_ble_eq_true rfl) (Nat.le_of_ble_eq_true rfl) (Nat.le_of_ble_eq_true rfl) (c_Re_init_24 _ rfl) rfl ?_
  rintro rv h1 r1 ⟨rfl, rfl, rfl⟩ -
  refine wq_putF (q := 54) f_Lt_28 rfl rfl rfl rfl rfl (Or.inr (Nat.le_of_ble_eq_true rfl)) (Or.inr (Nat.le_of_ble_eq_true rfl)) (fun e => Bool.noConfusion e) rfl rfl ?_
  refine wq_aload_n (kk := 0) (q := 55) rfl rfl rfl ?_
  refine wq_new (ci := 3) (q := 58) k_cl_Lt_32 k_ins_3 k_ini_3 rfl rfl rfl rfl rfl (Nat.le_of_ble_eq_true rfl) (Nat.le_of_ble_eq_true rfl) (Nat.le_of_ble_eq_true rfl) ?_
  rw [hn0]
  refine wq_dup (q := 59) rfl rfl rfl ?_
  refine wq_callIN (q := 62) (m' := m_Lo_init) (As := []) (rest := [vR 27, vR 0]) rfl rfl (by decide +kernel) in_Lo_init rfl rfl rfl (Nat.le_of_ble_eq_true rfl) (Nat.le_of_ble_eq_true rfl) (Nat.le_of_ble_eq_true rfl) (Nat.le_of_ble_eq_true rfl) (Nat.le_of_ble_eq_true rfl) (c_Lo_init_27 _ rfl) rfl ?_
  rintro rv h1 r1 ⟨rfl, rfl, rfl⟩ -
  refine wq_putF (q := 65) f_Lt_35 rfl rfl rfl rfl rfl (Or.inr (Nat.le_of_ble_eq_true rfl)) (Or.inr (Nat.le_of_ble_eq_true rfl)) (fun e => Bool.noConfusion e) rfl rfl ?_
  refine wq_aload_n (kk := 0) (q := 66) rfl rfl rfl ?_
  refine wq_new (ci := 4) (q := 69) k_cl_Lt_39 k_ins_4 k_ini_4 rfl rfl rfl rfl rfl (Nat.le_of_ble_eq_true rfl) (Nat.le_of_ble_eq_true rfl) (Nat.le_of_ble_eq_true rfl) ?_
  rw [hn0]
  refine wq_dup (q := 70) rfl rfl rfl ?_
  refine wq_aload_n (kk := 0) (q := 71) rfl rfl rfl ?_
  refine wq_getR (t := 2) (q := 74) f_Lt_16 rfl rfl (Or.inr (Nat.le_of_ble_eq_true rfl)) rfl rfl rfl ?_
  refine wq_callI (q := 77) (m' := m_Ne_init) (As := [vR 2]) (rest := [vR 31, vR 0]) rfl rfl l_Lt_41 in_Ne_init rfl rfl rfl (Nat.le_of_ble_eq_true rfl) (Nat.le_of_ble_eq_true rfl) (Nat.le_of_ble_eq_true rfl) (Nat.le_of_ble_eq_true rfl) (Nat.le_of_ble_eq_true rfl) (c_Ne_init_31 _ rfl) rfl ?_
  rintro rv h1 r1 ⟨rfl, rfl, rfl⟩ -
  refine wq_putF (q := 80) f_Lt_44 rfl rfl rfl rfl rfl (Or.inr (Nat.le_of_ble_eq_true rfl)) (Or.inr (Nat.le_of_ble_eq_true rfl)) (fun e => Bool.noConfusion e) rfl rfl ?_
  refine wq_aload_n (kk := 0) (q := 81) rfl rfl rfl ?_
  refine wq_new (ci := 6) (q := 84) k_cl_Lt_48 k_ins_6 k_ini_6 rfl rfl rfl rfl rfl (Nat.le_of_ble_eq_true rfl) (Nat.le_of_ble_eq_true rfl) (Nat.le_of_ble_eq_true rfl) ?_
  rw [hn0]
  refine wq_dup (q := 85) rfl rfl rfl ?_
  refine wq_callIN (q := 88) (m' := m_Se_init) (As := []) (rest := [vR 40, vR 0]) rfl rfl (by decide +kernel) in_Se_init rfl rfl rfl (Nat.le_of_ble_eq_true rfl) (Nat.le_of_ble_eq_true rfl) (Nat.le_of_ble_eq_true rfl) (Nat.le_of_ble_eq_true rfl) (Nat.le_of_ble_eq_true rfl) (c_Se_init_40 _ rfl) rfl ?_
  rintro rv h1 r1 ⟨rfl, rfl, rfl⟩ -
  refine wq_putF (q := 91) f_Lt_51 rfl rfl rfl rfl rfl (Or.inr (Nat.le_of_ble_eq_true rfl)) (Or.inr (Nat.le_of_ble_eq_true rfl)) (fun e => Bool.noConfusion e) rfl rfl ?_
  refine wq_aload_n (kk := 0) (q := 92) rfl rfl rfl ?_
  refine wq_new (ci := 2) (q := 95) k_cl_Lt_55 k_ins_2 k_ini_2 rfl rfl rfl rfl rfl (Nat.le_of_ble_eq_true rfl) (Nat.le_of_ble_eq_true rfl) (Nat.le_of_ble_eq_true rfl) ?_
  rw [hn0]
  refine wq_dup (q := 96) rfl rfl rfl ?_
  refine wq_callIN (q := 99) (m' := m_Fl_init) (As := []) (rest := [vR 48, vR 0]) rfl rfl (by decide +kernel) in_Fl_init rfl rfl rfl (Nat.le_of_ble_eq_true rfl) (Nat.le_of_ble_eq_true rfl) (Nat.le_of_ble_eq_true rfl) (Nat.le_of_ble_eq_true rfl) (Nat.le_of_ble_eq_true rfl) (c_Fl_init_48 _ rfl) rfl ?_
  rintro rv h1 r1 ⟨rfl, rfl, rfl⟩ -
  refine wq_putF (q := 102) f_Lt_58 rfl rfl rfl rfl rfl (Or.inr (Nat.le_of_ble_eq_true rfl)) (Or.inr (Nat.le_of_ble_eq_true rfl)) (fun e => Bool.noConfusion e) rfl rfl ?_
  refine wq_aload_n (kk := 0) (q := 103) rfl rfl rfl ?_
  refine wq_new (ci := 2) (q := 106) k_cl_Lt_55 k_ins_2 k_ini_2 rfl rfl rfl rfl rfl (Nat.le_of_ble_eq_true rfl) (Nat.le_of_ble_eq_true rfl) (Nat.le_of_ble_eq_true rfl) ?_
  rw [hn0]
  refine wq_dup (q := 107) rfl rfl rfl ?_
  refine wq_callIN (q := 110) (m' := m_Fl_init) (As := []) (rest := [vR 51, vR 0]) rfl rfl (by decide +kernel) in_Fl_init rfl rfl rfl (Nat.le_of_ble_eq_true rfl) (Nat.le_of_ble_eq_true rfl) (Nat.le_of_ble_eq_true rfl) (Nat.le_of_ble_eq_true rfl) (Nat.le_of_ble_eq_true rfl) (c_Fl_init_51 _ rfl) rfl ?_
  rintro rv h1 r1 ⟨rfl, rfl, rfl⟩ -
  refine wq_putF (q := 113) f_Lt_62 rfl rfl rfl rfl rfl (Or.inr (Nat.le_of_ble_eq_true rfl)) (Or.inr (Nat.le_of_ble_eq_true rfl)) (fun e => Bool.noConfusion e) rfl rfl ?_
  refine wq_aload_n (kk := 0) (q := 114) rfl rfl rfl ?_
  refine wq_new (ci := 7) (q := 117) k_cl_Lt_65 k_ins_7 k_ini_7 rfl rfl rfl rfl rfl (Nat.le_of_ble_eq_true rfl) (Nat.le_of_ble_eq_true rfl) (Nat.le_of_ble_eq_true rfl) ?_
  rw [hn0]
  refine wq_dup (q := 118) rfl rfl rfl ?_
  refine wq_callIN (q := 121) (m' := m_St_init) (As := []) (rest := [vR 54, vR 0]) rfl rfl (by decide +kernel) in_St_init rfl rfl rfl (Nat.le_of_ble_eq_true rfl) (Nat.le_of_ble_eq_true rfl) (Nat.le_of_ble_eq_true rfl) (Nat.le_of_ble_eq_true rfl) (Nat.le_of_ble_eq_true rfl) (c_St_init_54 _ rfl) rfl ?_
  rintro rv h1 r1 ⟨rfl, rfl, rfl⟩ -
  refine wq_putF (q := 124) f_Lt_68 rfl rfl rfl rfl rfl (Or.inr (Nat.le_of_ble_eq_true rfl)) (Or.inr (Nat.le_of_ble_eq_true rfl)) (fun e => Bool.noConfusion e) rfl rfl ?_
  refine wq_aload_n (kk := 0) (q := 125) rfl rfl rfl ?_
  refine wq_new (ci := 0) (q := 128) k_cl_Lt_72 k_ins_0 k_ini_0 rfl rfl rfl rfl rfl (Nat.le_of_ble_eq_true rfl) (Nat.le_of_ble_eq_true rfl) (Nat.le_of_ble_eq_true rfl) ?_
  rw [hn0]
  refine wq_dup (q := 129) rfl rfl rfl ?_
  refine wq_callIN (q := 132) (m' := m_Ba_init) (As := []) (rest := [vR 58, vR 0]) rfl rfl (by decide +kernel) in_Ba_init rfl rfl rfl (Nat.le_of_ble_eq_true rfl) (Nat.le_of_ble_eq_true rfl) (Nat.le_of_ble_eq_true rfl) (Nat.le_of_ble_eq_true rfl) (Nat.le_of_ble_eq_true rfl) (c_Ba_init_58 _ rfl) rfl ?_
  rintro rv h1 r1 ⟨rfl, rfl, rfl⟩ -
  refine wq_putF (q := 135) f_Lt_75 rfl rfl rfl rfl rfl (Or.inr (Nat.le_of_ble_eq_true rfl)) (Or.inr (Nat.le_of_ble_eq_true rfl)) (fun e => Bool.noConfusion e) rfl rfl ?_
  exact wq_vret rfl rfl (Nat.le_of_ble_eq_true rfl) (Nat.le_of_ble_eq_true rfl) ⟨rfl, rfl, rfl⟩
def x_c_Mo_init_64 (r : mR) : mR := (rup (rnew (rup (rnew (rup (rnew (rup (rnew (rup (rnew (rup (rnew (rup (rnew (rup (rnew (rup (rnew (rup (rnew (rup (rnew (rup (rnew (rup (rnew (rup (rnew (rup (rnew (rup (rnew (rup (rnew (rup (rnew (rup (rnew (rup (rnew (rup (rnew r) 64 4 (some 65))) 64 6 (some 66))) 64 7 (some 67))) 64 8 (some 68))) 64 9 (some 69))) 64 20 (some 70))) 64 21 (some 71))) 64 22 (some 72))) 64 23 (some 73))) 64 24 (some 74))) 64 25 (some 75))) 64 26 (some 76))) 64 27 (some 77))) 64 29 (some 78))) 64 30 (some 79))) 64 31 (some 80))) 64 33 (some 81))) 64 34 (some 82))) 64 35 (some 83))) 64 37 (some 84))) 64 39 (some 85))
set_option maxRecDepth 100000 in
set_option maxHeartbeats 4000000 in
theorem c_Mo_init_64 (r : mR) (hr : r.2 = 65) : Meets false { frames := 2, cells := 21, slots := 29460, locals := 80 } m_Mo_init [vR 64] h0 r (fun rv h' r' => rv = none ∧ h' = (hup h0 64 3 (-1)) ∧ r' = x_c_Mo_init_64 r) := by
  obtain ⟨f, n⟩ := r
  cases hr
  have hn1 : ∀ n, 64 < n → hnew (hup h0 64 3 (-1)) n = (hup h0 64 3 (-1)) := by
    intro n hn; funext a b; unfold hnew hup; split
    · rw [if_neg (by omega)]
    · rfl
  refine ⟨ok_Mo_init, (Nat.le_of_ble_eq_true rfl), ?_⟩
  refine wq_aload_n (kk := 0) (q := 1) rfl rfl rfl ?_
  refine wq_objInit (q := 4) k_ol_Mo_3 k_obj_i k_obj_c rfl rfl (Nat.le_of_ble_eq_true rfl) (Nat.le_of_ble_eq_true rfl) (Nat.le_of_ble_eq_true rfl) ?_
  refine wq_aload_n (kk := 0) (q := 5) rfl rfl rfl ?_
  refine wq_iconst (n := -1) (q := 6) rfl rfl rfl ?_
  refine wq_putI (kz := 3) (q := 9) rfl f_Mo_9 rfl rfl rfl (Or.inr (Nat.le_of_ble_eq_true rfl)) rfl rfl ?_
  refine wq_aload_n (kk := 0) (q := 10) rfl rfl rfl ?_
  refine wq_sipush (n := 900) (q := 13) rfl rfl rfl ?_
  refine wq_newI (n := 900) (q := 15) k_ac_int rfl rfl (Nat.le_of_ble_eq_true rfl) rfl rfl (Nat.le_of_ble_eq_true rfl) (Nat.le_of_ble_eq_true rfl) (Nat.le_of_ble_eq_true rfl) ?_
  rw [hn1 _ (Nat.le_of_ble_eq_true rfl)]
  refine wq_putF (q := 18) f_Mo_13 rfl rfl rfl rfl rfl (Or.inr (Nat.le_of_ble_eq_true rfl)) (Or.inr (Nat.le_of_ble_eq_true rfl)) (fun e => Bool.noConfusion e) rfl rfl ?_
  refine wq_aload_n (kk := 0) (q := 19) rfl rfl rfl ?_
  refine wq_sipush (n := 985) (q := 22) rfl rfl rfl ?_
  refine wq_newI (n := 985) (q := 24) k_ac_int rfl rfl (Nat.le_of_ble_eq_true rfl) rfl rfl (Nat.le_of_ble_eq_true rfl) (Nat.le_of_ble_eq_true rfl) (Nat.le_of_ble_eq_true rfl) ?_
  rw [hn1 _ (Nat.le_of_ble_eq_true rfl)]
  refine wq_putF (q := 27) f_Mo_17 rfl rfl rfl rfl rfl (Or.inr (Nat.le_of_ble_eq_true rfl)) (Or.inr (Nat.le_of_ble_eq_true rfl)) (fun e => Bool.noConfusion e) rfl rfl ?_
  refine wq_aload_n (kk := 0) (q := 28) rfl rfl rfl ?_
  refine wq_sipush (n := 985) (q := 31) rfl rfl rfl ?_
  refine wq_newI (n := 985) (q := 33) k_ac_int rfl rfl (Nat.le_of_ble_eq_true rfl) rfl rfl (Nat.le_of_ble_eq_true rfl) (Nat.le_of_ble_eq_true rfl) (Nat.le_of_ble_eq_true rfl) ?_
  rw [hn1 _ (Nat.le_of_ble_eq_true rfl)]
  refine wq_putF (q := 36) f_Mo_20 rfl rfl rfl rfl rfl (Or.inr (Nat.le_of_ble_eq_true rfl)) (Or.inr (Nat.le_of_ble_eq_true rfl)) (fun e => Bool.noConfusion e) rfl rfl ?_
  refine wq_aload_n (kk := 0) (q := 37) rfl rfl rfl ?_
  refine wq_sipush (n := 985) (q := 40) rfl rfl rfl ?_
  refine wq_newI (n := 985) (q := 42) k_ac_int rfl rfl (Nat.le_of_ble_eq_true rfl) rfl rfl (Nat.le_of_ble_eq_true rfl) (Nat.le_of_ble_eq_true rfl) (Nat.le_of_ble_eq_true rfl) ?_
  rw [hn1 _ (Nat.le_of_ble_eq_true rfl)]
  refine wq_putF (q := 45) f_Mo_23 rfl rfl rfl rfl rfl (Or.inr (Nat.le_of_ble_eq_true rfl)) (Or.inr (Nat.le_of_ble_eq_true rfl)) (fun e => Bool.noConfusion e) rfl rfl ?_
  refine wq_aload_n (kk := 0) (q := 46) rfl rfl rfl ?_
  refine wq_sipush (n := 9850) (q := 49) rfl rfl rfl ?_
  refine wq_newI (n := 9850) (q := 51) k_ac_int rfl rfl (Nat.le_of_ble_eq_true rfl) rfl rfl (Nat.le_of_ble_eq_true rfl) (Nat.le_of_ble_eq_true rfl) (Nat.le_of_ble_eq_true rfl) ?_
  rw [hn1 _ (Nat.le_of_ble_eq_true rfl)]
  refine wq_putF (q := 54) f_Mo_26 rfl rfl rfl rfl rfl (Or.inr (Nat.le_of_ble_eq_true rfl)) (Or.inr (Nat.le_of_ble_eq_true rfl)) (fun e => Bool.noConfusion e) rfl rfl ?_
  refine wq_aload_n (kk := 0) (q := 55) rfl rfl rfl ?_
  refine wq_bipush (n := 10) (q := 57) rfl rfl rfl ?_
  refine wq_newL (n := 10) (q := 59) k_ac_long rfl rfl (Nat.le_of_ble_eq_true rfl) rfl rfl (Nat.le_of_ble_eq_true rfl) (Nat.le_of_ble_eq_true rfl) (Nat.le_of_ble_eq_true rfl) ?_
  rw [hn1 _ (Nat.le_of_ble_eq_true rfl)]
  refine wq_putF (q := 62) f_Mo_29 rfl rfl rfl rfl rfl (Or.inr (Nat.le_of_ble_eq_true rfl)) (Or.inr (Nat.le_of_ble_eq_true rfl)) (fun e => Bool.noConfusion e) rfl rfl ?_
  refine wq_aload_n (kk := 0) (q := 63) rfl rfl rfl ?_
  refine wq_bipush (n := 8) (q := 65) rfl rfl rfl ?_
  refine wq_newL (n := 8) (q := 67) k_ac_long rfl rfl (Nat.le_of_ble_eq_true rfl) rfl rfl (Nat.le_of_ble_eq_true rfl) (Nat.le_of_ble_eq_true rfl) (Nat.le_of_ble_eq_true rfl) ?_
  rw [hn1 _ (Nat.le_of_ble_eq_true rfl)]
  refine wq_putF (q := 70) f_Mo_33 rfl rfl rfl rfl rfl (Or.inr (Nat.le_of_ble_eq_true rfl)) (Or.inr (Nat.le_of_ble_eq_true rfl)) (fun e => Bool.noConfusion e) rfl rfl ?_
  refine wq_aload_n (kk := 0) (q := 71) rfl rfl rfl ?_
  refine wq_bipush (n := 7) (q := 73) rfl rfl rfl ?_
  refine wq_newI (n := 7) (q := 75) k_ac_int rfl rfl (Nat.le_of_ble_eq_true rfl) rfl rfl (Nat.le_of_ble_eq_true rfl) (Nat.le_of_ble_eq_true rfl) (Nat.le_of_ble_eq_true rfl) ?_
  rw [hn1 _ (Nat.le_of_ble_eq_true rfl)]
  refine wq_putF (q := 78) f_Mo_36 rfl rfl rfl rfl rfl (Or.inr (Nat.le_of_ble_eq_true rfl)) (Or.inr (Nat.le_of_ble_eq_true rfl)) (fun e => Bool.noConfusion e) rfl rfl ?_
  refine wq_aload_n (kk := 0) (q := 79) rfl rfl rfl ?_
  refine wq_bipush (n := 120) (q := 81) rfl rfl rfl ?_
  refine wq_newI (n := 120) (q := 83) k_ac_int rfl rfl (Nat.le_of_ble_eq_true rfl) rfl rfl (Nat.le_of_ble_eq_true rfl) (Nat.le_of_ble_eq_true rfl) (Nat.le_of_ble_eq_true rfl) ?_
  rw [hn1 _ (Nat.le_of_ble_eq_true rfl)]
  refine wq_putF (q := 86) f_Mo_39 rfl rfl rfl rfl rfl (Or.inr (Nat.le_of_ble_eq_true rfl)) (Or.inr (Nat.le_of_ble_eq_true rfl)) (fun e => Bool.noConfusion e) rfl rfl ?_
  refine wq_aload_n (kk := 0) (q := 87) rfl rfl rfl ?_
  refine wq_bipush (n := 120) (q := 89) rfl rfl rfl ?_
  refine wq_newI (n := 120) (q := 91) k_ac_int rfl rfl (Nat.le_of_ble_eq_true rfl) rfl rfl (Nat.le_of_ble_eq_true rfl) (Nat.le_of_ble_eq_true rfl) (Nat.le_of_ble_eq_true rfl) ?_
  rw [hn1 _ (Nat.le_of_ble_eq_true rfl)]
  refine wq_putF (q := 94) f_Mo_42 rfl rfl rfl rfl rfl (Or.inr (Nat.le_of_ble_eq_true rfl)) (Or.inr (Nat.le_of_ble_eq_true rfl)) (fun e => Bool.noConfusion e) rfl rfl ?_
  refine wq_aload_n (kk := 0) (q := 95) rfl rfl rfl ?_
  refine wq_bipush (n := 120) (q := 97) rfl rfl rfl ?_
  refine wq_newI (n := 120) (q := 99) k_ac_int rfl rfl (Nat.le_of_ble_eq_true rfl) rfl rfl (Nat.le_of_ble_eq_true rfl) (Nat.le_of_ble_eq_true rfl) (Nat.le_of_ble_eq_true rfl) ?_
  rw [hn1 _ (Nat.le_of_ble_eq_true rfl)]
  refine wq_putF (q := 102) f_Mo_45 rfl rfl rfl rfl rfl (Or.inr (Nat.le_of_ble_eq_true rfl)) (Or.inr (Nat.le_of_ble_eq_true rfl)) (fun e => Bool.noConfusion e) rfl rfl ?_
  refine wq_aload_n (kk := 0) (q := 103) rfl rfl rfl ?_
  refine wq_bipush (n := 120) (q := 105) rfl rfl rfl ?_
  refine wq_newI (n := 120) (q := 107) k_ac_int rfl rfl (Nat.le_of_ble_eq_true rfl) rfl rfl (Nat.le_of_ble_eq_true rfl) (Nat.le_of_ble_eq_true rfl) (Nat.le_of_ble_eq_true rfl) ?_
  rw [hn1 _ (Nat.le_of_ble_eq_true rfl)]
  refine wq_putF (q := 110) f_Mo_48 rfl rfl rfl rfl rfl (Or.inr (Nat.le_of_ble_eq_true rfl)) (Or.inr (Nat.le_of_ble_eq_true rfl)) (fun e => Bool.noConfusion e) rfl rfl ?_
  refine wq_aload_n (kk := 0) (q := 111) rfl rfl rfl ?_
  refine wq_bipush (n := 120) (q := 113) rfl rfl rfl ?_
  refine wq_newI (n := 120) (q := 115) k_ac_int rfl rfl (Nat.le_of_ble_eq_true rfl) rfl rfl (Nat.le_of_ble_eq_true rfl) (Nat.le_of_ble_eq_true rfl) (Nat.le_of_ble_eq_true rfl) ?_
  rw [hn1 _ (Nat.le_of_ble_eq_true rfl)]
  refine wq_putF (q := 118) f_Mo_51 rfl rfl rfl rfl rfl (Or.inr (Nat.le_of_ble_eq_true rfl)) (Or.inr (Nat.le_of_ble_eq_true rfl)) (fun e => Bool.noConfusion e) rfl rfl ?_
  refine wq_aload_n (kk := 0) (q := 119) rfl rfl rfl ?_
  refine wq_sipush (n := 14400) (q := 122) rfl rfl rfl ?_
  refine wq_newI (n := 14400) (q := 124) k_ac_int rfl rfl (Nat.le_of_ble_eq_true rfl) rfl rfl (Nat.le_of_ble_eq_true rfl) (Nat.le_of_ble_eq_true rfl) (Nat.le_of_ble_eq_true rfl) ?_
  rw [hn1 _ (Nat.le_of_ble_eq_true rfl)]
  refine wq_putF (q := 127) f_Mo_54 rfl rfl rfl rfl rfl (Or.inr (Nat.le_of_ble_eq_true rfl)) (Or.inr (Nat.le_of_ble_eq_true rfl)) (fun e => Bool.noConfusion e) rfl rfl ?_
  refine wq_aload_n (kk := 0) (q := 128) rfl rfl rfl ?_
  refine wq_bipush (n := 120) (q := 130) rfl rfl rfl ?_
  refine wq_newI (n := 120) (q := 132) k_ac_int rfl rfl (Nat.le_of_ble_eq_true rfl) rfl rfl (Nat.le_of_ble_eq_true rfl) (Nat.le_of_ble_eq_true rfl) (Nat.le_of_ble_eq_true rfl) ?_
  rw [hn1 _ (Nat.le_of_ble_eq_true rfl)]
  refine wq_putF (q := 135) f_Mo_57 rfl rfl rfl rfl rfl (Or.inr (Nat.le_of_ble_eq_true rfl)) (Or.inr (Nat.le_of_ble_eq_true rfl)) (fun e => Bool.noConfusion e) rfl rfl ?_
  refine wq_aload_n (kk := 0) (q := 136) rfl rfl rfl ?_
  refine wq_bipush (n := 120) (q := 138) rfl rfl rfl ?_
  refine wq_newI (n := 120) (q := 140) k_ac_int rfl rfl (Nat.le_of_ble_eq_true rfl) rfl rfl (Nat.le_of_ble_eq_true rfl) (Nat.le_of_ble_eq_true rfl) (Nat.le_of_ble_eq_true rfl) ?_
  rw [hn1 _ (Nat.le_of_ble_eq_true rfl)]
  refine wq_putF (q := 143) f_Mo_60 rfl rfl rfl rfl rfl (Or.inr (Nat.le_of_ble_eq_true rfl)) (Or.inr (Nat.le_of_ble_eq_true rfl)) (fun e => Bool.noConfusion e) rfl rfl ?_
  refine wq_aload_n (kk := 0) (q := 144) rfl rfl rfl ?_
  refine wq_bipush (n := 120) (q := 146) rfl rfl rfl ?_
  refine wq_newI (n := 120) (q := 148) k_ac_int rfl rfl (Nat.le_of_ble_eq_true rfl) rfl rfl (Nat.le_of_ble_eq_true rfl) (Nat.le_of_ble_eq_true rfl) (Nat.le_of_ble_eq_true rfl) ?_
  rw [hn1 _ (Nat.le_of_ble_eq_true rfl)]
  refine wq_putF (q := 151) f_Mo_63 rfl rfl rfl rfl rfl (Or.inr (Nat.le_of_ble_eq_true rfl)) (Or.inr (Nat.le_of_ble_eq_true rfl)) (fun e => Bool.noConfusion e) rfl rfl ?_
  refine wq_aload_n (kk := 0) (q := 152) rfl rfl rfl ?_
  refine wq_bipush (n := 120) (q := 154) rfl rfl rfl ?_
  refine wq_newI (n := 120) (q := 156) k_ac_int rfl rfl (Nat.le_of_ble_eq_true rfl) rfl rfl (Nat.le_of_ble_eq_true rfl) (Nat.le_of_ble_eq_true rfl) (Nat.le_of_ble_eq_true rfl) ?_
  rw [hn1 _ (Nat.le_of_ble_eq_true rfl)]
  refine wq_putF (q := 159) f_Mo_66 rfl rfl rfl rfl rfl (Or.inr (Nat.le_of_ble_eq_true rfl)) (Or.inr (Nat.le_of_ble_eq_true rfl)) (fun e => Bool.noConfusion e) rfl rfl ?_
  refine wq_aload_n (kk := 0) (q := 160) rfl rfl rfl ?_
  refine wq_bipush (n := 120) (q := 162) rfl rfl rfl ?_
  refine wq_newI (n := 120) (q := 164) k_ac_int rfl rfl (Nat.le_of_ble_eq_true rfl) rfl rfl (Nat.le_of_ble_eq_true rfl) (Nat.le_of_ble_eq_true rfl) (Nat.le_of_ble_eq_true rfl) ?_
  rw [hn1 _ (Nat.le_of_ble_eq_true rfl)]
  refine wq_putF (q := 167) f_Mo_69 rfl rfl rfl rfl rfl (Or.inr (Nat.le_of_ble_eq_true rfl)) (Or.inr (Nat.le_of_ble_eq_true rfl)) (fun e => Bool.noConfusion e) rfl rfl ?_
  refine wq_aload_n (kk := 0) (q := 168) rfl rfl rfl ?_
  refine wq_bipush (n := 120) (q := 170) rfl rfl rfl ?_
  refine wq_newI (n := 120) (q := 172) k_ac_int rfl rfl (Nat.le_of_ble_eq_true rfl) rfl rfl (Nat.le_of_ble_eq_true rfl) (Nat.le_of_ble_eq_true rfl) (Nat.le_of_ble_eq_true rfl) ?_
  rw [hn1 _ (Nat.le_of_ble_eq_true rfl)]
  refine wq_putF (q := 175) f_Mo_72 rfl rfl rfl rfl rfl (Or.inr (Nat.le_of_ble_eq_true rfl)) (Or.inr (Nat.le_of_ble_eq_true rfl)) (fun e => Bool.noConfusion e) rfl rfl ?_
  refine wq_aload_n (kk := 0) (q := 176) rfl rfl rfl ?_
  refine wq_bipush (n := 10) (q := 178) rfl rfl rfl ?_
  refine wq_newI (n := 10) (q := 180) k_ac_int rfl rfl (Nat.le_of_ble_eq_true rfl) rfl rfl (Nat.le_of_ble_eq_true rfl) (Nat.le_of_ble_eq_true rfl) (Nat.le_of_ble_eq_true rfl) ?_
  rw [hn1 _ (Nat.le_of_ble_eq_true rfl)]
  refine wq_putF (q := 183) f_Mo_75 rfl rfl rfl rfl rfl (Or.inr (Nat.le_of_ble_eq_true rfl)) (Or.inr (Nat.le_of_ble_eq_true rfl)) (fun e => Bool.noConfusion e) rfl rfl ?_
  exact wq_vret rfl rfl (Nat.le_of_ble_eq_true rfl) (Nat.le_of_ble_eq_true rfl) ⟨rfl, rfl, rfl⟩
end
section
def t_Js_length : List (Nat × Instr × Nat) := [(0, (.aload_n 0, 1)), (1, (.getfield 9, 3)), (4, (.arraylength, 1)), (5, (.aload_n 0, 1)), (6, (.invokevirtual 335, 3)), (9, (.ishr, 1)), (10, (.ireturn, 1))]
theorem t_Js_length_ok : ∀ q ∈ t_Js_length, decode prog_19_method_54_code q.1 = .ok q.2 := by decide +kernel
def m_Js_length : mM := (⟨"java/lang/String", "length", "()I"⟩, prog_19_method_54_code, 1, (some .int), t_Js_length)
theorem ok_Js_length : mOK m_Js_length := ⟨by decide, tm 611 (by decide +kernel) rfl, t_Js_length_ok, tm 125 (by decide +kernel) rfl, by decide, by decide⟩
theorem vm_Js_length : mVt m_Js_length := ⟨tm 609 (by decide +kernel) rfl, tm 610 (by decide +kernel) rfl⟩
def t_Js_coder : List (Nat × Instr × Nat) := [(0, (.getstatic 38, 3)), (3, (.ifCond .eq 10, 3)), (6, (.aload_n 0, 1)), (7, (.getfield 15, 3)), (10, (.goto 4, 3)), (13, (.iconst 1, 1)), (14, (.ireturn, 1))]
theorem t_Js_coder_ok : ∀ q ∈ t_Js_coder, decode prog_19_method_152_code q.1 = .ok q.2 := by decide +kernel
def m_Js_coder : mM := (⟨"java/lang/String", "coder", "()B"⟩, prog_19_method_152_code, 1, (some .byte), t_Js_coder)
theorem ok_Js_coder : mOK m_Js_coder := ⟨by decide, tm 615 (by decide +kernel) rfl, t_Js_coder_ok, tm 125 (by decide +kernel) rfl, by decide, by decide⟩
theorem vm_Js_coder : mVt m_Js_coder := ⟨tm 613 (by decide +kernel) rfl, tm 614 (by decide +kernel) rfl⟩
def t_Js_charAt : List (Nat × Instr × Nat) := [(0, (.aload_n 0, 1)), (1, (.invokevirtual 492, 3)), (4, (.ifCond .eq 12, 3)), (7, (.aload_n 0, 1)), (8, (.getfield 9, 3)), (11, (.iload_n 1, 1)), (12, (.invokestatic 495, 3)), (15, (.ireturn, 1)), (16, (.aload_n 0, 1)), (17, (.getfield 9, 3)), (20, (.iload_n 1, 1)), (21, (.invokestatic 498, 3)), (24, (.ireturn, 1))]
theorem t_Js_charAt_ok : ∀ q ∈ t_Js_charAt, decode prog_19_method_56_code q.1 = .ok q.2 := by decide +kernel
def m_Js_charAt : mM := (⟨"java/lang/String", "charAt", "(I)C"⟩, prog_19_method_56_code, 2, (some .char), t_Js_charAt)
theorem ok_Js_charAt : mOK m_Js_charAt := ⟨by decide, tm 621 (by decide +kernel) rfl, t_Js_charAt_ok, tm 125 (by decide +kernel) rfl, by decide, by decide⟩
theorem vm_Js_charAt : mVt m_Js_charAt := ⟨tm 619 (by decide +kernel) rfl, tm 620 (by decide +kernel) rfl⟩
def t_Js_isLatin1 : List (Nat × Instr × Nat) := [(0, (.getstatic 38, 3)), (3, (.ifCond .eq 14, 3)), (6, (.aload_n 0, 1)), (7, (.getfield 15, 3)), (10, (.ifCond .ne 7, 3)), (13, (.iconst 1, 1)), (14, (.goto 4, 3)), (17, (.iconst 0, 1)), (18, (.ireturn, 1))]
theorem t_Js_isLatin1_ok : ∀ q ∈ t_Js_isLatin1, decode prog_19_method_154_code q.1 = .ok q.2 := by decide +kernel
def m_Js_isLatin1 : mM := (⟨"java/lang/String", "isLatin1", "()Z"⟩, prog_19_method_154_code, 1, (some .boolean), t_Js_isLatin1)
theorem ok_Js_isLatin1 : mOK m_Js_isLatin1 := ⟨by decide, tm 625 (by decide +kernel) rfl, t_Js_isLatin1_ok, tm 125 (by decide +kernel) rfl, by decide, by decide⟩
theorem vm_Js_isLatin1 : mVt m_Js_isLatin1 := ⟨tm 623 (by decide +kernel) rfl, tm 624 (by decide +kernel) rfl⟩
def t_Js_checkIndex : List (Nat × Instr × Nat) := [(0, (.iload_n 0, 1)), (1, (.iload_n 1, 1)), (2, (.getstatic 1053, 3)), (5, (.invokestatic 1059, 3)), (8, (.pop, 1)), (9, (.return_, 1))]
theorem t_Js_checkIndex_ok : ∀ q ∈ t_Js_checkIndex, decode prog_19_method_155_code q.1 = .ok q.2 := by decide +kernel
def m_Js_checkIndex : mM := (⟨"java/lang/String", "checkIndex", "(II)V"⟩, prog_19_method_155_code, 2, none, t_Js_checkIndex)
theorem ok_Js_checkIndex : mOK m_Js_checkIndex := ⟨by decide, tm 631 (by decide +kernel) rfl, t_Js_checkIndex_ok, tm 125 (by decide +kernel) rfl, by decide, by decide⟩
theorem sm_Js_checkIndex : Cond.static m_Js_checkIndex.1 ∈ t0_ws := tm 630 (by decide +kernel) rfl
def t_Jl_charAt : List (Nat × Instr × Nat) := [(0, (.iload_n 1, 1)), (1, (.aload_n 0, 1)), (2, (.arraylength, 1)), (3, (.invokestatic 9, 3)), (6, (.aload_n 0, 1)), (7, (.iload_n 1, 1)), (8, (.baload, 1)), (9, (.sipush 255, 3)), (12, (.iand, 1)), (13, (.i2c, 1)), (14, (.ireturn, 1))]
theorem t_Jl_charAt_ok : ∀ q ∈ t_Jl_charAt, decode prog_20_method_2_code q.1 = .ok q.2 := by decide +kernel
def m_Jl_charAt : mM := (⟨"java/lang/StringLatin1", "charAt", "([BI)C"⟩, prog_20_method_2_code, 2, (some .char), t_Jl_charAt)
theorem ok_Jl_charAt : mOK m_Jl_charAt := ⟨by decide, tm 628 (by decide +kernel) rfl, t_Jl_charAt_ok, tm 126 (by decide +kernel) rfl, by decide, by decide⟩
theorem sm_Jl_charAt : Cond.static m_Jl_charAt.1 ∈ t0_ws := tm 627 (by decide +kernel) rfl
def t_Jp_checkIndex : List (Nat × Instr × Nat) := [(0, (.iload_n 0, 1)), (1, (.ifCond .lt 8, 3)), (4, (.iload_n 0, 1)), (5, (.iload_n 1, 1)), (6, (.if_icmp .lt 10, 3)), (9, (.aload_n 2, 1)), (10, (.iload_n 0, 1)), (11, (.iload_n 1, 1)), (12, (.invokestatic 95, 3)), (15, (.athrow, 1)), (16, (.iload_n 0, 1)), (17, (.ireturn, 1))]
theorem t_Jp_checkIndex_ok : ∀ q ∈ t_Jp_checkIndex, decode prog_26_method_11_code q.1 = .ok q.2 := by decide +kernel
def m_Jp_checkIndex : mM := (⟨"jdk/internal/util/Preconditions", "checkIndex", "(IILjava/util/function/BiFunction;)I"⟩, prog_26_method_11_code, 3, (some .int), t_Jp_checkIndex)
theorem ok_Jp_checkIndex : mOK m_Jp_checkIndex := ⟨by decide, tm 636 (by decide +kernel) rfl, t_Jp_checkIndex_ok, tm 127 (by decide +kernel) rfl, by decide, by decide⟩
theorem sm_Jp_checkIndex : Cond.static m_Jp_checkIndex.1 ∈ t0_ws := tm 635 (by decide +kernel) rfl
theorem l_Re_170 : Cond.methodLink "LinkTimes$Reader" 170 m_Js_length.1 ∈ t0_ws := tm 608 (by decide +kernel) rfl
theorem l_Js_335 : Cond.methodLink "java/lang/String" 335 m_Js_coder.1 ∈ t0_ws := tm 612 (by decide +kernel) rfl
theorem f_Js_38 : Cond.fieldLink "java/lang/String" 38 "java/lang/String" "COMPACT_STRINGS" "Z" ∈ t0_ws := tm 616 (by decide +kernel) rfl
theorem l_Re_175 : Cond.methodLink "LinkTimes$Reader" 175 m_Js_charAt.1 ∈ t0_ws := tm 618 (by decide +kernel) rfl
theorem l_Js_492 : Cond.methodLink "java/lang/String" 492 m_Js_isLatin1.1 ∈ t0_ws := tm 622 (by decide +kernel) rfl
theorem l_Js_495 : Cond.methodLink "java/lang/String" 495 m_Jl_charAt.1 ∈ t0_ws := tm 626 (by decide +kernel) rfl
theorem l_Jl_9 : Cond.methodLink "java/lang/StringLatin1" 9 m_Js_checkIndex.1 ∈ t0_ws := tm 629 (by decide +kernel) rfl
theorem f_Js_1053 : Cond.fieldLink "java/lang/String" 1053 "jdk/internal/util/Preconditions" "SIOOBE_FORMATTER" "Ljava/util/function/BiFunction;" ∈ t0_ws := tm 632 (by decide +kernel) rfl
theorem l_Js_1059 : Cond.methodLink "java/lang/String" 1059 m_Jp_checkIndex.1 ∈ t0_ws := tm 634 (by decide +kernel) rfl
theorem l_Mo_114 : Cond.methodLink "LinkTimesModel" 114 m_Js_length.1 ∈ t0_ws := tm 1416 (by decide +kernel) rfl
theorem l_Mo_120 : Cond.methodLink "LinkTimesModel" 120 m_Js_charAt.1 ∈ t0_ws := tm 1417 (by decide +kernel) rfl
theorem f_Js_9 : Cond.fieldLink "java/lang/String" 9 "java/lang/String" "value" "[B" ∈ t0_ws := tm 1839 (by decide +kernel) rfl
theorem f_Js_15 : Cond.fieldLink "java/lang/String" 15 "java/lang/String" "coder" "B" ∈ t0_ws := tm 1840 (by decide +kernel) rfl
section ST
variable {E : mE} {m : mM} {X : mX} {pc q : Nat} {ls : mL} {st : List mV} {h : mH} {r : mR} {u : mU}
theorem wq_ldcs {idx j : Nat} (hw : (m.1.cls, idx, j) ∈ strW) (hj : j < 1000) (hd : dc m pc = some (.ldc idx, 2)) (hq : pc + 2 = q) (k : WP E m X q ls (vR (sBase + j) :: st) h r u) : WP E m X pc ls st h r u := by
  intro G p l e s mid args below meth c Q ad0 n0 hC hX ad H locs lsA hag hn hR hS hL hst
  subst hq
  have hsf := hC.2.2.2.2.2.2.2.2.1
  have hZ := hsf.2.2.2.2.1 _ hw
  have ha := (hR.2.2.2.2.2.2.1 j hj).1
  rw [← ha] at hZ
  exact va_ldcS hC.1 hC.2.1 hC.2.2.2.2.1 hZ (mdc hC hd) (k G p l e s mid args below meth c Q ad0 n0 hC hX ad H locs lsA hag hn hR hS hL (ok_cons (v := vR (sBase + j)) (Or.inr (Nat.le_add_right _ _)) hst))
theorem wq_sval {idx j : Nat} (hf : Cond.fieldLink m.1.cls idx "java/lang/String" "value" "[B" ∈ t0_ws) (hj : j < 11) (hd : dc m pc = some (.getfield idx, 3)) (hq : pc + 3 = q) (k : WP E m X q ls (vR (sBase + 1000 + j) :: st) h r u) : WP E m X pc ls (vR (sBase + j) :: st) h r u := by
  intro G p l e s mid args below meth c Q ad0 n0 hC hX ad H locs lsA hag hn hR hS hL hst
  subst hq
  have hsf := hC.2.2.2.2.2.2.2.2.1
  have hE := (hsf.2.2.2.1.1 j hj).2.2.1
  have ha := hR.2.2.2.2.2.2.1 j (by omega)
  rw [← ha.1, ← ha.2] at hE
  exact vk_getf hC.1 hC.2.1 hE hS hC.2.2.2.2.1 (hC.2.2.2.2.2.2.2.1 _ hf) (fun _ hx => hx) (mdc hC hd) (k G p l e s mid args below meth c Q ad0 n0 hC hX ad H locs lsA hag hn hR hS hL (ok_cons (v := vR (sBase + 1000 + j)) (Or.inr (by omega)) (ok_tl hst)))
theorem wq_scod {idx j : Nat} (hf : Cond.fieldLink m.1.cls idx "java/lang/String" "coder" "B" ∈ t0_ws) (hj : j < 11) (hd : dc m pc = some (.getfield idx, 3)) (hq : pc + 3 = q) (k : WP E m X q ls (vI 0 :: st) h r u) : WP E m X pc ls (vR (sBase + j) :: st) h r u := by
  intro G p l e s mid args below meth c Q ad0 n0 hC hX ad H locs lsA hag hn hR hS hL hst
  subst hq
  have hsf := hC.2.2.2.2.2.2.2.2.1
  have hE := (hsf.2.2.2.1.1 j hj).2.1
  have ha := hR.2.2.2.2.2.2.1 j (by omega)
  rw [← ha.1] at hE
  exact vk_getf hC.1 hC.2.1 hE hS hC.2.2.2.2.1 (hC.2.2.2.2.2.2.2.1 _ hf) (fun _ hx => hx) (mdc hC hd) (k G p l e s mid args below meth c Q ad0 n0 hC hX ad H locs lsA hag hn hR hS hL (ok_cons (v := vI 0) oi_0 (ok_tl hst)))
theorem wq_comp {idx : Nat} (hf : Cond.fieldLink m.1.cls idx "java/lang/String" "COMPACT_STRINGS" "Z" ∈ t0_ws) (hd : dc m pc = some (.getstatic idx, 3)) (hq : pc + 3 = q) (k : WP E m X q ls (vI 1 :: st) h r u) : WP E m X pc ls st h r u := by
  intro G p l e s mid args below meth c Q ad0 n0 hC hX ad H locs lsA hag hn hR hS hL hst
  subst hq
  have hsf := hC.2.2.2.2.2.2.2.2.1
  exact va_gets hC.1 hC.2.1 hsf.2.2.2.2.2.1 hS hC.2.2.2.2.1 (hC.2.2.2.2.2.2.2.1 _ hf) (fun _ hx => hx) (mdc hC hd) (k G p l e s mid args below meth c Q ad0 n0 hC hX ad H locs lsA hag hn hR hS hL (ok_cons (v := vI 1) (by show okI 1; unfold okI; omega) hst))
theorem wq_fmt {idx : Nat} (hf : Cond.fieldLink m.1.cls idx "jdk/internal/util/Preconditions" "SIOOBE_FORMATTER" "Ljava/util/function/BiFunction;" ∈ t0_ws) (hd : dc m pc = some (.getstatic idx, 3)) (hq : pc + 3 = q) (k : ∀ t : Option Nat, WP E m X q ls (.inr (.inr t) :: st) h r u) : WP E m X pc ls st h r u := by
  intro G p l e s mid args below meth c Q ad0 n0 hC hX ad H locs lsA hag hn hR hS hL hst
  subst hq
  have hsf := hC.2.2.2.2.2.2.2.2.1
  obtain ⟨v, hZ, hv⟩ := hsf.2.2.2.2.2.2.1
  have hv' : ∃ t : Option Nat, v = toV ad (.inr (.inr t)) ∧ okV r.2 (.inr (.inr t)) := by
    rcases hv with rfl | rfl
    · exact ⟨none, rfl, trivial⟩
    · refine ⟨some (sScr + 1), ?_, Or.inr (show (100000 : Nat) ≤ 200000 + 1 by omega)⟩
      show _ = Value.ref (ad (sScr + 1))
      rw [hR.2.2.2.2.2.2.2.2]
  obtain ⟨t, rfl, ht⟩ := hv'
  exact va_gets hC.1 hC.2.1 hZ hS hC.2.2.2.2.1 (hC.2.2.2.2.2.2.2.1 _ hf) (fun _ hx => hx) (mdc hC hd) (k t G p l e s mid args below meth c Q ad0 n0 hC hX ad H locs lsA hag hn hR hS hL (ok_cons ht hst))
def sLen (j : Nat) : Nat := lnS.getD j 0
def sCh (j : Nat) (x : Int) : Int := ((byS.getD j []).getD x.toNat 0).toInt
theorem sLen_ok : ∀ j, j < 11 → okb (sLen j) = true := by decide
theorem wq_slen {j : Nat} (hj : j < 11) (hd : dc m pc = some (.arraylength, 1)) (hq : pc + 1 = q) (k : WP E m X q ls (vI (sLen j) :: st) h r u) : WP E m X pc ls (vR (sBase + 1000 + j) :: st) h r u := by
  intro G p l e s mid args below meth c Q ad0 n0 hC hX ad H locs lsA hag hn hR hS hL hst
  subst hq
  have hsf := hC.2.2.2.2.2.2.2.2.1
  have hE := (hsf.2.2.2.1.1 j hj).2.2.2
  have ha := hR.2.2.2.2.2.2.1 j (by omega)
  rw [← ha.2] at hE
  exact va_tlen hC.1 hC.2.1 hE hS rfl (mdc hC hd) (k G p l e s mid args below meth c Q ad0 n0 hC hX ad H locs lsA hag hn hR hS hL (ok_cons (v := vI (sLen j)) (okb_spec (sLen_ok j hj)) (ok_tl hst)))
theorem wq_sch {j : Nat} {x : Int} (hj : j < 11) (h0 : 0 ≤ x) (h1 : x < sLen j) (hd : dc m pc = some (.baload, 1)) (hq : pc + 1 = q) (k : WP E m X q ls (vI (sCh j x) :: st) h r u) : WP E m X pc ls (vI x :: vR (sBase + 1000 + j) :: st) h r u := by
  intro G p l e s mid args below meth c Q ad0 n0 hC hX ad H locs lsA hag hn hR hS hL hst
  subst hq
  have hsf := hC.2.2.2.2.2.2.2.2.1
  have hx : okI x := ok_hd hst
  have hE := (hsf.2.2.2.1.1 j hj).2.2.2
  have ha := hR.2.2.2.2.2.2.1 j (by omega)
  rw [← ha.2] at hE
  exact va_tb hC.1 hC.2.1 hE hS (oi_in hx h0 h1) (v := toV ad (vI (sCh j x))) (by show Value.int _ = Value.int (Int32.ofInt (sCh j x)); unfold sCh; rw [oi_rt, oi_clamp hx h0]) (mdc hC hd) (k G p l e s mid args below meth c Q ad0 n0 hC hX ad H locs lsA hag hn hR hS hL (ok_cons (v := vI (sCh j x)) (oi_of _) (ok_tl (ok_tl hst))))
theorem wq_i2c {x : Int} (hx0 : 0 ≤ x) (hx1 : x < 65536) (hd : dc m pc = some (.i2c, 1)) (hq : pc + 1 = q) (k : WP E m X q ls (vI x :: st) h r u) : WP E m X pc ls (vI x :: st) h r u := by
  intro G p l e s mid args below meth c Q ad0 n0 hC hX ad H locs lsA hag hn hR hS hL hst
  subst hq
  have hx : okI x := ok_hd hst
  have e0 : Int32.ofInt x = nI x.toNat := by
    rw [← Int32.toInt_inj, oi_toInt hx, nI_toInt (by omega)]
    omega
  refine lv_i2c hC.1 hC.2.1 (mdc hC hd) (v := Int32.ofInt x) ?_ (k G p l e s mid args below meth c Q ad0 n0 hC hX ad H locs lsA hag hn hR hS hL hst)
  rw [pk_char, e0, pk_tn (by omega)]
  congr 1
  omega
theorem wq_callVs {idx : Nat} {m' : mM} {R' : Room} {As rest : List mV} {j : Nat} {post : mP} (hd : dc m pc = some (.invokevirtual idx, 3)) (hq : pc + 3 = q) (hl : Cond.methodLink m.1.cls idx m'.1 ∈ t0_ws) (hv : mVt m') (hcs : m'.1.cls = "java/lang/String")
    (hpar : (parseMethodDescriptor m'.1.desc).map (fun d => d.parameters.length) = some As.length) (hj : j < 11)
    (hR1 : R'.frames + 1 ≤ E.2.frames) (hR2 : 8 + (m'.2.2.1 + 11) + R'.locals ≤ E.2.locals) (hb1 : u.1 + R'.cells ≤ E.2.cells) (hb2 : u.2 + R'.slots ≤ E.2.slots) (hrest : rest.length ≤ 4)
    (hM : Meets E.1 R' m' (vR (sBase + j) :: As) h r post) (hs : st = As.reverse ++ vR (sBase + j) :: rest)
    (k : ∀ rv h' r', post rv h' r' → r.2 ≤ r'.2 → WP E m X q ls (rv.toList ++ rest) h' r' (u.1 + R'.cells, u.2 + R'.slots)) : WP E m X pc ls st h r u := by
  intro G p l e s mid args below meth c Q ad0 n0 hC hX ad H locs lsA hag hn hR hS hL hst
  have hm' := hM.1
  have hts : ∀ w ∈ t0_ws, w.before args s = true := hC.2.2.2.2.2.2.2.1
  have hG : GoodIn t0_ws (mWs m') := fun w hw => ⟨by rcases List.mem_cons.mp hw with rfl | hw; exact hm'.2.1; exact hw, (good_t0 (m := m) hm' w hw).2⟩
  have cw : CallW E.2 s args m.1.cls m'.1.cls idx m'.1 m'.2.1 m'.2.2.1 m'.2.2.2.1 (mWs m') R' R'.cells R'.slots As.length :=
    ⟨callB_of As.length hts hG rfl rfl rfl (hts _ hm'.2.2.2.1) (hts _ hl) ⟨hm'.2.2.2.2.1, hm'.2.2.2.2.2, hpar⟩ ⟨hR1, hR2⟩, hts _ hv.1, hts _ hv.2⟩
  have hsf := hC.2.2.2.2.2.2.2.2.1
  have hrecv : ∃ cell : Cell, H[ad (sBase + j)]? = some cell ∧ cell.vm.isStatics = false ∧ s.vm.findClass m'.1.cls = some cell.cls := by
    rw [(hR.2.2.2.2.2.2.1 j (by omega)).1, hcs]
    exact vk_recv hsf.2.2.2.1 hj hS
  subst hs
  have hst' : ∀ v ∈ rest, okV r.2 v := fun v hv => hst v (List.mem_append_right _ (List.mem_cons_of_mem _ hv))
  have hav : ∀ v ∈ vR (sBase + j) :: As, okV r.2 v := fun v hv => by
    rcases List.mem_cons.mp hv with rfl | hv
    · exact hst _ (List.mem_append_right _ List.mem_cons_self)
    · exact hst v (List.mem_append_left _ (List.mem_reverse.mpr hv))
  refine call_back hC hX hag hn hS hL hst' (va_runV (Ts := t0_ws) (cc := m.2.1) (nL := m.2.2.1) (own := m.1.cls) (C := m'.1.cls) (As := As.map (toV ad)) (b := ad (sBase + j)) ⟨hC.1, hC.2.1, hC.2.2.2.1, hC.2.2.2.2.1, hts⟩ (hM.met l G ad) cw ⟨mPre.blind, hrecv, fun U hU hW => ⟨rfl, hsf.warm hW hU hS, by rw [hU]; exact hR, hav⟩⟩ rfl (by simp) hL.1 (by simp [toV]) (cats_sum hrest) (mdc hC hd) ⟨hb1, hb2⟩) hq k
end ST
theorem sh0 (x : Int) : (Int32.ofInt x >>> (Int32.ofInt 0 &&& 31)).toInt = (Int32.ofInt x).toInt := by
  have : (Int32.ofInt 0 &&& 31) = (0 : Int32) := by decide
  rw [this]
  simp
section JD
variable {h : mH} {r : mR} {g : Bool} {j : Nat}
theorem Js_coder_ok (hj : j < 11) : Meets g (rm 1) m_Js_coder [vR (sBase + j)] h r (pI 0 h r) := by
  refine ⟨ok_Js_coder, Nat.le_of_ble_eq_true rfl, ?_⟩
  refine wq_comp (q := 3) f_Js_38 rfl rfl ?_
  refine wq_if_eq (tgt := 13) (q := 6) rfl rfl rfl (fun c => absurd c (by decide)) (fun _ => ?_)
  refine wq_aload_n (kk := 0) (q := 7) rfl rfl rfl ?_
  refine wq_scod (q := 10) f_Js_15 hj rfl rfl ?_
  refine wq_goto (tgt := 14) rfl rfl ?_
  exact WP.exit ⟨Nat.le_refl _, Nat.le_refl _, Or.inl ⟨rfl, 0, rfl, ⟨_, rfl, by decide⟩, rfl, rfl, rfl⟩⟩
theorem Js_isLatin1_ok (hj : j < 11) : Meets g (rm 1) m_Js_isLatin1 [vR (sBase + j)] h r (pI 1 h r) := by
  refine ⟨ok_Js_isLatin1, Nat.le_of_ble_eq_true rfl, ?_⟩
  refine wq_comp (q := 3) f_Js_38 rfl rfl ?_
  refine wq_if_eq (tgt := 17) (q := 6) rfl rfl rfl (fun c => absurd c (by decide)) (fun _ => ?_)
  refine wq_aload_n (kk := 0) (q := 7) rfl rfl rfl ?_
  refine wq_scod (q := 10) f_Js_15 hj rfl rfl ?_
  refine wq_if_ne (tgt := 17) (q := 13) rfl rfl rfl (fun c => absurd rfl c) (fun _ => ?_)
  refine wq_iconst (n := 1) (q := 14) rfl rfl rfl ?_
  refine wq_goto (tgt := 18) rfl rfl ?_
  exact WP.exit ⟨Nat.le_refl _, Nat.le_refl _, Or.inl ⟨rfl, 1, rfl, ⟨_, rfl, by decide⟩, rfl, rfl, rfl⟩⟩
theorem Js_length_ok (hj : j < 11) : Meets g (rm 2) m_Js_length [vR (sBase + j)] h r (pI (sLen j) h r) := by
  refine ⟨ok_Js_length, Nat.le_of_ble_eq_true rfl, ?_⟩
  refine wq_aload_n (kk := 0) (q := 1) rfl rfl rfl ?_
  refine wq_sval (q := 4) f_Js_9 hj rfl rfl ?_
  refine wq_slen (q := 5) hj rfl rfl ?_
  refine wq_aload_n (kk := 0) (q := 6) rfl rfl rfl ?_
  refine wq_callVs (q := 9) (m' := m_Js_coder) (R' := rm 1) (As := []) (rest := [vI (sLen j)]) rfl rfl l_Js_335 vm_Js_coder rfl rfl hj (Nat.le_of_ble_eq_true rfl) (Nat.le_of_ble_eq_true rfl) (Nat.le_refl _) (Nat.le_refl _) (Nat.le_of_ble_eq_true rfl) (Js_coder_ok hj) rfl ?_
  rintro rv h' r' ⟨rfl, rfl, rfl⟩ -
  refine wq_ishr (q := 10) rfl rfl ?_
  have e : (Int32.ofInt (sLen j : Int) >>> (Int32.ofInt 0 &&& 31)).toInt = (sLen j : Int) := by
    rw [sh0]
    have : ∀ j, j < 11 → (Int32.ofInt (sLen j : Int)).toInt = (sLen j : Int) := by decide
    exact this j hj
  rw [e]
  exact wq_iret rfl rfl (Nat.le_refl _) (Nat.le_refl _) ⟨rfl, rfl, rfl⟩
theorem Jp_checkIndex_ok {x n : Int} {t : Option Nat} (h0 : 0 ≤ x) (h1 : x < n) : Meets g (rm 1) m_Jp_checkIndex [vI x, vI n, .inr (.inr t)] h r (pI x h r) := by
  refine ⟨ok_Jp_checkIndex, Nat.le_of_ble_eq_true rfl, ?_⟩
  refine wq_iload_n (kk := 0) (q := 1) rfl rfl rfl ?_
  refine wq_if_lt (tgt := 9) (q := 4) rfl rfl rfl (fun c => absurd h0 (by omega)) (fun _ => ?_)
  refine wq_iload_n (kk := 0) (q := 5) rfl rfl rfl ?_
  refine wq_iload_n (kk := 1) (q := 6) rfl rfl rfl ?_
  refine wq_icmp_lt (tgt := 16) (q := 9) rfl rfl rfl (fun _ => ?_) (fun c => absurd h1 c)
  refine wq_iload_n (kk := 0) (q := 17) rfl rfl rfl ?_
  exact wq_iret rfl rfl (Nat.le_refl _) (Nat.le_refl _) ⟨rfl, rfl, rfl⟩
theorem Js_checkIndex_ok {x n : Int} (h0 : 0 ≤ x) (h1 : x < n) : Meets g (rm 2) m_Js_checkIndex [vI x, vI n] h r (pU h r) := by
  refine ⟨ok_Js_checkIndex, Nat.le_of_ble_eq_true rfl, ?_⟩
  refine wq_iload_n (kk := 0) (q := 1) rfl rfl rfl ?_
  refine wq_iload_n (kk := 1) (q := 2) rfl rfl rfl ?_
  refine wq_fmt (q := 5) f_Js_1053 rfl rfl (fun t => ?_)
  refine wq_callS (q := 8) (m' := m_Jp_checkIndex) (R' := rm 1) (As := [vI x, vI n, .inr (.inr t)]) (rest := []) rfl rfl l_Js_1059 sm_Jp_checkIndex rfl (Nat.le_of_ble_eq_true rfl) (Nat.le_of_ble_eq_true rfl) (Nat.le_refl _) (Nat.le_refl _) (Nat.le_of_ble_eq_true rfl) (Jp_checkIndex_ok h0 h1) rfl ?_
  rintro rv h' r' ⟨rfl, rfl, rfl⟩ -
  refine wq_pop (q := 9) rfl rfl rfl ?_
  exact wq_vret rfl rfl (Nat.le_refl _) (Nat.le_refl _) ⟨rfl, rfl, rfl⟩
theorem sCh_and : ∀ j, j < 11 → ∀ x : Nat, x < sLen j → (Int32.ofInt (sCh j x) &&& Int32.ofInt 255).toInt = sCh j x ∧ 97 ≤ sCh j x ∧ sCh j x ≤ 122 := by decide
theorem Jl_charAt_ok {x : Int} (hj : j < 11) (h0 : 0 ≤ x) (h1 : x < sLen j) : Meets g (rm 3) m_Jl_charAt [vR (sBase + 1000 + j), vI x] h r (pI (sCh j x) h r) := by
  obtain ⟨n, rfl⟩ := Int.eq_ofNat_of_zero_le h0
  obtain ⟨z1, z2, z3⟩ := sCh_and j hj n (by omega)
  refine ⟨ok_Jl_charAt, Nat.le_of_ble_eq_true rfl, ?_⟩
  refine wq_iload_n (kk := 1) (q := 1) rfl rfl rfl ?_
  refine wq_aload_n (kk := 0) (q := 2) rfl rfl rfl ?_
  refine wq_slen (q := 3) hj rfl rfl ?_
  refine wq_callS (q := 6) (m' := m_Js_checkIndex) (R' := rm 2) (As := [vI n, vI (sLen j)]) (rest := []) rfl rfl l_Jl_9 sm_Js_checkIndex rfl (Nat.le_of_ble_eq_true rfl) (Nat.le_of_ble_eq_true rfl) (Nat.le_refl _) (Nat.le_refl _) (Nat.le_of_ble_eq_true rfl) (Js_checkIndex_ok h0 h1) rfl ?_
  rintro rv h' r' ⟨rfl, rfl, rfl⟩ -
  refine wq_aload_n (kk := 0) (q := 7) rfl rfl rfl ?_
  refine wq_iload_n (kk := 1) (q := 8) rfl rfl rfl ?_
  refine wq_sch (q := 9) hj h0 h1 rfl rfl ?_
  refine wq_sipush (n := 255) (q := 12) rfl rfl rfl ?_
  refine wq_iand (q := 13) rfl rfl ?_
  rw [z1]
  refine wq_i2c (q := 14) (by omega) (by omega) rfl rfl ?_
  refine WP.exit ⟨Nat.le_refl _, Nat.le_refl _, Or.inl ⟨rfl, sCh j n, rfl, ⟨.char, rfl, ?_⟩, rfl, rfl, rfl⟩⟩
  have e0 : Int32.ofInt (sCh j n) = nI (sCh j n).toNat := by
    rw [← Int32.toInt_inj, oi_toInt (by unfold okI; omega), nI_toInt (by omega)]
    omega
  rw [e0]
  exact (pk_charN (by omega)).1
theorem Js_charAt_ok {x : Int} (hj : j < 11) (h0 : 0 ≤ x) (h1 : x < sLen j) : Meets g (rm 4) m_Js_charAt [vR (sBase + j), vI x] h r (pI (sCh j x) h r) := by
  refine ⟨ok_Js_charAt, Nat.le_of_ble_eq_true rfl, ?_⟩
  refine wq_aload_n (kk := 0) (q := 1) rfl rfl rfl ?_
  refine wq_callVs (q := 4) (m' := m_Js_isLatin1) (R' := rm 1) (As := []) (rest := []) rfl rfl l_Js_492 vm_Js_isLatin1 rfl rfl hj (Nat.le_of_ble_eq_true rfl) (Nat.le_of_ble_eq_true rfl) (Nat.le_refl _) (Nat.le_refl _) (Nat.le_of_ble_eq_true rfl) (Js_isLatin1_ok hj) rfl ?_
  rintro rv h' r' ⟨rfl, rfl, rfl⟩ -
  refine wq_if_eq (tgt := 16) (q := 7) rfl rfl rfl (fun c => absurd c (by decide)) (fun _ => ?_)
  refine wq_aload_n (kk := 0) (q := 8) rfl rfl rfl ?_
  refine wq_sval (q := 11) f_Js_9 hj rfl rfl ?_
  refine wq_iload_n (kk := 1) (q := 12) rfl rfl rfl ?_
  refine wq_callS (q := 15) (m' := m_Jl_charAt) (R' := rm 3) (As := [vR (sBase + 1000 + j), vI x]) (rest := []) rfl rfl l_Js_495 sm_Jl_charAt rfl (Nat.le_of_ble_eq_true rfl) (Nat.le_of_ble_eq_true rfl) (Nat.le_refl _) (Nat.le_refl _) (Nat.le_of_ble_eq_true rfl) (Jl_charAt_ok hj h0 h1) rfl ?_
  rintro rv h' r' ⟨rfl, rfl, rfl⟩ -
  obtain ⟨n, rfl⟩ := Int.eq_ofNat_of_zero_le h0
  obtain ⟨z1, z2, z3⟩ := sCh_and j hj n (by omega)
  refine WP.exit ⟨Nat.le_refl _, Nat.le_refl _, Or.inl ⟨rfl, sCh j n, rfl, ⟨.char, rfl, ?_⟩, rfl, rfl, rfl⟩⟩
  have e0 : Int32.ofInt (sCh j n) = nI (sCh j n).toNat := by
    rw [← Int32.toInt_inj, oi_toInt (by unfold okI; omega), nI_toInt (by omega)]
    omega
  rw [e0]
  exact (pk_charN (by omega)).1
end JD
end
section
/-! switches; frames; cells set whole -/
theorem tab_n {P : Nat → Prop} {x lo : Int} : ∀ (j t : Nat), ([] : List Nat)[j]? = some t → x = lo + j → P t := fun j t h => by simp at h
theorem tab_c {P : Nat → Prop} {x lo : Int} {t : Nat} {l : List Nat} (h : x = lo → P t) (hr : ∀ (j s : Nat), l[j]? = some s → x = (lo + 1) + j → P s) : ∀ (j s : Nat), (t :: l)[j]? = some s → x = lo + j → P s := by
  intro j s hj hx
  cases j with
  | zero => cases hj; exact h (by omega)
  | succ j => exact hr j s (by simpa using hj) (by omega)
theorem wq_tabL {E : mE} {m : mM} {X : mX} {pc : Nat} {ls : mL} {st : List mV} {h : mH} {r : mR} {u : mU} {dflt lo hi : Int} {offs : Array Int} {len : Nat} {x : Int} {tg : List Nat} {td : Nat} (hd : dc m pc = some (.tableswitch dflt lo hi offs, len)) (ht : (pc : Int) + dflt = (td : Int)) (ho : (offs.toList.map fun o => (pc : Int) + o) = tg.map fun t : Nat => (t : Int))
    (kd : x < lo ∨ lo + tg.length ≤ x → WP E m X td ls st h r u) (ki : ∀ (j t : Nat), tg[j]? = some t → x = lo + j → WP E m X t ls st h r u) (hh : hi = lo + tg.length - 1 := by rfl) : WP E m X pc ls (vI x :: st) h r u := by
  refine wq_tab hd (fun c => ⟨td, ht, kd (by omega)⟩) (fun c1 c2 => ?_)
  have hlen : offs.toList.length = tg.length := by simpa using congrArg List.length ho
  have hlt : (x - lo).toNat < tg.length := by omega
  have h1 : offs[(x - lo).toNat]? = some (offs.toList[(x - lo).toNat]'(by omega)) := by
    rw [← Array.getElem?_toList]
    exact List.getElem?_eq_getElem (by omega)
  refine ⟨_, tg[(x - lo).toNat], h1, ?_, ki (x - lo).toNat _ (List.getElem?_eq_getElem hlt) (by omega)⟩
  have h2 := congrArg (fun l => l[(x - lo).toNat]?) ho
  simp only [List.getElem?_map] at h2
  rw [List.getElem?_eq_getElem (by omega), List.getElem?_eq_getElem hlt] at h2
  exact Option.some.inj h2
/-- only the cells of S have changed -/
def fr (S : List Nat) (h h' : mH) : Prop := ∀ i, i ∉ S → h' i = h i
theorem fr.rf {S : List Nat} {h : mH} : fr S h h := fun _ _ => rfl
theorem fr.up {S : List Nat} {h h' : mH} {i : Nat} {j v : Int} (hf : fr S h h') (hi : i ∈ S) : fr S h (hup h' i j v) := fun a ha => by
  have hne : ¬ a = i := fun e => ha (e ▸ hi)
  rw [hup_ne hne]
  exact hf a ha
theorem fr.trans {S T : List Nat} {h h' h'' : mH} (h1 : fr S h h') (h2 : fr T h' h'') (hT : ∀ i ∈ T, i ∈ S) : fr S h h'' := fun a ha => (h2 a (fun z => ha (hT a z))).trans (h1 a ha)
theorem fr.mono {S T : List Nat} {h h' : mH} (h1 : fr S h h') (hT : ∀ i ∈ S, i ∈ T) : fr T h h' := fun a ha => h1 a (fun z => ha (hT a z))
theorem fr.at {S : List Nat} {h h' : mH} (h1 : fr S h h') (i : Nat) (j : Int) (hi : i ∉ S) : h' i j = h i j := by rw [h1 i hi]
end
section
/-! LinkTimes$Desk: cell 2 (the one in force) and cell 13 (the one that is read) -/
set_option maxRecDepth 100000 in
theorem De_isTold_ok (i : Nat) (hi : i = 2 ∨ i = 13) (h : mH) (r : mR) : Meets true (rm 1) m_De_isTold [vR i] h r (pI (bI (0 < h i 1)) h r) := by
  rcases hi with rfl | rfl
  · refine ⟨ok_De_isTold, Nat.le_of_ble_eq_true rfl, ?_⟩
    refine wq_aload_n (kk := 0) (q := 1) rfl rfl rfl ?_
    refine wq_getI (kz := 1) (q := 4) rfl f_De_47 rfl rfl (Or.inl ⟨rfl, Nat.le_of_ble_eq_true rfl⟩) rfl rfl ?_
    refine wq_if_le (tgt := 11) (q := 7) rfl rfl rfl (fun c4 => ?_) (fun c4 => ?_)
    · skip
      refine wq_iconst (n := 0) (q := 12) rfl rfl rfl ?_
      refine wq_zret rfl rfl (Nat.le_refl _) (Nat.le_refl _) (by omega) ?_
      first | exact ⟨rfl, rfl, rfl⟩ | exact pB_t (by omega) | exact pB_f (by omega) | exact pC_t (by omega) | exact pC_f (by omega) | (exfalso; omega)
    · skip
      refine wq_iconst (n := 1) (q := 8) rfl rfl rfl ?_
      refine wq_goto (tgt := 12) rfl rfl ?_
      refine wq_zret rfl rfl (Nat.le_refl _) (Nat.le_refl _) (by omega) ?_
      first | exact ⟨rfl, rfl, rfl⟩ | exact pB_t (by omega) | exact pB_f (by omega) | exact pC_t (by omega) | exact pC_f (by omega) | (exfalso; omega)
  · refine ⟨ok_De_isTold, Nat.le_of_ble_eq_true rfl, ?_⟩
    refine wq_aload_n (kk := 0) (q := 1) rfl rfl rfl ?_
    refine wq_getI (kz := 1) (q := 4) rfl f_De_47 rfl rfl (Or.inl ⟨rfl, Nat.le_of_ble_eq_true rfl⟩) rfl rfl ?_
    refine wq_if_le (tgt := 11) (q := 7) rfl rfl rfl (fun c4 => ?_) (fun c4 => ?_)
    · skip
      refine wq_iconst (n := 0) (q := 12) rfl rfl rfl ?_
      refine wq_zret rfl rfl (Nat.le_refl _) (Nat.le_refl _) (by omega) ?_
      first | exact ⟨rfl, rfl, rfl⟩ | exact pB_t (by omega) | exact pB_f (by omega) | exact pC_t (by omega) | exact pC_f (by omega) | (exfalso; omega)
    · skip
      refine wq_iconst (n := 1) (q := 8) rfl rfl rfl ?_
      refine wq_goto (tgt := 12) rfl rfl ?_
      refine wq_zret rfl rfl (Nat.le_refl _) (Nat.le_refl _) (by omega) ?_
      first | exact ⟨rfl, rfl, rfl⟩ | exact pB_t (by omega) | exact pB_f (by omega) | exact pC_t (by omega) | exact pC_f (by omega) | (exfalso; omega)
set_option maxRecDepth 100000 in
theorem De_hasSpot_ok (s : Int) (h : mH) (r : mR) : Meets true (rm 1) m_De_hasSpot [vR 2, vI s] h r (pI (bI (0 ≤ s ∧ s < h 2 1)) h r) := by
  refine ⟨ok_De_hasSpot, Nat.le_of_ble_eq_true rfl, ?_⟩
  refine wq_iload_n (kk := 1) (q := 1) rfl rfl rfl ?_
  refine wq_if_lt (tgt := 16) (q := 4) rfl rfl rfl (fun c1 => ?_) (fun c1 => ?_)
  · skip
    refine wq_iconst (n := 0) (q := 17) rfl rfl rfl ?_
    refine wq_zret rfl rfl (Nat.le_refl _) (Nat.le_refl _) (by omega) ?_
    first | exact ⟨rfl, rfl, rfl⟩ | exact pB_t (by omega) | exact pB_f (by omega) | exact pC_t (by omega) | exact pC_f (by omega) | (exfalso; omega)
  · skip
    refine wq_iload_n (kk := 1) (q := 5) rfl rfl rfl ?_
    refine wq_aload_n (kk := 0) (q := 6) rfl rfl rfl ?_
    refine wq_getI (kz := 1) (q := 9) rfl f_De_47 rfl rfl (Or.inl ⟨rfl, Nat.le_of_ble_eq_true rfl⟩) rfl rfl ?_
    refine wq_icmp_ge (tgt := 16) (q := 12) rfl rfl rfl (fun c9 => ?_) (fun c9 => ?_)
    · skip
      refine wq_iconst (n := 0) (q := 17) rfl rfl rfl ?_
      refine wq_zret rfl rfl (Nat.le_refl _) (Nat.le_refl _) (by omega) ?_
      first | exact ⟨rfl, rfl, rfl⟩ | exact pB_t (by omega) | exact pB_f (by omega) | exact pC_t (by omega) | exact pC_f (by omega) | (exfalso; omega)
    · skip
      refine wq_iconst (n := 1) (q := 13) rfl rfl rfl ?_
      refine wq_goto (tgt := 17) rfl rfl ?_
      refine wq_zret rfl rfl (Nat.le_refl _) (Nat.le_refl _) (by omega) ?_
      first | exact ⟨rfl, rfl, rfl⟩ | exact pB_t (by omega) | exact pB_f (by omega) | exact pC_t (by omega) | exact pC_f (by omega) | (exfalso; omega)
set_option maxRecDepth 100000 in
theorem De_hasLine_ok (s : Int) (h : mH) (r : mR) : Meets true (rm 1) m_De_hasLine [vR 2, vI s] h r (pI (bI (0 ≤ s ∧ s < h 2 2)) h r) := by
  refine ⟨ok_De_hasLine, Nat.le_of_ble_eq_true rfl, ?_⟩
  refine wq_iload_n (kk := 1) (q := 1) rfl rfl rfl ?_
  refine wq_if_lt (tgt := 16) (q := 4) rfl rfl rfl (fun c1 => ?_) (fun c1 => ?_)
  · skip
    refine wq_iconst (n := 0) (q := 17) rfl rfl rfl ?_
    refine wq_zret rfl rfl (Nat.le_refl _) (Nat.le_refl _) (by omega) ?_
    first | exact ⟨rfl, rfl, rfl⟩ | exact pB_t (by omega) | exact pB_f (by omega) | exact pC_t (by omega) | exact pC_f (by omega) | (exfalso; omega)
  · skip
    refine wq_iload_n (kk := 1) (q := 5) rfl rfl rfl ?_
    refine wq_aload_n (kk := 0) (q := 6) rfl rfl rfl ?_
    refine wq_getI (kz := 2) (q := 9) rfl f_De_50 rfl rfl (Or.inl ⟨rfl, Nat.le_of_ble_eq_true rfl⟩) rfl rfl ?_
    refine wq_icmp_ge (tgt := 16) (q := 12) rfl rfl rfl (fun c9 => ?_) (fun c9 => ?_)
    · skip
      refine wq_iconst (n := 0) (q := 17) rfl rfl rfl ?_
      refine wq_zret rfl rfl (Nat.le_refl _) (Nat.le_refl _) (by omega) ?_
      first | exact ⟨rfl, rfl, rfl⟩ | exact pB_t (by omega) | exact pB_f (by omega) | exact pC_t (by omega) | exact pC_f (by omega) | (exfalso; omega)
    · skip
      refine wq_iconst (n := 1) (q := 13) rfl rfl rfl ?_
      refine wq_goto (tgt := 17) rfl rfl ?_
      refine wq_zret rfl rfl (Nat.le_refl _) (Nat.le_refl _) (by omega) ?_
      first | exact ⟨rfl, rfl, rfl⟩ | exact pB_t (by omega) | exact pB_f (by omega) | exact pC_t (by omega) | exact pC_f (by omega) | (exfalso; omega)
set_option maxRecDepth 100000 in
theorem De_hasDeparture_ok (s : Int) (h : mH) (r : mR) : Meets true (rm 1) m_De_hasDeparture [vR 2, vI s] h r (pI (bI (0 ≤ s ∧ s < h 2 4)) h r) := by
  refine ⟨ok_De_hasDeparture, Nat.le_of_ble_eq_true rfl, ?_⟩
  refine wq_iload_n (kk := 1) (q := 1) rfl rfl rfl ?_
  refine wq_if_lt (tgt := 16) (q := 4) rfl rfl rfl (fun c1 => ?_) (fun c1 => ?_)
  · skip
    refine wq_iconst (n := 0) (q := 17) rfl rfl rfl ?_
    refine wq_zret rfl rfl (Nat.le_refl _) (Nat.le_refl _) (by omega) ?_
    first | exact ⟨rfl, rfl, rfl⟩ | exact pB_t (by omega) | exact pB_f (by omega) | exact pC_t (by omega) | exact pC_f (by omega) | (exfalso; omega)
  · skip
    refine wq_iload_n (kk := 1) (q := 5) rfl rfl rfl ?_
    refine wq_aload_n (kk := 0) (q := 6) rfl rfl rfl ?_
    refine wq_getI (kz := 4) (q := 9) rfl f_De_56 rfl rfl (Or.inl ⟨rfl, Nat.le_of_ble_eq_true rfl⟩) rfl rfl ?_
    refine wq_icmp_ge (tgt := 16) (q := 12) rfl rfl rfl (fun c9 => ?_) (fun c9 => ?_)
    · skip
      refine wq_iconst (n := 0) (q := 17) rfl rfl rfl ?_
      refine wq_zret rfl rfl (Nat.le_refl _) (Nat.le_refl _) (by omega) ?_
      first | exact ⟨rfl, rfl, rfl⟩ | exact pB_t (by omega) | exact pB_f (by omega) | exact pC_t (by omega) | exact pC_f (by omega) | (exfalso; omega)
    · skip
      refine wq_iconst (n := 1) (q := 13) rfl rfl rfl ?_
      refine wq_goto (tgt := 17) rfl rfl ?_
      refine wq_zret rfl rfl (Nat.le_refl _) (Nat.le_refl _) (by omega) ?_
      first | exact ⟨rfl, rfl, rfl⟩ | exact pB_t (by omega) | exact pB_f (by omega) | exact pC_t (by omega) | exact pC_f (by omega) | (exfalso; omega)
set_option maxRecDepth 100000 in
theorem De_clear_ok (h : mH) (r : mR) : Meets true (rm 1) m_De_clear [vR 13] h r (pH (hup (hup (hup (hup (hup h 13 0 0) 13 1 0) 13 2 0) 13 3 0) 13 4 0) r) := by
  refine ⟨ok_De_clear, Nat.le_of_ble_eq_true rfl, ?_⟩
  refine wq_aload_n (kk := 0) (q := 1) rfl rfl rfl ?_
  refine wq_iconst (n := 0) (q := 2) rfl rfl rfl ?_
  refine wq_putI (kz := 0) (q := 5) rfl f_De_43 rfl rfl rfl (Or.inl ⟨rfl, Nat.le_of_ble_eq_true rfl⟩) rfl rfl ?_
  refine wq_aload_n (kk := 0) (q := 6) rfl rfl rfl ?_
  refine wq_iconst (n := 0) (q := 7) rfl rfl rfl ?_
  refine wq_putI (kz := 1) (q := 10) rfl f_De_47 rfl rfl rfl (Or.inl ⟨rfl, Nat.le_of_ble_eq_true rfl⟩) rfl rfl ?_
  refine wq_aload_n (kk := 0) (q := 11) rfl rfl rfl ?_
  refine wq_iconst (n := 0) (q := 12) rfl rfl rfl ?_
  refine wq_putI (kz := 2) (q := 15) rfl f_De_50 rfl rfl rfl (Or.inl ⟨rfl, Nat.le_of_ble_eq_true rfl⟩) rfl rfl ?_
  refine wq_aload_n (kk := 0) (q := 16) rfl rfl rfl ?_
  refine wq_iconst (n := 0) (q := 17) rfl rfl rfl ?_
  refine wq_putI (kz := 3) (q := 20) rfl f_De_53 rfl rfl rfl (Or.inl ⟨rfl, Nat.le_of_ble_eq_true rfl⟩) rfl rfl ?_
  refine wq_aload_n (kk := 0) (q := 21) rfl rfl rfl ?_
  refine wq_iconst (n := 0) (q := 22) rfl rfl rfl ?_
  refine wq_putI (kz := 4) (q := 25) rfl f_De_56 rfl rfl rfl (Or.inl ⟨rfl, Nat.le_of_ble_eq_true rfl⟩) rfl rfl ?_
  refine wq_vret rfl rfl (Nat.le_refl _) (Nat.le_refl _) ?_
  first | exact ⟨rfl, rfl, rfl⟩ | exact pB_t (by omega) | exact pB_f (by omega) | exact pC_t (by omega) | exact pC_f (by omega) | (exfalso; omega)
def x_addSpot (h : mH) (g w : Int) : mH := hup (hup (hup h 14 (h 13 1) g) 15 (h 13 1) w) 13 1 (h 13 1 + 1)
set_option maxRecDepth 100000 in
theorem De_addSpot_ok (g w : Int) (h : mH) (r : mR) (h0 : 0 ≤ h 13 1) (h1 : h 13 1 < 10) : Meets true (rm 1) m_De_addSpot [vR 13, vI g, vI w] h r (pH (x_addSpot h g w) r) := by
  refine ⟨ok_De_addSpot, Nat.le_of_ble_eq_true rfl, ?_⟩
  refine wq_aload_n (kk := 0) (q := 1) rfl rfl rfl ?_
  refine wq_getI (kz := 1) (q := 4) rfl f_De_47 rfl rfl (Or.inl ⟨rfl, Nat.le_of_ble_eq_true rfl⟩) rfl rfl ?_
  refine wq_bipush (n := 10) (q := 6) rfl rfl rfl ?_
  refine wq_icmp_ge (tgt := 39) (q := 9) rfl rfl rfl (fun c6 => ?_) (fun c6 => ?_)
  · skip
    refine wq_vret rfl rfl (Nat.le_refl _) (Nat.le_refl _) ?_
    first | exact ⟨rfl, rfl, rfl⟩ | exact pB_t (by omega) | exact pB_f (by omega) | exact pC_t (by omega) | exact pC_f (by omega) | (exfalso; omega)
  · skip
    refine wq_aload_n (kk := 0) (q := 10) rfl rfl rfl ?_
    refine wq_getF (q := 13) f_De_9 rfl rfl (Nat.le_of_ble_eq_true rfl) rfl rfl rfl ?_
    refine wq_aload_n (kk := 0) (q := 14) rfl rfl rfl ?_
    refine wq_getI (kz := 1) (q := 17) rfl f_De_47 rfl rfl (Or.inl ⟨rfl, Nat.le_of_ble_eq_true rfl⟩) rfl rfl ?_
    refine wq_iload_n (kk := 1) (q := 18) rfl rfl rfl ?_
    refine wq_iast (q := 19) rfl (Or.inl ⟨rfl, Nat.le_of_ble_eq_true rfl⟩) rfl rfl (by first | omega | (simp [hup]; omega)) (by first | omega | (simp [hup]; omega)) ?_
    refine wq_aload_n (kk := 0) (q := 20) rfl rfl rfl ?_
    refine wq_getF (q := 23) f_De_15 rfl rfl (Nat.le_of_ble_eq_true rfl) rfl rfl rfl ?_
    refine wq_aload_n (kk := 0) (q := 24) rfl rfl rfl ?_
    refine wq_getI (kz := 1) (q := 27) rfl f_De_47 rfl rfl (Or.inl ⟨rfl, Nat.le_of_ble_eq_true rfl⟩) rfl rfl ?_
    refine wq_iload_n (kk := 2) (q := 28) rfl rfl rfl ?_
    refine wq_iast (q := 29) rfl (Or.inl ⟨rfl, Nat.le_of_ble_eq_true rfl⟩) rfl rfl (by first | omega | (simp [hup]; omega)) (by first | omega | (simp [hup]; omega)) ?_
    refine wq_aload_n (kk := 0) (q := 30) rfl rfl rfl ?_
    refine wq_dup (q := 31) rfl rfl rfl ?_
    refine wq_getI (kz := 1) (q := 34) rfl f_De_47 rfl rfl (Or.inl ⟨rfl, Nat.le_of_ble_eq_true rfl⟩) rfl rfl ?_
    refine wq_iconst (n := 1) (q := 35) rfl rfl rfl ?_
    refine wq_iadd (q := 36) rfl rfl (by first | omega | (simp [hup]; omega)) (by first | omega | (simp [hup]; omega)) ?_
    refine wq_putI (kz := 1) (q := 39) rfl f_De_47 rfl rfl rfl (Or.inl ⟨rfl, Nat.le_of_ble_eq_true rfl⟩) rfl rfl ?_
    refine wq_vret rfl rfl (Nat.le_refl _) (Nat.le_refl _) ?_
    first | exact ⟨rfl, rfl, rfl⟩ | exact pB_t (by omega) | exact pB_f (by omega) | exact pC_t (by omega) | exact pC_f (by omega) | (exfalso; omega)
def x_addDep (i : Nat) (h : mH) (ln a b t k lk : Int) : mH := let n := h i 4; hup (hup (hup (hup (hup (hup (hup (hup (hup h (i + 3) n ln) (i + 4) n a) (i + 5) n b) (i + 6) n t) (i + 7) n k) (i + 8) n 0) (i + 9) n lk) (i + 10) n 0) i 4 (n + 1)
set_option maxRecDepth 100000 in
set_option maxHeartbeats 1000000 in
theorem De_addDep_ok (i : Nat) (hi : i = 2 ∨ i = 13) (ln a b t k lk : Int) (h : mH) (r : mR) (h0 : 0 ≤ h i 4) (h1 : h i 4 < 120) : Meets true (rm 1) m_De_addDeparture [vR i, vI ln, vI a, vI b, vI t, vI k, vI lk] h r (pH (x_addDep i h ln a b t k lk) r) := by
  rcases hi with rfl | rfl
  · refine ⟨ok_De_addDeparture, Nat.le_of_ble_eq_true rfl, ?_⟩
    refine wq_aload_n (kk := 0) (q := 1) rfl rfl rfl ?_
    refine wq_getI (kz := 4) (q := 4) rfl f_De_56 rfl rfl (Or.inl ⟨rfl, Nat.le_of_ble_eq_true rfl⟩) rfl rfl ?_
    refine wq_bipush (n := 120) (q := 6) rfl rfl rfl ?_
    refine wq_icmp_ge (tgt := 102) (q := 9) rfl rfl rfl (fun c6 => ?_) (fun c6 => ?_)
    · skip
      refine wq_vret rfl rfl (Nat.le_refl _) (Nat.le_refl _) ?_
      first | exact ⟨rfl, rfl, rfl⟩ | exact pB_t (by omega) | exact pB_f (by omega) | exact pC_t (by omega) | exact pC_f (by omega) | (exfalso; omega)
    · skip
      refine wq_aload_n (kk := 0) (q := 10) rfl rfl rfl ?_
      refine wq_getF (q := 13) f_De_18 rfl rfl (Nat.le_of_ble_eq_true rfl) rfl rfl rfl ?_
      refine wq_aload_n (kk := 0) (q := 14) rfl rfl rfl ?_
      refine wq_getI (kz := 4) (q := 17) rfl f_De_56 rfl rfl (Or.inl ⟨rfl, Nat.le_of_ble_eq_true rfl⟩) rfl rfl ?_
      refine wq_iload_n (kk := 1) (q := 18) rfl rfl rfl ?_
      refine wq_iast (q := 19) rfl (Or.inl ⟨rfl, Nat.le_of_ble_eq_true rfl⟩) rfl rfl (by first | omega | (simp [hup]; omega)) (by first | omega | (simp [hup]; omega)) ?_
      refine wq_aload_n (kk := 0) (q := 20) rfl rfl rfl ?_
      refine wq_getF (q := 23) f_De_21 rfl rfl (Nat.le_of_ble_eq_true rfl) rfl rfl rfl ?_
      refine wq_aload_n (kk := 0) (q := 24) rfl rfl rfl ?_
      refine wq_getI (kz := 4) (q := 27) rfl f_De_56 rfl rfl (Or.inl ⟨rfl, Nat.le_of_ble_eq_true rfl⟩) rfl rfl ?_
      refine wq_iload_n (kk := 2) (q := 28) rfl rfl rfl ?_
      refine wq_iast (q := 29) rfl (Or.inl ⟨rfl, Nat.le_of_ble_eq_true rfl⟩) rfl rfl (by first | omega | (simp [hup]; omega)) (by first | omega | (simp [hup]; omega)) ?_
      refine wq_aload_n (kk := 0) (q := 30) rfl rfl rfl ?_
      refine wq_getF (q := 33) f_De_24 rfl rfl (Nat.le_of_ble_eq_true rfl) rfl rfl rfl ?_
      refine wq_aload_n (kk := 0) (q := 34) rfl rfl rfl ?_
      refine wq_getI (kz := 4) (q := 37) rfl f_De_56 rfl rfl (Or.inl ⟨rfl, Nat.le_of_ble_eq_true rfl⟩) rfl rfl ?_
      refine wq_iload_n (kk := 3) (q := 38) rfl rfl rfl ?_
      refine wq_iast (q := 39) rfl (Or.inl ⟨rfl, Nat.le_of_ble_eq_true rfl⟩) rfl rfl (by first | omega | (simp [hup]; omega)) (by first | omega | (simp [hup]; omega)) ?_
      refine wq_aload_n (kk := 0) (q := 40) rfl rfl rfl ?_
      refine wq_getF (q := 43) f_De_27 rfl rfl (Nat.le_of_ble_eq_true rfl) rfl rfl rfl ?_
      refine wq_aload_n (kk := 0) (q := 44) rfl rfl rfl ?_
      refine wq_getI (kz := 4) (q := 47) rfl f_De_56 rfl rfl (Or.inl ⟨rfl, Nat.le_of_ble_eq_true rfl⟩) rfl rfl ?_
      refine wq_iload (i := 4) (q := 49) rfl rfl rfl ?_
      refine wq_iast (q := 50) rfl (Or.inl ⟨rfl, Nat.le_of_ble_eq_true rfl⟩) rfl rfl (by first | omega | (simp [hup]; omega)) (by first | omega | (simp [hup]; omega)) ?_
      refine wq_aload_n (kk := 0) (q := 51) rfl rfl rfl ?_
      refine wq_getF (q := 54) f_De_30 rfl rfl (Nat.le_of_ble_eq_true rfl) rfl rfl rfl ?_
      refine wq_aload_n (kk := 0) (q := 55) rfl rfl rfl ?_
      refine wq_getI (kz := 4) (q := 58) rfl f_De_56 rfl rfl (Or.inl ⟨rfl, Nat.le_of_ble_eq_true rfl⟩) rfl rfl ?_
      refine wq_iload (i := 5) (q := 60) rfl rfl rfl ?_
      refine wq_iast (q := 61) rfl (Or.inl ⟨rfl, Nat.le_of_ble_eq_true rfl⟩) rfl rfl (by first | omega | (simp [hup]; omega)) (by first | omega | (simp [hup]; omega)) ?_
      refine wq_aload_n (kk := 0) (q := 62) rfl rfl rfl ?_
      refine wq_getF (q := 65) f_De_33 rfl rfl (Nat.le_of_ble_eq_true rfl) rfl rfl rfl ?_
      refine wq_aload_n (kk := 0) (q := 66) rfl rfl rfl ?_
      refine wq_getI (kz := 4) (q := 69) rfl f_De_56 rfl rfl (Or.inl ⟨rfl, Nat.le_of_ble_eq_true rfl⟩) rfl rfl ?_
      refine wq_iconst (n := 0) (q := 70) rfl rfl rfl ?_
      refine wq_iast (q := 71) rfl (Or.inl ⟨rfl, Nat.le_of_ble_eq_true rfl⟩) rfl rfl (by first | omega | (simp [hup]; omega)) (by first | omega | (simp [hup]; omega)) ?_
      refine wq_aload_n (kk := 0) (q := 72) rfl rfl rfl ?_
      refine wq_getF (q := 75) f_De_36 rfl rfl (Nat.le_of_ble_eq_true rfl) rfl rfl rfl ?_
      refine wq_aload_n (kk := 0) (q := 76) rfl rfl rfl ?_
      refine wq_getI (kz := 4) (q := 79) rfl f_De_56 rfl rfl (Or.inl ⟨rfl, Nat.le_of_ble_eq_true rfl⟩) rfl rfl ?_
      refine wq_iload (i := 6) (q := 81) rfl rfl rfl ?_
      refine wq_iast (q := 82) rfl (Or.inl ⟨rfl, Nat.le_of_ble_eq_true rfl⟩) rfl rfl (by first | omega | (simp [hup]; omega)) (by first | omega | (simp [hup]; omega)) ?_
      refine wq_aload_n (kk := 0) (q := 83) rfl rfl rfl ?_
      refine wq_getF (q := 86) f_De_39 rfl rfl (Nat.le_of_ble_eq_true rfl) rfl rfl rfl ?_
      refine wq_aload_n (kk := 0) (q := 87) rfl rfl rfl ?_
      refine wq_getI (kz := 4) (q := 90) rfl f_De_56 rfl rfl (Or.inl ⟨rfl, Nat.le_of_ble_eq_true rfl⟩) rfl rfl ?_
      refine wq_iconst (n := 0) (q := 91) rfl rfl rfl ?_
      refine wq_zast (q := 92) rfl (Or.inl ⟨rfl, Nat.le_of_ble_eq_true rfl⟩) rfl rfl (by first | omega | (simp [hup]; omega)) (by first | omega | (simp [hup]; omega)) (by omega) ?_
      refine wq_aload_n (kk := 0) (q := 93) rfl rfl rfl ?_
      refine wq_dup (q := 94) rfl rfl rfl ?_
      refine wq_getI (kz := 4) (q := 97) rfl f_De_56 rfl rfl (Or.inl ⟨rfl, Nat.le_of_ble_eq_true rfl⟩) rfl rfl ?_
      refine wq_iconst (n := 1) (q := 98) rfl rfl rfl ?_
      refine wq_iadd (q := 99) rfl rfl (by first | omega | (simp [hup]; omega)) (by first | omega | (simp [hup]; omega)) ?_
      refine wq_putI (kz := 4) (q := 102) rfl f_De_56 rfl rfl rfl (Or.inl ⟨rfl, Nat.le_of_ble_eq_true rfl⟩) rfl rfl ?_
      refine wq_vret rfl rfl (Nat.le_refl _) (Nat.le_refl _) ?_
      first | exact ⟨rfl, rfl, rfl⟩ | exact pB_t (by omega) | exact pB_f (by omega) | exact pC_t (by omega) | exact pC_f (by omega) | (exfalso; omega)
  · refine ⟨ok_De_addDeparture, Nat.le_of_ble_eq_true rfl, ?_⟩
    refine wq_aload_n (kk := 0) (q := 1) rfl rfl rfl ?_
    refine wq_getI (kz := 4) (q := 4) rfl f_De_56 rfl rfl (Or.inl ⟨rfl, Nat.le_of_ble_eq_true rfl⟩) rfl rfl ?_
    refine wq_bipush (n := 120) (q := 6) rfl rfl rfl ?_
    refine wq_icmp_ge (tgt := 102) (q := 9) rfl rfl rfl (fun c6 => ?_) (fun c6 => ?_)
    · skip
      refine wq_vret rfl rfl (Nat.le_refl _) (Nat.le_refl _) ?_
      first | exact ⟨rfl, rfl, rfl⟩ | exact pB_t (by omega) | exact pB_f (by omega) | exact pC_t (by omega) | exact pC_f (by omega) | (exfalso; omega)
    · skip
      refine wq_aload_n (kk := 0) (q := 10) rfl rfl rfl ?_
      refine wq_getF (q := 13) f_De_18 rfl rfl (Nat.le_of_ble_eq_true rfl) rfl rfl rfl ?_
      refine wq_aload_n (kk := 0) (q := 14) rfl rfl rfl ?_
      refine wq_getI (kz := 4) (q := 17) rfl f_De_56 rfl rfl (Or.inl ⟨rfl, Nat.le_of_ble_eq_true rfl⟩) rfl rfl ?_
      refine wq_iload_n (kk := 1) (q := 18) rfl rfl rfl ?_
      refine wq_iast (q := 19) rfl (Or.inl ⟨rfl, Nat.le_of_ble_eq_true rfl⟩) rfl rfl (by first | omega | (simp [hup]; omega)) (by first | omega | (simp [hup]; omega)) ?_
      refine wq_aload_n (kk := 0) (q := 20) rfl rfl rfl ?_
      refine wq_getF (q := 23) f_De_21 rfl rfl (Nat.le_of_ble_eq_true rfl) rfl rfl rfl ?_
      refine wq_aload_n (kk := 0) (q := 24) rfl rfl rfl ?_
      refine wq_getI (kz := 4) (q := 27) rfl f_De_56 rfl rfl (Or.inl ⟨rfl, Nat.le_of_ble_eq_true rfl⟩) rfl rfl ?_
      refine wq_iload_n (kk := 2) (q := 28) rfl rfl rfl ?_
      refine wq_iast (q := 29) rfl (Or.inl ⟨rfl, Nat.le_of_ble_eq_true rfl⟩) rfl rfl (by first | omega | (simp [hup]; omega)) (by first | omega | (simp [hup]; omega)) ?_
      refine wq_aload_n (kk := 0) (q := 30) rfl rfl rfl ?_
      refine wq_getF (q := 33) f_De_24 rfl rfl (Nat.le_of_ble_eq_true rfl) rfl rfl rfl ?_
      refine wq_aload_n (kk := 0) (q := 34) rfl rfl rfl ?_
      refine wq_getI (kz := 4) (q := 37) rfl f_De_56 rfl rfl (Or.inl ⟨rfl, Nat.le_of_ble_eq_true rfl⟩) rfl rfl ?_
      refine wq_iload_n (kk := 3) (q := 38) rfl rfl rfl ?_
      refine wq_iast (q := 39) rfl (Or.inl ⟨rfl, Nat.le_of_ble_eq_true rfl⟩) rfl rfl (by first | omega | (simp [hup]; omega)) (by first | omega | (simp [hup]; omega)) ?_
      refine wq_aload_n (kk := 0) (q := 40) rfl rfl rfl ?_
      refine wq_getF (q := 43) f_De_27 rfl rfl (Nat.le_of_ble_eq_true rfl) rfl rfl rfl ?_
      refine wq_aload_n (kk := 0) (q := 44) rfl rfl rfl ?_
      refine wq_getI (kz := 4) (q := 47) rfl f_De_56 rfl rfl (Or.inl ⟨rfl, Nat.le_of_ble_eq_true rfl⟩) rfl rfl ?_
      refine wq_iload (i := 4) (q := 49) rfl rfl rfl ?_
      refine wq_iast (q := 50) rfl (Or.inl ⟨rfl, Nat.le_of_ble_eq_true rfl⟩) rfl rfl (by first | omega | (simp [hup]; omega)) (by first | omega | (simp [hup]; omega)) ?_
      refine wq_aload_n (kk := 0) (q := 51) rfl rfl rfl ?_
      refine wq_getF (q := 54) f_De_30 rfl rfl (Nat.le_of_ble_eq_true rfl) rfl rfl rfl ?_
      refine wq_aload_n (kk := 0) (q := 55) rfl rfl rfl ?_
      refine wq_getI (kz := 4) (q := 58) rfl f_De_56 rfl rfl (Or.inl ⟨rfl, Nat.le_of_ble_eq_true rfl⟩) rfl rfl ?_
      refine wq_iload (i := 5) (q := 60) rfl rfl rfl ?_
      refine wq_iast (q := 61) rfl (Or.inl ⟨rfl, Nat.le_of_ble_eq_true rfl⟩) rfl rfl (by first | omega | (simp [hup]; omega)) (by first | omega | (simp [hup]; omega)) ?_
      refine wq_aload_n (kk := 0) (q := 62) rfl rfl rfl ?_
      refine wq_getF (q := 65) f_De_33 rfl rfl (Nat.le_of_ble_eq_true rfl) rfl rfl rfl ?_
      refine wq_aload_n (kk := 0) (q := 66) rfl rfl rfl ?_
      refine wq_getI (kz := 4) (q := 69) rfl f_De_56 rfl rfl (Or.inl ⟨rfl, Nat.le_of_ble_eq_true rfl⟩) rfl rfl ?_
      refine wq_iconst (n := 0) (q := 70) rfl rfl rfl ?_
      refine wq_iast (q := 71) rfl (Or.inl ⟨rfl, Nat.le_of_ble_eq_true rfl⟩) rfl rfl (by first | omega | (simp [hup]; omega)) (by first | omega | (simp [hup]; omega)) ?_
      refine wq_aload_n (kk := 0) (q := 72) rfl rfl rfl ?_
      refine wq_getF (q := 75) f_De_36 rfl rfl (Nat.le_of_ble_eq_true rfl) rfl rfl rfl ?_
      refine wq_aload_n (kk := 0) (q := 76) rfl rfl rfl ?_
      refine wq_getI (kz := 4) (q := 79) rfl f_De_56 rfl rfl (Or.inl ⟨rfl, Nat.le_of_ble_eq_true rfl⟩) rfl rfl ?_
      refine wq_iload (i := 6) (q := 81) rfl rfl rfl ?_
      refine wq_iast (q := 82) rfl (Or.inl ⟨rfl, Nat.le_of_ble_eq_true rfl⟩) rfl rfl (by first | omega | (simp [hup]; omega)) (by first | omega | (simp [hup]; omega)) ?_
      refine wq_aload_n (kk := 0) (q := 83) rfl rfl rfl ?_
      refine wq_getF (q := 86) f_De_39 rfl rfl (Nat.le_of_ble_eq_true rfl) rfl rfl rfl ?_
      refine wq_aload_n (kk := 0) (q := 87) rfl rfl rfl ?_
      refine wq_getI (kz := 4) (q := 90) rfl f_De_56 rfl rfl (Or.inl ⟨rfl, Nat.le_of_ble_eq_true rfl⟩) rfl rfl ?_
      refine wq_iconst (n := 0) (q := 91) rfl rfl rfl ?_
      refine wq_zast (q := 92) rfl (Or.inl ⟨rfl, Nat.le_of_ble_eq_true rfl⟩) rfl rfl (by first | omega | (simp [hup]; omega)) (by first | omega | (simp [hup]; omega)) (by omega) ?_
      refine wq_aload_n (kk := 0) (q := 93) rfl rfl rfl ?_
      refine wq_dup (q := 94) rfl rfl rfl ?_
      refine wq_getI (kz := 4) (q := 97) rfl f_De_56 rfl rfl (Or.inl ⟨rfl, Nat.le_of_ble_eq_true rfl⟩) rfl rfl ?_
      refine wq_iconst (n := 1) (q := 98) rfl rfl rfl ?_
      refine wq_iadd (q := 99) rfl rfl (by first | omega | (simp [hup]; omega)) (by first | omega | (simp [hup]; omega)) ?_
      refine wq_putI (kz := 4) (q := 102) rfl f_De_56 rfl rfl rfl (Or.inl ⟨rfl, Nat.le_of_ble_eq_true rfl⟩) rfl rfl ?_
      refine wq_vret rfl rfl (Nat.le_refl _) (Nat.le_refl _) ?_
      first | exact ⟨rfl, rfl, rfl⟩ | exact pB_t (by omega) | exact pB_f (by omega) | exact pC_t (by omega) | exact pC_f (by omega) | (exfalso; omega)
set_option maxRecDepth 100000 in
theorem De_runningCount_lp (h : mH) (r : mR) (hn : 0 ≤ h 2 4 ∧ h 2 4 ≤ 120) : ∀ (N : Nat) (d f : Int), (h 2 4 - d).toNat = N → 0 ≤ d → d ≤ h 2 4 → f = cn (fun d => h 12 d == 0) d.toNat → WP (true, rm 1) m_De_runningCount (rt m_De_runningCount (rm 1) (pI (cn (fun d => h 12 d == 0) (h 2 4).toNat) h r)) 4 [some (vR 2), some (vI f), some (vI d)] [] h r (0, 0) := by
  intro N
  induction N using Nat.strongRecOn with
  | ind N ih =>
    intro d f hN h0 h1 hf
    have hb := cn_b (fun d => h 12 d == 0) d.toNat
    refine wq_iload_n (kk := 2) (q := 5) rfl rfl rfl ?_
    refine wq_aload_n (kk := 0) (q := 6) rfl rfl rfl ?_
    refine wq_getI (kz := 4) (q := 9) rfl f_De_56 rfl rfl (Or.inl ⟨rfl, Nat.le_of_ble_eq_true rfl⟩) rfl rfl ?_
    refine wq_icmp_ge (tgt := 35) (q := 12) rfl rfl rfl (fun c9 => ?_) (fun c9 => ?_)
    · skip
      refine wq_iload_n (kk := 1) (q := 36) rfl rfl rfl ?_
      refine wq_iret rfl rfl (Nat.le_refl _) (Nat.le_refl _) ?_
      have e : d = h 2 4 := by omega
      subst e
      rw [hf]
      exact ⟨rfl, rfl, rfl⟩
    · skip
      refine wq_iload_n (kk := 1) (q := 13) rfl rfl rfl ?_
      refine wq_aload_n (kk := 0) (q := 14) rfl rfl rfl ?_
      refine wq_getF (q := 17) f_De_39 rfl rfl (Nat.le_of_ble_eq_true rfl) rfl rfl rfl ?_
      refine wq_iload_n (kk := 2) (q := 18) rfl rfl rfl ?_
      refine wq_zald (q := 19) rfl (Or.inl ⟨rfl, Nat.le_of_ble_eq_true rfl⟩) rfl rfl (by first | omega | (simp [hup]; omega)) (by first | omega | (simp [hup]; omega)) ?_
      refine wq_if_eq (tgt := 26) (q := 22) rfl rfl rfl (fun c19 => ?_) (fun c19 => ?_)
      · skip
        refine wq_iconst (n := 1) (q := 27) rfl rfl rfl ?_
        refine wq_iadd (q := 28) rfl rfl (by first | omega | (simp [hup]; omega)) (by first | omega | (simp [hup]; omega)) ?_
        refine wq_istore_n (kk := 1) (q := 29) rfl rfl (Nat.le_of_ble_eq_true rfl) rfl ?_
        refine wq_iinc (i := 2) (n := 1) (q := 32) rfl rfl rfl (Nat.le_of_ble_eq_true rfl) rfl (by first | omega | (simp [hup]; omega)) (by first | omega | (simp [hup]; omega)) ?_
        refine wq_goto (tgt := 4) rfl rfl ?_
        refine ih _ ?_ (d + 1) _ rfl (by omega) (by omega) ?_
        · omega
        · rw [cn_s h0]; simp_all
      · skip
        refine wq_iconst (n := 0) (q := 23) rfl rfl rfl ?_
        refine wq_goto (tgt := 27) rfl rfl ?_
        refine wq_iadd (q := 28) rfl rfl (by first | omega | (simp [hup]; omega)) (by first | omega | (simp [hup]; omega)) ?_
        refine wq_istore_n (kk := 1) (q := 29) rfl rfl (Nat.le_of_ble_eq_true rfl) rfl ?_
        refine wq_iinc (i := 2) (n := 1) (q := 32) rfl rfl rfl (Nat.le_of_ble_eq_true rfl) rfl (by first | omega | (simp [hup]; omega)) (by first | omega | (simp [hup]; omega)) ?_
        refine wq_goto (tgt := 4) rfl rfl ?_
        refine ih _ ?_ (d + 1) _ rfl (by omega) (by omega) ?_
        · omega
        · rw [cn_s h0]; simp_all
set_option maxRecDepth 100000 in
theorem De_runningCount_ok (h : mH) (r : mR) (hn : 0 ≤ h 2 4 ∧ h 2 4 ≤ 120) : Meets true (rm 1) m_De_runningCount [vR 2] h r (pI (cn (fun d => h 12 d == 0) (h 2 4).toNat) h r) := by
  refine ⟨ok_De_runningCount, Nat.le_of_ble_eq_true rfl, ?_⟩
  refine wq_iconst (n := 0) (q := 1) rfl rfl rfl ?_
  refine wq_istore_n (kk := 1) (q := 2) rfl rfl (Nat.le_of_ble_eq_true rfl) rfl ?_
  refine wq_iconst (n := 0) (q := 3) rfl rfl rfl ?_
  refine wq_istore_n (kk := 2) (q := 4) rfl rfl (Nat.le_of_ble_eq_true rfl) rfl ?_
  exact De_runningCount_lp h r hn _ 0 0 rfl (by omega) (by omega) rfl

set_option maxRecDepth 100000 in
theorem De_lateCount_lp (h : mH) (r : mR) (hn : 0 ≤ h 2 4 ∧ h 2 4 ≤ 120) : ∀ (N : Nat) (d f : Int), (h 2 4 - d).toNat = N → 0 ≤ d → d ≤ h 2 4 → f = cn (fun d => decide (0 < h 10 d)) d.toNat → WP (true, rm 1) m_De_lateCount (rt m_De_lateCount (rm 1) (pI (cn (fun d => decide (0 < h 10 d)) (h 2 4).toNat) h r)) 4 [some (vR 2), some (vI f), some (vI d)] [] h r (0, 0) := by
  intro N
  induction N using Nat.strongRecOn with
  | ind N ih =>
    intro d f hN h0 h1 hf
    have hb := cn_b (fun d => decide (0 < h 10 d)) d.toNat
    refine wq_iload_n (kk := 2) (q := 5) rfl rfl rfl ?_
    refine wq_aload_n (kk := 0) (q := 6) rfl rfl rfl ?_
    refine wq_getI (kz := 4) (q := 9) rfl f_De_56 rfl rfl (Or.inl ⟨rfl, Nat.le_of_ble_eq_true rfl⟩) rfl rfl ?_
    refine wq_icmp_ge (tgt := 35) (q := 12) rfl rfl rfl (fun c9 => ?_) (fun c9 => ?_)
    · skip
      refine wq_iload_n (kk := 1) (q := 36) rfl rfl rfl ?_
      refine wq_iret rfl rfl (Nat.le_refl _) (Nat.le_refl _) ?_
      have e : d = h 2 4 := by omega
      subst e
      rw [hf]
      exact ⟨rfl, rfl, rfl⟩
    · skip
      refine wq_iload_n (kk := 1) (q := 13) rfl rfl rfl ?_
      refine wq_aload_n (kk := 0) (q := 14) rfl rfl rfl ?_
      refine wq_getF (q := 17) f_De_33 rfl rfl (Nat.le_of_ble_eq_true rfl) rfl rfl rfl ?_
      refine wq_iload_n (kk := 2) (q := 18) rfl rfl rfl ?_
      refine wq_iald (q := 19) rfl (Or.inl ⟨rfl, Nat.le_of_ble_eq_true rfl⟩) rfl rfl (by first | omega | (simp [hup]; omega)) (by first | omega | (simp [hup]; omega)) ?_
      refine wq_if_le (tgt := 26) (q := 22) rfl rfl rfl (fun c19 => ?_) (fun c19 => ?_)
      · skip
        refine wq_iconst (n := 0) (q := 27) rfl rfl rfl ?_
        refine wq_iadd (q := 28) rfl rfl (by first | omega | (simp [hup]; omega)) (by first | omega | (simp [hup]; omega)) ?_
        refine wq_istore_n (kk := 1) (q := 29) rfl rfl (Nat.le_of_ble_eq_true rfl) rfl ?_
        refine wq_iinc (i := 2) (n := 1) (q := 32) rfl rfl rfl (Nat.le_of_ble_eq_true rfl) rfl (by first | omega | (simp [hup]; omega)) (by first | omega | (simp [hup]; omega)) ?_
        refine wq_goto (tgt := 4) rfl rfl ?_
        refine ih _ ?_ (d + 1) _ rfl (by omega) (by omega) ?_
        · omega
        · rw [cn_s h0, hf]; by_cases hz : 0 < h 10 d <;> simp [hz] <;> omega
      · skip
        refine wq_iconst (n := 1) (q := 23) rfl rfl rfl ?_
        refine wq_goto (tgt := 27) rfl rfl ?_
        refine wq_iadd (q := 28) rfl rfl (by first | omega | (simp [hup]; omega)) (by first | omega | (simp [hup]; omega)) ?_
        refine wq_istore_n (kk := 1) (q := 29) rfl rfl (Nat.le_of_ble_eq_true rfl) rfl ?_
        refine wq_iinc (i := 2) (n := 1) (q := 32) rfl rfl rfl (Nat.le_of_ble_eq_true rfl) rfl (by first | omega | (simp [hup]; omega)) (by first | omega | (simp [hup]; omega)) ?_
        refine wq_goto (tgt := 4) rfl rfl ?_
        refine ih _ ?_ (d + 1) _ rfl (by omega) (by omega) ?_
        · omega
        · rw [cn_s h0, hf]; by_cases hz : 0 < h 10 d <;> simp [hz] <;> omega
set_option maxRecDepth 100000 in
theorem De_lateCount_ok (h : mH) (r : mR) (hn : 0 ≤ h 2 4 ∧ h 2 4 ≤ 120) : Meets true (rm 1) m_De_lateCount [vR 2] h r (pI (cn (fun d => decide (0 < h 10 d)) (h 2 4).toNat) h r) := by
  refine ⟨ok_De_lateCount, Nat.le_of_ble_eq_true rfl, ?_⟩
  refine wq_iconst (n := 0) (q := 1) rfl rfl rfl ?_
  refine wq_istore_n (kk := 1) (q := 2) rfl rfl (Nat.le_of_ble_eq_true rfl) rfl ?_
  refine wq_iconst (n := 0) (q := 3) rfl rfl rfl ?_
  refine wq_istore_n (kk := 2) (q := 4) rfl rfl (Nat.le_of_ble_eq_true rfl) rfl ?_
  exact De_lateCount_lp h r hn _ 0 0 rfl (by omega) (by omega) rfl

set_option maxRecDepth 100000 in
theorem De_countFrom_lp (s : Int) (h : mH) (r : mR) (hn : 0 ≤ h 2 4 ∧ h 2 4 ≤ 120) : ∀ (N : Nat) (d f : Int), (h 2 4 - d).toNat = N → 0 ≤ d → d ≤ h 2 4 → f = cn (fun d => (h 12 d == 0) && (h 6 d == s)) d.toNat → WP (true, rm 1) m_De_countFrom (rt m_De_countFrom (rm 1) (pI (cn (fun d => (h 12 d == 0) && (h 6 d == s)) (h 2 4).toNat) h r)) 4 [some (vR 2), some (vI s), some (vI f), some (vI d)] [] h r (0, 0) := by
  intro N
  induction N using Nat.strongRecOn with
  | ind N ih =>
    intro d f hN h0 h1 hf
    have hb := cn_b (fun d => (h 12 d == 0) && (h 6 d == s)) d.toNat
    refine wq_iload_n (kk := 3) (q := 5) rfl rfl rfl ?_
    refine wq_aload_n (kk := 0) (q := 6) rfl rfl rfl ?_
    refine wq_getI (kz := 4) (q := 9) rfl f_De_56 rfl rfl (Or.inl ⟨rfl, Nat.le_of_ble_eq_true rfl⟩) rfl rfl ?_
    refine wq_icmp_ge (tgt := 45) (q := 12) rfl rfl rfl (fun c9 => ?_) (fun c9 => ?_)
    · skip
      refine wq_iload_n (kk := 2) (q := 46) rfl rfl rfl ?_
      refine wq_iret rfl rfl (Nat.le_refl _) (Nat.le_refl _) ?_
      have e : d = h 2 4 := by omega
      subst e
      rw [hf]
      exact ⟨rfl, rfl, rfl⟩
    · skip
      refine wq_iload_n (kk := 2) (q := 13) rfl rfl rfl ?_
      refine wq_aload_n (kk := 0) (q := 14) rfl rfl rfl ?_
      refine wq_getF (q := 17) f_De_39 rfl rfl (Nat.le_of_ble_eq_true rfl) rfl rfl rfl ?_
      refine wq_iload_n (kk := 3) (q := 18) rfl rfl rfl ?_
      refine wq_zald (q := 19) rfl (Or.inl ⟨rfl, Nat.le_of_ble_eq_true rfl⟩) rfl rfl (by first | omega | (simp [hup]; omega)) (by first | omega | (simp [hup]; omega)) ?_
      refine wq_if_ne (tgt := 36) (q := 22) rfl rfl rfl (fun c19 => ?_) (fun c19 => ?_)
      · skip
        refine wq_iconst (n := 0) (q := 37) rfl rfl rfl ?_
        refine wq_iadd (q := 38) rfl rfl (by first | omega | (simp [hup]; omega)) (by first | omega | (simp [hup]; omega)) ?_
        refine wq_istore_n (kk := 2) (q := 39) rfl rfl (Nat.le_of_ble_eq_true rfl) rfl ?_
        refine wq_iinc (i := 3) (n := 1) (q := 42) rfl rfl rfl (Nat.le_of_ble_eq_true rfl) rfl (by first | omega | (simp [hup]; omega)) (by first | omega | (simp [hup]; omega)) ?_
        refine wq_goto (tgt := 4) rfl rfl ?_
        refine ih _ ?_ (d + 1) _ rfl (by omega) (by omega) ?_
        · omega
        · rw [cn_s h0]; simp_all
      · skip
        refine wq_aload_n (kk := 0) (q := 23) rfl rfl rfl ?_
        refine wq_getF (q := 26) f_De_21 rfl rfl (Nat.le_of_ble_eq_true rfl) rfl rfl rfl ?_
        refine wq_iload_n (kk := 3) (q := 27) rfl rfl rfl ?_
        refine wq_iald (q := 28) rfl (Or.inl ⟨rfl, Nat.le_of_ble_eq_true rfl⟩) rfl rfl (by first | omega | (simp [hup]; omega)) (by first | omega | (simp [hup]; omega)) ?_
        refine wq_iload_n (kk := 1) (q := 29) rfl rfl rfl ?_
        refine wq_icmp_ne (tgt := 36) (q := 32) rfl rfl rfl (fun c29 => ?_) (fun c29 => ?_)
        · skip
          refine wq_iconst (n := 0) (q := 37) rfl rfl rfl ?_
          refine wq_iadd (q := 38) rfl rfl (by first | omega | (simp [hup]; omega)) (by first | omega | (simp [hup]; omega)) ?_
          refine wq_istore_n (kk := 2) (q := 39) rfl rfl (Nat.le_of_ble_eq_true rfl) rfl ?_
          refine wq_iinc (i := 3) (n := 1) (q := 42) rfl rfl rfl (Nat.le_of_ble_eq_true rfl) rfl (by first | omega | (simp [hup]; omega)) (by first | omega | (simp [hup]; omega)) ?_
          refine wq_goto (tgt := 4) rfl rfl ?_
          refine ih _ ?_ (d + 1) _ rfl (by omega) (by omega) ?_
          · omega
          · rw [cn_s h0]; simp_all
        · skip
          refine wq_iconst (n := 1) (q := 33) rfl rfl rfl ?_
          refine wq_goto (tgt := 37) rfl rfl ?_
          refine wq_iadd (q := 38) rfl rfl (by first | omega | (simp [hup]; omega)) (by first | omega | (simp [hup]; omega)) ?_
          refine wq_istore_n (kk := 2) (q := 39) rfl rfl (Nat.le_of_ble_eq_true rfl) rfl ?_
          refine wq_iinc (i := 3) (n := 1) (q := 42) rfl rfl rfl (Nat.le_of_ble_eq_true rfl) rfl (by first | omega | (simp [hup]; omega)) (by first | omega | (simp [hup]; omega)) ?_
          refine wq_goto (tgt := 4) rfl rfl ?_
          refine ih _ ?_ (d + 1) _ rfl (by omega) (by omega) ?_
          · omega
          · rw [cn_s h0]; simp_all
set_option maxRecDepth 100000 in
theorem De_countFrom_ok (s : Int) (h : mH) (r : mR) (hn : 0 ≤ h 2 4 ∧ h 2 4 ≤ 120) : Meets true (rm 1) m_De_countFrom [vR 2, vI s] h r (pI (cn (fun d => (h 12 d == 0) && (h 6 d == s)) (h 2 4).toNat) h r) := by
  refine ⟨ok_De_countFrom, Nat.le_of_ble_eq_true rfl, ?_⟩
  refine wq_iconst (n := 0) (q := 1) rfl rfl rfl ?_
  refine wq_istore_n (kk := 2) (q := 2) rfl rfl (Nat.le_of_ble_eq_true rfl) rfl ?_
  refine wq_iconst (n := 0) (q := 3) rfl rfl rfl ?_
  refine wq_istore_n (kk := 3) (q := 4) rfl rfl (Nat.le_of_ble_eq_true rfl) rfl ?_
  exact De_countFrom_lp s h r hn _ 0 0 rfl (by omega) (by omega) rfl

set_option maxRecDepth 100000 in
theorem De_countTo_lp (s : Int) (h : mH) (r : mR) (hn : 0 ≤ h 2 4 ∧ h 2 4 ≤ 120) : ∀ (N : Nat) (d f : Int), (h 2 4 - d).toNat = N → 0 ≤ d → d ≤ h 2 4 → f = cn (fun d => (h 12 d == 0) && (h 7 d == s)) d.toNat → WP (true, rm 1) m_De_countTo (rt m_De_countTo (rm 1) (pI (cn (fun d => (h 12 d == 0) && (h 7 d == s)) (h 2 4).toNat) h r)) 4 [some (vR 2), some (vI s), some (vI f), some (vI d)] [] h r (0, 0) := by
  intro N
  induction N using Nat.strongRecOn with
  | ind N ih =>
    intro d f hN h0 h1 hf
    have hb := cn_b (fun d => (h 12 d == 0) && (h 7 d == s)) d.toNat
    refine wq_iload_n (kk := 3) (q := 5) rfl rfl rfl ?_
    refine wq_aload_n (kk := 0) (q := 6) rfl rfl rfl ?_
    refine wq_getI (kz := 4) (q := 9) rfl f_De_56 rfl rfl (Or.inl ⟨rfl, Nat.le_of_ble_eq_true rfl⟩) rfl rfl ?_
    refine wq_icmp_ge (tgt := 45) (q := 12) rfl rfl rfl (fun c9 => ?_) (fun c9 => ?_)
    · skip
      refine wq_iload_n (kk := 2) (q := 46) rfl rfl rfl ?_
      refine wq_iret rfl rfl (Nat.le_refl _) (Nat.le_refl _) ?_
      have e : d = h 2 4 := by omega
      subst e
      rw [hf]
      exact ⟨rfl, rfl, rfl⟩
    · skip
      refine wq_iload_n (kk := 2) (q := 13) rfl rfl rfl ?_
      refine wq_aload_n (kk := 0) (q := 14) rfl rfl rfl ?_
      refine wq_getF (q := 17) f_De_39 rfl rfl (Nat.le_of_ble_eq_true rfl) rfl rfl rfl ?_
      refine wq_iload_n (kk := 3) (q := 18) rfl rfl rfl ?_
      refine wq_zald (q := 19) rfl (Or.inl ⟨rfl, Nat.le_of_ble_eq_true rfl⟩) rfl rfl (by first | omega | (simp [hup]; omega)) (by first | omega | (simp [hup]; omega)) ?_
      refine wq_if_ne (tgt := 36) (q := 22) rfl rfl rfl (fun c19 => ?_) (fun c19 => ?_)
      · skip
        refine wq_iconst (n := 0) (q := 37) rfl rfl rfl ?_
        refine wq_iadd (q := 38) rfl rfl (by first | omega | (simp [hup]; omega)) (by first | omega | (simp [hup]; omega)) ?_
        refine wq_istore_n (kk := 2) (q := 39) rfl rfl (Nat.le_of_ble_eq_true rfl) rfl ?_
        refine wq_iinc (i := 3) (n := 1) (q := 42) rfl rfl rfl (Nat.le_of_ble_eq_true rfl) rfl (by first | omega | (simp [hup]; omega)) (by first | omega | (simp [hup]; omega)) ?_
        refine wq_goto (tgt := 4) rfl rfl ?_
        refine ih _ ?_ (d + 1) _ rfl (by omega) (by omega) ?_
        · omega
        · rw [cn_s h0]; simp_all
      · skip
        refine wq_aload_n (kk := 0) (q := 23) rfl rfl rfl ?_
        refine wq_getF (q := 26) f_De_24 rfl rfl (Nat.le_of_ble_eq_true rfl) rfl rfl rfl ?_
        refine wq_iload_n (kk := 3) (q := 27) rfl rfl rfl ?_
        refine wq_iald (q := 28) rfl (Or.inl ⟨rfl, Nat.le_of_ble_eq_true rfl⟩) rfl rfl (by first | omega | (simp [hup]; omega)) (by first | omega | (simp [hup]; omega)) ?_
        refine wq_iload_n (kk := 1) (q := 29) rfl rfl rfl ?_
        refine wq_icmp_ne (tgt := 36) (q := 32) rfl rfl rfl (fun c29 => ?_) (fun c29 => ?_)
        · skip
          refine wq_iconst (n := 0) (q := 37) rfl rfl rfl ?_
          refine wq_iadd (q := 38) rfl rfl (by first | omega | (simp [hup]; omega)) (by first | omega | (simp [hup]; omega)) ?_
          refine wq_istore_n (kk := 2) (q := 39) rfl rfl (Nat.le_of_ble_eq_true rfl) rfl ?_
          refine wq_iinc (i := 3) (n := 1) (q := 42) rfl rfl rfl (Nat.le_of_ble_eq_true rfl) rfl (by first | omega | (simp [hup]; omega)) (by first | omega | (simp [hup]; omega)) ?_
          refine wq_goto (tgt := 4) rfl rfl ?_
          refine ih _ ?_ (d + 1) _ rfl (by omega) (by omega) ?_
          · omega
          · rw [cn_s h0]; simp_all
        · skip
          refine wq_iconst (n := 1) (q := 33) rfl rfl rfl ?_
          refine wq_goto (tgt := 37) rfl rfl ?_
          refine wq_iadd (q := 38) rfl rfl (by first | omega | (simp [hup]; omega)) (by first | omega | (simp [hup]; omega)) ?_
          refine wq_istore_n (kk := 2) (q := 39) rfl rfl (Nat.le_of_ble_eq_true rfl) rfl ?_
          refine wq_iinc (i := 3) (n := 1) (q := 42) rfl rfl rfl (Nat.le_of_ble_eq_true rfl) rfl (by first | omega | (simp [hup]; omega)) (by first | omega | (simp [hup]; omega)) ?_
          refine wq_goto (tgt := 4) rfl rfl ?_
          refine ih _ ?_ (d + 1) _ rfl (by omega) (by omega) ?_
          · omega
          · rw [cn_s h0]; simp_all
set_option maxRecDepth 100000 in
theorem De_countTo_ok (s : Int) (h : mH) (r : mR) (hn : 0 ≤ h 2 4 ∧ h 2 4 ≤ 120) : Meets true (rm 1) m_De_countTo [vR 2, vI s] h r (pI (cn (fun d => (h 12 d == 0) && (h 7 d == s)) (h 2 4).toNat) h r) := by
  refine ⟨ok_De_countTo, Nat.le_of_ble_eq_true rfl, ?_⟩
  refine wq_iconst (n := 0) (q := 1) rfl rfl rfl ?_
  refine wq_istore_n (kk := 2) (q := 2) rfl rfl (Nat.le_of_ble_eq_true rfl) rfl ?_
  refine wq_iconst (n := 0) (q := 3) rfl rfl rfl ?_
  refine wq_istore_n (kk := 3) (q := 4) rfl rfl (Nat.le_of_ble_eq_true rfl) rfl ?_
  exact De_countTo_lp s h r hn _ 0 0 rfl (by omega) (by omega) rfl
end
section
/-! LinkTimes$Log: cell 27, rows 28 (kinds), 29 (whose), 30 (was) -/
set_option maxRecDepth 100000 in
theorem Lo_clear_ok (h : mH) (r : mR) : Meets true (rm 1) m_Lo_clear [vR 27] h r (pH (hup h 27 0 0) r) := by
  refine ⟨ok_Lo_clear, Nat.le_of_ble_eq_true rfl, ?_⟩
  refine wq_aload_n (kk := 0) (q := 1) rfl rfl rfl ?_
  refine wq_iconst (n := 0) (q := 2) rfl rfl rfl ?_
  refine wq_putI (kz := 0) (q := 5) rfl f_Lo_19 rfl rfl rfl (Or.inl ⟨rfl, Nat.le_of_ble_eq_true rfl⟩) rfl rfl ?_
  refine wq_vret rfl rfl (Nat.le_refl _) (Nat.le_refl _) ?_
  first | exact ⟨rfl, rfl, rfl⟩ | exact pB_t (by omega) | exact pB_f (by omega) | exact pC_t (by omega) | exact pC_f (by omega) | (exfalso; omega)
/-- the rows from place i on are the old ones, those ahead have moved by one -/
def lgS (h h' : mH) (i : Int) : Prop := ∀ a, a = 28 ∨ a = 29 ∨ a = 30 → (∀ j, 0 ≤ j → j < i - 1 → h' a j = h a (j + 1)) ∧ ∀ j, i - 1 ≤ j → h' a j = h a j
set_option maxRecDepth 100000 in
set_option maxHeartbeats 1000000 in
theorem Lo_forget_lp (h : mH) (r : mR) (hk : h 27 0 = 10) : ∀ (N : Nat) (i : Int) (h' : mH), (10 - i).toNat = N → 1 ≤ i → i ≤ 10 → fr [28, 29, 30] h h' → lgS h h' i → WP (true, rm 1) m_Lo_forgetOldest (rt m_Lo_forgetOldest (rm 1) (fun rv h1 r1 => rv = none ∧ r1 = r ∧ fr [27, 28, 29, 30] h h1 ∧ h1 27 0 = 9 ∧ ∀ a, a = 28 ∨ a = 29 ∨ a = 30 → ∀ j, 0 ≤ j → j < 9 → h1 a j = h a (j + 1))) 2 [some (vR 27), some (vI i)] [] h' r (0, 0) := by
  intro N
  induction N using Nat.strongRecOn with
  | ind N ih =>
    intro i h' hN h1 h2 hf hl
    have hk' : h' 27 0 = 10 := by rw [hf.at 27 0 (by decide)]; exact hk
    have l1 := hl 28 (by omega)
    have l2 := hl 29 (by omega)
    have l3 := hl 30 (by omega)
    refine wq_iload_n (kk := 1) (q := 3) rfl rfl rfl ?_
    refine wq_aload_n (kk := 0) (q := 4) rfl rfl rfl ?_
    refine wq_getI (kz := 0) (q := 7) rfl f_Lo_19 rfl rfl (Or.inl ⟨rfl, Nat.le_of_ble_eq_true rfl⟩) rfl rfl ?_
    refine wq_icmp_ge (tgt := 58) (q := 10) rfl rfl rfl (fun c7 => ?_) (fun c7 => ?_)
    · skip
      refine wq_aload_n (kk := 0) (q := 59) rfl rfl rfl ?_
      refine wq_dup (q := 60) rfl rfl rfl ?_
      refine wq_getI (kz := 0) (q := 63) rfl f_Lo_19 rfl rfl (Or.inl ⟨rfl, Nat.le_of_ble_eq_true rfl⟩) rfl rfl ?_
      refine wq_iconst (n := 1) (q := 64) rfl rfl rfl ?_
      refine wq_isub (q := 65) rfl rfl (by first | omega | (simp [hup]; omega)) (by first | omega | (simp [hup]; omega)) ?_
      refine wq_putI (kz := 0) (q := 68) rfl f_Lo_19 rfl rfl rfl (Or.inl ⟨rfl, Nat.le_of_ble_eq_true rfl⟩) rfl rfl ?_
      refine wq_vret rfl rfl (Nat.le_refl _) (Nat.le_refl _) ⟨rfl, rfl, (hf.mono (by decide)).up (by decide), ?_, ?_⟩
      · rw [hup_s]; omega
      · intro a ha j j0 j1
        rw [hup_i (by omega)]
        exact (hl a ha).1 j j0 (by omega)
    · skip
      refine wq_aload_n (kk := 0) (q := 11) rfl rfl rfl ?_
      refine wq_getF (q := 14) f_Lo_9 rfl rfl (Nat.le_of_ble_eq_true rfl) rfl rfl rfl ?_
      refine wq_iload_n (kk := 1) (q := 15) rfl rfl rfl ?_
      refine wq_iconst (n := 1) (q := 16) rfl rfl rfl ?_
      refine wq_isub (q := 17) rfl rfl (by first | omega | (simp [hup]; omega)) (by first | omega | (simp [hup]; omega)) ?_
      refine wq_aload_n (kk := 0) (q := 18) rfl rfl rfl ?_
      refine wq_getF (q := 21) f_Lo_9 rfl rfl (Nat.le_of_ble_eq_true rfl) rfl rfl rfl ?_
      refine wq_iload_n (kk := 1) (q := 22) rfl rfl rfl ?_
      refine wq_iald (q := 23) rfl (Or.inl ⟨rfl, Nat.le_of_ble_eq_true rfl⟩) rfl rfl (by first | omega | (simp [hup]; omega)) (by first | omega | (simp [hup]; omega)) ?_
      refine wq_iast (q := 24) rfl (Or.inl ⟨rfl, Nat.le_of_ble_eq_true rfl⟩) rfl rfl (by first | omega | (simp [hup]; omega)) (by first | omega | (simp [hup]; omega)) ?_
      refine wq_aload_n (kk := 0) (q := 25) rfl rfl rfl ?_
      refine wq_getF (q := 28) f_Lo_13 rfl rfl (Nat.le_of_ble_eq_true rfl) rfl rfl rfl ?_
      refine wq_iload_n (kk := 1) (q := 29) rfl rfl rfl ?_
      refine wq_iconst (n := 1) (q := 30) rfl rfl rfl ?_
      refine wq_isub (q := 31) rfl rfl (by first | omega | (simp [hup]; omega)) (by first | omega | (simp [hup]; omega)) ?_
      refine wq_aload_n (kk := 0) (q := 32) rfl rfl rfl ?_
      refine wq_getF (q := 35) f_Lo_13 rfl rfl (Nat.le_of_ble_eq_true rfl) rfl rfl rfl ?_
      refine wq_iload_n (kk := 1) (q := 36) rfl rfl rfl ?_
      refine wq_iald (q := 37) rfl (Or.inl ⟨rfl, Nat.le_of_ble_eq_true rfl⟩) rfl rfl (by first | omega | (simp [hup]; omega)) (by first | omega | (simp [hup]; omega)) ?_
      refine wq_iast (q := 38) rfl (Or.inl ⟨rfl, Nat.le_of_ble_eq_true rfl⟩) rfl rfl (by first | omega | (simp [hup]; omega)) (by first | omega | (simp [hup]; omega)) ?_
      refine wq_aload_n (kk := 0) (q := 39) rfl rfl rfl ?_
      refine wq_getF (q := 42) f_Lo_16 rfl rfl (Nat.le_of_ble_eq_true rfl) rfl rfl rfl ?_
      refine wq_iload_n (kk := 1) (q := 43) rfl rfl rfl ?_
      refine wq_iconst (n := 1) (q := 44) rfl rfl rfl ?_
      refine wq_isub (q := 45) rfl rfl (by first | omega | (simp [hup]; omega)) (by first | omega | (simp [hup]; omega)) ?_
      refine wq_aload_n (kk := 0) (q := 46) rfl rfl rfl ?_
      refine wq_getF (q := 49) f_Lo_16 rfl rfl (Nat.le_of_ble_eq_true rfl) rfl rfl rfl ?_
      refine wq_iload_n (kk := 1) (q := 50) rfl rfl rfl ?_
      refine wq_iald (q := 51) rfl (Or.inl ⟨rfl, Nat.le_of_ble_eq_true rfl⟩) rfl rfl (by first | omega | (simp [hup]; omega)) (by first | omega | (simp [hup]; omega)) ?_
      refine wq_iast (q := 52) rfl (Or.inl ⟨rfl, Nat.le_of_ble_eq_true rfl⟩) rfl rfl (by first | omega | (simp [hup]; omega)) (by first | omega | (simp [hup]; omega)) ?_
      refine wq_iinc (i := 1) (n := 1) (q := 55) rfl rfl rfl (Nat.le_of_ble_eq_true rfl) rfl (by first | omega | (simp [hup]; omega)) (by first | omega | (simp [hup]; omega)) ?_
      refine wq_goto (tgt := 2) rfl rfl ?_
      refine ih _ ?_ (i + 1) _ rfl (by omega) (by omega) (((hf.up (by decide)).up (by decide)).up (by decide)) ?_
      · omega
      · intro a ha
        refine ⟨fun j j0 j1 => ?_, fun j j1 => ?_⟩
        · rcases ha with rfl | rfl | rfl <;> simp only [hup] <;> by_cases e : j = i - 1 <;> simp [e]
          · rw [l1.2 i (by omega)]; 
          · exact l1.1 j j0 (by omega)
          · rw [l2.2 i (by omega)]; 
          · exact l2.1 j j0 (by omega)
          · rw [l3.2 i (by omega)]; 
          · exact l3.1 j j0 (by omega)
        · have e : ¬ j = i - 1 := by omega
          rcases ha with rfl | rfl | rfl <;> simp [hup, e]
          · exact l1.2 j (by omega)
          · exact l2.2 j (by omega)
          · exact l3.2 j (by omega)
set_option maxRecDepth 100000 in
theorem Lo_forget_ok (h : mH) (r : mR) (hk : h 27 0 = 10) : Meets true (rm 1) m_Lo_forgetOldest [vR 27] h r (fun rv h1 r1 => rv = none ∧ r1 = r ∧ fr [27, 28, 29, 30] h h1 ∧ h1 27 0 = 9 ∧ ∀ a, a = 28 ∨ a = 29 ∨ a = 30 → ∀ j, 0 ≤ j → j < 9 → h1 a j = h a (j + 1)) := by
  refine ⟨ok_Lo_forgetOldest, Nat.le_of_ble_eq_true rfl, ?_⟩
  refine wq_iconst (n := 1) (q := 1) rfl rfl rfl ?_
  refine wq_istore_n (kk := 1) (q := 2) rfl rfl (Nat.le_of_ble_eq_true rfl) rfl ?_
  exact Lo_forget_lp h r hk _ 1 h rfl (by omega) (by omega) fr.rf (fun a ha => ⟨fun j j0 j1 => by omega, fun j j1 => rfl⟩)
/-- what note() does: s is 1 if the oldest went -/
def noted (h h1 : mH) (kind number before : Int) : Prop := ∃ s : Int, (s = 0 ∧ h 27 0 < 10 ∨ s = 1 ∧ h 27 0 = 10) ∧ fr [27, 28, 29, 30] h h1 ∧ h1 27 0 = h 27 0 + 1 - s ∧ (∀ a, a = 28 ∨ a = 29 ∨ a = 30 → ∀ j, 0 ≤ j → j < h 27 0 - s → h1 a j = h a (j + s)) ∧ h1 28 (h 27 0 - s) = kind ∧ h1 29 (h 27 0 - s) = number ∧ h1 30 (h 27 0 - s) = before
set_option maxRecDepth 100000 in
set_option maxHeartbeats 1000000 in
theorem Lo_note_ok (k n b : Int) (h : mH) (r : mR) (hk : 0 ≤ h 27 0 ∧ h 27 0 ≤ 10) : Meets true (rm 2) m_Lo_note [vR 27, vI k, vI n, vI b] h r (fun rv h1 r1 => rv = none ∧ r1 = r ∧ noted h h1 k n b) := by
  refine ⟨ok_Lo_note, Nat.le_of_ble_eq_true rfl, ?_⟩
  refine wq_aload_n (kk := 0) (q := 1) rfl rfl rfl ?_
  refine wq_getI (kz := 0) (q := 4) rfl f_Lo_19 rfl rfl (Or.inl ⟨rfl, Nat.le_of_ble_eq_true rfl⟩) rfl rfl ?_
  refine wq_bipush (n := 10) (q := 6) rfl rfl rfl ?_
  refine wq_icmp_ne (tgt := 13) (q := 9) rfl rfl rfl (fun c6 => ?_) (fun c6 => ?_)
  · skip
    refine wq_aload_n (kk := 0) (q := 14) rfl rfl rfl ?_
    refine wq_getF (q := 17) f_Lo_9 rfl rfl (Nat.le_of_ble_eq_true rfl) rfl rfl rfl ?_
    refine wq_aload_n (kk := 0) (q := 18) rfl rfl rfl ?_
    refine wq_getI (kz := 0) (q := 21) rfl f_Lo_19 rfl rfl (Or.inl ⟨rfl, Nat.le_of_ble_eq_true rfl⟩) rfl rfl ?_
    refine wq_iload_n (kk := 1) (q := 22) rfl rfl rfl ?_
    refine wq_iast (q := 23) rfl (Or.inl ⟨rfl, Nat.le_of_ble_eq_true rfl⟩) rfl rfl (by first | omega | (simp [hup]; omega)) (by first | omega | (simp [hup]; omega)) ?_
    refine wq_aload_n (kk := 0) (q := 24) rfl rfl rfl ?_
    refine wq_getF (q := 27) f_Lo_13 rfl rfl (Nat.le_of_ble_eq_true rfl) rfl rfl rfl ?_
    refine wq_aload_n (kk := 0) (q := 28) rfl rfl rfl ?_
    refine wq_getI (kz := 0) (q := 31) rfl f_Lo_19 rfl rfl (Or.inl ⟨rfl, Nat.le_of_ble_eq_true rfl⟩) rfl rfl ?_
    refine wq_iload_n (kk := 2) (q := 32) rfl rfl rfl ?_
    refine wq_iast (q := 33) rfl (Or.inl ⟨rfl, Nat.le_of_ble_eq_true rfl⟩) rfl rfl (by first | omega | (simp [hup]; omega)) (by first | omega | (simp [hup]; omega)) ?_
    refine wq_aload_n (kk := 0) (q := 34) rfl rfl rfl ?_
    refine wq_getF (q := 37) f_Lo_16 rfl rfl (Nat.le_of_ble_eq_true rfl) rfl rfl rfl ?_
    refine wq_aload_n (kk := 0) (q := 38) rfl rfl rfl ?_
    refine wq_getI (kz := 0) (q := 41) rfl f_Lo_19 rfl rfl (Or.inl ⟨rfl, Nat.le_of_ble_eq_true rfl⟩) rfl rfl ?_
    refine wq_iload_n (kk := 3) (q := 42) rfl rfl rfl ?_
    refine wq_iast (q := 43) rfl (Or.inl ⟨rfl, Nat.le_of_ble_eq_true rfl⟩) rfl rfl (by first | omega | (simp [hup]; omega)) (by first | omega | (simp [hup]; omega)) ?_
    refine wq_aload_n (kk := 0) (q := 44) rfl rfl rfl ?_
    refine wq_dup (q := 45) rfl rfl rfl ?_
    refine wq_getI (kz := 0) (q := 48) rfl f_Lo_19 rfl rfl (Or.inl ⟨rfl, Nat.le_of_ble_eq_true rfl⟩) rfl rfl ?_
    refine wq_iconst (n := 1) (q := 49) rfl rfl rfl ?_
    refine wq_iadd (q := 50) rfl rfl (by first | omega | (simp [hup]; omega)) (by first | omega | (simp [hup]; omega)) ?_
    refine wq_putI (kz := 0) (q := 53) rfl f_Lo_19 rfl rfl rfl (Or.inl ⟨rfl, Nat.le_of_ble_eq_true rfl⟩) rfl rfl ?_
    refine wq_vret rfl rfl (Nat.le_refl _) (Nat.le_refl _) ⟨rfl, rfl, ?_⟩
    first
      | (refine ⟨0, Or.inl ⟨rfl, by omega⟩, (((fr.rf.up (by decide)).up (by decide)).up (by decide)).up (by decide), ?_, ?_, ?_, ?_, ?_⟩
         · simp [hup]
         · intro a ha j j0 j1
           have e : ¬ j = h 27 0 := by omega
           rcases ha with rfl | rfl | rfl <;> simp [hup, e]
         · simp [hup]
         · simp [hup]
         · simp [hup])
      | (refine ⟨1, Or.inr ⟨rfl, by omega⟩, (((f1.up (by decide)).up (by decide)).up (by decide)).up (by decide), ?_, ?_, ?_, ?_, ?_⟩
         · simp [hup]; omega
         · intro a ha j j0 j1
           have e : ¬ j = h1 27 0 := by omega
           rcases ha with rfl | rfl | rfl <;> simp [hup, e] <;> exact f3 _ (by omega) j j0 (by omega)
         · simp [hup]; omega
         · simp [hup]; omega
         · simp [hup]; omega)
  · skip
    refine wq_aload_n (kk := 0) (q := 10) rfl rfl rfl ?_
    refine wq_callV (q := 13) (m' := m_Lo_forgetOldest) (R' := rm 1) (As := []) rfl rfl l_Lo_23 vm_Lo_forgetOldest rfl rfl rfl (Or.inl ⟨rfl, Nat.le_of_ble_eq_true rfl⟩) (Nat.le_of_ble_eq_true rfl) (Nat.le_of_ble_eq_true rfl) (Nat.le_refl _) (Nat.le_refl _) (Nat.le_of_ble_eq_true rfl) (Lo_forget_ok h r (by omega)) rfl ?_
    rintro rv h1 r1 ⟨rfl, rfl, f1, f2, f3⟩ -
    refine wq_aload_n (kk := 0) (q := 14) rfl rfl rfl ?_
    refine wq_getF (q := 17) f_Lo_9 rfl rfl (Nat.le_of_ble_eq_true rfl) rfl rfl rfl ?_
    refine wq_aload_n (kk := 0) (q := 18) rfl rfl rfl ?_
    refine wq_getI (kz := 0) (q := 21) rfl f_Lo_19 rfl rfl (Or.inl ⟨rfl, Nat.le_of_ble_eq_true rfl⟩) rfl rfl ?_
    refine wq_iload_n (kk := 1) (q := 22) rfl rfl rfl ?_
    refine wq_iast (q := 23) rfl (Or.inl ⟨rfl, Nat.le_of_ble_eq_true rfl⟩) rfl rfl (by first | omega | (simp [hup]; omega)) (by first | omega | (simp [hup]; omega)) ?_
    refine wq_aload_n (kk := 0) (q := 24) rfl rfl rfl ?_
    refine wq_getF (q := 27) f_Lo_13 rfl rfl (Nat.le_of_ble_eq_true rfl) rfl rfl rfl ?_
    refine wq_aload_n (kk := 0) (q := 28) rfl rfl rfl ?_
    refine wq_getI (kz := 0) (q := 31) rfl f_Lo_19 rfl rfl (Or.inl ⟨rfl, Nat.le_of_ble_eq_true rfl⟩) rfl rfl ?_
    refine wq_iload_n (kk := 2) (q := 32) rfl rfl rfl ?_
    refine wq_iast (q := 33) rfl (Or.inl ⟨rfl, Nat.le_of_ble_eq_true rfl⟩) rfl rfl (by first | omega | (simp [hup]; omega)) (by first | omega | (simp [hup]; omega)) ?_
    refine wq_aload_n (kk := 0) (q := 34) rfl rfl rfl ?_
    refine wq_getF (q := 37) f_Lo_16 rfl rfl (Nat.le_of_ble_eq_true rfl) rfl rfl rfl ?_
    refine wq_aload_n (kk := 0) (q := 38) rfl rfl rfl ?_
    refine wq_getI (kz := 0) (q := 41) rfl f_Lo_19 rfl rfl (Or.inl ⟨rfl, Nat.le_of_ble_eq_true rfl⟩) rfl rfl ?_
    refine wq_iload_n (kk := 3) (q := 42) rfl rfl rfl ?_
    refine wq_iast (q := 43) rfl (Or.inl ⟨rfl, Nat.le_of_ble_eq_true rfl⟩) rfl rfl (by first | omega | (simp [hup]; omega)) (by first | omega | (simp [hup]; omega)) ?_
    refine wq_aload_n (kk := 0) (q := 44) rfl rfl rfl ?_
    refine wq_dup (q := 45) rfl rfl rfl ?_
    refine wq_getI (kz := 0) (q := 48) rfl f_Lo_19 rfl rfl (Or.inl ⟨rfl, Nat.le_of_ble_eq_true rfl⟩) rfl rfl ?_
    refine wq_iconst (n := 1) (q := 49) rfl rfl rfl ?_
    refine wq_iadd (q := 50) rfl rfl (by first | omega | (simp [hup]; omega)) (by first | omega | (simp [hup]; omega)) ?_
    refine wq_putI (kz := 0) (q := 53) rfl f_Lo_19 rfl rfl rfl (Or.inl ⟨rfl, Nat.le_of_ble_eq_true rfl⟩) rfl rfl ?_
    refine wq_vret rfl rfl (Nat.le_refl _) (Nat.le_refl _) ⟨rfl, rfl, ?_⟩
    first
      | (refine ⟨0, Or.inl ⟨rfl, by omega⟩, (((fr.rf.up (by decide)).up (by decide)).up (by decide)).up (by decide), ?_, ?_, ?_, ?_, ?_⟩
         · simp [hup]
         · intro a ha j j0 j1
           have e : ¬ j = h 27 0 := by omega
           rcases ha with rfl | rfl | rfl <;> simp [hup, e]
         · simp [hup]
         · simp [hup]
         · simp [hup])
      | (refine ⟨1, Or.inr ⟨rfl, by omega⟩, (((f1.up (by decide)).up (by decide)).up (by decide)).up (by decide), ?_, ?_, ?_, ?_, ?_⟩
         · simp [hup]; omega
         · intro a ha j j0 j1
           have e : ¬ j = h1 27 0 := by omega
           rcases ha with rfl | rfl | rfl <;> simp [hup, e] <;> exact f3 _ (by omega) j j0 (by omega)
         · simp [hup]; omega
         · simp [hup]; omega
         · simp [hup]; omega)
def unl (h : mH) (k n w : Int) : mH := if k = 0 then hup h 12 n (if w = 1 then 1 else 0) else if k = 1 then hup h 10 n w else if k = 2 then hup h 3 n w else if k = 3 then hup h 4 n w else hup h 2 4 n
set_option maxRecDepth 100000 in
set_option maxHeartbeats 1000000 in
theorem Lo_takeBack_ok (h : mH) (r : mR) (hk : 0 < h 27 0 ∧ h 27 0 ≤ 10) (hn : 0 ≤ h 29 (h 27 0 - 1)) (h1 : h 28 (h 27 0 - 1) = 0 ∨ h 28 (h 27 0 - 1) = 1 → h 29 (h 27 0 - 1) < 120) (h2 : h 28 (h 27 0 - 1) = 2 ∨ h 28 (h 27 0 - 1) = 3 → h 29 (h 27 0 - 1) < 10) : Meets true (rm 1) m_Lo_takeBack [vR 27, vR 2] h r (pH (unl (hup h 27 0 (h 27 0 - 1)) (h 28 (h 27 0 - 1)) (h 29 (h 27 0 - 1)) (h 30 (h 27 0 - 1))) r) := by
  refine ⟨ok_Lo_takeBack, Nat.le_of_ble_eq_true rfl, ?_⟩
  refine wq_aload_n (kk := 0) (q := 1) rfl rfl rfl ?_
  refine wq_getI (kz := 0) (q := 4) rfl f_Lo_19 rfl rfl (Or.inl ⟨rfl, Nat.le_of_ble_eq_true rfl⟩) rfl rfl ?_
  refine wq_if_ne (tgt := 8) (q := 7) rfl rfl rfl (fun c4 => ?_) (fun c4 => ?_)
  · skip
    refine wq_aload_n (kk := 0) (q := 9) rfl rfl rfl ?_
    refine wq_dup (q := 10) rfl rfl rfl ?_
    refine wq_getI (kz := 0) (q := 13) rfl f_Lo_19 rfl rfl (Or.inl ⟨rfl, Nat.le_of_ble_eq_true rfl⟩) rfl rfl ?_
    refine wq_iconst (n := 1) (q := 14) rfl rfl rfl ?_
    refine wq_isub (q := 15) rfl rfl (by first | omega | (simp [hup] at *; omega)) (by first | omega | (simp [hup] at *; omega)) ?_
    refine wq_putI (kz := 0) (q := 18) rfl f_Lo_19 rfl rfl rfl (Or.inl ⟨rfl, Nat.le_of_ble_eq_true rfl⟩) rfl rfl ?_
    refine wq_aload_n (kk := 0) (q := 19) rfl rfl rfl ?_
    refine wq_getF (q := 22) f_Lo_13 rfl rfl (Nat.le_of_ble_eq_true rfl) rfl rfl rfl ?_
    refine wq_aload_n (kk := 0) (q := 23) rfl rfl rfl ?_
    refine wq_getI (kz := 0) (q := 26) rfl f_Lo_19 rfl rfl (Or.inl ⟨rfl, Nat.le_of_ble_eq_true rfl⟩) rfl rfl ?_
    refine wq_iald (q := 27) rfl (Or.inl ⟨rfl, Nat.le_of_ble_eq_true rfl⟩) rfl rfl (by first | omega | (simp [hup] at *; omega)) (by first | omega | (simp [hup] at *; omega)) ?_
    refine wq_istore_n (kk := 2) (q := 28) rfl rfl (Nat.le_of_ble_eq_true rfl) rfl ?_
    refine wq_aload_n (kk := 0) (q := 29) rfl rfl rfl ?_
    refine wq_getF (q := 32) f_Lo_9 rfl rfl (Nat.le_of_ble_eq_true rfl) rfl rfl rfl ?_
    refine wq_aload_n (kk := 0) (q := 33) rfl rfl rfl ?_
    refine wq_getI (kz := 0) (q := 36) rfl f_Lo_19 rfl rfl (Or.inl ⟨rfl, Nat.le_of_ble_eq_true rfl⟩) rfl rfl ?_
    refine wq_iald (q := 37) rfl (Or.inl ⟨rfl, Nat.le_of_ble_eq_true rfl⟩) rfl rfl (by first | omega | (simp [hup] at *; omega)) (by first | omega | (simp [hup] at *; omega)) ?_
    refine wq_tabL (tg := [68, 95, 113, 131]) (td := 149) rfl rfl rfl (fun c37 => ?_) (tab_c (fun c37 => ?_) (tab_c (fun c37 => ?_) (tab_c (fun c37 => ?_) (tab_c (fun c37 => ?_) (tab_n)))))
    · skip
      refine wq_aload_n (kk := 1) (q := 150) rfl rfl rfl ?_
      refine wq_iload_n (kk := 2) (q := 151) rfl rfl rfl ?_
      refine wq_putI (kz := 4) (q := 154) rfl f_Lo_41 rfl rfl rfl (Or.inl ⟨rfl, Nat.le_of_ble_eq_true rfl⟩) rfl rfl ?_
      refine wq_vret rfl rfl (Nat.le_refl _) (Nat.le_refl _) ?_
      refine ⟨rfl, ?_, rfl⟩
      simp [hup, unl] at *
      first | done | (simp_all; done) | (rw [if_neg (by omega), if_neg (by omega), if_neg (by omega), if_neg (by omega)])
    · skip
      refine wq_aload_n (kk := 1) (q := 69) rfl rfl rfl ?_
      refine wq_getF (q := 72) f_Lo_26 rfl rfl (Nat.le_of_ble_eq_true rfl) rfl rfl rfl ?_
      refine wq_iload_n (kk := 2) (q := 73) rfl rfl rfl ?_
      refine wq_aload_n (kk := 0) (q := 74) rfl rfl rfl ?_
      refine wq_getF (q := 77) f_Lo_16 rfl rfl (Nat.le_of_ble_eq_true rfl) rfl rfl rfl ?_
      refine wq_aload_n (kk := 0) (q := 78) rfl rfl rfl ?_
      refine wq_getI (kz := 0) (q := 81) rfl f_Lo_19 rfl rfl (Or.inl ⟨rfl, Nat.le_of_ble_eq_true rfl⟩) rfl rfl ?_
      refine wq_iald (q := 82) rfl (Or.inl ⟨rfl, Nat.le_of_ble_eq_true rfl⟩) rfl rfl (by first | omega | (simp [hup] at *; omega)) (by first | omega | (simp [hup] at *; omega)) ?_
      refine wq_iconst (n := 1) (q := 83) rfl rfl rfl ?_
      refine wq_icmp_ne (tgt := 90) (q := 86) rfl rfl rfl (fun c83 => ?_) (fun c83 => ?_)
      · skip
        refine wq_iconst (n := 0) (q := 91) rfl rfl rfl ?_
        refine wq_zast (q := 92) rfl (Or.inl ⟨rfl, Nat.le_of_ble_eq_true rfl⟩) rfl rfl (by first | omega | (simp [hup] at *; omega)) (by first | omega | (simp [hup] at *; omega)) (by omega) ?_
        refine wq_goto (tgt := 154) rfl rfl ?_
        refine wq_vret rfl rfl (Nat.le_refl _) (Nat.le_refl _) ?_
        refine ⟨rfl, ?_, rfl⟩
        simp [hup, unl] at *
        first | done | (simp_all; done) | (rw [if_neg (by omega), if_neg (by omega), if_neg (by omega), if_neg (by omega)])
      · skip
        refine wq_iconst (n := 1) (q := 87) rfl rfl rfl ?_
        refine wq_goto (tgt := 91) rfl rfl ?_
        refine wq_zast (q := 92) rfl (Or.inl ⟨rfl, Nat.le_of_ble_eq_true rfl⟩) rfl rfl (by first | omega | (simp [hup] at *; omega)) (by first | omega | (simp [hup] at *; omega)) (by omega) ?_
        refine wq_goto (tgt := 154) rfl rfl ?_
        refine wq_vret rfl rfl (Nat.le_refl _) (Nat.le_refl _) ?_
        refine ⟨rfl, ?_, rfl⟩
        simp [hup, unl] at *
        first | done | (simp_all; done) | (rw [if_neg (by omega), if_neg (by omega), if_neg (by omega), if_neg (by omega)])
    · skip
      refine wq_aload_n (kk := 1) (q := 96) rfl rfl rfl ?_
      refine wq_getF (q := 99) f_Lo_32 rfl rfl (Nat.le_of_ble_eq_true rfl) rfl rfl rfl ?_
      refine wq_iload_n (kk := 2) (q := 100) rfl rfl rfl ?_
      refine wq_aload_n (kk := 0) (q := 101) rfl rfl rfl ?_
      refine wq_getF (q := 104) f_Lo_16 rfl rfl (Nat.le_of_ble_eq_true rfl) rfl rfl rfl ?_
      refine wq_aload_n (kk := 0) (q := 105) rfl rfl rfl ?_
      refine wq_getI (kz := 0) (q := 108) rfl f_Lo_19 rfl rfl (Or.inl ⟨rfl, Nat.le_of_ble_eq_true rfl⟩) rfl rfl ?_
      refine wq_iald (q := 109) rfl (Or.inl ⟨rfl, Nat.le_of_ble_eq_true rfl⟩) rfl rfl (by first | omega | (simp [hup] at *; omega)) (by first | omega | (simp [hup] at *; omega)) ?_
      refine wq_iast (q := 110) rfl (Or.inl ⟨rfl, Nat.le_of_ble_eq_true rfl⟩) rfl rfl (by first | omega | (simp [hup] at *; omega)) (by first | omega | (simp [hup] at *; omega)) ?_
      refine wq_goto (tgt := 154) rfl rfl ?_
      refine wq_vret rfl rfl (Nat.le_refl _) (Nat.le_refl _) ?_
      refine ⟨rfl, ?_, rfl⟩
      simp [hup, unl] at *
      first | done | (simp_all; done) | (rw [if_neg (by omega), if_neg (by omega), if_neg (by omega), if_neg (by omega)])
    · skip
      refine wq_aload_n (kk := 1) (q := 114) rfl rfl rfl ?_
      refine wq_getF (q := 117) f_Lo_35 rfl rfl (Nat.le_of_ble_eq_true rfl) rfl rfl rfl ?_
      refine wq_iload_n (kk := 2) (q := 118) rfl rfl rfl ?_
      refine wq_aload_n (kk := 0) (q := 119) rfl rfl rfl ?_
      refine wq_getF (q := 122) f_Lo_16 rfl rfl (Nat.le_of_ble_eq_true rfl) rfl rfl rfl ?_
      refine wq_aload_n (kk := 0) (q := 123) rfl rfl rfl ?_
      refine wq_getI (kz := 0) (q := 126) rfl f_Lo_19 rfl rfl (Or.inl ⟨rfl, Nat.le_of_ble_eq_true rfl⟩) rfl rfl ?_
      refine wq_iald (q := 127) rfl (Or.inl ⟨rfl, Nat.le_of_ble_eq_true rfl⟩) rfl rfl (by first | omega | (simp [hup] at *; omega)) (by first | omega | (simp [hup] at *; omega)) ?_
      refine wq_iast (q := 128) rfl (Or.inl ⟨rfl, Nat.le_of_ble_eq_true rfl⟩) rfl rfl (by first | omega | (simp [hup] at *; omega)) (by first | omega | (simp [hup] at *; omega)) ?_
      refine wq_goto (tgt := 154) rfl rfl ?_
      refine wq_vret rfl rfl (Nat.le_refl _) (Nat.le_refl _) ?_
      refine ⟨rfl, ?_, rfl⟩
      simp [hup, unl] at *
      first | done | (simp_all; done) | (rw [if_neg (by omega), if_neg (by omega), if_neg (by omega), if_neg (by omega)])
    · skip
      refine wq_aload_n (kk := 1) (q := 132) rfl rfl rfl ?_
      refine wq_getF (q := 135) f_Lo_38 rfl rfl (Nat.le_of_ble_eq_true rfl) rfl rfl rfl ?_
      refine wq_iload_n (kk := 2) (q := 136) rfl rfl rfl ?_
      refine wq_aload_n (kk := 0) (q := 137) rfl rfl rfl ?_
      refine wq_getF (q := 140) f_Lo_16 rfl rfl (Nat.le_of_ble_eq_true rfl) rfl rfl rfl ?_
      refine wq_aload_n (kk := 0) (q := 141) rfl rfl rfl ?_
      refine wq_getI (kz := 0) (q := 144) rfl f_Lo_19 rfl rfl (Or.inl ⟨rfl, Nat.le_of_ble_eq_true rfl⟩) rfl rfl ?_
      refine wq_iald (q := 145) rfl (Or.inl ⟨rfl, Nat.le_of_ble_eq_true rfl⟩) rfl rfl (by first | omega | (simp [hup] at *; omega)) (by first | omega | (simp [hup] at *; omega)) ?_
      refine wq_iast (q := 146) rfl (Or.inl ⟨rfl, Nat.le_of_ble_eq_true rfl⟩) rfl rfl (by first | omega | (simp [hup] at *; omega)) (by first | omega | (simp [hup] at *; omega)) ?_
      refine wq_goto (tgt := 154) rfl rfl ?_
      refine wq_vret rfl rfl (Nat.le_refl _) (Nat.le_refl _) ?_
      refine ⟨rfl, ?_, rfl⟩
      simp [hup, unl] at *
      first | done | (simp_all; done) | (rw [if_neg (by omega), if_neg (by omega), if_neg (by omega), if_neg (by omega)])
  · skip
    refine wq_vret rfl rfl (Nat.le_refl _) (Nat.le_refl _) ?_
    refine ⟨rfl, ?_, rfl⟩
    simp [hup, unl] at *
    first | done | (simp_all; done) | (rw [if_neg (by omega), if_neg (by omega), if_neg (by omega), if_neg (by omega)])
end
section
/-! NETS: how many departures and spots; when each leaves and arrives, from, to, line, runs; change and wait of spots -/
abbrev mF : Type := Int → Int
abbrev mN : Type := Int × Int × mF × mF × mF × mF × mF × mF × mF × mF
abbrev nN (N : mN) : Int := N.1
abbrev nS (N : mN) : Int := N.2.1
abbrev lv (N : mN) : mF := N.2.2.1
abbrev ar (N : mN) : mF := N.2.2.2.1
abbrev frm (N : mN) : mF := N.2.2.2.2.1
abbrev dst (N : mN) : mF := N.2.2.2.2.2.1
abbrev ln (N : mN) : mF := N.2.2.2.2.2.2.1
abbrev rn (N : mN) : mF := N.2.2.2.2.2.2.2.1
abbrev gp (N : mN) : mF := N.2.2.2.2.2.2.2.2.1
abbrev pt (N : mN) : mF := N.2.2.2.2.2.2.2.2.2
/-- a departure's number -/
def dp (N : mN) (d : Int) : Prop := 0 ≤ d ∧ d < nN N
def NV (N : mN) : Prop := (0 ≤ nN N ∧ nN N ≤ 120) ∧ (0 ≤ nS N ∧ nS N ≤ 10) ∧
  (∀ d, dp N d → (0 ≤ frm N d ∧ frm N d < nS N) ∧ (0 ≤ dst N d ∧ dst N d < nS N) ∧ (0 ≤ lv N d ∧ lv N d ≤ 1500) ∧ (lv N d < ar N d ∧ ar N d ≤ 1700) ∧ (rn N d = 0 ∨ rn N d = 1)) ∧
  ∀ s, 0 ≤ s → s < nS N → (0 ≤ gp N s ∧ gp N s ≤ 99) ∧ (pt N s = -2 ∨ 0 ≤ pt N s ∧ pt N s ≤ 999)
/-- one can ride e behind d, as far as times tell -/
def J (N : mN) (d e : Int) : Prop := 0 ≤ lv N e - ar N d ∧ (pt N (dst N d) = -2 ∨ lv N e - ar N d ≤ pt N (dst N d)) ∧ (ln N d = ln N e ∨ gp N (dst N d) ≤ lv N e - ar N d)
/-- the order of departures: by when they leave, of like ones by numbers -/
def ol (N : mN) (d e : Int) : Prop := lv N d < lv N e ∨ lv N d = lv N e ∧ d < e
/-- a row that holds each of 0 .. n-1 once -/
def Pm (o : mF) (n : Int) : Prop := (∀ i, 0 ≤ i → i < n → 0 ≤ o i ∧ o i < n) ∧ ∀ p : Int → Bool, cn (fun i => p (o i)) n.toNat = cn p n.toNat
theorem cn_pos {p : Int → Bool} : ∀ {k : Nat}, 0 < cn p k → ∃ d : Int, 0 ≤ d ∧ d < k ∧ p d = true
  | 0, h => by unfold cn at h; omega
  | k + 1, h => by
    unfold cn at h
    by_cases hp : p k = true
    · exact ⟨k, by omega, by omega, hp⟩
    · rw [if_neg hp] at h
      obtain ⟨d, h0, h1, h2⟩ := cn_pos (p := p) (k := k) (by omega)
      exact ⟨d, h0, by omega, h2⟩
theorem cn_one {p : Int → Bool} : ∀ {k : Nat} {d : Int}, 0 ≤ d → d < k → p d = true → 0 < cn p k
  | 0, d, h0, h1, _ => by omega
  | k + 1, d, h0, h1, hp => by
    unfold cn
    by_cases hk : d = k
    · subst hk
      have := cn_b p k
      rw [if_pos hp]; omega
    · have := cn_one (p := p) (k := k) h0 (by omega) hp
      split <;> omega
theorem cn_le1 {p : Int → Bool} : ∀ {k : Nat}, cn p k ≤ 1 → ∀ {i j : Int}, 0 ≤ i → i < j → j < k → p i = true → p j = true → False
  | 0, _, i, j, h0, h1, h2, _, _ => by omega
  | k + 1, h, i, j, h0, h1, h2, hi, hj => by
    unfold cn at h
    by_cases hk : j = k
    · subst hk
      have := cn_one (p := p) (k := k) h0 h1 hi
      rw [if_pos hj] at h; omega
    · have hb := cn_b p k
      exact cn_le1 (p := p) (k := k) (by split at h <;> omega) h0 h1 (by omega) hi hj
theorem cn_eq (d : Int) : ∀ {k : Nat}, 0 ≤ d → d < k → cn (fun x => x == d) k = 1
  | 0, h0, h1 => by omega
  | k + 1, h0, h1 => by
    unfold cn
    by_cases hk : d = k
    · subst hk
      have : cn (fun x => x == (k : Int)) k = 0 := by
        have hz : cn (fun x => x == (k : Int)) k = cn (fun _ => false) k := cn_congr (fun d h0 h1 => by simp; omega)
        rw [hz]
        have : ∀ n : Nat, cn (fun _ => false) n = 0 := by
          intro n
          induction n with
          | zero => rfl
          | succ n ih => unfold cn; rw [ih]; rfl
        exact this k
      rw [this]; simp
    · have := cn_eq d (k := k) h0 (by omega)
      rw [this]
      have hne : ((k : Int) == d) = false := by simp; omega
      rw [hne]; rfl
theorem Pm.sur {o : mF} {n : Int} (h : Pm o n) {d : Int} (h0 : 0 ≤ d) (h1 : d < n) : ∃ i, 0 ≤ i ∧ i < n ∧ o i = d := by
  have := h.2 (fun x => x == d)
  rw [cn_eq d h0 (by omega)] at this
  obtain ⟨i, i0, i1, i2⟩ := cn_pos (p := fun i => o i == d) (k := n.toNat) (by omega)
  exact ⟨i, i0, by omega, by simpa using i2⟩
theorem Pm.inj {o : mF} {n : Int} (h : Pm o n) {i j : Int} (h0 : 0 ≤ i) (h1 : i < j) (h2 : j < n) : o i ≠ o j := by
  intro e
  have hi := h.1 i h0 (by omega)
  have := h.2 (fun x => x == o i)
  rw [cn_eq (o i) hi.1 (by omega)] at this
  exact cn_le1 (p := fun x => o x == o i) (k := n.toNat) (by omega) h0 h1 (by omega) (by simp) (by simp [e])
/-- two neighbours change places -/
theorem cn_swap {f g : Int → Bool} {k : Int} (h1 : 1 ≤ k) (hk : g k = f (k - 1)) (hk1 : g (k - 1) = f k) (ho : ∀ i, i ≠ k → i ≠ k - 1 → g i = f i) : ∀ {n : Nat}, k < n → cn g n = cn f n
  | 0, hn => by omega
  | n + 1, hn => by
    by_cases hkn : k = n
    · obtain ⟨m, rfl⟩ : ∃ m : Nat, n = m + 1 := ⟨n - 1, by omega⟩
      subst hkn
      have e1 : ((m + 1 : Nat) : Int) - 1 = m := by omega
      rw [e1] at hk hk1 ho
      have e2 : cn g m = cn f m := cn_congr (fun d h0 h1 => ho d (by omega) (by omega))
      simp only [cn]
      rw [e2, hk, hk1]
      omega
    · have ih := cn_swap h1 hk hk1 ho (n := n) (by omega)
      unfold cn
      rw [ih, ho n (by omega) (by omega)]
theorem Pm.swap {o o' : mF} {n k : Int} (h : Pm o n) (h1 : 1 ≤ k) (h2 : k < n) (hk : o' k = o (k - 1)) (hk1 : o' (k - 1) = o k) (ho : ∀ i, i ≠ k → i ≠ k - 1 → o' i = o i) : Pm o' n := by
  refine ⟨fun i i0 i1 => ?_, fun p => ?_⟩
  · by_cases e1 : i = k
    · subst e1; rw [hk]; exact h.1 _ (by omega) (by omega)
    · by_cases e2 : i = k - 1
      · subst e2; rw [hk1]; exact h.1 _ (by omega) (by omega)
      · rw [ho i e1 e2]; exact h.1 i i0 i1
  · rw [← h.2 p]
    exact cn_swap (f := fun i => p (o i)) (g := fun i => p (o' i)) h1 (by simp [hk]) (by simp [hk1]) (fun i a b => by simp [ho i a b]) (by omega)
theorem Pm.congr {o o' : mF} {n : Int} (h : Pm o n) (he : ∀ i, 0 ≤ i → i < n → o' i = o i) : Pm o' n :=
  ⟨fun i i0 i1 => by rw [he i i0 i1]; exact h.1 i i0 i1, fun p => by rw [← h.2 p]; exact cn_congr (fun d d0 d1 => by rw [he d d0 (by omega)])⟩
/-- the rows of cell 31 as they are for N, but for order and groups -/
def isN (h : mH) (N : mN) : Prop := h 31 0 = nN N ∧ h 2 1 = nS N ∧ (∀ d, dp N d → h 32 d = lv N d ∧ h 33 d = ar N d ∧ h 6 d = frm N d ∧ h 7 d = dst N d ∧ h 5 d = ln N d ∧ h 34 d = rn N d) ∧ ∀ s, 0 ≤ s → s < nS N → h 38 s = gp N s ∧ h 39 s = pt N s
/-- the order is right -/
def isO (h : mH) (N : mN) : Prop := Pm (h 35) (nN N) ∧ ∀ i j, 0 ≤ i → i < j → j < nN N → ol N (h 35 i) (h 35 j)
/-- the groups are right -/
def isG (h : mH) (N : mN) : Prop := (∀ s, 0 ≤ s → s < nS N → 0 ≤ h 37 s ∧ h 37 s ≤ h 37 (s + 1) ∧ h 37 (s + 1) ≤ nN N) ∧
  (∀ s p, 0 ≤ s → s < nS N → h 37 s ≤ p → p < h 37 (s + 1) → dp N (h 36 p) ∧ frm N (h 36 p) = s) ∧
  (∀ d, dp N d → ∃ p, h 37 (frm N d) ≤ p ∧ p < h 37 (frm N d + 1) ∧ h 36 p = d) ∧
  ∀ s p q, 0 ≤ s → s < nS N → h 37 s ≤ p → p < q → q < h 37 (s + 1) → ol N (h 36 p) (h 36 q)
end
section
/-! LinkTimes$Net: cell 31 -/
set_option maxRecDepth 100000 in
theorem Ne_isTurn_ok (N : mN) (d e : Int) (h : mH) (r : mR) (hnde : r.1 31 7 = some 2) (hV : NV N) (hN : isN h N) (hd : dp N d) (he : dp N e) : Meets true (rm 1) m_Ne_isTurn [vR 31, vI d, vI e] h r (pI (bI (ln N d ≠ ln N e)) h r) := by
  have h1 := (hN.2.2.1 d hd).2.2.2.2.1
  have h2 := (hN.2.2.1 e he).2.2.2.2.1
  have hv := hV.1
  obtain ⟨d0, d1⟩ := hd
  obtain ⟨e0, e1⟩ := he
  refine ⟨ok_Ne_isTurn, Nat.le_of_ble_eq_true rfl, ?_⟩
  refine wq_aload_n (kk := 0) (q := 1) rfl rfl rfl ?_
  refine wq_getR (q := 4) f_Ne_37 rfl rfl (Or.inl ⟨rfl, Nat.le_of_ble_eq_true rfl⟩) hnde rfl rfl ?_
  refine wq_getF (q := 7) f_Ne_92 rfl rfl (Nat.le_of_ble_eq_true rfl) rfl rfl rfl ?_
  refine wq_iload_n (kk := 1) (q := 8) rfl rfl rfl ?_
  refine wq_iald (q := 9) rfl (Or.inl ⟨rfl, Nat.le_of_ble_eq_true rfl⟩) rfl rfl (by first | omega | (simp [hup]; omega)) (by first | omega | (simp [hup]; omega)) ?_
  refine wq_aload_n (kk := 0) (q := 10) rfl rfl rfl ?_
  refine wq_getR (q := 13) f_Ne_37 rfl rfl (Or.inl ⟨rfl, Nat.le_of_ble_eq_true rfl⟩) hnde rfl rfl ?_
  refine wq_getF (q := 16) f_Ne_92 rfl rfl (Nat.le_of_ble_eq_true rfl) rfl rfl rfl ?_
  refine wq_iload_n (kk := 2) (q := 17) rfl rfl rfl ?_
  refine wq_iald (q := 18) rfl (Or.inl ⟨rfl, Nat.le_of_ble_eq_true rfl⟩) rfl rfl (by first | omega | (simp [hup]; omega)) (by first | omega | (simp [hup]; omega)) ?_
  refine wq_icmp_eq (tgt := 25) (q := 21) rfl rfl rfl (fun c18 => ?_) (fun c18 => ?_)
  · skip
    refine wq_iconst (n := 0) (q := 26) rfl rfl rfl ?_
    refine wq_zret rfl rfl (Nat.le_refl _) (Nat.le_refl _) (by omega) ?_
    first | exact ⟨rfl, rfl, rfl⟩ | exact pB_t (by omega) | exact pB_f (by omega) | exact pC_t (by omega) | exact pC_f (by omega) | (exfalso; omega)
  · skip
    refine wq_iconst (n := 1) (q := 22) rfl rfl rfl ?_
    refine wq_goto (tgt := 26) rfl rfl ?_
    refine wq_zret rfl rfl (Nat.le_refl _) (Nat.le_refl _) (by omega) ?_
    first | exact ⟨rfl, rfl, rfl⟩ | exact pB_t (by omega) | exact pB_f (by omega) | exact pC_t (by omega) | exact pC_f (by omega) | (exfalso; omega)
set_option maxRecDepth 100000 in
theorem Ne_joins_ok (N : mN) (d e : Int) (h : mH) (r : mR) (hnde : r.1 31 7 = some 2) (hV : NV N) (hN : isN h N) (hd : dp N d) (he : dp N e) : Meets true (rm 2) m_Ne_joins [vR 31, vI d, vI e] h r (pI (bI (J N d e)) h r) := by
  have h1 := hN.2.2.1 d hd
  have h2 := hN.2.2.1 e he
  have v1 := hV.2.2.1 d hd
  have v2 := hV.2.2.1 e he
  have hv := hV.1
  have hs := hV.2.1
  have h3 := hN.2.2.2 (dst N d) (by omega) (by omega)
  have hd' := hd
  have he' := he
  obtain ⟨d0, d1⟩ := hd'
  obtain ⟨e0, e1⟩ := he'
  refine ⟨ok_Ne_joins, Nat.le_of_ble_eq_true rfl, ?_⟩
  refine wq_aload_n (kk := 0) (q := 1) rfl rfl rfl ?_
  refine wq_getR (q := 4) f_Ne_37 rfl rfl (Or.inl ⟨rfl, Nat.le_of_ble_eq_true rfl⟩) hnde rfl rfl ?_
  refine wq_getF (q := 7) f_Ne_85 rfl rfl (Nat.le_of_ble_eq_true rfl) rfl rfl rfl ?_
  refine wq_iload_n (kk := 1) (q := 8) rfl rfl rfl ?_
  refine wq_iald (q := 9) rfl (Or.inl ⟨rfl, Nat.le_of_ble_eq_true rfl⟩) rfl rfl (by first | omega | (rw [h1.2.2.2.1]; omega)) (by first | omega | (rw [h1.2.2.2.1]; omega)) ?_
  refine wq_istore_n (kk := 3) (q := 10) rfl rfl (Nat.le_of_ble_eq_true rfl) rfl ?_
  refine wq_aload_n (kk := 0) (q := 11) rfl rfl rfl ?_
  refine wq_getF (q := 14) f_Ne_9 rfl rfl (Nat.le_of_ble_eq_true rfl) rfl rfl rfl ?_
  refine wq_iload_n (kk := 2) (q := 15) rfl rfl rfl ?_
  refine wq_iald (q := 16) rfl (Or.inl ⟨rfl, Nat.le_of_ble_eq_true rfl⟩) rfl rfl (by first | omega | (rw [h1.2.2.2.1]; omega)) (by first | omega | (rw [h1.2.2.2.1]; omega)) ?_
  refine wq_aload_n (kk := 0) (q := 17) rfl rfl rfl ?_
  refine wq_getF (q := 20) f_Ne_15 rfl rfl (Nat.le_of_ble_eq_true rfl) rfl rfl rfl ?_
  refine wq_iload_n (kk := 1) (q := 21) rfl rfl rfl ?_
  refine wq_iald (q := 22) rfl (Or.inl ⟨rfl, Nat.le_of_ble_eq_true rfl⟩) rfl rfl (by first | omega | (rw [h1.2.2.2.1]; omega)) (by first | omega | (rw [h1.2.2.2.1]; omega)) ?_
  refine wq_isub (q := 23) rfl rfl (by first | omega | (rw [h1.2.2.2.1]; omega)) (by first | omega | (rw [h1.2.2.2.1]; omega)) ?_
  refine wq_istore (i := 4) (q := 25) rfl rfl (Nat.le_of_ble_eq_true rfl) rfl ?_
  refine wq_iload (i := 4) (q := 27) rfl rfl rfl ?_
  refine wq_if_lt (tgt := 52) (q := 30) rfl rfl rfl (fun c27 => ?_) (fun c27 => ?_)
  · skip
    refine wq_iconst (n := 0) (q := 53) rfl rfl rfl ?_
    refine wq_zret rfl rfl (Nat.le_refl _) (Nat.le_refl _) (by omega) ?_
    rw [h1.2.2.2.1] at *
    first
      | exact pC_t (by unfold J; omega)
      | exact pC_f (by unfold J; omega)
  · skip
    refine wq_aload_n (kk := 0) (q := 31) rfl rfl rfl ?_
    refine wq_getF (q := 34) f_Ne_34 rfl rfl (Nat.le_of_ble_eq_true rfl) rfl rfl rfl ?_
    refine wq_iload_n (kk := 3) (q := 35) rfl rfl rfl ?_
    refine wq_iald (q := 36) rfl (Or.inl ⟨rfl, Nat.le_of_ble_eq_true rfl⟩) rfl rfl (by first | omega | (rw [h1.2.2.2.1]; omega)) (by first | omega | (rw [h1.2.2.2.1]; omega)) ?_
    refine wq_bipush (n := -2) (q := 38) rfl rfl rfl ?_
    refine wq_icmp_eq (tgt := 54) (q := 41) rfl rfl rfl (fun c38 => ?_) (fun c38 => ?_)
    · skip
      refine wq_aload_n (kk := 0) (q := 55) rfl rfl rfl ?_
      refine wq_iload_n (kk := 1) (q := 56) rfl rfl rfl ?_
      refine wq_iload_n (kk := 2) (q := 57) rfl rfl rfl ?_
      refine wq_callV (q := 60) (m' := m_Ne_isTurn) (R' := rm 1) (As := [_, _]) rfl rfl l_Ne_88 vm_Ne_isTurn rfl rfl rfl (Or.inl ⟨rfl, Nat.le_of_ble_eq_true rfl⟩) (Nat.le_of_ble_eq_true rfl) (Nat.le_of_ble_eq_true rfl) (Nat.le_refl _) (Nat.le_refl _) (Nat.le_of_ble_eq_true rfl) (Ne_isTurn_ok N d e h r hnde hV hN hd he) rfl ?_
      rintro rv h' r' ⟨rfl, rfl, rfl⟩ -
      refine wq_cif_eq (tgt := 74) (q := 63) rfl rfl rfl (fun c60 => ?_) (fun c60 => ?_)
      · skip
        refine wq_iconst (n := 1) (q := 75) rfl rfl rfl ?_
        refine wq_goto (tgt := 79) rfl rfl ?_
        refine wq_zret rfl rfl (Nat.le_refl _) (Nat.le_refl _) (by omega) ?_
        rw [h1.2.2.2.1] at *
        first
          | exact pC_t (by unfold J; omega)
          | exact pC_f (by unfold J; omega)
      · skip
        refine wq_iload (i := 4) (q := 65) rfl rfl rfl ?_
        refine wq_aload_n (kk := 0) (q := 66) rfl rfl rfl ?_
        refine wq_getF (q := 69) f_Ne_31 rfl rfl (Nat.le_of_ble_eq_true rfl) rfl rfl rfl ?_
        refine wq_iload_n (kk := 3) (q := 70) rfl rfl rfl ?_
        refine wq_iald (q := 71) rfl (Or.inl ⟨rfl, Nat.le_of_ble_eq_true rfl⟩) rfl rfl (by first | omega | (rw [h1.2.2.2.1]; omega)) (by first | omega | (rw [h1.2.2.2.1]; omega)) ?_
        refine wq_icmp_lt (tgt := 78) (q := 74) rfl rfl rfl (fun c71 => ?_) (fun c71 => ?_)
        · skip
          refine wq_iconst (n := 0) (q := 79) rfl rfl rfl ?_
          refine wq_zret rfl rfl (Nat.le_refl _) (Nat.le_refl _) (by omega) ?_
          rw [h1.2.2.2.1] at *
          first
            | exact pC_t (by unfold J; omega)
            | exact pC_f (by unfold J; omega)
        · skip
          refine wq_iconst (n := 1) (q := 75) rfl rfl rfl ?_
          refine wq_goto (tgt := 79) rfl rfl ?_
          refine wq_zret rfl rfl (Nat.le_refl _) (Nat.le_refl _) (by omega) ?_
          rw [h1.2.2.2.1] at *
          first
            | exact pC_t (by unfold J; omega)
            | exact pC_f (by unfold J; omega)
    · skip
      refine wq_iload (i := 4) (q := 43) rfl rfl rfl ?_
      refine wq_aload_n (kk := 0) (q := 44) rfl rfl rfl ?_
      refine wq_getF (q := 47) f_Ne_34 rfl rfl (Nat.le_of_ble_eq_true rfl) rfl rfl rfl ?_
      refine wq_iload_n (kk := 3) (q := 48) rfl rfl rfl ?_
      refine wq_iald (q := 49) rfl (Or.inl ⟨rfl, Nat.le_of_ble_eq_true rfl⟩) rfl rfl (by first | omega | (rw [h1.2.2.2.1]; omega)) (by first | omega | (rw [h1.2.2.2.1]; omega)) ?_
      refine wq_icmp_le (tgt := 54) (q := 52) rfl rfl rfl (fun c49 => ?_) (fun c49 => ?_)
      · skip
        refine wq_aload_n (kk := 0) (q := 55) rfl rfl rfl ?_
        refine wq_iload_n (kk := 1) (q := 56) rfl rfl rfl ?_
        refine wq_iload_n (kk := 2) (q := 57) rfl rfl rfl ?_
        refine wq_callV (q := 60) (m' := m_Ne_isTurn) (R' := rm 1) (As := [_, _]) rfl rfl l_Ne_88 vm_Ne_isTurn rfl rfl rfl (Or.inl ⟨rfl, Nat.le_of_ble_eq_true rfl⟩) (Nat.le_of_ble_eq_true rfl) (Nat.le_of_ble_eq_true rfl) (Nat.le_refl _) (Nat.le_refl _) (Nat.le_of_ble_eq_true rfl) (Ne_isTurn_ok N d e h r hnde hV hN hd he) rfl ?_
        rintro rv h' r' ⟨rfl, rfl, rfl⟩ -
        refine wq_cif_eq (tgt := 74) (q := 63) rfl rfl rfl (fun c60 => ?_) (fun c60 => ?_)
        · skip
          refine wq_iconst (n := 1) (q := 75) rfl rfl rfl ?_
          refine wq_goto (tgt := 79) rfl rfl ?_
          refine wq_zret rfl rfl (Nat.le_refl _) (Nat.le_refl _) (by omega) ?_
          rw [h1.2.2.2.1] at *
          first
            | exact pC_t (by unfold J; omega)
            | exact pC_f (by unfold J; omega)
        · skip
          refine wq_iload (i := 4) (q := 65) rfl rfl rfl ?_
          refine wq_aload_n (kk := 0) (q := 66) rfl rfl rfl ?_
          refine wq_getF (q := 69) f_Ne_31 rfl rfl (Nat.le_of_ble_eq_true rfl) rfl rfl rfl ?_
          refine wq_iload_n (kk := 3) (q := 70) rfl rfl rfl ?_
          refine wq_iald (q := 71) rfl (Or.inl ⟨rfl, Nat.le_of_ble_eq_true rfl⟩) rfl rfl (by first | omega | (rw [h1.2.2.2.1]; omega)) (by first | omega | (rw [h1.2.2.2.1]; omega)) ?_
          refine wq_icmp_lt (tgt := 78) (q := 74) rfl rfl rfl (fun c71 => ?_) (fun c71 => ?_)
          · skip
            refine wq_iconst (n := 0) (q := 79) rfl rfl rfl ?_
            refine wq_zret rfl rfl (Nat.le_refl _) (Nat.le_refl _) (by omega) ?_
            rw [h1.2.2.2.1] at *
            first
              | exact pC_t (by unfold J; omega)
              | exact pC_f (by unfold J; omega)
          · skip
            refine wq_iconst (n := 1) (q := 75) rfl rfl rfl ?_
            refine wq_goto (tgt := 79) rfl rfl ?_
            refine wq_zret rfl rfl (Nat.le_refl _) (Nat.le_refl _) (by omega) ?_
            rw [h1.2.2.2.1] at *
            first
              | exact pC_t (by unfold J; omega)
              | exact pC_f (by unfold J; omega)
      · skip
        refine wq_iconst (n := 0) (q := 53) rfl rfl rfl ?_
        refine wq_zret rfl rfl (Nat.le_refl _) (Nat.le_refl _) (by omega) ?_
        rw [h1.2.2.2.1] at *
        first
          | exact pC_t (by unfold J; omega)
          | exact pC_f (by unfold J; omega)
set_option maxRecDepth 100000 in
theorem Ne_isBehind_ok (d e : Int) (h : mH) (r : mR) (hd : 0 ≤ d ∧ d < 120) (he : 0 ≤ e ∧ e < 120) : Meets true (rm 1) m_Ne_isBehind [vR 31, vI d, vI e] h r (pI (bI (h 32 e < h 32 d ∨ h 32 e = h 32 d ∧ e < d)) h r) := by
  refine ⟨ok_Ne_isBehind, Nat.le_of_ble_eq_true rfl, ?_⟩
  refine wq_aload_n (kk := 0) (q := 1) rfl rfl rfl ?_
  refine wq_getF (q := 4) f_Ne_9 rfl rfl (Nat.le_of_ble_eq_true rfl) rfl rfl rfl ?_
  refine wq_iload_n (kk := 1) (q := 5) rfl rfl rfl ?_
  refine wq_iald (q := 6) rfl (Or.inl ⟨rfl, Nat.le_of_ble_eq_true rfl⟩) rfl rfl (by first | omega | (simp [hup]; omega)) (by first | omega | (simp [hup]; omega)) ?_
  refine wq_aload_n (kk := 0) (q := 7) rfl rfl rfl ?_
  refine wq_getF (q := 10) f_Ne_9 rfl rfl (Nat.le_of_ble_eq_true rfl) rfl rfl rfl ?_
  refine wq_iload_n (kk := 2) (q := 11) rfl rfl rfl ?_
  refine wq_iald (q := 12) rfl (Or.inl ⟨rfl, Nat.le_of_ble_eq_true rfl⟩) rfl rfl (by first | omega | (simp [hup]; omega)) (by first | omega | (simp [hup]; omega)) ?_
  refine wq_icmp_gt (tgt := 35) (q := 15) rfl rfl rfl (fun c12 => ?_) (fun c12 => ?_)
  · skip
    refine wq_iconst (n := 1) (q := 36) rfl rfl rfl ?_
    refine wq_goto (tgt := 40) rfl rfl ?_
    refine wq_zret rfl rfl (Nat.le_refl _) (Nat.le_refl _) (by omega) ?_
    first | exact ⟨rfl, rfl, rfl⟩ | exact pB_t (by omega) | exact pB_f (by omega) | exact pC_t (by omega) | exact pC_f (by omega) | (exfalso; omega)
  · skip
    refine wq_aload_n (kk := 0) (q := 16) rfl rfl rfl ?_
    refine wq_getF (q := 19) f_Ne_9 rfl rfl (Nat.le_of_ble_eq_true rfl) rfl rfl rfl ?_
    refine wq_iload_n (kk := 1) (q := 20) rfl rfl rfl ?_
    refine wq_iald (q := 21) rfl (Or.inl ⟨rfl, Nat.le_of_ble_eq_true rfl⟩) rfl rfl (by first | omega | (simp [hup]; omega)) (by first | omega | (simp [hup]; omega)) ?_
    refine wq_aload_n (kk := 0) (q := 22) rfl rfl rfl ?_
    refine wq_getF (q := 25) f_Ne_9 rfl rfl (Nat.le_of_ble_eq_true rfl) rfl rfl rfl ?_
    refine wq_iload_n (kk := 2) (q := 26) rfl rfl rfl ?_
    refine wq_iald (q := 27) rfl (Or.inl ⟨rfl, Nat.le_of_ble_eq_true rfl⟩) rfl rfl (by first | omega | (simp [hup]; omega)) (by first | omega | (simp [hup]; omega)) ?_
    refine wq_icmp_ne (tgt := 39) (q := 30) rfl rfl rfl (fun c27 => ?_) (fun c27 => ?_)
    · skip
      refine wq_iconst (n := 0) (q := 40) rfl rfl rfl ?_
      refine wq_zret rfl rfl (Nat.le_refl _) (Nat.le_refl _) (by omega) ?_
      first | exact ⟨rfl, rfl, rfl⟩ | exact pB_t (by omega) | exact pB_f (by omega) | exact pC_t (by omega) | exact pC_f (by omega) | (exfalso; omega)
    · skip
      refine wq_iload_n (kk := 1) (q := 31) rfl rfl rfl ?_
      refine wq_iload_n (kk := 2) (q := 32) rfl rfl rfl ?_
      refine wq_icmp_le (tgt := 39) (q := 35) rfl rfl rfl (fun c32 => ?_) (fun c32 => ?_)
      · skip
        refine wq_iconst (n := 0) (q := 40) rfl rfl rfl ?_
        refine wq_zret rfl rfl (Nat.le_refl _) (Nat.le_refl _) (by omega) ?_
        first | exact ⟨rfl, rfl, rfl⟩ | exact pB_t (by omega) | exact pB_f (by omega) | exact pC_t (by omega) | exact pC_f (by omega) | (exfalso; omega)
      · skip
        refine wq_iconst (n := 1) (q := 36) rfl rfl rfl ?_
        refine wq_goto (tgt := 40) rfl rfl ?_
        refine wq_zret rfl rfl (Nat.le_refl _) (Nat.le_refl _) (by omega) ?_
        first | exact ⟨rfl, rfl, rfl⟩ | exact pB_t (by omega) | exact pB_f (by omega) | exact pC_t (by omega) | exact pC_f (by omega) | (exfalso; omega)
end
section
theorem cn_min {p : Int → Bool} {n : Int} (hn : 0 ≤ n) : ∀ {c : Nat}, cn (fun d => p d && decide (d < n)) c = cn p (min (c : Int) n).toNat
  | 0 => by
    have e : (min ((0 : Nat) : Int) n).toNat = 0 := by omega
    rw [e]; rfl
  | c + 1 => by
    show cn (fun d => p d && decide (d < n)) c + (if (p c && decide ((c : Int) < n)) = true then 1 else 0) = _
    rw [cn_min hn (c := c)]
    by_cases hc : (c : Int) < n
    · have e : (min ((c + 1 : Nat) : Int) n).toNat = (min (c : Int) n).toNat + 1 := by omega
      have e2 : (min (c : Int) n).toNat = c := by omega
      rw [e, e2, cn]
      simp [hc]
    · have e : (min ((c + 1 : Nat) : Int) n).toNat = (min (c : Int) n).toNat := by omega
      rw [e]
      simp [hc]
def kK (h h' : mH) (n k i : Int) : Prop := fr [35] h h' ∧ (0 ≤ k ∧ k ≤ i) ∧ (∀ j, i ≤ j → h' 35 j = h 35 j) ∧ (∀ j, 0 ≤ j → j < k → 0 ≤ h' 35 j ∧ h' 35 j < n) ∧ ∀ p : Int → Bool, cn (fun j => p (h' 35 j)) k.toNat = cn (fun j => p (h 35 j) && decide (h 35 j < n)) i.toNat
abbrev keepQ (h : mH) (r : mR) (n : Int) : mP := fun rv h1 r1 => rv = none ∧ r1 = r ∧ fr [31, 35] h h1 ∧ h1 31 0 = n ∧ Pm (h1 35) n
set_option maxRecDepth 100000 in
set_option maxHeartbeats 1000000 in
theorem Ne_keep2 (n : Int) (h : mH) (r : mR) (hn : 0 ≤ n ∧ n ≤ 120) (k : Int) : ∀ (M : Nat) (d : Int) (h' : mH), (n - d).toNat = M → 0 ≤ d → d ≤ n → fr [35] h h' → (∀ j, 0 ≤ j → j < d → 0 ≤ h' 35 j ∧ h' 35 j < n) → (∀ p : Int → Bool, cn (fun j => p (h' 35 j)) d.toNat = cn p d.toNat) → WP (true, rm 1) m_Ne_keepOrder (rt m_Ne_keepOrder (rm 1) (keepQ h r n)) 45 [some (vR 31), some (vI n), some (vI k), some (vI d)] [] h' r (0, 0) := by
  intro M
  induction M using Nat.strongRecOn with
  | ind M ih =>
    intro d h' hM h0 h1 hf hb hc
    refine wq_iload_n (kk := 3) (q := 46) rfl rfl rfl ?_
    refine wq_iload_n (kk := 1) (q := 47) rfl rfl rfl ?_
    refine wq_icmp_ge (tgt := 63) (q := 50) rfl rfl rfl (fun c47 => ?_) (fun c47 => ?_)
    · skip
      refine wq_aload_n (kk := 0) (q := 64) rfl rfl rfl ?_
      refine wq_iload_n (kk := 1) (q := 65) rfl rfl rfl ?_
      refine wq_putI (kz := 0) (q := 68) rfl f_Ne_60 rfl rfl rfl (Or.inl ⟨rfl, Nat.le_of_ble_eq_true rfl⟩) rfl rfl ?_
      have e : d = n := by omega
      subst e
      refine wq_vret rfl rfl (Nat.le_refl _) (Nat.le_refl _) ⟨rfl, rfl, (hf.mono (by decide)).up (by decide), hup_s, ?_⟩
      rw [hup_ne (by decide)]
      exact ⟨fun i i0 i1 => hb i i0 i1, fun p => hc p⟩
    · skip
      refine wq_aload_n (kk := 0) (q := 51) rfl rfl rfl ?_
      refine wq_getF (q := 54) f_Ne_22 rfl rfl (Nat.le_of_ble_eq_true rfl) rfl rfl rfl ?_
      refine wq_iload_n (kk := 3) (q := 55) rfl rfl rfl ?_
      refine wq_iload_n (kk := 3) (q := 56) rfl rfl rfl ?_
      refine wq_iast (q := 57) rfl (Or.inl ⟨rfl, Nat.le_of_ble_eq_true rfl⟩) rfl rfl (by first | omega | (simp [hup]; omega)) (by first | omega | (simp [hup]; omega)) ?_
      refine wq_iinc (i := 3) (n := 1) (q := 60) rfl rfl rfl (Nat.le_of_ble_eq_true rfl) rfl (by first | omega | (simp [hup]; omega)) (by first | omega | (simp [hup]; omega)) ?_
      refine wq_goto (tgt := 45) rfl rfl ?_
      refine ih _ ?_ (d + 1) _ rfl (by omega) (by omega) (hf.up (by decide)) (fun j j0 j1 => ?_) (fun p => ?_)
      · omega
      · by_cases e : j = d
        · subst e; rw [hup_s]; omega
        · rw [hup_j e]; exact hb j j0 (by omega)
      · rw [cn_s h0, cn_s h0, hup_s, ← hc p]
        congr 1
        exact cn_congr (fun j j0 j1 => by rw [hup_j (by omega)])
set_option maxRecDepth 100000 in
set_option maxHeartbeats 1000000 in
theorem Ne_keep1 (n : Int) (h : mH) (r : mR) (hn : 0 ≤ n ∧ n ≤ 120) (hc : 0 ≤ h 31 0 ∧ h 31 0 ≤ 120) (hP : Pm (h 35) (h 31 0)) : ∀ (M : Nat) (k i : Int) (h' : mH), (h 31 0 - i).toNat = M → i ≤ h 31 0 → kK h h' n k i → WP (true, rm 1) m_Ne_keepOrder (rt m_Ne_keepOrder (rm 1) (keepQ h r n)) 4 [some (vR 31), some (vI n), some (vI k), some (vI i)] [] h' r (0, 0) := by
  intro M
  induction M using Nat.strongRecOn with
  | ind M ih =>
    intro k i h' hM hi hk
    obtain ⟨f1, f2, f3, f4, f5⟩ := id hk
    have c0 : h' 31 0 = h 31 0 := f1.at 31 0 (by decide)
    have hoi := f3 i (by omega)
    refine wq_iload_n (kk := 3) (q := 5) rfl rfl rfl ?_
    refine wq_aload_n (kk := 0) (q := 6) rfl rfl rfl ?_
    refine wq_getI (kz := 0) (q := 9) rfl f_Ne_60 rfl rfl (Or.inl ⟨rfl, Nat.le_of_ble_eq_true rfl⟩) rfl rfl ?_
    refine wq_icmp_ge (tgt := 43) (q := 12) rfl rfl rfl (fun c9 => ?_) (fun c9 => ?_)
    · skip
      refine wq_iload_n (kk := 2) (q := 44) rfl rfl rfl ?_
      refine wq_istore_n (kk := 3) (q := 45) rfl rfl (Nat.le_of_ble_eq_true rfl) rfl ?_
      have e : i = h 31 0 := by omega
      subst e
      have g : ∀ p : Int → Bool, cn (fun j => p (h' 35 j)) k.toNat = cn p (min (h 31 0) n).toNat := by
        intro p
        rw [f5 p, hP.2 (fun x => p x && decide (x < n)), cn_min hn.1]
        congr 2
        omega
      have hkm : k = min (h 31 0) n := by
        have tt : ∀ m : Nat, cn (fun _ => true) m = m := by
          intro m
          induction m with
          | zero => rfl
          | succ m ihm => unfold cn; rw [ihm]; simp
        have := g (fun _ => true)
        rw [tt, tt] at this
        omega
      refine Ne_keep2 n h r hn k _ k h' rfl (by omega) (by omega) f1 (fun j j0 j1 => f4 j j0 j1) (fun p => ?_)
      rw [g p, ← hkm]
    · skip
      refine wq_aload_n (kk := 0) (q := 13) rfl rfl rfl ?_
      refine wq_getF (q := 16) f_Ne_22 rfl rfl (Nat.le_of_ble_eq_true rfl) rfl rfl rfl ?_
      refine wq_iload_n (kk := 3) (q := 17) rfl rfl rfl ?_
      refine wq_iald (q := 18) rfl (Or.inl ⟨rfl, Nat.le_of_ble_eq_true rfl⟩) rfl rfl (by first | omega | (simp [hup]; omega)) (by first | omega | (simp [hup]; omega)) ?_
      refine wq_iload_n (kk := 1) (q := 19) rfl rfl rfl ?_
      refine wq_icmp_ge (tgt := 37) (q := 22) rfl rfl rfl (fun c19 => ?_) (fun c19 => ?_)
      · skip
        refine wq_iinc (i := 3) (n := 1) (q := 40) rfl rfl rfl (Nat.le_of_ble_eq_true rfl) rfl (by first | omega | (simp [hup]; omega)) (by first | omega | (simp [hup]; omega)) ?_
        refine wq_goto (tgt := 4) rfl rfl ?_
        refine ih _ ?_ _ (i + 1) _ rfl (by omega) ?_
        · omega
        · first
            | (refine ⟨f1, by omega, fun j j1 => f3 j (by omega), f4, fun p => ?_⟩
               rw [cn_s (show 0 ≤ i by omega), ← f5 p]
               rw [hoi] at *
               rw [show decide (h 35 i < n) = false from by simp; omega]
               simp)
            | (refine ⟨f1.up (by decide), by omega, fun j j1 => ?_, fun j j0 j1 => ?_, fun p => ?_⟩
               · rw [hup_j (by omega)]; exact f3 j (by omega)
               · by_cases e : j = k
                 · subst e; rw [hup_s]
                   have := hP.1 i (by omega) (by omega)
                   omega
                 · rw [hup_j e]; exact f4 j j0 (by omega)
               · rw [cn_s f2.1, cn_s (show 0 ≤ i by omega), hup_s, ← f5 p, hoi]
                 rw [show decide (h 35 i < n) = true from by simp; omega]
                 rw [cn_congr (g := fun j => p (h' 35 j)) (fun j j0 j1 => by rw [hup_j (by omega)])]
                 simp)
      · skip
        refine wq_aload_n (kk := 0) (q := 23) rfl rfl rfl ?_
        refine wq_getF (q := 26) f_Ne_22 rfl rfl (Nat.le_of_ble_eq_true rfl) rfl rfl rfl ?_
        refine wq_iload_n (kk := 2) (q := 27) rfl rfl rfl ?_
        refine wq_aload_n (kk := 0) (q := 28) rfl rfl rfl ?_
        refine wq_getF (q := 31) f_Ne_22 rfl rfl (Nat.le_of_ble_eq_true rfl) rfl rfl rfl ?_
        refine wq_iload_n (kk := 3) (q := 32) rfl rfl rfl ?_
        refine wq_iald (q := 33) rfl (Or.inl ⟨rfl, Nat.le_of_ble_eq_true rfl⟩) rfl rfl (by first | omega | (simp [hup]; omega)) (by first | omega | (simp [hup]; omega)) ?_
        refine wq_iast (q := 34) rfl (Or.inl ⟨rfl, Nat.le_of_ble_eq_true rfl⟩) rfl rfl (by first | omega | (simp [hup]; omega)) (by first | omega | (simp [hup]; omega)) ?_
        refine wq_iinc (i := 2) (n := 1) (q := 37) rfl rfl rfl (Nat.le_of_ble_eq_true rfl) rfl (by first | omega | (simp [hup]; omega)) (by first | omega | (simp [hup]; omega)) ?_
        refine wq_iinc (i := 3) (n := 1) (q := 40) rfl rfl rfl (Nat.le_of_ble_eq_true rfl) rfl (by first | omega | (simp [hup]; omega)) (by first | omega | (simp [hup]; omega)) ?_
        refine wq_goto (tgt := 4) rfl rfl ?_
        refine ih _ ?_ _ (i + 1) _ rfl (by omega) ?_
        · omega
        · first
            | (refine ⟨f1, by omega, fun j j1 => f3 j (by omega), f4, fun p => ?_⟩
               rw [cn_s (show 0 ≤ i by omega), ← f5 p]
               rw [hoi] at *
               rw [show decide (h 35 i < n) = false from by simp; omega]
               simp)
            | (refine ⟨f1.up (by decide), by omega, fun j j1 => ?_, fun j j0 j1 => ?_, fun p => ?_⟩
               · rw [hup_j (by omega)]; exact f3 j (by omega)
               · by_cases e : j = k
                 · subst e; rw [hup_s]
                   have := hP.1 i (by omega) (by omega)
                   omega
                 · rw [hup_j e]; exact f4 j j0 (by omega)
               · rw [cn_s f2.1, cn_s (show 0 ≤ i by omega), hup_s, ← f5 p, hoi]
                 rw [show decide (h 35 i < n) = true from by simp; omega]
                 rw [cn_congr (g := fun j => p (h' 35 j)) (fun j j0 j1 => by rw [hup_j (by omega)])]
                 simp)
set_option maxRecDepth 100000 in
theorem Ne_keepOrder_ok (n : Int) (h : mH) (r : mR) (hn : 0 ≤ n ∧ n ≤ 120) (hc : 0 ≤ h 31 0 ∧ h 31 0 ≤ 120) (hP : Pm (h 35) (h 31 0)) : Meets true (rm 1) m_Ne_keepOrder [vR 31, vI n] h r (keepQ h r n) := by
  refine ⟨ok_Ne_keepOrder, Nat.le_of_ble_eq_true rfl, ?_⟩
  refine wq_iconst (n := 0) (q := 1) rfl rfl rfl ?_
  refine wq_istore_n (kk := 2) (q := 2) rfl rfl (Nat.le_of_ble_eq_true rfl) rfl ?_
  refine wq_iconst (n := 0) (q := 3) rfl rfl rfl ?_
  refine wq_istore_n (kk := 3) (q := 4) rfl rfl (Nat.le_of_ble_eq_true rfl) rfl ?_
  exact Ne_keep1 n h r hn hc hP _ 0 0 h rfl (by omega) ⟨fr.rf, by omega, fun _ _ => rfl, fun j j0 j1 => by omega, fun p => rfl⟩
/-- the order by the rows of cell 32 -/
def ow (h : mH) (d e : Int) : Prop := h 32 d < h 32 e ∨ h 32 d = h 32 e ∧ d < e
theorem ow.trans {h : mH} {a b c : Int} (h1 : ow h a b) (h2 : ow h b c) : ow h a c := by unfold ow at *; omega
def soS (h h' : mH) (n i : Int) : Prop := fr [35] h h' ∧ Pm (h' 35) n ∧ ∀ a b, 0 ≤ a → a < b → b < i → ow h (h' 35 a) (h' 35 b)
def soV (h' : mH) (k d : Int) : mF := fun j => if j = k then d else h' 35 j
set_option maxRecDepth 100000 in
set_option maxHeartbeats 1000000 in
theorem Ne_sort2 (h : mH) (r : mR) (n i d : Int) (Q : mX) (hn : 0 ≤ n ∧ n ≤ 120) (hi : 1 ≤ i ∧ i < n) (hd : 0 ≤ d ∧ d < n) (K : ∀ h2 a b, soS h h2 n (i + 1) → WP (true, rm 2) m_Ne_sort Q 2 [some (vR 31), some (vI (i + 1)), a, b] [] h2 r (0, 0)) : ∀ (M : Nat) (k : Int) (h' : mH), k.toNat = M → 0 ≤ k → k ≤ i → fr [35] h h' → Pm (soV h' k d) n → (∀ a b, 0 ≤ a → a < b → b ≤ i → a ≠ k → b ≠ k → ow h (h' 35 a) (h' 35 b)) → (∀ b, k < b → b ≤ i → ow h d (h' 35 b)) → WP (true, rm 2) m_Ne_sort Q 19 [some (vR 31), some (vI i), some (vI d), some (vI k)] [] h' r (0, 0) := by
  intro M
  induction M using Nat.strongRecOn with
  | ind M ih =>
    intro k h' hM k0 k1 hf hP hs hg
    have fin : (∀ a, 0 ≤ a → a < k → ow h (h' 35 a) d) → soS h (hup h' 35 k d) n (i + 1) := by
      intro hlo
      refine ⟨hf.up (by decide), hP.congr (fun j _ _ => ?_), fun a b a0 ab bi => ?_⟩
      · unfold soV hup; simp
      · by_cases ea : a = k
        · subst ea
          rw [hup_s, hup_j (by omega)]
          exact hg b (by omega) (by omega)
        · by_cases eb : b = k
          · subst eb
            rw [hup_s, hup_j ea]
            exact hlo a a0 (by omega)
          · rw [hup_j ea, hup_j eb]
            exact hs a b a0 ab (by omega) ea eb
    have hk1 : 0 < k → (0 ≤ h' 35 (k - 1) ∧ h' 35 (k - 1) < n) := fun z => by
      have := hP.1 (k - 1) (by omega) (by omega)
      unfold soV at this
      rw [if_neg (by omega)] at this
      exact this
    have e32 : h' 32 = h 32 := hf 32 (by decide)
    refine wq_iload_n (kk := 3) (q := 20) rfl rfl rfl ?_
    refine wq_if_le (tgt := 59) (q := 23) rfl rfl rfl (fun c20 => ?_) (fun c20 => ?_)
    · skip
      refine wq_aload_n (kk := 0) (q := 60) rfl rfl rfl ?_
      refine wq_getF (q := 63) f_Ne_22 rfl rfl (Nat.le_of_ble_eq_true rfl) rfl rfl rfl ?_
      refine wq_iload_n (kk := 3) (q := 64) rfl rfl rfl ?_
      refine wq_iload_n (kk := 2) (q := 65) rfl rfl rfl ?_
      refine wq_iast (q := 66) rfl (Or.inl ⟨rfl, Nat.le_of_ble_eq_true rfl⟩) rfl rfl (by omega) (by omega) ?_
      refine wq_iinc (i := 1) (n := 1) (q := 69) rfl rfl rfl (Nat.le_of_ble_eq_true rfl) rfl (by omega) (by omega) ?_
      refine wq_goto (tgt := 2) rfl rfl ?_
      refine K _ _ _ (fin ?_)
      first
        | (intro a a0 ak; omega)
        | (intro a a0 ak
           have hne : h' 35 (k - 1) ≠ d := by
             have := hP.inj (i := k - 1) (j := k) (by omega) (by omega) (by omega)
             unfold soV at this
             rw [if_neg (by omega), if_pos rfl] at this
             exact this
           have hlt : ow h (h' 35 (k - 1)) d := by unfold ow; omega
           by_cases ea : a = k - 1
           · subst ea; exact hlt
           · exact (hs a (k - 1) a0 (by omega) (by omega) (by omega) (by omega)).trans hlt)
    · skip
      refine wq_aload_n (kk := 0) (q := 24) rfl rfl rfl ?_
      refine wq_aload_n (kk := 0) (q := 25) rfl rfl rfl ?_
      refine wq_getF (q := 28) f_Ne_22 rfl rfl (Nat.le_of_ble_eq_true rfl) rfl rfl rfl ?_
      refine wq_iload_n (kk := 3) (q := 29) rfl rfl rfl ?_
      refine wq_iconst (n := 1) (q := 30) rfl rfl rfl ?_
      refine wq_isub (q := 31) rfl rfl (by first | omega | (have := hk1 (by omega); omega)) (by first | omega | (have := hk1 (by omega); omega)) ?_
      refine wq_iald (q := 32) rfl (Or.inl ⟨rfl, Nat.le_of_ble_eq_true rfl⟩) rfl rfl (by first | omega | (have := hk1 (by omega); omega)) (by first | omega | (have := hk1 (by omega); omega)) ?_
      refine wq_iload_n (kk := 2) (q := 33) rfl rfl rfl ?_
      refine wq_callV (q := 36) (m' := m_Ne_isBehind) (R' := rm 1) (As := [_, _]) rfl rfl l_Ne_95 vm_Ne_isBehind rfl rfl rfl (Or.inl ⟨rfl, Nat.le_of_ble_eq_true rfl⟩) (Nat.le_of_ble_eq_true rfl) (Nat.le_of_ble_eq_true rfl) (Nat.le_refl _) (Nat.le_refl _) (Nat.le_of_ble_eq_true rfl) (Ne_isBehind_ok (h' 35 (k - 1)) d h' r (by have := hk1 (by omega); omega) (by omega)) rfl ?_
      rintro rv h' r' ⟨rfl, rfl, rfl⟩ -
      rw [e32]
      refine wq_cif_eq (tgt := 59) (q := 39) rfl rfl rfl (fun c36 => ?_) (fun c36 => ?_)
      · skip
        refine wq_aload_n (kk := 0) (q := 60) rfl rfl rfl ?_
        refine wq_getF (q := 63) f_Ne_22 rfl rfl (Nat.le_of_ble_eq_true rfl) rfl rfl rfl ?_
        refine wq_iload_n (kk := 3) (q := 64) rfl rfl rfl ?_
        refine wq_iload_n (kk := 2) (q := 65) rfl rfl rfl ?_
        refine wq_iast (q := 66) rfl (Or.inl ⟨rfl, Nat.le_of_ble_eq_true rfl⟩) rfl rfl (by omega) (by omega) ?_
        refine wq_iinc (i := 1) (n := 1) (q := 69) rfl rfl rfl (Nat.le_of_ble_eq_true rfl) rfl (by omega) (by omega) ?_
        refine wq_goto (tgt := 2) rfl rfl ?_
        refine K _ _ _ (fin ?_)
        first
          | (intro a a0 ak; omega)
          | (intro a a0 ak
             have hne : h' 35 (k - 1) ≠ d := by
               have := hP.inj (i := k - 1) (j := k) (by omega) (by omega) (by omega)
               unfold soV at this
               rw [if_neg (by omega), if_pos rfl] at this
               exact this
             have hlt : ow h (h' 35 (k - 1)) d := by unfold ow; omega
             by_cases ea : a = k - 1
             · subst ea; exact hlt
             · exact (hs a (k - 1) a0 (by omega) (by omega) (by omega) (by omega)).trans hlt)
      · skip
        refine wq_aload_n (kk := 0) (q := 40) rfl rfl rfl ?_
        refine wq_getF (q := 43) f_Ne_22 rfl rfl (Nat.le_of_ble_eq_true rfl) rfl rfl rfl ?_
        refine wq_iload_n (kk := 3) (q := 44) rfl rfl rfl ?_
        refine wq_aload_n (kk := 0) (q := 45) rfl rfl rfl ?_
        refine wq_getF (q := 48) f_Ne_22 rfl rfl (Nat.le_of_ble_eq_true rfl) rfl rfl rfl ?_
        refine wq_iload_n (kk := 3) (q := 49) rfl rfl rfl ?_
        refine wq_iconst (n := 1) (q := 50) rfl rfl rfl ?_
        refine wq_isub (q := 51) rfl rfl (by first | omega | (have := hk1 (by omega); omega)) (by first | omega | (have := hk1 (by omega); omega)) ?_
        refine wq_iald (q := 52) rfl (Or.inl ⟨rfl, Nat.le_of_ble_eq_true rfl⟩) rfl rfl (by first | omega | (have := hk1 (by omega); omega)) (by first | omega | (have := hk1 (by omega); omega)) ?_
        refine wq_iast (q := 53) rfl (Or.inl ⟨rfl, Nat.le_of_ble_eq_true rfl⟩) rfl rfl (by first | omega | (have := hk1 (by omega); omega)) (by first | omega | (have := hk1 (by omega); omega)) ?_
        refine wq_iinc (i := 3) (n := -1) (q := 56) rfl rfl rfl (Nat.le_of_ble_eq_true rfl) rfl (by first | omega | (have := hk1 (by omega); omega)) (by first | omega | (have := hk1 (by omega); omega)) ?_
        refine wq_goto (tgt := 19) rfl rfl ?_
        have ik := hk1 (by omega)
        refine ih _ ?_ (k - 1) _ rfl (by omega) (by omega) (hf.up (by decide)) (hP.swap (k := k) (by omega) (by omega) ?_ ?_ ?_) (fun a b a0 ab bi ha hb => ?_) (fun b b1 b2 => ?_)
        · omega
        · unfold soV; rw [if_neg (by omega), if_neg (by omega), hup_s]
        · unfold soV; rw [if_pos rfl, if_pos rfl]
        · intro j j1 j2
          unfold soV; rw [if_neg j2, if_neg j1, hup_j j1]
        · by_cases eb : b = k
          · subst eb
            rw [hup_s, hup_j (by omega)]
            exact hs a (b - 1) a0 (by omega) (by omega) (by omega) (by omega)
          · by_cases ea : a = k
            · subst ea
              rw [hup_s, hup_j (by omega)]
              exact hs (a - 1) b (by omega) (by omega) bi (by omega) (by omega)
            · rw [hup_j ea, hup_j eb]
              exact hs a b a0 ab bi ea eb
        · by_cases eb : b = k
          · subst eb
            rw [hup_s]
            unfold ow; omega
          · rw [hup_j eb]
            exact hg b (by omega) b2
set_option maxRecDepth 100000 in
set_option maxHeartbeats 1000000 in
theorem Ne_sort1 (h : mH) (r : mR) (n : Int) (hn : 0 ≤ n ∧ n ≤ 120) (hc : h 31 0 = n) : ∀ (M : Nat) (i : Int) (h' : mH) (a b : Option mV), (n - i).toNat = M → 1 ≤ i → soS h h' n i → WP (true, rm 2) m_Ne_sort (rt m_Ne_sort (rm 2) (fun rv h1 r1 => rv = none ∧ r1 = r ∧ soS h h1 n n)) 2 [some (vR 31), some (vI i), a, b] [] h' r (0, 0) := by
  intro M
  induction M using Nat.strongRecOn with
  | ind M ih =>
    intro i h' a b hM i1 hs
    obtain ⟨f1, f2, f3⟩ := id hs
    have c0 : h' 31 0 = n := by rw [f1.at 31 0 (by decide)]; exact hc
    have hd := f2.1 i (by omega)
    refine wq_iload_n (kk := 1) (q := 3) rfl rfl rfl ?_
    refine wq_aload_n (kk := 0) (q := 4) rfl rfl rfl ?_
    refine wq_getI (kz := 0) (q := 7) rfl f_Ne_60 rfl rfl (Or.inl ⟨rfl, Nat.le_of_ble_eq_true rfl⟩) rfl rfl ?_
    refine wq_icmp_ge (tgt := 72) (q := 10) rfl rfl rfl (fun c7 => ?_) (fun c7 => ?_)
    · skip
      exact wq_vret rfl rfl (Nat.le_refl _) (Nat.le_refl _) ⟨rfl, rfl, f1, f2, fun a b a0 ab bn => f3 a b a0 ab (by omega)⟩
    · skip
      refine wq_aload_n (kk := 0) (q := 11) rfl rfl rfl ?_
      refine wq_getF (q := 14) f_Ne_22 rfl rfl (Nat.le_of_ble_eq_true rfl) rfl rfl rfl ?_
      refine wq_iload_n (kk := 1) (q := 15) rfl rfl rfl ?_
      refine wq_iald (q := 16) rfl (Or.inl ⟨rfl, Nat.le_of_ble_eq_true rfl⟩) rfl rfl (by first | omega | (simp [hup]; omega)) (by first | omega | (simp [hup]; omega)) ?_
      refine wq_istore_n (kk := 2) (q := 17) rfl rfl (Nat.le_of_ble_eq_true rfl) rfl ?_
      refine wq_iload_n (kk := 1) (q := 18) rfl rfl rfl ?_
      refine wq_istore_n (kk := 3) (q := 19) rfl rfl (Nat.le_of_ble_eq_true rfl) rfl ?_
      refine Ne_sort2 h r n i (h' 35 i) _ hn (by omega) (hd (by omega)) (fun h2 a b hs2 => ih _ ?_ (i + 1) h2 a b rfl (by omega) hs2) _ i h' rfl (by omega) (by omega) f1 (f2.congr (fun j _ _ => ?_)) (fun a b a0 ab bi ha hb => f3 a b a0 ab (by omega)) (fun b b1 b2 => by omega)
      · omega
      · unfold soV; split <;> simp_all
set_option maxRecDepth 100000 in
theorem Ne_sort_ok (h : mH) (r : mR) (n : Int) (hn : 0 ≤ n ∧ n ≤ 120) (hc : h 31 0 = n) (hP : Pm (h 35) n) : Meets true (rm 2) m_Ne_sort [vR 31] h r (fun rv h1 r1 => rv = none ∧ r1 = r ∧ soS h h1 n n) := by
  refine ⟨ok_Ne_sort, Nat.le_of_ble_eq_true rfl, ?_⟩
  refine wq_iconst (n := 1) (q := 1) rfl rfl rfl ?_
  refine wq_istore_n (kk := 1) (q := 2) rfl rfl (Nat.le_of_ble_eq_true rfl) rfl ?_
  exact Ne_sort1 h r n hn hc _ 1 h _ _ rfl (by omega) ⟨fr.rf, hP, fun a b a0 ab b1 => by omega⟩
end
section
theorem cn_mono {p : Int → Bool} {i j : Nat} (h : i ≤ j) : cn p i ≤ cn p j := by
  induction j with
  | zero => have : i = 0 := by omega
            subst this; exact Int.le_refl _
  | succ j ih =>
    by_cases e : i = j + 1
    · subst e; exact Int.le_refl _
    · have := ih (by omega)
      show cn p i ≤ cn p j + (if p j = true then 1 else 0)
      split <;> omega
theorem cn_lt {p : Int → Bool} {i j : Int} (h0 : 0 ≤ i) (hp : p i = true) (h : i < j) : cn p i.toNat < cn p j.toNat := by
  have h1 := cn_t h0 hp
  have h2 := cn_mono (p := p) (show (i + 1).toNat ≤ j.toNat by omega)
  omega
theorem cn_hit {p : Int → Bool} : ∀ {n : Nat} {q : Int}, 0 ≤ q → q < cn p n → ∃ j : Int, 0 ≤ j ∧ j < n ∧ p j = true ∧ cn p j.toNat = q
  | 0, q, h0, h1 => by unfold cn at h1; omega
  | n + 1, q, h0, h1 => by
    by_cases hq : q < cn p n
    · obtain ⟨j, a, b, c, d⟩ := cn_hit h0 hq
      exact ⟨j, a, by omega, c, d⟩
    · unfold cn at h1
      by_cases hp : p n = true
      · rw [if_pos hp] at h1
        exact ⟨n, by omega, by omega, hp, by have : ((n : Int)).toNat = n := by omega
                                             rw [this]; omega⟩
      · rw [if_neg hp] at h1; omega
theorem cn_add3 {p q r : Int → Bool} : ∀ {n : Nat}, (∀ d : Int, 0 ≤ d → d < n → (if r d then (1 : Int) else 0) = (if p d then 1 else 0) + (if q d then 1 else 0)) → cn r n = cn p n + cn q n
  | 0, _ => rfl
  | n + 1, h => by
    have ih := cn_add3 (p := p) (q := q) (r := r) (n := n) (fun d h0 h1 => h d h0 (by omega))
    have := h n (by omega) (by omega)
    unfold cn
    omega
theorem cn_all {p : Int → Bool} : ∀ {n : Nat}, (∀ d : Int, 0 ≤ d → d < n → p d = true) → cn p n = n
  | 0, _ => rfl
  | n + 1, h => by
    unfold cn
    rw [cn_all (fun d h0 h1 => h d h0 (by omega)), h n (by omega) (by omega)]
    simp
/-- of a row f: how many are less than s; how many are s; how many of those ahead of place k in the order o are s -/
def gB (f : mF) (n : Int) (s : Int) : Int := cn (fun x => decide (f x < s)) n.toNat
def gC (f : mF) (n : Int) (s : Int) : Int := cn (fun x => f x == s) n.toNat
def gP (f o : mF) (k : Int) (s : Int) : Int := cn (fun j => f (o j) == s) k.toNat
theorem gB_s (f : mF) (n s : Int) : gB f n (s + 1) = gB f n s + gC f n s := by
  unfold gB gC
  refine cn_add3 (fun d _ _ => ?_)
  by_cases h1 : f d < s
  · have : ¬ f d = s := by omega
    simp [h1, this, show f d < s + 1 by omega]
  · by_cases h2 : f d = s
    · simp [h2]; omega
    · simp [h1, h2, show ¬ f d < s + 1 by omega]
theorem gB_n {f : mF} {n s : Int} (hn : 0 ≤ n) (h : ∀ d, 0 ≤ d → d < n → f d < s) : gB f n s = n := by
  unfold gB
  rw [cn_all (fun d h0 h1 => by have := h d h0 (by omega); simp; omega)]
  omega
theorem gB_0 {f : mF} {n : Int} (h : ∀ d, 0 ≤ d → d < n → 0 ≤ f d) : gB f n 0 = 0 := by
  unfold gB
  rw [cn_congr (g := fun _ => false) (fun d h0 h1 => by have := h d h0 (by omega); simp; omega)]
  have : ∀ m : Nat, cn (fun _ => false) m = 0 := by
    intro m
    induction m with
    | zero => rfl
    | succ m ih => unfold cn; rw [ih]; rfl
  exact this _
theorem gP_n {f o : mF} {n : Int} (hP : Pm o n) (s : Int) : gP f o n s = gC f n s := hP.2 (fun x => f x == s)
theorem gP_s {f o : mF} {k s : Int} (h0 : 0 ≤ k) : gP f o (k + 1) s = gP f o k s + (if f (o k) == s then 1 else 0) := by
  unfold gP
  exact cn_s h0
theorem gB_b (f : mF) (n s : Int) (hn : 0 ≤ n) : 0 ≤ gB f n s ∧ gB f n s ≤ n := by
  have := cn_b (fun x => decide (f x < s)) n.toNat
  unfold gB
  omega
theorem gC_b (f : mF) (n s : Int) (hn : 0 ≤ n) : 0 ≤ gC f n s ∧ gC f n s ≤ n := by
  have := cn_b (fun x => f x == s) n.toNat
  unfold gC
  omega
theorem gB_mono (f : mF) (n : Int) (hn : 0 ≤ n) {s t : Int} (h : s ≤ t) : gB f n s ≤ gB f n t := by
  obtain ⟨k, rfl⟩ : ∃ k : Nat, t = s + k := ⟨(t - s).toNat, by omega⟩
  clear h
  induction k with
  | zero => simp
  | succ k ih =>
    have h1 := gB_s f n (s + k)
    have h2 := gC_b f n (s + k) hn
    have e : s + ((k + 1 : Nat) : Int) = s + k + 1 := by omega
    rw [e]; omega
/-- place of the order's j-th -/
def gQ (f o : mF) (n j : Int) : Int := gB f n (f (o j)) + gP f o j (f (o j))
theorem gQ_lt {f o : mF} {n j : Int} (hn : 0 ≤ n) (hP : Pm o n) (h0 : 0 ≤ j) (h1 : j < n) : gB f n (f (o j)) ≤ gQ f o n j ∧ gQ f o n j < gB f n (f (o j) + 1) := by
  have a := gB_s f n (f (o j))
  have b := gP_n (f := f) hP (f (o j))
  have c : gP f o j (f (o j)) < gP f o n (f (o j)) := by unfold gP; exact cn_lt h0 (by simp) h1
  have d := cn_b (fun x => f (o x) == f (o j)) j.toNat
  unfold gQ
  unfold gP at *
  omega
theorem gQ_inj {f o : mF} {n i j : Int} (hn : 0 ≤ n) (hP : Pm o n) (h0 : 0 ≤ i) (h1 : i < j) (h2 : j < n) : gQ f o n i ≠ gQ f o n j := by
  have a := gQ_lt (f := f) hn hP h0 (show i < n by omega)
  have b := gQ_lt (f := f) hn hP (show 0 ≤ j by omega) h2
  by_cases e : f (o i) = f (o j)
  · have c : gP f o i (f (o i)) < gP f o j (f (o i)) := by unfold gP; exact cn_lt h0 (by simp) h1
    unfold gQ
    rw [← e]
    omega
  · intro z
    rcases (show f (o i) < f (o j) ∨ f (o j) < f (o i) by omega) with q | q
    · have := gB_mono f n hn (show f (o i) + 1 ≤ f (o j) by omega)
      omega
    · have := gB_mono f n hn (show f (o j) + 1 ≤ f (o i) by omega)
      omega
def gG (h h1 : mH) (n S : Int) : Prop := fr [36, 37] h h1 ∧ (∀ s, 0 ≤ s → s ≤ S → h1 37 s = gB (h 6) n s) ∧ ∀ j, 0 ≤ j → j < n → h1 36 (gQ (h 6) (h 35) n j) = h 35 j
abbrev grQ (h : mH) (r : mR) (n S : Int) : mP := fun rv h1 r1 => rv = none ∧ r1 = r ∧ gG h h1 n S
section GR
variable (h : mH) (r : mR) (n S : Int) (hnde : r.1 31 7 = some 2) (hn : 0 ≤ n ∧ n ≤ 120) (hc : h 31 0 = n) (hS : 0 ≤ S ∧ S ≤ 10) (hS2 : h 2 1 = S) (hf : ∀ d, 0 ≤ d → d < n → 0 ≤ h 6 d ∧ h 6 d < S) (hP : Pm (h 35) n)
set_option maxRecDepth 100000 in
set_option maxHeartbeats 1000000 in
theorem Ne_groupD (hnde : r.1 31 7 = some 2) (hn : 0 ≤ n ∧ n ≤ 120) (hc : h 31 0 = n) (hS : 0 ≤ S ∧ S ≤ 10) (hf : ∀ d, 0 ≤ d → d < n → 0 ≤ h 6 d ∧ h 6 d < S) (hP : Pm (h 35) n) : ∀ (M : Nat) (i : Int) (h' : mH) (a : Option mV), (i + 1).toNat = M → -1 ≤ i → i < n → fr [36, 37] h h' → (∀ s, 0 ≤ s → s ≤ S → h' 37 s = gB (h 6) n s + gP (h 6) (h 35) (i + 1) s) → (∀ j, i < j → j < n → h' 36 (gQ (h 6) (h 35) n j) = h 35 j) → WP (true, rm 1) m_Ne_group (rt m_Ne_group (rm 1) (grQ h r n S)) 103 [some (vR 31), some (vI i), a] [] h' r (0, 0) := by
  intro M
  induction M using Nat.strongRecOn with
  | ind M ih =>
    intro i h' a hM i0 i1 hfr hA hB
    have e6 : h' 6 = h 6 := hfr 6 (by decide)
    have e35 : h' 35 = h 35 := hfr 35 (by decide)
    have ho := hP.1 i
    have hfo : 0 ≤ i → 0 ≤ h 6 (h 35 i) ∧ h 6 (h 35 i) < S := fun z => hf _ (ho z i1).1 (ho z i1).2
    have hAs : 0 ≤ i → h' 37 (h 6 (h 35 i)) = gQ (h 6) (h 35) n i + 1 := fun z => by
      rw [hA _ (hfo z).1 (by have := hfo z; omega), gP_s z]
      unfold gQ
      simp
      omega
    have hQ : 0 ≤ i → gB (h 6) n (h 6 (h 35 i)) ≤ gQ (h 6) (h 35) n i ∧ gQ (h 6) (h 35) n i < gB (h 6) n (h 6 (h 35 i) + 1) := fun z => gQ_lt hn.1 hP z i1
    have hBb := gB_b (h 6) n (h 6 (h 35 i)) hn.1
    have hBb1 := gB_b (h 6) n (h 6 (h 35 i) + 1) hn.1
    refine wq_iload_n (kk := 1) (q := 104) rfl rfl rfl ?_
    refine wq_if_lt (tgt := 155) (q := 107) rfl rfl rfl (fun c104 => ?_) (fun c104 => ?_)
    · skip
      have e : i = -1 := by omega
      subst e
      refine wq_vret rfl rfl (Nat.le_refl _) (Nat.le_refl _) ⟨rfl, rfl, hfr, fun s s0 s1 => ?_, fun j j0 j1 => hB j (by omega) j1⟩
      rw [hA s s0 s1]
      show gB (h 6) n s + gP (h 6) (h 35) 0 s = _
      unfold gP
      simp [cn]
    · skip
      refine wq_aload_n (kk := 0) (q := 108) rfl rfl rfl ?_
      refine wq_getR (q := 111) f_Ne_37 rfl rfl (Or.inl ⟨rfl, Nat.le_of_ble_eq_true rfl⟩) hnde rfl rfl ?_
      refine wq_getF (q := 114) f_Ne_98 rfl rfl (Nat.le_of_ble_eq_true rfl) rfl rfl rfl ?_
      refine wq_aload_n (kk := 0) (q := 115) rfl rfl rfl ?_
      refine wq_getF (q := 118) f_Ne_22 rfl rfl (Nat.le_of_ble_eq_true rfl) rfl rfl rfl ?_
      refine wq_iload_n (kk := 1) (q := 119) rfl rfl rfl ?_
      refine wq_iald (q := 120) rfl (Or.inl ⟨rfl, Nat.le_of_ble_eq_true rfl⟩) rfl rfl (by first | omega | (have := ho (by omega) (by omega); have := hfo (by omega); have := hAs (by omega); have := hQ (by omega); first | omega | (rw [e35]; omega) | (rw [e35, e6]; omega) | (rw [e35, e6, hAs (by omega)]; omega) | (simp only [hup_s]; rw [e35, e6, hAs (by omega)]; omega) | (simp [hup]; rw [e35, e6, hAs (by omega)]; omega) | (simp [hup]; rw [e35]; omega) | (simp [hup]; omega))) (by first | omega | (have := ho (by omega) (by omega); have := hfo (by omega); have := hAs (by omega); have := hQ (by omega); first | omega | (rw [e35]; omega) | (rw [e35, e6]; omega) | (rw [e35, e6, hAs (by omega)]; omega) | (simp only [hup_s]; rw [e35, e6, hAs (by omega)]; omega) | (simp [hup]; rw [e35, e6, hAs (by omega)]; omega) | (simp [hup]; rw [e35]; omega) | (simp [hup]; omega))) ?_
      refine wq_iald (q := 121) rfl (Or.inl ⟨rfl, Nat.le_of_ble_eq_true rfl⟩) rfl rfl (by first | omega | (have := ho (by omega) (by omega); have := hfo (by omega); have := hAs (by omega); have := hQ (by omega); first | omega | (rw [e35]; omega) | (rw [e35, e6]; omega) | (rw [e35, e6, hAs (by omega)]; omega) | (simp only [hup_s]; rw [e35, e6, hAs (by omega)]; omega) | (simp [hup]; rw [e35, e6, hAs (by omega)]; omega) | (simp [hup]; rw [e35]; omega) | (simp [hup]; omega))) (by first | omega | (have := ho (by omega) (by omega); have := hfo (by omega); have := hAs (by omega); have := hQ (by omega); first | omega | (rw [e35]; omega) | (rw [e35, e6]; omega) | (rw [e35, e6, hAs (by omega)]; omega) | (simp only [hup_s]; rw [e35, e6, hAs (by omega)]; omega) | (simp [hup]; rw [e35, e6, hAs (by omega)]; omega) | (simp [hup]; rw [e35]; omega) | (simp [hup]; omega))) ?_
      refine wq_istore_n (kk := 2) (q := 122) rfl rfl (Nat.le_of_ble_eq_true rfl) rfl ?_
      refine wq_aload_n (kk := 0) (q := 123) rfl rfl rfl ?_
      refine wq_getF (q := 126) f_Ne_28 rfl rfl (Nat.le_of_ble_eq_true rfl) rfl rfl rfl ?_
      refine wq_iload_n (kk := 2) (q := 127) rfl rfl rfl ?_
      refine wq_dup2 (q := 128) rfl rfl rfl rfl ?_
      refine wq_iald (q := 129) rfl (Or.inl ⟨rfl, Nat.le_of_ble_eq_true rfl⟩) rfl rfl (by first | omega | (have := ho (by omega) (by omega); have := hfo (by omega); have := hAs (by omega); have := hQ (by omega); first | omega | (rw [e35]; omega) | (rw [e35, e6]; omega) | (rw [e35, e6, hAs (by omega)]; omega) | (simp only [hup_s]; rw [e35, e6, hAs (by omega)]; omega) | (simp [hup]; rw [e35, e6, hAs (by omega)]; omega) | (simp [hup]; rw [e35]; omega) | (simp [hup]; omega))) (by first | omega | (have := ho (by omega) (by omega); have := hfo (by omega); have := hAs (by omega); have := hQ (by omega); first | omega | (rw [e35]; omega) | (rw [e35, e6]; omega) | (rw [e35, e6, hAs (by omega)]; omega) | (simp only [hup_s]; rw [e35, e6, hAs (by omega)]; omega) | (simp [hup]; rw [e35, e6, hAs (by omega)]; omega) | (simp [hup]; rw [e35]; omega) | (simp [hup]; omega))) ?_
      refine wq_iconst (n := 1) (q := 130) rfl rfl rfl ?_
      refine wq_isub (q := 131) rfl rfl (by first | omega | (have := ho (by omega) (by omega); have := hfo (by omega); have := hAs (by omega); have := hQ (by omega); first | omega | (rw [e35]; omega) | (rw [e35, e6]; omega) | (rw [e35, e6, hAs (by omega)]; omega) | (simp only [hup_s]; rw [e35, e6, hAs (by omega)]; omega) | (simp [hup]; rw [e35, e6, hAs (by omega)]; omega) | (simp [hup]; rw [e35]; omega) | (simp [hup]; omega))) (by first | omega | (have := ho (by omega) (by omega); have := hfo (by omega); have := hAs (by omega); have := hQ (by omega); first | omega | (rw [e35]; omega) | (rw [e35, e6]; omega) | (rw [e35, e6, hAs (by omega)]; omega) | (simp only [hup_s]; rw [e35, e6, hAs (by omega)]; omega) | (simp [hup]; rw [e35, e6, hAs (by omega)]; omega) | (simp [hup]; rw [e35]; omega) | (simp [hup]; omega))) ?_
      refine wq_iast (q := 132) rfl (Or.inl ⟨rfl, Nat.le_of_ble_eq_true rfl⟩) rfl rfl (by first | omega | (have := ho (by omega) (by omega); have := hfo (by omega); have := hAs (by omega); have := hQ (by omega); first | omega | (rw [e35]; omega) | (rw [e35, e6]; omega) | (rw [e35, e6, hAs (by omega)]; omega) | (simp only [hup_s]; rw [e35, e6, hAs (by omega)]; omega) | (simp [hup]; rw [e35, e6, hAs (by omega)]; omega) | (simp [hup]; rw [e35]; omega) | (simp [hup]; omega))) (by first | omega | (have := ho (by omega) (by omega); have := hfo (by omega); have := hAs (by omega); have := hQ (by omega); first | omega | (rw [e35]; omega) | (rw [e35, e6]; omega) | (rw [e35, e6, hAs (by omega)]; omega) | (simp only [hup_s]; rw [e35, e6, hAs (by omega)]; omega) | (simp [hup]; rw [e35, e6, hAs (by omega)]; omega) | (simp [hup]; rw [e35]; omega) | (simp [hup]; omega))) ?_
      refine wq_aload_n (kk := 0) (q := 133) rfl rfl rfl ?_
      refine wq_getF (q := 136) f_Ne_25 rfl rfl (Nat.le_of_ble_eq_true rfl) rfl rfl rfl ?_
      refine wq_aload_n (kk := 0) (q := 137) rfl rfl rfl ?_
      refine wq_getF (q := 140) f_Ne_28 rfl rfl (Nat.le_of_ble_eq_true rfl) rfl rfl rfl ?_
      refine wq_iload_n (kk := 2) (q := 141) rfl rfl rfl ?_
      refine wq_iald (q := 142) rfl (Or.inl ⟨rfl, Nat.le_of_ble_eq_true rfl⟩) rfl rfl (by first | omega | (have := ho (by omega) (by omega); have := hfo (by omega); have := hAs (by omega); have := hQ (by omega); first | omega | (rw [e35]; omega) | (rw [e35, e6]; omega) | (rw [e35, e6, hAs (by omega)]; omega) | (simp only [hup_s]; rw [e35, e6, hAs (by omega)]; omega) | (simp [hup]; rw [e35, e6, hAs (by omega)]; omega) | (simp [hup]; rw [e35]; omega) | (simp [hup]; omega))) (by first | omega | (have := ho (by omega) (by omega); have := hfo (by omega); have := hAs (by omega); have := hQ (by omega); first | omega | (rw [e35]; omega) | (rw [e35, e6]; omega) | (rw [e35, e6, hAs (by omega)]; omega) | (simp only [hup_s]; rw [e35, e6, hAs (by omega)]; omega) | (simp [hup]; rw [e35, e6, hAs (by omega)]; omega) | (simp [hup]; rw [e35]; omega) | (simp [hup]; omega))) ?_
      refine wq_aload_n (kk := 0) (q := 143) rfl rfl rfl ?_
      refine wq_getF (q := 146) f_Ne_22 rfl rfl (Nat.le_of_ble_eq_true rfl) rfl rfl rfl ?_
      refine wq_iload_n (kk := 1) (q := 147) rfl rfl rfl ?_
      refine wq_iald (q := 148) rfl (Or.inl ⟨rfl, Nat.le_of_ble_eq_true rfl⟩) rfl rfl (by first | omega | (have := ho (by omega) (by omega); have := hfo (by omega); have := hAs (by omega); have := hQ (by omega); first | omega | (rw [e35]; omega) | (rw [e35, e6]; omega) | (rw [e35, e6, hAs (by omega)]; omega) | (simp only [hup_s]; rw [e35, e6, hAs (by omega)]; omega) | (simp [hup]; rw [e35, e6, hAs (by omega)]; omega) | (simp [hup]; rw [e35]; omega) | (simp [hup]; omega))) (by first | omega | (have := ho (by omega) (by omega); have := hfo (by omega); have := hAs (by omega); have := hQ (by omega); first | omega | (rw [e35]; omega) | (rw [e35, e6]; omega) | (rw [e35, e6, hAs (by omega)]; omega) | (simp only [hup_s]; rw [e35, e6, hAs (by omega)]; omega) | (simp [hup]; rw [e35, e6, hAs (by omega)]; omega) | (simp [hup]; rw [e35]; omega) | (simp [hup]; omega))) ?_
      refine wq_iast (q := 149) rfl (Or.inl ⟨rfl, Nat.le_of_ble_eq_true rfl⟩) rfl rfl (by first | omega | (have := ho (by omega) (by omega); have := hfo (by omega); have := hAs (by omega); have := hQ (by omega); first | omega | (rw [e35]; omega) | (rw [e35, e6]; omega) | (rw [e35, e6, hAs (by omega)]; omega) | (simp only [hup_s]; rw [e35, e6, hAs (by omega)]; omega) | (simp [hup]; rw [e35, e6, hAs (by omega)]; omega) | (simp [hup]; rw [e35]; omega) | (simp [hup]; omega))) (by first | omega | (have := ho (by omega) (by omega); have := hfo (by omega); have := hAs (by omega); have := hQ (by omega); first | omega | (rw [e35]; omega) | (rw [e35, e6]; omega) | (rw [e35, e6, hAs (by omega)]; omega) | (simp only [hup_s]; rw [e35, e6, hAs (by omega)]; omega) | (simp [hup]; rw [e35, e6, hAs (by omega)]; omega) | (simp [hup]; rw [e35]; omega) | (simp [hup]; omega))) ?_
      refine wq_iinc (i := 1) (n := -1) (q := 152) rfl rfl rfl (Nat.le_of_ble_eq_true rfl) rfl (by first | omega | (have := ho (by omega) (by omega); have := hfo (by omega); have := hAs (by omega); have := hQ (by omega); first | omega | (rw [e35]; omega) | (rw [e35, e6]; omega) | (rw [e35, e6, hAs (by omega)]; omega) | (simp only [hup_s]; rw [e35, e6, hAs (by omega)]; omega) | (simp [hup]; rw [e35, e6, hAs (by omega)]; omega) | (simp [hup]; rw [e35]; omega) | (simp [hup]; omega))) (by first | omega | (have := ho (by omega) (by omega); have := hfo (by omega); have := hAs (by omega); have := hQ (by omega); first | omega | (rw [e35]; omega) | (rw [e35, e6]; omega) | (rw [e35, e6, hAs (by omega)]; omega) | (simp only [hup_s]; rw [e35, e6, hAs (by omega)]; omega) | (simp [hup]; rw [e35, e6, hAs (by omega)]; omega) | (simp [hup]; rw [e35]; omega) | (simp [hup]; omega))) ?_
      refine wq_goto (tgt := 103) rfl rfl ?_
      have z : 0 ≤ i := by omega
      have f1 := hAs z
      have f2 := hfo z
      have f3 := hQ z
      refine ih _ ?_ (i - 1) _ _ rfl (by omega) (by omega) ((hfr.up (by decide)).up (by decide)) (fun s s0 s1 => ?_) (fun j j0 j1 => ?_)
      · omega
      · rw [hup_i (by decide)]
        by_cases es : s = h 6 (h 35 i)
        · subst es
          rw [e35, e6, hup_s, f1]
          have : i - 1 + 1 = i := by omega
          rw [this]
          unfold gQ
          omega
        · rw [e35, e6, hup_j es, hA s s0 s1, gP_s z]
          have : i - 1 + 1 = i := by omega
          rw [this]
          have : ¬ h 6 (h 35 i) = s := fun q => es q.symm
          simp [this]
      · have e1 : gQ (h 6) (h 35) n i + 1 - 1 = gQ (h 6) (h 35) n i := by omega
        by_cases ej : j = i
        · subst ej; simp [hup, e35, e6, f1, e1]
        · have hne := gQ_inj (f := h 6) hn.1 hP z (show i < j by omega) j1
          simp [hup, e35, e6, f1, e1, Ne.symm hne]
          exact hB j (by omega) j1
set_option maxRecDepth 100000 in
set_option maxHeartbeats 1000000 in
theorem Ne_groupC (hnde : r.1 31 7 = some 2) (hn : 0 ≤ n ∧ n ≤ 120) (hc : h 31 0 = n) (hS : 0 ≤ S ∧ S ≤ 10) (hS2 : h 2 1 = S) (hf : ∀ d, 0 ≤ d → d < n → 0 ≤ h 6 d ∧ h 6 d < S) (hP : Pm (h 35) n) : ∀ (M : Nat) (s : Int) (h' : mH) (a : Option mV), (S + 1 - s).toNat = M → 1 ≤ s → fr [37] h h' → (∀ t, 0 ≤ t → t < s → t ≤ S → h' 37 t = gB (h 6) n (t + 1)) → (∀ t, s ≤ t → t ≤ S → h' 37 t = gC (h 6) n t) → WP (true, rm 1) m_Ne_group (rt m_Ne_group (rm 1) (grQ h r n S)) 62 [some (vR 31), some (vI s), a] [] h' r (0, 0) := by
  intro M
  induction M using Nat.strongRecOn with
  | ind M ih =>
    intro s h' a hM s1 hfr hA hB
    have e2 : h' 2 1 = S := by rw [hfr.at 2 1 (by decide)]; exact hS2
    have e31 : h' 31 0 = n := by rw [hfr.at 31 0 (by decide)]; exact hc
    have g1 := gB_b (h 6) n s hn.1
    have g2 := gC_b (h 6) n s hn.1
    refine wq_iload_n (kk := 1) (q := 63) rfl rfl rfl ?_
    refine wq_aload_n (kk := 0) (q := 64) rfl rfl rfl ?_
    refine wq_getR (q := 67) f_Ne_37 rfl rfl (Or.inl ⟨rfl, Nat.le_of_ble_eq_true rfl⟩) hnde rfl rfl ?_
    refine wq_getI (kz := 1) (q := 70) rfl f_Ne_45 rfl rfl (Or.inl ⟨rfl, Nat.le_of_ble_eq_true rfl⟩) rfl rfl ?_
    refine wq_icmp_gt (tgt := 96) (q := 73) rfl rfl rfl (fun c70 => ?_) (fun c70 => ?_)
    · skip
      refine wq_aload_n (kk := 0) (q := 97) rfl rfl rfl ?_
      refine wq_getI (kz := 0) (q := 100) rfl f_Ne_60 rfl rfl (Or.inl ⟨rfl, Nat.le_of_ble_eq_true rfl⟩) rfl rfl ?_
      refine wq_iconst (n := 1) (q := 101) rfl rfl rfl ?_
      refine wq_isub (q := 102) rfl rfl (by first | omega | (have := hA (s - 1) (by omega) (by omega) (by omega); have := hB s (by omega) (by omega); rw [show s - 1 + 1 = s from by omega] at *; omega)) (by first | omega | (have := hA (s - 1) (by omega) (by omega) (by omega); have := hB s (by omega) (by omega); rw [show s - 1 + 1 = s from by omega] at *; omega)) ?_
      refine wq_istore_n (kk := 1) (q := 103) rfl rfl (Nat.le_of_ble_eq_true rfl) rfl ?_
      refine Ne_groupD h r n S hnde hn hc hS hf hP _ (h' 31 0 - 1) h' _ rfl (by omega) (by omega) (hfr.mono (by decide)) (fun t t0 t1 => ?_) (fun j j0 j1 => by omega)
      rw [hA t t0 (by omega) t1, gB_s]
      have : h' 31 0 - 1 + 1 = n := by omega
      rw [this, gP_n hP]
    · skip
      refine wq_aload_n (kk := 0) (q := 74) rfl rfl rfl ?_
      refine wq_getF (q := 77) f_Ne_28 rfl rfl (Nat.le_of_ble_eq_true rfl) rfl rfl rfl ?_
      refine wq_iload_n (kk := 1) (q := 78) rfl rfl rfl ?_
      refine wq_dup2 (q := 79) rfl rfl rfl rfl ?_
      refine wq_iald (q := 80) rfl (Or.inl ⟨rfl, Nat.le_of_ble_eq_true rfl⟩) rfl rfl (by first | omega | (have := hA (s - 1) (by omega) (by omega) (by omega); have := hB s (by omega) (by omega); rw [show s - 1 + 1 = s from by omega] at *; omega)) (by first | omega | (have := hA (s - 1) (by omega) (by omega) (by omega); have := hB s (by omega) (by omega); rw [show s - 1 + 1 = s from by omega] at *; omega)) ?_
      refine wq_aload_n (kk := 0) (q := 81) rfl rfl rfl ?_
      refine wq_getF (q := 84) f_Ne_28 rfl rfl (Nat.le_of_ble_eq_true rfl) rfl rfl rfl ?_
      refine wq_iload_n (kk := 1) (q := 85) rfl rfl rfl ?_
      refine wq_iconst (n := 1) (q := 86) rfl rfl rfl ?_
      refine wq_isub (q := 87) rfl rfl (by first | omega | (have := hA (s - 1) (by omega) (by omega) (by omega); have := hB s (by omega) (by omega); rw [show s - 1 + 1 = s from by omega] at *; omega)) (by first | omega | (have := hA (s - 1) (by omega) (by omega) (by omega); have := hB s (by omega) (by omega); rw [show s - 1 + 1 = s from by omega] at *; omega)) ?_
      refine wq_iald (q := 88) rfl (Or.inl ⟨rfl, Nat.le_of_ble_eq_true rfl⟩) rfl rfl (by first | omega | (have := hA (s - 1) (by omega) (by omega) (by omega); have := hB s (by omega) (by omega); rw [show s - 1 + 1 = s from by omega] at *; omega)) (by first | omega | (have := hA (s - 1) (by omega) (by omega) (by omega); have := hB s (by omega) (by omega); rw [show s - 1 + 1 = s from by omega] at *; omega)) ?_
      refine wq_iadd (q := 89) rfl rfl (by first | omega | (have := hA (s - 1) (by omega) (by omega) (by omega); have := hB s (by omega) (by omega); rw [show s - 1 + 1 = s from by omega] at *; omega)) (by first | omega | (have := hA (s - 1) (by omega) (by omega) (by omega); have := hB s (by omega) (by omega); rw [show s - 1 + 1 = s from by omega] at *; omega)) ?_
      refine wq_iast (q := 90) rfl (Or.inl ⟨rfl, Nat.le_of_ble_eq_true rfl⟩) rfl rfl (by first | omega | (have := hA (s - 1) (by omega) (by omega) (by omega); have := hB s (by omega) (by omega); rw [show s - 1 + 1 = s from by omega] at *; omega)) (by first | omega | (have := hA (s - 1) (by omega) (by omega) (by omega); have := hB s (by omega) (by omega); rw [show s - 1 + 1 = s from by omega] at *; omega)) ?_
      refine wq_iinc (i := 1) (n := 1) (q := 93) rfl rfl rfl (Nat.le_of_ble_eq_true rfl) rfl (by first | omega | (have := hA (s - 1) (by omega) (by omega) (by omega); have := hB s (by omega) (by omega); rw [show s - 1 + 1 = s from by omega] at *; omega)) (by first | omega | (have := hA (s - 1) (by omega) (by omega) (by omega); have := hB s (by omega) (by omega); rw [show s - 1 + 1 = s from by omega] at *; omega)) ?_
      refine wq_goto (tgt := 62) rfl rfl ?_
      have a1 := hA (s - 1) (by omega) (by omega) (by omega)
      rw [show s - 1 + 1 = s from by omega] at a1
      have a2 := hB s (by omega) (by omega)
      refine ih _ ?_ (s + 1) _ _ rfl (by omega) (hfr.up (by decide)) (fun t t0 t1 t2 => ?_) (fun t t1 t2 => ?_)
      · omega
      · by_cases et : t = s
        · subst et; rw [hup_s, gB_s]; omega
        · rw [hup_j et]; exact hA t t0 (by omega) t2
      · rw [hup_j (by omega)]; exact hB t (by omega) t2
set_option maxRecDepth 100000 in
set_option maxHeartbeats 1000000 in
theorem Ne_groupB (hnde : r.1 31 7 = some 2) (hn : 0 ≤ n ∧ n ≤ 120) (hc : h 31 0 = n) (hS : 0 ≤ S ∧ S ≤ 10) (hS2 : h 2 1 = S) (hf : ∀ d, 0 ≤ d → d < n → 0 ≤ h 6 d ∧ h 6 d < S) (hP : Pm (h 35) n) : ∀ (M : Nat) (d : Int) (h' : mH) (a : Option mV), (n - d).toNat = M → 0 ≤ d → d ≤ n → fr [37] h h' → (∀ t, 0 ≤ t → t ≤ S → h' 37 t = gC (h 6) d t) → WP (true, rm 1) m_Ne_group (rt m_Ne_group (rm 1) (grQ h r n S)) 28 [some (vR 31), some (vI d), a] [] h' r (0, 0) := by
  intro M
  induction M using Nat.strongRecOn with
  | ind M ih =>
    intro d h' a hM d0 d1 hfr hA
    have e31 : h' 31 0 = n := by rw [hfr.at 31 0 (by decide)]; exact hc
    have e6 : h' 6 d = h 6 d := hfr.at 6 d (by decide)
    have hfd := hf d d0
    have g2 := gC_b (h 6) d (h 6 d) d0
    refine wq_iload_n (kk := 1) (q := 29) rfl rfl rfl ?_
    refine wq_aload_n (kk := 0) (q := 30) rfl rfl rfl ?_
    refine wq_getI (kz := 0) (q := 33) rfl f_Ne_60 rfl rfl (Or.inl ⟨rfl, Nat.le_of_ble_eq_true rfl⟩) rfl rfl ?_
    refine wq_icmp_ge (tgt := 60) (q := 36) rfl rfl rfl (fun c33 => ?_) (fun c33 => ?_)
    · skip
      refine wq_iconst (n := 1) (q := 61) rfl rfl rfl ?_
      refine wq_istore_n (kk := 1) (q := 62) rfl rfl (Nat.le_of_ble_eq_true rfl) rfl ?_
      have e : d = n := by omega
      subst e
      refine Ne_groupC h r d S hnde hn hc hS hS2 hf hP _ 1 h' _ rfl (by omega) hfr (fun t t0 t1 t2 => ?_) (fun t t1 t2 => hA t (by omega) t2)
      have et : t = 0 := by omega
      subst et
      rw [hA 0 (by omega) (by omega), gB_s, gB_0 (fun x x0 x1 => (hf x x0 x1).1)]
      omega
    · skip
      refine wq_aload_n (kk := 0) (q := 37) rfl rfl rfl ?_
      refine wq_getF (q := 40) f_Ne_28 rfl rfl (Nat.le_of_ble_eq_true rfl) rfl rfl rfl ?_
      refine wq_aload_n (kk := 0) (q := 41) rfl rfl rfl ?_
      refine wq_getR (q := 44) f_Ne_37 rfl rfl (Or.inl ⟨rfl, Nat.le_of_ble_eq_true rfl⟩) hnde rfl rfl ?_
      refine wq_getF (q := 47) f_Ne_98 rfl rfl (Nat.le_of_ble_eq_true rfl) rfl rfl rfl ?_
      refine wq_iload_n (kk := 1) (q := 48) rfl rfl rfl ?_
      refine wq_iald (q := 49) rfl (Or.inl ⟨rfl, Nat.le_of_ble_eq_true rfl⟩) rfl rfl (by first | omega | (have := hfd (by omega); have := hA (h 6 d) (by omega) (by omega); rw [e6]; omega)) (by first | omega | (have := hfd (by omega); have := hA (h 6 d) (by omega) (by omega); rw [e6]; omega)) ?_
      refine wq_dup2 (q := 50) rfl rfl rfl rfl ?_
      refine wq_iald (q := 51) rfl (Or.inl ⟨rfl, Nat.le_of_ble_eq_true rfl⟩) rfl rfl (by first | omega | (have := hfd (by omega); have := hA (h 6 d) (by omega) (by omega); rw [e6]; omega)) (by first | omega | (have := hfd (by omega); have := hA (h 6 d) (by omega) (by omega); rw [e6]; omega)) ?_
      refine wq_iconst (n := 1) (q := 52) rfl rfl rfl ?_
      refine wq_iadd (q := 53) rfl rfl (by first | omega | (have := hfd (by omega); have := hA (h 6 d) (by omega) (by omega); rw [e6]; omega)) (by first | omega | (have := hfd (by omega); have := hA (h 6 d) (by omega) (by omega); rw [e6]; omega)) ?_
      refine wq_iast (q := 54) rfl (Or.inl ⟨rfl, Nat.le_of_ble_eq_true rfl⟩) rfl rfl (by first | omega | (have := hfd (by omega); have := hA (h 6 d) (by omega) (by omega); rw [e6]; omega)) (by first | omega | (have := hfd (by omega); have := hA (h 6 d) (by omega) (by omega); rw [e6]; omega)) ?_
      refine wq_iinc (i := 1) (n := 1) (q := 57) rfl rfl rfl (Nat.le_of_ble_eq_true rfl) rfl (by first | omega | (have := hfd (by omega); have := hA (h 6 d) (by omega) (by omega); rw [e6]; omega)) (by first | omega | (have := hfd (by omega); have := hA (h 6 d) (by omega) (by omega); rw [e6]; omega)) ?_
      refine wq_goto (tgt := 28) rfl rfl ?_
      have f1 := hfd (by omega)
      have f2 := hA (h 6 d) (by omega) (by omega)
      refine ih _ ?_ (d + 1) _ _ rfl (by omega) (by omega) (hfr.up (by decide)) (fun t t0 t1 => ?_)
      · omega
      · have gs : gC (h 6) (d + 1) t = gC (h 6) d t + (if h 6 d == t then 1 else 0) := by unfold gC; exact cn_s d0
        rw [gs, e6]
        by_cases et : t = h 6 d
        · subst et; rw [hup_s, f2]; simp
        · rw [hup_j et, hA t t0 t1]
          have : ¬ h 6 d = t := fun q => et q.symm
          simp [this]
set_option maxRecDepth 100000 in
set_option maxHeartbeats 1000000 in
theorem Ne_groupA (hnde : r.1 31 7 = some 2) (hn : 0 ≤ n ∧ n ≤ 120) (hc : h 31 0 = n) (hS : 0 ≤ S ∧ S ≤ 10) (hS2 : h 2 1 = S) (hf : ∀ d, 0 ≤ d → d < n → 0 ≤ h 6 d ∧ h 6 d < S) (hP : Pm (h 35) n) : ∀ (M : Nat) (s : Int) (h' : mH) (a : Option mV), (S + 1 - s).toNat = M → 0 ≤ s → fr [37] h h' → (∀ t, 0 ≤ t → t < s → h' 37 t = 0) → WP (true, rm 1) m_Ne_group (rt m_Ne_group (rm 1) (grQ h r n S)) 2 [some (vR 31), some (vI s), a] [] h' r (0, 0) := by
  intro M
  induction M using Nat.strongRecOn with
  | ind M ih =>
    intro s h' a hM s0 hfr hA
    have e2 : h' 2 1 = S := by rw [hfr.at 2 1 (by decide)]; exact hS2
    refine wq_iload_n (kk := 1) (q := 3) rfl rfl rfl ?_
    refine wq_aload_n (kk := 0) (q := 4) rfl rfl rfl ?_
    refine wq_getR (q := 7) f_Ne_37 rfl rfl (Or.inl ⟨rfl, Nat.le_of_ble_eq_true rfl⟩) hnde rfl rfl ?_
    refine wq_getI (kz := 1) (q := 10) rfl f_Ne_45 rfl rfl (Or.inl ⟨rfl, Nat.le_of_ble_eq_true rfl⟩) rfl rfl ?_
    refine wq_icmp_gt (tgt := 26) (q := 13) rfl rfl rfl (fun c10 => ?_) (fun c10 => ?_)
    · skip
      refine wq_iconst (n := 0) (q := 27) rfl rfl rfl ?_
      refine wq_istore_n (kk := 1) (q := 28) rfl rfl (Nat.le_of_ble_eq_true rfl) rfl ?_
      exact Ne_groupB h r n S hnde hn hc hS hS2 hf hP _ 0 h' _ rfl (by omega) (by omega) hfr (fun t t0 t1 => by rw [hA t t0 (by omega)]; rfl)
    · skip
      refine wq_aload_n (kk := 0) (q := 14) rfl rfl rfl ?_
      refine wq_getF (q := 17) f_Ne_28 rfl rfl (Nat.le_of_ble_eq_true rfl) rfl rfl rfl ?_
      refine wq_iload_n (kk := 1) (q := 18) rfl rfl rfl ?_
      refine wq_iconst (n := 0) (q := 19) rfl rfl rfl ?_
      refine wq_iast (q := 20) rfl (Or.inl ⟨rfl, Nat.le_of_ble_eq_true rfl⟩) rfl rfl (by first | omega | (simp [hup]; omega)) (by first | omega | (simp [hup]; omega)) ?_
      refine wq_iinc (i := 1) (n := 1) (q := 23) rfl rfl rfl (Nat.le_of_ble_eq_true rfl) rfl (by first | omega | (simp [hup]; omega)) (by first | omega | (simp [hup]; omega)) ?_
      refine wq_goto (tgt := 2) rfl rfl ?_
      refine ih _ ?_ (s + 1) _ _ rfl (by omega) (hfr.up (by decide)) (fun t t0 t1 => ?_)
      · omega
      · by_cases et : t = s
        · subst et; rw [hup_s]
        · rw [hup_j et]; exact hA t t0 (by omega)
set_option maxRecDepth 100000 in
theorem Ne_group_ok (hnde : r.1 31 7 = some 2) (hn : 0 ≤ n ∧ n ≤ 120) (hc : h 31 0 = n) (hS : 0 ≤ S ∧ S ≤ 10) (hS2 : h 2 1 = S) (hf : ∀ d, 0 ≤ d → d < n → 0 ≤ h 6 d ∧ h 6 d < S) (hP : Pm (h 35) n) : Meets true (rm 1) m_Ne_group [vR 31] h r (grQ h r n S) := by
  refine ⟨ok_Ne_group, Nat.le_of_ble_eq_true rfl, ?_⟩
  refine wq_iconst (n := 0) (q := 1) rfl rfl rfl ?_
  refine wq_istore_n (kk := 1) (q := 2) rfl rfl (Nat.le_of_ble_eq_true rfl) rfl ?_
  exact Ne_groupA h r n S hnde hn hc hS hS2 hf hP _ 0 h _ rfl (by omega) fr.rf (fun t t0 t1 => by omega)
end GR
/-- the groups, told by what is asked of them -/
theorem gG.isG {h h1 : mH} {N : mN} (hV : NV N) (hN : isN h N) (hO : isO h N) (hG : gG h h1 (nN N) (nS N)) : isG h1 N := by
  obtain ⟨g1, g2, g3⟩ := hG
  have hn := hV.1
  have e6 : ∀ d, dp N d → h 6 d = frm N d := fun d hd => (hN.2.2.1 d hd).2.2.1
  have fb : ∀ d, 0 ≤ d → d < nN N → 0 ≤ h 6 d ∧ h 6 d < nS N := fun d h0 h1 => by
    rw [e6 d ⟨h0, h1⟩]; exact (hV.2.2.1 d ⟨h0, h1⟩).1
  have key : ∀ s p, 0 ≤ s → s < nS N → h1 37 s ≤ p → p < h1 37 (s + 1) → ∃ j, 0 ≤ j ∧ j < nN N ∧ h 6 (h 35 j) = s ∧ p = gQ (h 6) (h 35) (nN N) j ∧ gP (h 6) (h 35) j s = p - h1 37 s := by
    intro s p s0 s1 p0 p1
    rw [g2 s s0 (by omega)] at p0 ⊢
    rw [g2 (s + 1) (by omega) (by omega), gB_s, ← gP_n hO.1] at p1
    obtain ⟨j, a, b, c, d⟩ := cn_hit (p := fun j => h 6 (h 35 j) == s) (n := (nN N).toNat) (q := p - gB (h 6) (nN N) s) (by omega) (by unfold gP at p1; omega)
    have c' : h 6 (h 35 j) = s := by simpa using c
    refine ⟨j, a, by omega, c', ?_, d⟩
    unfold gQ gP
    rw [c', d]
    omega
  refine ⟨fun s s0 s1 => ?_, fun s p s0 s1 p0 p1 => ?_, fun d hd => ?_, fun s p q s0 s1 p0 pq q1 => ?_⟩
  · have a := gB_b (h 6) (nN N) s hn.1
    have b := gB_b (h 6) (nN N) (s + 1) hn.1
    have c := gB_mono (h 6) (nN N) hn.1 (show s ≤ s + 1 by omega)
    rw [g2 s s0 (by omega), g2 (s + 1) (by omega) (by omega)]
    omega
  · obtain ⟨j, a, b, c, d, -⟩ := key s p s0 s1 p0 p1
    have ho := hO.1.1 j a b
    rw [d, g3 j a b]
    exact ⟨ho, by rw [← e6 _ ho]; exact c⟩
  · obtain ⟨j, a, b, c⟩ := hO.1.sur hd.1 hd.2
    have z := gQ_lt (f := h 6) hn.1 hO.1 a b
    have f0 := fb d hd.1 hd.2
    rw [c] at z
    rw [← e6 d hd]
    refine ⟨gQ (h 6) (h 35) (nN N) j, ?_, ?_, by rw [g3 j a b]; exact c⟩
    · rw [g2 _ f0.1 (by omega)]; exact z.1
    · rw [g2 _ (by omega) (by omega)]; exact z.2
  · obtain ⟨j, a, b, c, d, e⟩ := key s p s0 s1 p0 (by omega)
    obtain ⟨k, a2, b2, c2, d2, e2⟩ := key s q s0 s1 (by omega) q1
    rw [d, g3 j a b, d2, g3 k a2 b2]
    refine hO.2 j k a ?_ b2
    rcases (show j < k ∨ k ≤ j by omega) with z | z
    · exact z
    · have := cn_mono (p := fun j => h 6 (h 35 j) == s) (show k.toNat ≤ j.toNat by omega)
      unfold gP at e e2
      omega
end
section
abbrev rN (r : mR) : mR := rup r 31 7 (some 2)
theorem rN_d (r : mR) : (rN r).1 31 7 = some 2 := by simp [rup]
theorem rup_o {r : mR} {i k : Nat} {v : Option Nat} {a b : Nat} (h : ¬ (a = i ∧ b = k)) : (rup r i k v).1 a b = r.1 a b := by show (if a = i ∧ b = k then v else r.1 a b) = _; rw [if_neg h]
/-- the desk in force as a net; b is 1 if all run without delays -/
def isD (h : mH) (b : Int) (N : mN) : Prop := h 2 4 = nN N ∧ h 2 1 = nS N ∧ (∀ d, dp N d → lv N d = h 8 d + (if b = 0 then h 10 d else 0) ∧ ar N d = lv N d + h 9 d ∧ h 6 d = frm N d ∧ h 7 d = dst N d ∧ h 5 d = ln N d ∧ rn N d = (if b = 0 then 1 - h 12 d else 1)) ∧ ∀ s, 0 ≤ s → s < nS N → h 3 s = gp N s ∧ h 4 s = pt N s
/-- what the desk's numbers may be -/
def DV (h : mH) : Prop := (0 ≤ h 2 4 ∧ h 2 4 ≤ 120) ∧ (0 ≤ h 2 1 ∧ h 2 1 ≤ 10) ∧ (∀ d, 0 ≤ d → d < h 2 4 → (0 ≤ h 8 d ∧ h 8 d ≤ 999) ∧ (0 ≤ h 10 d ∧ h 10 d ≤ 99) ∧ (1 ≤ h 9 d ∧ h 9 d ≤ 99) ∧ (h 12 d = 0 ∨ h 12 d = 1) ∧ (0 ≤ h 6 d ∧ h 6 d < h 2 1) ∧ (0 ≤ h 7 d ∧ h 7 d < h 2 1) ∧ h 6 d ≠ h 7 d ∧ 0 ≤ h 5 d ∧ h 5 d < h 2 2) ∧ (∀ s, 0 ≤ s → s < h 2 1 → (0 ≤ h 3 s ∧ h 3 s ≤ 99) ∧ (h 4 s = -2 ∨ 0 ≤ h 4 s ∧ h 4 s ≤ 999)) ∧ (0 ≤ h 2 2 ∧ h 2 2 ≤ 8) ∧ (0 ≤ h 2 3 ∧ h 2 3 ≤ 12) ∧ (0 ≤ h 2 0 ∧ h 2 0 ≤ 999)
abbrev nC : List Nat := [31, 32, 33, 34, 35, 36, 37, 38, 39]
def loaded (h h1 : mH) (N : mN) : Prop := fr nC h h1 ∧ isN h1 N ∧ isO h1 N ∧ isG h1 N
abbrev ldQ (h : mH) (r : mR) (N : mN) : mP := fun rv h1 r1 => rv = none ∧ r1 = rN r ∧ loaded h h1 N
/-- the order by departures' times is that by the rows -/
theorem soS.isO {h h1 : mH} {N : mN} (hV : NV N) (hN : isN h N) (hs : soS h h1 (nN N) (nN N)) : isN h1 N ∧ isO h1 N := by
  obtain ⟨f, p, o⟩ := hs
  refine ⟨?_, p, fun i j i0 ij jn => ?_⟩
  · obtain ⟨a, b, c, d⟩ := hN
    refine ⟨by rw [f.at 31 0 (by decide)]; exact a, by rw [f.at 2 1 (by decide)]; exact b, fun x hx => ?_, fun s s0 s1 => ?_⟩
    · rw [f.at 32 x (by decide), f.at 33 x (by decide), f.at 6 x (by decide), f.at 7 x (by decide), f.at 5 x (by decide), f.at 34 x (by decide)]
      exact c x hx
    · rw [f.at 38 s (by decide), f.at 39 s (by decide)]
      exact d s s0 s1
  · have := o i j i0 ij jn
    unfold ow at this
    rw [(hN.2.2.1 _ (p.1 i i0 (by omega))).1, (hN.2.2.1 _ (p.1 j (by omega) jn)).1] at this
    exact this
theorem isN.fr {S : List Nat} {h h1 : mH} {N : mN} (hN : isN h N) (f : fr S h h1) (hS : ∀ i ∈ [31, 2, 32, 33, 6, 7, 5, 34, 38, 39], i ∉ S) : isN h1 N := by
  obtain ⟨a, b, c, d⟩ := hN
  refine ⟨by rw [f.at 31 0 (hS _ (by decide))]; exact a, by rw [f.at 2 1 (hS _ (by decide))]; exact b, fun x hx => ?_, fun s s0 s1 => ?_⟩
  · rw [f.at 32 x (hS _ (by decide)), f.at 33 x (hS _ (by decide)), f.at 6 x (hS _ (by decide)), f.at 7 x (hS _ (by decide)), f.at 5 x (hS _ (by decide)), f.at 34 x (hS _ (by decide))]
    exact c x hx
  · rw [f.at 38 s (hS _ (by decide)), f.at 39 s (hS _ (by decide))]
    exact d s s0 s1
theorem isO.fr {S : List Nat} {h h1 : mH} {N : mN} (hO : isO h N) (f : fr S h h1) (hS : 35 ∉ S) : isO h1 N := by
  unfold isO at *
  rw [f 35 hS]
  exact hO
theorem isG.fr {S : List Nat} {h h1 : mH} {N : mN} (hO : isG h N) (f : fr S h h1) (h1' : 36 ∉ S) (h2 : 37 ∉ S) : isG h1 N := by
  unfold isG at *
  rw [f 36 h1', f 37 h2]
  exact hO
set_option maxRecDepth 100000 in
set_option maxHeartbeats 1000000 in
theorem Ne_takeE (N : mN) (b : Int) (h : mH) (r : mR) (h' : mH) (a : Option mV) (hV : NV N) (hf : fr nC h h') (hN : isN h' N) (hP : Pm (h' 35) (nN N)) : WP (true, rm 3) m_Ne_take (rt m_Ne_take (rm 3) (ldQ h r N)) 163 [some (vR 31), some (vR 2), some (vI b), a] [] h' (rN r) (0, 0) := by
  have hnde := rN_d r
  refine wq_aload_n (kk := 0) (q := 164) rfl rfl rfl ?_
  refine wq_callV (q := 167) (m' := m_Ne_sort) (R' := rm 2) (As := []) rfl rfl l_Ne_73 vm_Ne_sort rfl rfl rfl (Or.inl ⟨rfl, Nat.le_of_ble_eq_true rfl⟩) (Nat.le_of_ble_eq_true rfl) (Nat.le_of_ble_eq_true rfl) (Nat.le_refl _) (Nat.le_refl _) (Nat.le_of_ble_eq_true rfl) (Ne_sort_ok h' (rN r) (nN N) hV.1 hN.1 hP) rfl ?_
  rintro rv h2 r2 ⟨rfl, rfl, hs⟩ -
  obtain ⟨hN2, hO2⟩ := hs.isO hV hN
  refine wq_aload_n (kk := 0) (q := 168) rfl rfl rfl ?_
  refine wq_callV (q := 171) (m' := m_Ne_group) (R' := rm 1) (As := []) rfl rfl l_Ne_76 vm_Ne_group rfl rfl rfl (Or.inl ⟨rfl, Nat.le_of_ble_eq_true rfl⟩) (Nat.le_of_ble_eq_true rfl) (Nat.le_of_ble_eq_true rfl) (Nat.le_refl _) (Nat.le_refl _) (Nat.le_of_ble_eq_true rfl) (Ne_group_ok h2 (rN r) (nN N) (nS N) hnde hV.1 hN2.1 hV.2.1 hN2.2.1 (fun d d0 d1 => by rw [(hN2.2.2.1 d ⟨d0, d1⟩).2.2.1]; exact (hV.2.2.1 d ⟨d0, d1⟩).1) hO2.1) rfl ?_
  rintro rv h3 r3 ⟨rfl, rfl, hg⟩ -
  have f3 := hg.1
  exact wq_vret rfl rfl (Nat.le_refl _) (Nat.le_refl _) ⟨rfl, rfl, (hf.trans hs.1 (by decide)).trans f3 (by decide), hN2.fr f3 (by decide), hO2.fr f3 (by decide), hg.isG hV hN2 hO2⟩
set_option maxRecDepth 100000 in
set_option maxHeartbeats 2000000 in
theorem Ne_takeD (N : mN) (b : Int) (hb : b = 0 ∨ b = 1) (h : mH) (r : mR) (hV : NV N) (hD : isD h b N) (hDV : DV h) : ∀ (M : Nat) (d : Int) (h' : mH), (nN N - d).toNat = M → 0 ≤ d → d ≤ nN N → fr nC h h' → h' 31 0 = nN N → Pm (h' 35) (nN N) → (∀ s, 0 ≤ s → s < nS N → h' 38 s = gp N s ∧ h' 39 s = pt N s) → (∀ x, 0 ≤ x → x < d → h' 32 x = lv N x ∧ h' 33 x = ar N x ∧ h' 34 x = rn N x) → WP (true, rm 3) m_Ne_take (rt m_Ne_take (rm 3) (ldQ h r N)) 67 [some (vR 31), some (vR 2), some (vI b), some (vI d)] [] h' (rN r) (0, 0) := by
  intro M
  induction M using Nat.strongRecOn with
  | ind M ih =>
    intro d h' hM d0 d1 hf hc hP hg hx
    have hnde := rN_d r
    have hn := hV.1
    have e8 : h' 8 d = h 8 d := hf.at 8 d (by decide)
    have e9 : h' 9 d = h 9 d := hf.at 9 d (by decide)
    have e10 : h' 10 d = h 10 d := hf.at 10 d (by decide)
    have e12 : h' 12 d = h 12 d := hf.at 12 d (by decide)
    have hdv := hDV.2.2.1 d d0
    have hdd := hD.2.2.1 d
    have hD1 := hD.1
    refine wq_iload_n (kk := 3) (q := 68) rfl rfl rfl ?_
    refine wq_aload_n (kk := 0) (q := 69) rfl rfl rfl ?_
    refine wq_getI (kz := 0) (q := 72) rfl f_Ne_60 rfl rfl (Or.inl ⟨rfl, Nat.le_of_ble_eq_true rfl⟩) rfl rfl ?_
    refine wq_icmp_ge (tgt := 163) (q := 75) rfl rfl rfl (fun c72 => ?_) (fun c72 => ?_)
    · skip
      have ed : d = nN N := by omega
      subst ed
      refine Ne_takeE N b h r h' _ hV hf ⟨hc, by rw [hf.at 2 1 (by decide)]; exact hD.2.1, fun x hx' => ?_, hg⟩ hP
      have z := hx x hx'.1 hx'.2
      have y := hD.2.2.1 x hx'
      exact ⟨z.1, z.2.1, by rw [hf.at 6 x (by decide)]; exact y.2.2.1, by rw [hf.at 7 x (by decide)]; exact y.2.2.2.1, by rw [hf.at 5 x (by decide)]; exact y.2.2.2.2.1, z.2.2⟩
    · skip
      refine wq_aload_n (kk := 0) (q := 76) rfl rfl rfl ?_
      refine wq_getF (q := 79) f_Ne_9 rfl rfl (Nat.le_of_ble_eq_true rfl) rfl rfl rfl ?_
      refine wq_iload_n (kk := 3) (q := 80) rfl rfl rfl ?_
      refine wq_aload_n (kk := 0) (q := 81) rfl rfl rfl ?_
      refine wq_getR (q := 84) f_Ne_37 rfl rfl (Or.inl ⟨rfl, Nat.le_of_ble_eq_true rfl⟩) hnde rfl rfl ?_
      refine wq_getF (q := 87) f_Ne_61 rfl rfl (Nat.le_of_ble_eq_true rfl) rfl rfl rfl ?_
      refine wq_iload_n (kk := 3) (q := 88) rfl rfl rfl ?_
      refine wq_iald (q := 89) rfl (Or.inl ⟨rfl, Nat.le_of_ble_eq_true rfl⟩) rfl rfl (by first | omega | (have := hdv (by omega); first | omega | (simp [hup]; omega))) (by first | omega | (have := hdv (by omega); first | omega | (simp [hup]; omega))) ?_
      refine wq_iload_n (kk := 2) (q := 90) rfl rfl rfl ?_
      refine wq_if_eq (tgt := 97) (q := 93) rfl rfl rfl (fun c90 => ?_) (fun c90 => ?_)
      · skip
        refine wq_aload_n (kk := 0) (q := 98) rfl rfl rfl ?_
        refine wq_getR (q := 101) f_Ne_37 rfl rfl (Or.inl ⟨rfl, Nat.le_of_ble_eq_true rfl⟩) hnde rfl rfl ?_
        refine wq_getF (q := 104) f_Ne_64 rfl rfl (Nat.le_of_ble_eq_true rfl) rfl rfl rfl ?_
        refine wq_iload_n (kk := 3) (q := 105) rfl rfl rfl ?_
        refine wq_iald (q := 106) rfl (Or.inl ⟨rfl, Nat.le_of_ble_eq_true rfl⟩) rfl rfl (by first | omega | (have := hdv (by omega); first | omega | (simp [hup]; omega))) (by first | omega | (have := hdv (by omega); first | omega | (simp [hup]; omega))) ?_
        refine wq_iadd (q := 107) rfl rfl (by first | omega | (have := hdv (by omega); first | omega | (simp [hup]; omega))) (by first | omega | (have := hdv (by omega); first | omega | (simp [hup]; omega))) ?_
        refine wq_iast (q := 108) rfl (Or.inl ⟨rfl, Nat.le_of_ble_eq_true rfl⟩) rfl rfl (by first | omega | (have := hdv (by omega); first | omega | (simp [hup]; omega))) (by first | omega | (have := hdv (by omega); first | omega | (simp [hup]; omega))) ?_
        refine wq_aload_n (kk := 0) (q := 109) rfl rfl rfl ?_
        refine wq_getF (q := 112) f_Ne_15 rfl rfl (Nat.le_of_ble_eq_true rfl) rfl rfl rfl ?_
        refine wq_iload_n (kk := 3) (q := 113) rfl rfl rfl ?_
        refine wq_aload_n (kk := 0) (q := 114) rfl rfl rfl ?_
        refine wq_getF (q := 117) f_Ne_9 rfl rfl (Nat.le_of_ble_eq_true rfl) rfl rfl rfl ?_
        refine wq_iload_n (kk := 3) (q := 118) rfl rfl rfl ?_
        refine wq_iald (q := 119) rfl (Or.inl ⟨rfl, Nat.le_of_ble_eq_true rfl⟩) rfl rfl (by first | omega | (have := hdv (by omega); first | omega | (simp [hup]; omega))) (by first | omega | (have := hdv (by omega); first | omega | (simp [hup]; omega))) ?_
        refine wq_aload_n (kk := 0) (q := 120) rfl rfl rfl ?_
        refine wq_getR (q := 123) f_Ne_37 rfl rfl (Or.inl ⟨rfl, Nat.le_of_ble_eq_true rfl⟩) hnde rfl rfl ?_
        refine wq_getF (q := 126) f_Ne_67 rfl rfl (Nat.le_of_ble_eq_true rfl) rfl rfl rfl ?_
        refine wq_iload_n (kk := 3) (q := 127) rfl rfl rfl ?_
        refine wq_iald (q := 128) rfl (Or.inl ⟨rfl, Nat.le_of_ble_eq_true rfl⟩) rfl rfl (by first | omega | (have := hdv (by omega); first | omega | (simp [hup]; omega))) (by first | omega | (have := hdv (by omega); first | omega | (simp [hup]; omega))) ?_
        refine wq_iadd (q := 129) rfl rfl (by first | omega | (have := hdv (by omega); first | omega | (simp [hup]; omega))) (by first | omega | (have := hdv (by omega); first | omega | (simp [hup]; omega))) ?_
        refine wq_iast (q := 130) rfl (Or.inl ⟨rfl, Nat.le_of_ble_eq_true rfl⟩) rfl rfl (by first | omega | (have := hdv (by omega); first | omega | (simp [hup]; omega))) (by first | omega | (have := hdv (by omega); first | omega | (simp [hup]; omega))) ?_
        refine wq_aload_n (kk := 0) (q := 131) rfl rfl rfl ?_
        refine wq_getF (q := 134) f_Ne_18 rfl rfl (Nat.le_of_ble_eq_true rfl) rfl rfl rfl ?_
        refine wq_iload_n (kk := 3) (q := 135) rfl rfl rfl ?_
        refine wq_iload_n (kk := 2) (q := 136) rfl rfl rfl ?_
        refine wq_if_ne (tgt := 151) (q := 139) rfl rfl rfl (fun c136 => ?_) (fun c136 => ?_)
        · skip
          refine wq_iconst (n := 1) (q := 152) rfl rfl rfl ?_
          refine wq_goto (tgt := 156) rfl rfl ?_
          refine wq_zast (q := 157) rfl (Or.inl ⟨rfl, Nat.le_of_ble_eq_true rfl⟩) rfl rfl (by first | omega | (have := hdv (by omega); first | omega | (simp [hup]; omega))) (by first | omega | (have := hdv (by omega); first | omega | (simp [hup]; omega))) (by omega) ?_
          refine wq_iinc (i := 3) (n := 1) (q := 160) rfl rfl rfl (Nat.le_of_ble_eq_true rfl) rfl (by first | omega | (have := hdv (by omega); first | omega | (simp [hup]; omega))) (by first | omega | (have := hdv (by omega); first | omega | (simp [hup]; omega))) ?_
          refine wq_goto (tgt := 67) rfl rfl ?_
          have hv := hdv (by omega)
          have hy := hdd ⟨d0, by omega⟩
          try simp [hup] at c148
          refine ih _ ?_ (d + 1) _ rfl (by omega) (by omega) (((hf.up (by decide)).up (by decide)).up (by decide)) (by simp [hup]; exact hc) (by rw [hup_ne (by decide), hup_ne (by decide), hup_ne (by decide)]; exact hP) (fun s s0 s1 => by simpa [hup] using hg s s0 s1) (fun x x0 x1 => ?_)
          · omega
          · by_cases ex : x = d
            · subst ex
              simp [hup]
              rcases hb with rfl | rfl
              · simp at hy ⊢; omega
              · simp at hy ⊢; omega
            · simp [hup, ex]
              exact hx x x0 (by omega)
        · skip
          refine wq_aload_n (kk := 0) (q := 140) rfl rfl rfl ?_
          refine wq_getR (q := 143) f_Ne_37 rfl rfl (Or.inl ⟨rfl, Nat.le_of_ble_eq_true rfl⟩) hnde rfl rfl ?_
          refine wq_getF (q := 146) f_Ne_70 rfl rfl (Nat.le_of_ble_eq_true rfl) rfl rfl rfl ?_
          refine wq_iload_n (kk := 3) (q := 147) rfl rfl rfl ?_
          refine wq_zald (q := 148) rfl (Or.inl ⟨rfl, Nat.le_of_ble_eq_true rfl⟩) rfl rfl (by first | omega | (have := hdv (by omega); first | omega | (simp [hup]; omega))) (by first | omega | (have := hdv (by omega); first | omega | (simp [hup]; omega))) ?_
          refine wq_if_ne (tgt := 155) (q := 151) rfl rfl rfl (fun c148 => ?_) (fun c148 => ?_)
          · skip
            refine wq_iconst (n := 0) (q := 156) rfl rfl rfl ?_
            refine wq_zast (q := 157) rfl (Or.inl ⟨rfl, Nat.le_of_ble_eq_true rfl⟩) rfl rfl (by first | omega | (have := hdv (by omega); first | omega | (simp [hup]; omega))) (by first | omega | (have := hdv (by omega); first | omega | (simp [hup]; omega))) (by omega) ?_
            refine wq_iinc (i := 3) (n := 1) (q := 160) rfl rfl rfl (Nat.le_of_ble_eq_true rfl) rfl (by first | omega | (have := hdv (by omega); first | omega | (simp [hup]; omega))) (by first | omega | (have := hdv (by omega); first | omega | (simp [hup]; omega))) ?_
            refine wq_goto (tgt := 67) rfl rfl ?_
            have hv := hdv (by omega)
            have hy := hdd ⟨d0, by omega⟩
            try simp [hup] at c148
            refine ih _ ?_ (d + 1) _ rfl (by omega) (by omega) (((hf.up (by decide)).up (by decide)).up (by decide)) (by simp [hup]; exact hc) (by rw [hup_ne (by decide), hup_ne (by decide), hup_ne (by decide)]; exact hP) (fun s s0 s1 => by simpa [hup] using hg s s0 s1) (fun x x0 x1 => ?_)
            · omega
            · by_cases ex : x = d
              · subst ex
                simp [hup]
                rcases hb with rfl | rfl
                · simp at hy ⊢; omega
                · simp at hy ⊢; omega
              · simp [hup, ex]
                exact hx x x0 (by omega)
          · skip
            refine wq_iconst (n := 1) (q := 152) rfl rfl rfl ?_
            refine wq_goto (tgt := 156) rfl rfl ?_
            refine wq_zast (q := 157) rfl (Or.inl ⟨rfl, Nat.le_of_ble_eq_true rfl⟩) rfl rfl (by first | omega | (have := hdv (by omega); first | omega | (simp [hup]; omega))) (by first | omega | (have := hdv (by omega); first | omega | (simp [hup]; omega))) (by omega) ?_
            refine wq_iinc (i := 3) (n := 1) (q := 160) rfl rfl rfl (Nat.le_of_ble_eq_true rfl) rfl (by first | omega | (have := hdv (by omega); first | omega | (simp [hup]; omega))) (by first | omega | (have := hdv (by omega); first | omega | (simp [hup]; omega))) ?_
            refine wq_goto (tgt := 67) rfl rfl ?_
            have hv := hdv (by omega)
            have hy := hdd ⟨d0, by omega⟩
            try simp [hup] at c148
            refine ih _ ?_ (d + 1) _ rfl (by omega) (by omega) (((hf.up (by decide)).up (by decide)).up (by decide)) (by simp [hup]; exact hc) (by rw [hup_ne (by decide), hup_ne (by decide), hup_ne (by decide)]; exact hP) (fun s s0 s1 => by simpa [hup] using hg s s0 s1) (fun x x0 x1 => ?_)
            · omega
            · by_cases ex : x = d
              · subst ex
                simp [hup]
                rcases hb with rfl | rfl
                · simp at hy ⊢; omega
                · simp at hy ⊢; omega
              · simp [hup, ex]
                exact hx x x0 (by omega)
      · skip
        refine wq_iconst (n := 0) (q := 94) rfl rfl rfl ?_
        refine wq_goto (tgt := 106) rfl rfl ?_
        refine wq_iadd (q := 107) rfl rfl (by first | omega | (have := hdv (by omega); first | omega | (simp [hup]; omega))) (by first | omega | (have := hdv (by omega); first | omega | (simp [hup]; omega))) ?_
        refine wq_iast (q := 108) rfl (Or.inl ⟨rfl, Nat.le_of_ble_eq_true rfl⟩) rfl rfl (by first | omega | (have := hdv (by omega); first | omega | (simp [hup]; omega))) (by first | omega | (have := hdv (by omega); first | omega | (simp [hup]; omega))) ?_
        refine wq_aload_n (kk := 0) (q := 109) rfl rfl rfl ?_
        refine wq_getF (q := 112) f_Ne_15 rfl rfl (Nat.le_of_ble_eq_true rfl) rfl rfl rfl ?_
        refine wq_iload_n (kk := 3) (q := 113) rfl rfl rfl ?_
        refine wq_aload_n (kk := 0) (q := 114) rfl rfl rfl ?_
        refine wq_getF (q := 117) f_Ne_9 rfl rfl (Nat.le_of_ble_eq_true rfl) rfl rfl rfl ?_
        refine wq_iload_n (kk := 3) (q := 118) rfl rfl rfl ?_
        refine wq_iald (q := 119) rfl (Or.inl ⟨rfl, Nat.le_of_ble_eq_true rfl⟩) rfl rfl (by first | omega | (have := hdv (by omega); first | omega | (simp [hup]; omega))) (by first | omega | (have := hdv (by omega); first | omega | (simp [hup]; omega))) ?_
        refine wq_aload_n (kk := 0) (q := 120) rfl rfl rfl ?_
        refine wq_getR (q := 123) f_Ne_37 rfl rfl (Or.inl ⟨rfl, Nat.le_of_ble_eq_true rfl⟩) hnde rfl rfl ?_
        refine wq_getF (q := 126) f_Ne_67 rfl rfl (Nat.le_of_ble_eq_true rfl) rfl rfl rfl ?_
        refine wq_iload_n (kk := 3) (q := 127) rfl rfl rfl ?_
        refine wq_iald (q := 128) rfl (Or.inl ⟨rfl, Nat.le_of_ble_eq_true rfl⟩) rfl rfl (by first | omega | (have := hdv (by omega); first | omega | (simp [hup]; omega))) (by first | omega | (have := hdv (by omega); first | omega | (simp [hup]; omega))) ?_
        refine wq_iadd (q := 129) rfl rfl (by first | omega | (have := hdv (by omega); first | omega | (simp [hup]; omega))) (by first | omega | (have := hdv (by omega); first | omega | (simp [hup]; omega))) ?_
        refine wq_iast (q := 130) rfl (Or.inl ⟨rfl, Nat.le_of_ble_eq_true rfl⟩) rfl rfl (by first | omega | (have := hdv (by omega); first | omega | (simp [hup]; omega))) (by first | omega | (have := hdv (by omega); first | omega | (simp [hup]; omega))) ?_
        refine wq_aload_n (kk := 0) (q := 131) rfl rfl rfl ?_
        refine wq_getF (q := 134) f_Ne_18 rfl rfl (Nat.le_of_ble_eq_true rfl) rfl rfl rfl ?_
        refine wq_iload_n (kk := 3) (q := 135) rfl rfl rfl ?_
        refine wq_iload_n (kk := 2) (q := 136) rfl rfl rfl ?_
        refine wq_if_ne (tgt := 151) (q := 139) rfl rfl rfl (fun c136 => ?_) (fun c136 => ?_)
        · skip
          refine wq_iconst (n := 1) (q := 152) rfl rfl rfl ?_
          refine wq_goto (tgt := 156) rfl rfl ?_
          refine wq_zast (q := 157) rfl (Or.inl ⟨rfl, Nat.le_of_ble_eq_true rfl⟩) rfl rfl (by first | omega | (have := hdv (by omega); first | omega | (simp [hup]; omega))) (by first | omega | (have := hdv (by omega); first | omega | (simp [hup]; omega))) (by omega) ?_
          refine wq_iinc (i := 3) (n := 1) (q := 160) rfl rfl rfl (Nat.le_of_ble_eq_true rfl) rfl (by first | omega | (have := hdv (by omega); first | omega | (simp [hup]; omega))) (by first | omega | (have := hdv (by omega); first | omega | (simp [hup]; omega))) ?_
          refine wq_goto (tgt := 67) rfl rfl ?_
          have hv := hdv (by omega)
          have hy := hdd ⟨d0, by omega⟩
          try simp [hup] at c148
          refine ih _ ?_ (d + 1) _ rfl (by omega) (by omega) (((hf.up (by decide)).up (by decide)).up (by decide)) (by simp [hup]; exact hc) (by rw [hup_ne (by decide), hup_ne (by decide), hup_ne (by decide)]; exact hP) (fun s s0 s1 => by simpa [hup] using hg s s0 s1) (fun x x0 x1 => ?_)
          · omega
          · by_cases ex : x = d
            · subst ex
              simp [hup]
              rcases hb with rfl | rfl
              · simp at hy ⊢; omega
              · simp at hy ⊢; omega
            · simp [hup, ex]
              exact hx x x0 (by omega)
        · skip
          refine wq_aload_n (kk := 0) (q := 140) rfl rfl rfl ?_
          refine wq_getR (q := 143) f_Ne_37 rfl rfl (Or.inl ⟨rfl, Nat.le_of_ble_eq_true rfl⟩) hnde rfl rfl ?_
          refine wq_getF (q := 146) f_Ne_70 rfl rfl (Nat.le_of_ble_eq_true rfl) rfl rfl rfl ?_
          refine wq_iload_n (kk := 3) (q := 147) rfl rfl rfl ?_
          refine wq_zald (q := 148) rfl (Or.inl ⟨rfl, Nat.le_of_ble_eq_true rfl⟩) rfl rfl (by first | omega | (have := hdv (by omega); first | omega | (simp [hup]; omega))) (by first | omega | (have := hdv (by omega); first | omega | (simp [hup]; omega))) ?_
          refine wq_if_ne (tgt := 155) (q := 151) rfl rfl rfl (fun c148 => ?_) (fun c148 => ?_)
          · skip
            refine wq_iconst (n := 0) (q := 156) rfl rfl rfl ?_
            refine wq_zast (q := 157) rfl (Or.inl ⟨rfl, Nat.le_of_ble_eq_true rfl⟩) rfl rfl (by first | omega | (have := hdv (by omega); first | omega | (simp [hup]; omega))) (by first | omega | (have := hdv (by omega); first | omega | (simp [hup]; omega))) (by omega) ?_
            refine wq_iinc (i := 3) (n := 1) (q := 160) rfl rfl rfl (Nat.le_of_ble_eq_true rfl) rfl (by first | omega | (have := hdv (by omega); first | omega | (simp [hup]; omega))) (by first | omega | (have := hdv (by omega); first | omega | (simp [hup]; omega))) ?_
            refine wq_goto (tgt := 67) rfl rfl ?_
            have hv := hdv (by omega)
            have hy := hdd ⟨d0, by omega⟩
            try simp [hup] at c148
            refine ih _ ?_ (d + 1) _ rfl (by omega) (by omega) (((hf.up (by decide)).up (by decide)).up (by decide)) (by simp [hup]; exact hc) (by rw [hup_ne (by decide), hup_ne (by decide), hup_ne (by decide)]; exact hP) (fun s s0 s1 => by simpa [hup] using hg s s0 s1) (fun x x0 x1 => ?_)
            · omega
            · by_cases ex : x = d
              · subst ex
                simp [hup]
                rcases hb with rfl | rfl
                · simp at hy ⊢; omega
                · simp at hy ⊢; omega
              · simp [hup, ex]
                exact hx x x0 (by omega)
          · skip
            refine wq_iconst (n := 1) (q := 152) rfl rfl rfl ?_
            refine wq_goto (tgt := 156) rfl rfl ?_
            refine wq_zast (q := 157) rfl (Or.inl ⟨rfl, Nat.le_of_ble_eq_true rfl⟩) rfl rfl (by first | omega | (have := hdv (by omega); first | omega | (simp [hup]; omega))) (by first | omega | (have := hdv (by omega); first | omega | (simp [hup]; omega))) (by omega) ?_
            refine wq_iinc (i := 3) (n := 1) (q := 160) rfl rfl rfl (Nat.le_of_ble_eq_true rfl) rfl (by first | omega | (have := hdv (by omega); first | omega | (simp [hup]; omega))) (by first | omega | (have := hdv (by omega); first | omega | (simp [hup]; omega))) ?_
            refine wq_goto (tgt := 67) rfl rfl ?_
            have hv := hdv (by omega)
            have hy := hdd ⟨d0, by omega⟩
            try simp [hup] at c148
            refine ih _ ?_ (d + 1) _ rfl (by omega) (by omega) (((hf.up (by decide)).up (by decide)).up (by decide)) (by simp [hup]; exact hc) (by rw [hup_ne (by decide), hup_ne (by decide), hup_ne (by decide)]; exact hP) (fun s s0 s1 => by simpa [hup] using hg s s0 s1) (fun x x0 x1 => ?_)
            · omega
            · by_cases ex : x = d
              · subst ex
                simp [hup]
                rcases hb with rfl | rfl
                · simp at hy ⊢; omega
                · simp at hy ⊢; omega
              · simp [hup, ex]
                exact hx x x0 (by omega)
set_option maxRecDepth 100000 in
set_option maxHeartbeats 2000000 in
theorem Ne_takeA (N : mN) (b : Int) (hb : b = 0 ∨ b = 1) (h : mH) (r : mR) (hV : NV N) (hD : isD h b N) (hDV : DV h) (hc : 0 ≤ h 31 0 ∧ h 31 0 ≤ 120) (hP : Pm (h 35) (h 31 0)) : ∀ (M : Nat) (s : Int) (h' : mH), (nS N - s).toNat = M → 0 ≤ s → s ≤ nS N → fr [38, 39] h h' → (∀ t, 0 ≤ t → t < s → h' 38 t = gp N t ∧ h' 39 t = pt N t) → WP (true, rm 3) m_Ne_take (rt m_Ne_take (rm 3) (ldQ h r N)) 7 [some (vR 31), some (vR 2), some (vI b), some (vI s)] [] h' (rN r) (0, 0) := by
  intro M
  induction M using Nat.strongRecOn with
  | ind M ih =>
    intro s h' hM s0 s1 hf hx
    have hnde := rN_d r
    have hn := hV.2.1
    have hn1 := hV.1
    have e2 : h' 2 1 = nS N := by rw [hf.at 2 1 (by decide)]; exact hD.2.1
    have e24 : h' 2 4 = nN N := by rw [hf.at 2 4 (by decide)]; exact hD.1
    have e31 : h' 31 0 = h 31 0 := hf.at 31 0 (by decide)
    have e35 : h' 35 = h 35 := hf 35 (by decide)
    have e3 : h' 3 s = h 3 s := hf.at 3 s (by decide)
    have e4 : h' 4 s = h 4 s := hf.at 4 s (by decide)
    refine wq_iload_n (kk := 3) (q := 8) rfl rfl rfl ?_
    refine wq_aload_n (kk := 0) (q := 9) rfl rfl rfl ?_
    refine wq_getR (q := 12) f_Ne_37 rfl rfl (Or.inl ⟨rfl, Nat.le_of_ble_eq_true rfl⟩) hnde rfl rfl ?_
    refine wq_getI (kz := 1) (q := 15) rfl f_Ne_45 rfl rfl (Or.inl ⟨rfl, Nat.le_of_ble_eq_true rfl⟩) rfl rfl ?_
    refine wq_icmp_ge (tgt := 54) (q := 18) rfl rfl rfl (fun c15 => ?_) (fun c15 => ?_)
    · skip
      refine wq_aload_n (kk := 0) (q := 55) rfl rfl rfl ?_
      refine wq_aload_n (kk := 0) (q := 56) rfl rfl rfl ?_
      refine wq_getR (q := 59) f_Ne_37 rfl rfl (Or.inl ⟨rfl, Nat.le_of_ble_eq_true rfl⟩) hnde rfl rfl ?_
      refine wq_getI (kz := 4) (q := 62) rfl f_Ne_53 rfl rfl (Or.inl ⟨rfl, Nat.le_of_ble_eq_true rfl⟩) rfl rfl ?_
      refine wq_callV (q := 65) (m' := m_Ne_keepOrder) (R' := rm 1) (As := [_]) rfl rfl l_Ne_56 vm_Ne_keepOrder rfl rfl rfl (Or.inl ⟨rfl, Nat.le_of_ble_eq_true rfl⟩) (Nat.le_of_ble_eq_true rfl) (Nat.le_of_ble_eq_true rfl) (Nat.le_refl _) (Nat.le_refl _) (Nat.le_of_ble_eq_true rfl) (Ne_keepOrder_ok (h' 2 4) h' (rN r) (by omega) (by omega) (by rw [e31, e35]; exact hP)) rfl ?_
      rintro rv h2 r2 ⟨rfl, rfl, f2, c2, p2⟩ -
      refine wq_iconst (n := 0) (q := 66) rfl rfl rfl ?_
      refine wq_istore_n (kk := 3) (q := 67) rfl rfl (Nat.le_of_ble_eq_true rfl) rfl ?_
      rw [e24] at c2 p2
      have es : s = nS N := by omega
      subst es
      refine Ne_takeD N b hb h r hV hD hDV _ 0 h2 rfl (by omega) (by omega) ((hf.mono (by decide)).trans f2 (by decide)) c2 p2 (fun t t0 t1 => ?_) (fun x x0 x1 => by omega)
      rw [f2.at 38 t (by decide), f2.at 39 t (by decide)]
      exact hx t t0 t1
    · skip
      refine wq_aload_n (kk := 0) (q := 19) rfl rfl rfl ?_
      refine wq_getF (q := 22) f_Ne_31 rfl rfl (Nat.le_of_ble_eq_true rfl) rfl rfl rfl ?_
      refine wq_iload_n (kk := 3) (q := 23) rfl rfl rfl ?_
      refine wq_aload_n (kk := 0) (q := 24) rfl rfl rfl ?_
      refine wq_getR (q := 27) f_Ne_37 rfl rfl (Or.inl ⟨rfl, Nat.le_of_ble_eq_true rfl⟩) hnde rfl rfl ?_
      refine wq_getF (q := 30) f_Ne_51 rfl rfl (Nat.le_of_ble_eq_true rfl) rfl rfl rfl ?_
      refine wq_iload_n (kk := 3) (q := 31) rfl rfl rfl ?_
      refine wq_iald (q := 32) rfl (Or.inl ⟨rfl, Nat.le_of_ble_eq_true rfl⟩) rfl rfl (by first | omega | (simp [hup]; omega)) (by first | omega | (simp [hup]; omega)) ?_
      refine wq_iast (q := 33) rfl (Or.inl ⟨rfl, Nat.le_of_ble_eq_true rfl⟩) rfl rfl (by first | omega | (simp [hup]; omega)) (by first | omega | (simp [hup]; omega)) ?_
      refine wq_aload_n (kk := 0) (q := 34) rfl rfl rfl ?_
      refine wq_getF (q := 37) f_Ne_34 rfl rfl (Nat.le_of_ble_eq_true rfl) rfl rfl rfl ?_
      refine wq_iload_n (kk := 3) (q := 38) rfl rfl rfl ?_
      refine wq_aload_n (kk := 0) (q := 39) rfl rfl rfl ?_
      refine wq_getR (q := 42) f_Ne_37 rfl rfl (Or.inl ⟨rfl, Nat.le_of_ble_eq_true rfl⟩) hnde rfl rfl ?_
      refine wq_getF (q := 45) f_Ne_52 rfl rfl (Nat.le_of_ble_eq_true rfl) rfl rfl rfl ?_
      refine wq_iload_n (kk := 3) (q := 46) rfl rfl rfl ?_
      refine wq_iald (q := 47) rfl (Or.inl ⟨rfl, Nat.le_of_ble_eq_true rfl⟩) rfl rfl (by first | omega | (simp [hup]; omega)) (by first | omega | (simp [hup]; omega)) ?_
      refine wq_iast (q := 48) rfl (Or.inl ⟨rfl, Nat.le_of_ble_eq_true rfl⟩) rfl rfl (by first | omega | (simp [hup]; omega)) (by first | omega | (simp [hup]; omega)) ?_
      refine wq_iinc (i := 3) (n := 1) (q := 51) rfl rfl rfl (Nat.le_of_ble_eq_true rfl) rfl (by first | omega | (simp [hup]; omega)) (by first | omega | (simp [hup]; omega)) ?_
      refine wq_goto (tgt := 7) rfl rfl ?_
      have hd := hD.2.2.2 s s0 (by omega)
      refine ih _ ?_ (s + 1) _ rfl (by omega) (by omega) ((hf.up (by decide)).up (by decide)) (fun t t0 t1 => ?_)
      · omega
      · by_cases et : t = s
        · subst et; simp [hup]; omega
        · simp [hup, et]; exact hx t t0 (by omega)
set_option maxRecDepth 100000 in
theorem Ne_take_ok (N : mN) (b : Int) (hb : b = 0 ∨ b = 1) (h : mH) (r : mR) (hV : NV N) (hD : isD h b N) (hDV : DV h) (hc : 0 ≤ h 31 0 ∧ h 31 0 ≤ 120) (hP : Pm (h 35) (h 31 0)) : Meets true (rm 3) m_Ne_take [vR 31, vR 2, vI b] h r (ldQ h r N) := by
  have hn := hV.2.1
  refine ⟨ok_Ne_take, Nat.le_of_ble_eq_true rfl, ?_⟩
  refine wq_aload_n (kk := 0) (q := 1) rfl rfl rfl ?_
  refine wq_aload_n (kk := 1) (q := 2) rfl rfl rfl ?_
  refine wq_putR (q := 5) f_Ne_37 rfl rfl rfl (Or.inl ⟨rfl, Nat.le_of_ble_eq_true rfl⟩) (Or.inl ⟨rfl, Nat.le_of_ble_eq_true rfl⟩) (fun _ => rfl) rfl rfl ?_
  refine wq_iconst (n := 0) (q := 6) rfl rfl rfl ?_
  refine wq_istore_n (kk := 3) (q := 7) rfl rfl (Nat.le_of_ble_eq_true rfl) rfl ?_
  exact Ne_takeA N b hb h r hV hD hDV hc hP _ 0 h rfl (by omega) (by omega) fr.rf (fun t t0 t1 => by omega)
set_option maxRecDepth 100000 in
theorem Ne_load_ok (N : mN) (h : mH) (r : mR) (hV : NV N) (hD : isD h 0 N) (hDV : DV h) (hc : 0 ≤ h 31 0 ∧ h 31 0 ≤ 120) (hP : Pm (h 35) (h 31 0)) : Meets true (rm 4) m_Ne_load [vR 31, vR 2] h r (ldQ h r N) := by
  refine ⟨ok_Ne_load, Nat.le_of_ble_eq_true rfl, ?_⟩
  refine wq_aload_n (kk := 0) (q := 1) rfl rfl rfl ?_
  refine wq_aload_n (kk := 1) (q := 2) rfl rfl rfl ?_
  refine wq_iconst (n := 0) (q := 3) rfl rfl rfl ?_
  refine wq_callV (q := 6) (m' := m_Ne_take) (R' := rm 3) (As := [_, _]) rfl rfl l_Ne_41 vm_Ne_take rfl rfl rfl (Or.inl ⟨rfl, Nat.le_of_ble_eq_true rfl⟩) (Nat.le_of_ble_eq_true rfl) (Nat.le_of_ble_eq_true rfl) (Nat.le_refl _) (Nat.le_refl _) (Nat.le_of_ble_eq_true rfl) (Ne_take_ok N 0 (Or.inl rfl) h r hV hD hDV hc hP) rfl ?_
  rintro rv h1 r1 ⟨rfl, rfl, hl⟩ -
  exact wq_vret rfl rfl (Nat.le_refl _) (Nat.le_refl _) ⟨rfl, rfl, hl⟩
set_option maxRecDepth 100000 in
theorem Ne_loadAsTold_ok (N : mN) (h : mH) (r : mR) (hV : NV N) (hD : isD h 1 N) (hDV : DV h) (hc : 0 ≤ h 31 0 ∧ h 31 0 ≤ 120) (hP : Pm (h 35) (h 31 0)) : Meets true (rm 4) m_Ne_loadAsTold [vR 31, vR 2] h r (ldQ h r N) := by
  refine ⟨ok_Ne_loadAsTold, Nat.le_of_ble_eq_true rfl, ?_⟩
  refine wq_aload_n (kk := 0) (q := 1) rfl rfl rfl ?_
  refine wq_aload_n (kk := 1) (q := 2) rfl rfl rfl ?_
  refine wq_iconst (n := 1) (q := 3) rfl rfl rfl ?_
  refine wq_callV (q := 6) (m' := m_Ne_take) (R' := rm 3) (As := [_, _]) rfl rfl l_Ne_41 vm_Ne_take rfl rfl rfl (Or.inl ⟨rfl, Nat.le_of_ble_eq_true rfl⟩) (Nat.le_of_ble_eq_true rfl) (Nat.le_of_ble_eq_true rfl) (Nat.le_refl _) (Nat.le_refl _) (Nat.le_of_ble_eq_true rfl) (Ne_take_ok N 1 (Or.inr rfl) h r hV hD hDV hc hP) rfl ?_
  rintro rv h1 r1 ⟨rfl, rfl, hl⟩ -
  exact wq_vret rfl rfl (Nat.le_refl _) (Nat.le_refl _) ⟨rfl, rfl, hl⟩
end
section
/-! what a question does to the net: eased, a departure that doesn't run, one that is later -/
def nEase (N : mN) : mN := (nN N, nS N, lv N, ar N, frm N, dst N, ln N, rn N, fun _ => 0, fun _ => -2)
def nRun (N : mN) (d v : Int) : mN := (nN N, nS N, lv N, ar N, frm N, dst N, ln N, fun x => if x = d then v else rn N x, gp N, pt N)
def nRuns (N : mN) (f : mF) : mN := (nN N, nS N, lv N, ar N, frm N, dst N, ln N, f, gp N, pt N)
def nLate (N : mN) (d k : Int) : mN := (nN N, nS N, fun x => if x = d then lv N x + k else lv N x, fun x => if x = d then ar N x + k else ar N x, frm N, dst N, ln N, rn N, gp N, pt N)
theorem nEase_V {N : mN} (h : NV N) : NV (nEase N) := ⟨h.1, h.2.1, h.2.2.1, fun s _ _ => ⟨by show (0 : Int) ≤ 0 ∧ (0 : Int) ≤ 99; omega, Or.inl rfl⟩⟩
theorem nRuns_V {N : mN} (h : NV N) {f : mF} (hf : ∀ d, dp N d → f d = 0 ∨ f d = 1) : NV (nRuns N f) := ⟨h.1, h.2.1, fun d hd => ⟨(h.2.2.1 d hd).1, (h.2.2.1 d hd).2.1, (h.2.2.1 d hd).2.2.1, (h.2.2.1 d hd).2.2.2.1, hf d hd⟩, h.2.2.2⟩
theorem nRun_V {N : mN} (h : NV N) {d v : Int} (hv : v = 0 ∨ v = 1) : NV (nRun N d v) := nRuns_V h (fun x hx => by
  by_cases e : x = d
  · simp [e]; omega
  · simp [e]; exact (h.2.2.1 x hx).2.2.2.2)
theorem nLate_V {N : mN} (h : NV N) {d k : Int} (hk : 0 ≤ k) (hd : lv N d + k ≤ 1500 ∧ ar N d + k ≤ 1700) : NV (nLate N d k) := ⟨h.1, h.2.1, fun x hx => by
  have := h.2.2.1 x hx
  refine ⟨this.1, this.2.1, ?_, ?_, this.2.2.2.2⟩
  · show 0 ≤ (if x = d then lv N x + k else lv N x) ∧ (if x = d then lv N x + k else lv N x) ≤ 1500
    split
    · subst_vars; omega
    · omega
  · show (if x = d then lv N x + k else lv N x) < (if x = d then ar N x + k else ar N x) ∧ (if x = d then ar N x + k else ar N x) ≤ 1700
    split
    · subst_vars; omega
    · omega, h.2.2.2⟩
set_option maxRecDepth 100000 in
set_option maxHeartbeats 1000000 in
theorem Ne_easeA (N : mN) (h : mH) (r : mR) (hnde : r.1 31 7 = some 2) (hV : NV N) (hN : isN h N) : ∀ (M : Nat) (s : Int) (h' : mH), (nS N - s).toNat = M → 0 ≤ s → s ≤ nS N → fr [38, 39] h h' → (∀ t, 0 ≤ t → t < s → h' 38 t = 0 ∧ h' 39 t = -2) → WP (true, rm 1) m_Ne_ease (rt m_Ne_ease (rm 1) (fun rv h1 r1 => rv = none ∧ r1 = r ∧ fr [38, 39] h h1 ∧ isN h1 (nEase N))) 2 [some (vR 31), some (vI s)] [] h' r (0, 0) := by
  intro M
  induction M using Nat.strongRecOn with
  | ind M ih =>
    intro s h' hM s0 s1 hf hx
    have hn := hV.2.1
    have e2 : h' 2 1 = nS N := by rw [hf.at 2 1 (by decide)]; exact hN.2.1
    refine wq_iload_n (kk := 1) (q := 3) rfl rfl rfl ?_
    refine wq_aload_n (kk := 0) (q := 4) rfl rfl rfl ?_
    refine wq_getR (q := 7) f_Ne_37 rfl rfl (Or.inl ⟨rfl, Nat.le_of_ble_eq_true rfl⟩) hnde rfl rfl ?_
    refine wq_getI (kz := 1) (q := 10) rfl f_Ne_45 rfl rfl (Or.inl ⟨rfl, Nat.le_of_ble_eq_true rfl⟩) rfl rfl ?_
    refine wq_icmp_ge (tgt := 34) (q := 13) rfl rfl rfl (fun c10 => ?_) (fun c10 => ?_)
    · skip
      refine wq_vret rfl rfl (Nat.le_refl _) (Nat.le_refl _) ⟨rfl, rfl, hf, by rw [hf.at 31 0 (by decide)]; exact hN.1, e2, fun d hd => ?_, fun t t0 t1 => hx t t0 (by have : t < nS N := t1; omega)⟩
      have := hN.2.2.1 d hd
      rw [hf.at 32 d (by decide), hf.at 33 d (by decide), hf.at 6 d (by decide), hf.at 7 d (by decide), hf.at 5 d (by decide), hf.at 34 d (by decide)]
      exact this
    · skip
      refine wq_aload_n (kk := 0) (q := 14) rfl rfl rfl ?_
      refine wq_getF (q := 17) f_Ne_31 rfl rfl (Nat.le_of_ble_eq_true rfl) rfl rfl rfl ?_
      refine wq_iload_n (kk := 1) (q := 18) rfl rfl rfl ?_
      refine wq_iconst (n := 0) (q := 19) rfl rfl rfl ?_
      refine wq_iast (q := 20) rfl (Or.inl ⟨rfl, Nat.le_of_ble_eq_true rfl⟩) rfl rfl (by first | omega | (simp [hup]; omega)) (by first | omega | (simp [hup]; omega)) ?_
      refine wq_aload_n (kk := 0) (q := 21) rfl rfl rfl ?_
      refine wq_getF (q := 24) f_Ne_34 rfl rfl (Nat.le_of_ble_eq_true rfl) rfl rfl rfl ?_
      refine wq_iload_n (kk := 1) (q := 25) rfl rfl rfl ?_
      refine wq_bipush (n := -2) (q := 27) rfl rfl rfl ?_
      refine wq_iast (q := 28) rfl (Or.inl ⟨rfl, Nat.le_of_ble_eq_true rfl⟩) rfl rfl (by first | omega | (simp [hup]; omega)) (by first | omega | (simp [hup]; omega)) ?_
      refine wq_iinc (i := 1) (n := 1) (q := 31) rfl rfl rfl (Nat.le_of_ble_eq_true rfl) rfl (by first | omega | (simp [hup]; omega)) (by first | omega | (simp [hup]; omega)) ?_
      refine wq_goto (tgt := 2) rfl rfl ?_
      refine ih _ ?_ (s + 1) _ rfl (by omega) (by omega) ((hf.up (by decide)).up (by decide)) (fun t t0 t1 => ?_)
      · omega
      · by_cases et : t = s
        · subst et; simp [hup]
        · simp [hup, et]; exact hx t t0 (by omega)
set_option maxRecDepth 100000 in
theorem Ne_ease_ok (N : mN) (h : mH) (r : mR) (hnde : r.1 31 7 = some 2) (hV : NV N) (hN : isN h N) : Meets true (rm 1) m_Ne_ease [vR 31] h r (fun rv h1 r1 => rv = none ∧ r1 = r ∧ fr [38, 39] h h1 ∧ isN h1 (nEase N)) := by
  have hn := hV.2.1
  refine ⟨ok_Ne_ease, Nat.le_of_ble_eq_true rfl, ?_⟩
  refine wq_iconst (n := 0) (q := 1) rfl rfl rfl ?_
  refine wq_istore_n (kk := 1) (q := 2) rfl rfl (Nat.le_of_ble_eq_true rfl) rfl ?_
  exact Ne_easeA N h r hnde hV hN _ 0 h rfl (by omega) (by omega) fr.rf (fun t t0 t1 => by omega)
set_option maxRecDepth 100000 in
theorem Ne_setRuns_ok (d b v : Int) (h : mH) (r : mR) (hnde : r.1 31 7 = some 2) (hd : 0 ≤ d ∧ d < 120) (hb : b = 0 ∨ b = 1) (ho : h 12 d = 0 ∨ h 12 d = 1) (hv : v = if b = 0 then 0 else 1 - h 12 d) : Meets true (rm 1) m_Ne_setRuns [vR 31, vI d, vI b] h r (pH (hup h 34 d v) r) := by
  refine ⟨ok_Ne_setRuns, Nat.le_of_ble_eq_true rfl, ?_⟩
  refine wq_aload_n (kk := 0) (q := 1) rfl rfl rfl ?_
  refine wq_getF (q := 4) f_Ne_18 rfl rfl (Nat.le_of_ble_eq_true rfl) rfl rfl rfl ?_
  refine wq_iload_n (kk := 1) (q := 5) rfl rfl rfl ?_
  refine wq_iload_n (kk := 2) (q := 6) rfl rfl rfl ?_
  refine wq_if_eq (tgt := 25) (q := 9) rfl rfl rfl (fun c6 => ?_) (fun c6 => ?_)
  · skip
    refine wq_iconst (n := 0) (q := 26) rfl rfl rfl ?_
    refine wq_zast (q := 27) rfl (Or.inl ⟨rfl, Nat.le_of_ble_eq_true rfl⟩) rfl rfl (by first | omega | (simp [hup]; omega)) (by first | omega | (simp [hup]; omega)) (by omega) ?_
    refine wq_vret rfl rfl (Nat.le_refl _) (Nat.le_refl _) ?_
    refine ⟨rfl, ?_, rfl⟩
    congr 1
    rw [hv]
    first | (rw [if_pos (by omega)]; done) | (rw [if_neg (by omega)]; omega) | (split <;> omega)
  · skip
    refine wq_aload_n (kk := 0) (q := 10) rfl rfl rfl ?_
    refine wq_getR (q := 13) f_Ne_37 rfl rfl (Or.inl ⟨rfl, Nat.le_of_ble_eq_true rfl⟩) hnde rfl rfl ?_
    refine wq_getF (q := 16) f_Ne_70 rfl rfl (Nat.le_of_ble_eq_true rfl) rfl rfl rfl ?_
    refine wq_iload_n (kk := 1) (q := 17) rfl rfl rfl ?_
    refine wq_zald (q := 18) rfl (Or.inl ⟨rfl, Nat.le_of_ble_eq_true rfl⟩) rfl rfl (by first | omega | (simp [hup]; omega)) (by first | omega | (simp [hup]; omega)) ?_
    refine wq_if_ne (tgt := 25) (q := 21) rfl rfl rfl (fun c18 => ?_) (fun c18 => ?_)
    · skip
      refine wq_iconst (n := 0) (q := 26) rfl rfl rfl ?_
      refine wq_zast (q := 27) rfl (Or.inl ⟨rfl, Nat.le_of_ble_eq_true rfl⟩) rfl rfl (by first | omega | (simp [hup]; omega)) (by first | omega | (simp [hup]; omega)) (by omega) ?_
      refine wq_vret rfl rfl (Nat.le_refl _) (Nat.le_refl _) ?_
      refine ⟨rfl, ?_, rfl⟩
      congr 1
      rw [hv]
      first | (rw [if_pos (by omega)]; done) | (rw [if_neg (by omega)]; omega) | (split <;> omega)
    · skip
      refine wq_iconst (n := 1) (q := 22) rfl rfl rfl ?_
      refine wq_goto (tgt := 26) rfl rfl ?_
      refine wq_zast (q := 27) rfl (Or.inl ⟨rfl, Nat.le_of_ble_eq_true rfl⟩) rfl rfl (by first | omega | (simp [hup]; omega)) (by first | omega | (simp [hup]; omega)) (by omega) ?_
      refine wq_vret rfl rfl (Nat.le_refl _) (Nat.le_refl _) ?_
      refine ⟨rfl, ?_, rfl⟩
      congr 1
      rw [hv]
      first | (rw [if_pos (by omega)]; done) | (rw [if_neg (by omega)]; omega) | (split <;> omega)
set_option maxRecDepth 100000 in
set_option maxHeartbeats 1000000 in
theorem Ne_dropA (h : mH) (r : mR) (c : Int) (hc : h 41 0 = c) (hc1 : 0 ≤ c ∧ c ≤ 120) (hr : ∀ i, 0 ≤ i → i < c → 0 ≤ h 42 i ∧ h 42 i < 120) : ∀ (M : Nat) (i : Int) (h' : mH), (c - i).toNat = M → 0 ≤ i → i ≤ c → fr [34] h h' → (∀ d, (∃ j, 0 ≤ j ∧ j < i ∧ h 42 j = d) ∧ h' 34 d = 0 ∨ (∀ j, 0 ≤ j → j < i → h 42 j ≠ d) ∧ h' 34 d = h 34 d) → WP (true, rm 1) m_Ne_dropAll (rt m_Ne_dropAll (rm 1) (fun rv h1 r1 => rv = none ∧ r1 = r ∧ fr [34] h h1 ∧ ∀ d, (∃ j, 0 ≤ j ∧ j < c ∧ h 42 j = d) ∧ h1 34 d = 0 ∨ (∀ j, 0 ≤ j → j < c → h 42 j ≠ d) ∧ h1 34 d = h 34 d)) 2 [some (vR 31), some (vR 41), some (vI i)] [] h' r (0, 0) := by
  intro M
  induction M using Nat.strongRecOn with
  | ind M ih =>
    intro i h' hM i0 i1 hf hx
    have e41 : h' 41 0 = c := by rw [hf.at 41 0 (by decide)]; exact hc
    have e42 : h' 42 i = h 42 i := hf.at 42 i (by decide)
    refine wq_iload_n (kk := 2) (q := 3) rfl rfl rfl ?_
    refine wq_aload_n (kk := 1) (q := 4) rfl rfl rfl ?_
    refine wq_getI (kz := 0) (q := 7) rfl f_Ne_79 rfl rfl (Or.inl ⟨rfl, Nat.le_of_ble_eq_true rfl⟩) rfl rfl ?_
    refine wq_icmp_ge (tgt := 28) (q := 10) rfl rfl rfl (fun c7 => ?_) (fun c7 => ?_)
    · skip
      have e : i = c := by omega
      subst e
      exact wq_vret rfl rfl (Nat.le_refl _) (Nat.le_refl _) ⟨rfl, rfl, hf, hx⟩
    · skip
      refine wq_aload_n (kk := 0) (q := 11) rfl rfl rfl ?_
      refine wq_getF (q := 14) f_Ne_18 rfl rfl (Nat.le_of_ble_eq_true rfl) rfl rfl rfl ?_
      refine wq_aload_n (kk := 1) (q := 15) rfl rfl rfl ?_
      refine wq_getF (q := 18) f_Ne_82 rfl rfl (Nat.le_of_ble_eq_true rfl) rfl rfl rfl ?_
      refine wq_iload_n (kk := 2) (q := 19) rfl rfl rfl ?_
      refine wq_iald (q := 20) rfl (Or.inl ⟨rfl, Nat.le_of_ble_eq_true rfl⟩) rfl rfl (by first | omega | (have := hr i i0 (by omega); omega)) (by first | omega | (have := hr i i0 (by omega); omega)) ?_
      refine wq_iconst (n := 0) (q := 21) rfl rfl rfl ?_
      refine wq_zast (q := 22) rfl (Or.inl ⟨rfl, Nat.le_of_ble_eq_true rfl⟩) rfl rfl (by first | omega | (have := hr i i0 (by omega); omega)) (by first | omega | (have := hr i i0 (by omega); omega)) (by omega) ?_
      refine wq_iinc (i := 2) (n := 1) (q := 25) rfl rfl rfl (Nat.le_of_ble_eq_true rfl) rfl (by first | omega | (have := hr i i0 (by omega); omega)) (by first | omega | (have := hr i i0 (by omega); omega)) ?_
      refine wq_goto (tgt := 2) rfl rfl ?_
      refine ih _ ?_ (i + 1) _ rfl (by omega) (by omega) (hf.up (by decide)) (fun d => ?_)
      · omega
      · by_cases ed : d = h 42 i
        · subst ed
          left
          exact ⟨⟨i, i0, by omega, rfl⟩, by rw [e42, hup_s]⟩
        · rw [e42, hup_j ed]
          rcases hx d with ⟨⟨j, a, b, c'⟩, z⟩ | ⟨a, z⟩
          · exact Or.inl ⟨⟨j, a, by omega, c'⟩, z⟩
          · refine Or.inr ⟨fun j j0 j1 => ?_, z⟩
            by_cases ej : j = i
            · subst ej; exact fun q => ed q.symm
            · exact a j j0 (by omega)
set_option maxRecDepth 100000 in
theorem Ne_dropAll_ok (h : mH) (r : mR) (c : Int) (hc : h 41 0 = c) (hc1 : 0 ≤ c ∧ c ≤ 120) (hr : ∀ i, 0 ≤ i → i < c → 0 ≤ h 42 i ∧ h 42 i < 120) : Meets true (rm 1) m_Ne_dropAll [vR 31, vR 41] h r (fun rv h1 r1 => rv = none ∧ r1 = r ∧ fr [34] h h1 ∧ ∀ d, (∃ j, 0 ≤ j ∧ j < c ∧ h 42 j = d) ∧ h1 34 d = 0 ∨ (∀ j, 0 ≤ j → j < c → h 42 j ≠ d) ∧ h1 34 d = h 34 d) := by
  refine ⟨ok_Ne_dropAll, Nat.le_of_ble_eq_true rfl, ?_⟩
  refine wq_iconst (n := 0) (q := 1) rfl rfl rfl ?_
  refine wq_istore_n (kk := 2) (q := 2) rfl rfl (Nat.le_of_ble_eq_true rfl) rfl ?_
  exact Ne_dropA h r c hc hc1 hr _ 0 h rfl (by omega) (by omega) fr.rf (fun d => Or.inr ⟨fun j j0 j1 => by omega, rfl⟩)
set_option maxRecDepth 100000 in
set_option maxHeartbeats 1000000 in
theorem Ne_putOff_ok (N : mN) (d : Int) (h : mH) (r : mR) (hnde : r.1 31 7 = some 2) (hV : NV N) (hV' : NV (nLate N d 1)) (hN : isN h N) (hO : isO h N) (hd : dp N d) : Meets true (rm 3) m_Ne_putOff [vR 31, vI d] h r (fun rv h1 r1 => rv = none ∧ r1 = r ∧ loaded h h1 (nLate N d 1)) := by
  have z := hN.2.2.1 d hd
  have v := hV.2.2.1 d hd
  have hn := hV.1
  obtain ⟨d0, d1⟩ := id hd
  have hf0 : fr [32, 33] h (hup (hup h 32 d (h 32 d + 1)) 33 d (h 33 d + 1)) := (fr.rf.up (by decide)).up (by decide)
  have hN' : isN (hup (hup h 32 d (h 32 d + 1)) 33 d (h 33 d + 1)) (nLate N d 1) := by
    refine ⟨by simp [hup]; exact hN.1, by simp [hup]; exact hN.2.1, fun x hx => ?_, fun s s0 s1 => ?_⟩
    · have y := hN.2.2.1 x hx
      have l1 : lv (nLate N d 1) x = if x = d then lv N x + 1 else lv N x := rfl
      have l2 : ar (nLate N d 1) x = if x = d then ar N x + 1 else ar N x := rfl
      rw [l1, l2]
      by_cases ex : x = d
      · subst ex
        rw [if_pos rfl, if_pos rfl]
        refine ⟨?_, ?_, (by rw [hup_i (by decide), hup_i (by decide)]; exact y.2.2.1), (by rw [hup_i (by decide), hup_i (by decide)]; exact y.2.2.2.1), (by rw [hup_i (by decide), hup_i (by decide)]; exact y.2.2.2.2.1), (by rw [hup_i (by decide), hup_i (by decide)]; exact y.2.2.2.2.2)⟩
        · simp [hup]; omega
        · simp [hup]; omega
      · rw [if_neg ex, if_neg ex]
        refine ⟨by simpa [hup, ex] using y.1, by simpa [hup, ex] using y.2.1, (by rw [hup_i (by decide), hup_i (by decide)]; exact y.2.2.1), (by rw [hup_i (by decide), hup_i (by decide)]; exact y.2.2.2.1), (by rw [hup_i (by decide), hup_i (by decide)]; exact y.2.2.2.2.1), (by rw [hup_i (by decide), hup_i (by decide)]; exact y.2.2.2.2.2)⟩
    · have y := hN.2.2.2 s s0 s1
      exact ⟨(by rw [hup_i (by decide), hup_i (by decide)]; exact y.1), (by rw [hup_i (by decide), hup_i (by decide)]; exact y.2)⟩
  refine ⟨ok_Ne_putOff, Nat.le_of_ble_eq_true rfl, ?_⟩
  refine wq_aload_n (kk := 0) (q := 1) rfl rfl rfl ?_
  refine wq_getF (q := 4) f_Ne_9 rfl rfl (Nat.le_of_ble_eq_true rfl) rfl rfl rfl ?_
  refine wq_iload_n (kk := 1) (q := 5) rfl rfl rfl ?_
  refine wq_dup2 (q := 6) rfl rfl rfl rfl ?_
  refine wq_iald (q := 7) rfl (Or.inl ⟨rfl, Nat.le_of_ble_eq_true rfl⟩) rfl rfl (by first | omega | (simp [hup]; omega)) (by first | omega | (simp [hup]; omega)) ?_
  refine wq_iconst (n := 1) (q := 8) rfl rfl rfl ?_
  refine wq_iadd (q := 9) rfl rfl (by first | omega | (simp [hup]; omega)) (by first | omega | (simp [hup]; omega)) ?_
  refine wq_iast (q := 10) rfl (Or.inl ⟨rfl, Nat.le_of_ble_eq_true rfl⟩) rfl rfl (by first | omega | (simp [hup]; omega)) (by first | omega | (simp [hup]; omega)) ?_
  refine wq_aload_n (kk := 0) (q := 11) rfl rfl rfl ?_
  refine wq_getF (q := 14) f_Ne_15 rfl rfl (Nat.le_of_ble_eq_true rfl) rfl rfl rfl ?_
  refine wq_iload_n (kk := 1) (q := 15) rfl rfl rfl ?_
  refine wq_dup2 (q := 16) rfl rfl rfl rfl ?_
  refine wq_iald (q := 17) rfl (Or.inl ⟨rfl, Nat.le_of_ble_eq_true rfl⟩) rfl rfl (by first | omega | (simp [hup]; omega)) (by first | omega | (simp [hup]; omega)) ?_
  refine wq_iconst (n := 1) (q := 18) rfl rfl rfl ?_
  refine wq_iadd (q := 19) rfl rfl (by first | omega | (simp [hup]; omega)) (by first | omega | (simp [hup]; omega)) ?_
  refine wq_iast (q := 20) rfl (Or.inl ⟨rfl, Nat.le_of_ble_eq_true rfl⟩) rfl rfl (by first | omega | (simp [hup]; omega)) (by first | omega | (simp [hup]; omega)) ?_
  rw [show hup h 32 d (h 32 d + 1) 33 d = h 33 d from hup_i (by decide)]
  refine wq_aload_n (kk := 0) (q := 21) rfl rfl rfl ?_
  refine wq_callV (q := 24) (m' := m_Ne_sort) (R' := rm 2) (As := []) rfl rfl l_Ne_73 vm_Ne_sort rfl rfl rfl (Or.inl ⟨rfl, Nat.le_of_ble_eq_true rfl⟩) (Nat.le_of_ble_eq_true rfl) (Nat.le_of_ble_eq_true rfl) (Nat.le_refl _) (Nat.le_refl _) (Nat.le_of_ble_eq_true rfl) (Ne_sort_ok _ r (nN N) hn hN'.1 (by rw [hf0 35 (by decide)]; exact hO.1)) rfl ?_
  rintro rv h2 r2 ⟨rfl, rfl, hs⟩ -
  obtain ⟨hN2, hO2⟩ := hs.isO hV' hN'
  refine wq_aload_n (kk := 0) (q := 25) rfl rfl rfl ?_
  refine wq_callV (q := 28) (m' := m_Ne_group) (R' := rm 1) (As := []) rfl rfl l_Ne_76 vm_Ne_group rfl rfl rfl (Or.inl ⟨rfl, Nat.le_of_ble_eq_true rfl⟩) (Nat.le_of_ble_eq_true rfl) (Nat.le_of_ble_eq_true rfl) (Nat.le_refl _) (Nat.le_refl _) (Nat.le_of_ble_eq_true rfl) (Ne_group_ok h2 r2 (nN N) (nS N) hnde hn hN2.1 hV.2.1 hN2.2.1 (fun x x0 x1 => by rw [(hN2.2.2.1 x ⟨x0, x1⟩).2.2.1]; exact (hV'.2.2.1 x ⟨x0, x1⟩).1) hO2.1) rfl ?_
  rintro rv h3 r3 ⟨rfl, rfl, hg⟩ -
  have f3 := hg.1
  exact wq_vret rfl rfl (Nat.le_refl _) (Nat.le_refl _) ⟨rfl, rfl, ((hf0.mono (by decide)).trans hs.1 (by decide)).trans f3 (by decide), hN2.fr f3 (by decide), hO2.fr f3 (by decide), hg.isG hV' hN2 hO2⟩
end
section
/-! LinkTimes$Flood: cells 48 (rows 49, 50) and 51 (rows 52, 53) -/
def isF (F SO CA : Nat) : Prop := F = 48 ∧ SO = 49 ∧ CA = 50 ∨ F = 51 ∧ SO = 52 ∧ CA = 53
def rode (N : mN) (e : Int) (SO CA : Nat) (h h1 : mH) : Prop := fr [SO, CA] h h1 ∧ (∀ s, s ≠ dst N e → h1 SO s = h SO s) ∧ h1 SO (dst N e) = (if ar N e < h SO (dst N e) then ar N e else h SO (dst N e)) ∧ ∀ d, dp N d → (h1 CA d = 1 ↔ h CA d = 1 ∨ (J N e d ∧ frm N d = dst N e)) ∧ (h1 CA d = 0 ∨ h1 CA d = 1)
def netW (h : mH) (r : mR) (N : mN) : Prop := r.1 31 7 = some 2 ∧ NV N ∧ isN h N ∧ isO h N ∧ isG h N
theorem netW.fr {S : List Nat} {h h1 : mH} {r : mR} {N : mN} (hw : netW h r N) (f : fr S h h1) (hS : ∀ i ∈ [31, 2, 32, 33, 6, 7, 5, 34, 38, 39, 35, 36, 37], i ∉ S) : netW h1 r N :=
  ⟨hw.1, hw.2.1, hw.2.2.1.fr f (fun i hi => hS i (by simp at hi ⊢; omega)), hw.2.2.2.1.fr f (hS _ (by decide)), hw.2.2.2.2.fr f (hS _ (by decide)) (hS _ (by decide))⟩
set_option maxRecDepth 100000 in
set_option maxHeartbeats 2000000 in
theorem Fl_rideA (F SO CA : Nat) (hF : isF F SO CA) (N : mN) (e : Int) (h : mH) (r : mR) (h0 : mH) (he : dp N e) (hw : netW h r N) (Q : mX)
    (K : ∀ h2 a b, fr [CA] h h2 → (∀ d, dp N d → (h2 CA d = 1 ↔ h CA d = 1 ∨ (J N e d ∧ frm N d = dst N e)) ∧ (h2 CA d = 0 ∨ h2 CA d = 1)) → WP (true, rm 3) m_Fl_rideOn Q 85 [some (vR F), some (vR 31), some (vI e), some (vI (dst N e)), a, b] [] h2 r (0, 0)) :
    ∀ (M : Nat) (p : Int) (h' : mH) (a : Option mV), (h 37 (dst N e + 1) - p).toNat = M → h 37 (dst N e) ≤ p → p ≤ h 37 (dst N e + 1) → fr [CA] h h' → (∀ d, dp N d → (h' CA d = 1 ↔ h CA d = 1 ∨ (J N e d ∧ ∃ q, h 37 (dst N e) ≤ q ∧ q < p ∧ h 36 q = d)) ∧ (h' CA d = 0 ∨ h' CA d = 1)) → WP (true, rm 3) m_Fl_rideOn Q 39 [some (vR F), some (vR 31), some (vI e), some (vI (dst N e)), some (vI p), a] [] h' r (0, 0) := by
  rcases hF with ⟨rfl, rfl, rfl⟩ | ⟨rfl, rfl, rfl⟩
  all_goals
    intro M
    induction M using Nat.strongRecOn with
    | ind M ih =>
      intro p h' a hM p0 p1 hf hx
      obtain ⟨hnde, hV, hN, hO, hG⟩ := id hw
      have hve := hV.2.2.1 e he
      have hn := hV.1
      have hS := hV.2.1
      have g1 := hG.1 (dst N e) (by omega) (by omega)
      have hw' : netW h' r N := hw.fr hf (by decide)
      have e37 : h' 37 = h 37 := hf 37 (by decide)
      have e36 : h' 36 = h 36 := hf 36 (by decide)
      have gd : p < h 37 (dst N e + 1) → dp N (h 36 p) ∧ frm N (h 36 p) = dst N e := fun z => hG.2.1 (dst N e) p (by omega) (by omega) p0 z
      refine wq_iload (i := 4) (q := 41) rfl rfl rfl ?_
      refine wq_aload_n (kk := 1) (q := 42) rfl rfl rfl ?_
      refine wq_getF (q := 45) f_Fl_63 rfl rfl (Nat.le_of_ble_eq_true rfl) rfl rfl rfl ?_
      refine wq_iload_n (kk := 3) (q := 46) rfl rfl rfl ?_
      refine wq_iconst (n := 1) (q := 47) rfl rfl rfl ?_
      refine wq_iadd (q := 48) rfl rfl (by first | omega | (rw [e37]; omega) | (have z := gd (by omega); have z1 := z.1.1; have z2 := z.1.2; first | omega | (rw [e36]; omega))) (by first | omega | (rw [e37]; omega) | (have z := gd (by omega); have z1 := z.1.1; have z2 := z.1.2; first | omega | (rw [e36]; omega))) ?_
      refine wq_iald (q := 49) rfl (Or.inl ⟨rfl, Nat.le_of_ble_eq_true rfl⟩) rfl rfl (by first | omega | (rw [e37]; omega) | (have z := gd (by omega); have z1 := z.1.1; have z2 := z.1.2; first | omega | (rw [e36]; omega))) (by first | omega | (rw [e37]; omega) | (have z := gd (by omega); have z1 := z.1.1; have z2 := z.1.2; first | omega | (rw [e36]; omega))) ?_
      rw [e37]
      refine wq_icmp_ge (tgt := 85) (q := 52) rfl rfl rfl (fun c49 => ?_) (fun c49 => ?_)
      · skip
        refine K h' _ _ hf (fun d hd => ⟨?_, (hx d hd).2⟩)
        rw [(hx d hd).1]
        refine or_congr Iff.rfl (and_congr Iff.rfl ⟨?_, fun z => ?_⟩)
        · rintro ⟨q, q0, q1, rfl⟩
          exact (hG.2.1 (dst N e) q (by omega) (by omega) q0 (by omega)).2
        · obtain ⟨q, q0, q1, q2⟩ := hG.2.2.1 d hd
          rw [z] at q0 q1
          exact ⟨q, q0, by omega, q2⟩
      · skip
        refine wq_aload_n (kk := 1) (q := 53) rfl rfl rfl ?_
        refine wq_getF (q := 56) f_Fl_66 rfl rfl (Nat.le_of_ble_eq_true rfl) rfl rfl rfl ?_
        refine wq_iload (i := 4) (q := 58) rfl rfl rfl ?_
        refine wq_iald (q := 59) rfl (Or.inl ⟨rfl, Nat.le_of_ble_eq_true rfl⟩) rfl rfl (by first | omega | (rw [e37]; omega) | (have z := gd (by omega); have z1 := z.1.1; have z2 := z.1.2; first | omega | (rw [e36]; omega))) (by first | omega | (rw [e37]; omega) | (have z := gd (by omega); have z1 := z.1.1; have z2 := z.1.2; first | omega | (rw [e36]; omega))) ?_
        rw [e36]
        refine wq_istore (i := 5) (q := 61) rfl rfl (Nat.le_of_ble_eq_true rfl) rfl ?_
        refine wq_aload_n (kk := 1) (q := 62) rfl rfl rfl ?_
        refine wq_iload_n (kk := 2) (q := 63) rfl rfl rfl ?_
        refine wq_iload (i := 5) (q := 65) rfl rfl rfl ?_
        refine wq_callV (q := 68) (m' := m_Ne_joins) (R' := rm 2) (As := [_, _]) rfl rfl l_Fl_69 vm_Ne_joins rfl rfl rfl (Or.inl ⟨rfl, Nat.le_of_ble_eq_true rfl⟩) (Nat.le_of_ble_eq_true rfl) (Nat.le_of_ble_eq_true rfl) (Nat.le_refl _) (Nat.le_refl _) (Nat.le_of_ble_eq_true rfl) (Ne_joins_ok N e (h 36 p) h' r hnde hV hw'.2.2.1 he (gd (by omega)).1) rfl ?_
        rintro rv h' r' ⟨rfl, rfl, rfl⟩ -
        refine wq_cif_eq (tgt := 79) (q := 71) rfl rfl rfl (fun c68 => ?_) (fun c68 => ?_)
        · skip
          refine wq_iinc (i := 4) (n := 1) (q := 82) rfl rfl rfl (Nat.le_of_ble_eq_true rfl) rfl (by first | omega | (rw [e37]; omega) | (have z := gd (by omega); have z1 := z.1.1; have z2 := z.1.2; first | omega | (rw [e36]; omega))) (by first | omega | (rw [e37]; omega) | (have z := gd (by omega); have z1 := z.1.1; have z2 := z.1.2; first | omega | (rw [e36]; omega))) ?_
          refine wq_goto (tgt := 39) rfl rfl ?_
          have gp' := gd (by omega)
          first
            | (refine ih _ ?_ (p + 1) _ _ rfl (by omega) (by omega) hf (fun d hd => ?_)
               · omega
               · refine ⟨(hx d hd).1.trans (or_congr Iff.rfl ⟨fun ⟨j, q, q0, q1, q2⟩ => ⟨j, q, q0, by omega, q2⟩, ?_⟩), (hx d hd).2⟩
                 rintro ⟨j, q, q0, q1, q2⟩
                 by_cases eq : q = p
                 · subst eq; rw [q2] at c68; exact absurd j c68
                 · exact ⟨j, q, q0, by omega, q2⟩)
            | (refine ih _ ?_ (p + 1) _ _ rfl (by omega) (by omega) (hf.up (by decide)) (fun d hd => ?_)
               · omega
               · by_cases ed : d = h 36 p
                 · subst ed
                   rw [hup_s]
                   exact ⟨⟨fun _ => Or.inr ⟨c68, p, p0, by omega, rfl⟩, fun _ => rfl⟩, Or.inr rfl⟩
                 · rw [hup_j ed]
                   refine ⟨(hx d hd).1.trans (or_congr Iff.rfl ⟨fun ⟨j, q, q0, q1, q2⟩ => ⟨j, q, q0, by omega, q2⟩, ?_⟩), (hx d hd).2⟩
                   rintro ⟨j, q, q0, q1, q2⟩
                   by_cases eq : q = p
                   · subst eq; exact absurd q2.symm ed
                   · exact ⟨j, q, q0, by omega, q2⟩)
        · skip
          refine wq_aload_n (kk := 0) (q := 72) rfl rfl rfl ?_
          refine wq_getF (q := 75) f_Fl_15 rfl rfl (Nat.le_of_ble_eq_true rfl) rfl rfl rfl ?_
          refine wq_iload (i := 5) (q := 77) rfl rfl rfl ?_
          refine wq_iconst (n := 1) (q := 78) rfl rfl rfl ?_
          refine wq_zast (q := 79) rfl (Or.inl ⟨rfl, Nat.le_of_ble_eq_true rfl⟩) rfl rfl (by first | omega | (rw [e37]; omega) | (have z := gd (by omega); have z1 := z.1.1; have z2 := z.1.2; first | omega | (rw [e36]; omega))) (by first | omega | (rw [e37]; omega) | (have z := gd (by omega); have z1 := z.1.1; have z2 := z.1.2; first | omega | (rw [e36]; omega))) (by omega) ?_
          refine wq_iinc (i := 4) (n := 1) (q := 82) rfl rfl rfl (Nat.le_of_ble_eq_true rfl) rfl (by first | omega | (rw [e37]; omega) | (have z := gd (by omega); have z1 := z.1.1; have z2 := z.1.2; first | omega | (rw [e36]; omega))) (by first | omega | (rw [e37]; omega) | (have z := gd (by omega); have z1 := z.1.1; have z2 := z.1.2; first | omega | (rw [e36]; omega))) ?_
          refine wq_goto (tgt := 39) rfl rfl ?_
          have gp' := gd (by omega)
          first
            | (refine ih _ ?_ (p + 1) _ _ rfl (by omega) (by omega) hf (fun d hd => ?_)
               · omega
               · refine ⟨(hx d hd).1.trans (or_congr Iff.rfl ⟨fun ⟨j, q, q0, q1, q2⟩ => ⟨j, q, q0, by omega, q2⟩, ?_⟩), (hx d hd).2⟩
                 rintro ⟨j, q, q0, q1, q2⟩
                 by_cases eq : q = p
                 · subst eq; rw [q2] at c68; exact absurd j c68
                 · exact ⟨j, q, q0, by omega, q2⟩)
            | (refine ih _ ?_ (p + 1) _ _ rfl (by omega) (by omega) (hf.up (by decide)) (fun d hd => ?_)
               · omega
               · by_cases ed : d = h 36 p
                 · subst ed
                   rw [hup_s]
                   exact ⟨⟨fun _ => Or.inr ⟨c68, p, p0, by omega, rfl⟩, fun _ => rfl⟩, Or.inr rfl⟩
                 · rw [hup_j ed]
                   refine ⟨(hx d hd).1.trans (or_congr Iff.rfl ⟨fun ⟨j, q, q0, q1, q2⟩ => ⟨j, q, q0, by omega, q2⟩, ?_⟩), (hx d hd).2⟩
                   rintro ⟨j, q, q0, q1, q2⟩
                   by_cases eq : q = p
                   · subst eq; exact absurd q2.symm ed
                   · exact ⟨j, q, q0, by omega, q2⟩)
set_option maxRecDepth 100000 in
set_option maxHeartbeats 2000000 in
theorem Fl_rideOn_ok (F SO CA : Nat) (hF : isF F SO CA) (N : mN) (e : Int) (h : mH) (r : mR) (he : dp N e) (hw : netW h r N) (hc : ∀ d, dp N d → h CA d = 0 ∨ h CA d = 1) : Meets true (rm 3) m_Fl_rideOn [vR F, vR 31, vI e] h r (fun rv h1 r1 => rv = none ∧ r1 = r ∧ rode N e SO CA h h1) := by
  obtain ⟨hnde, hV, hN, hO, hG⟩ := id hw
  have hve := hV.2.2.1 e he
  have hne := hN.2.2.1 e he
  have hn := hV.1
  have hS := hV.2.1
  obtain ⟨e0, e1⟩ := id he
  have g1 := hG.1 (dst N e) (by omega) (by omega)
  have hF' := hF
  rcases hF with ⟨rfl, rfl, rfl⟩ | ⟨rfl, rfl, rfl⟩
  · refine ⟨ok_Fl_rideOn, Nat.le_of_ble_eq_true rfl, ?_⟩
    refine wq_aload_n (kk := 1) (q := 1) rfl rfl rfl ?_
    refine wq_getR (q := 4) f_Fl_19 rfl rfl (Or.inl ⟨rfl, Nat.le_of_ble_eq_true rfl⟩) hnde rfl rfl ?_
    refine wq_getF (q := 7) f_Fl_51 rfl rfl (Nat.le_of_ble_eq_true rfl) rfl rfl rfl ?_
    refine wq_iload_n (kk := 2) (q := 8) rfl rfl rfl ?_
    refine wq_iald (q := 9) rfl (Or.inl ⟨rfl, Nat.le_of_ble_eq_true rfl⟩) rfl rfl (by first | omega | (simp [hup]; omega)) (by first | omega | (simp [hup]; omega)) ?_
    rw [hne.2.2.2.1]
    refine wq_istore_n (kk := 3) (q := 10) rfl rfl (Nat.le_of_ble_eq_true rfl) rfl ?_
    refine wq_aload_n (kk := 0) (q := 11) rfl rfl rfl ?_
    refine wq_getF (q := 14) f_Fl_9 rfl rfl (Nat.le_of_ble_eq_true rfl) rfl rfl rfl ?_
    refine wq_iload_n (kk := 3) (q := 15) rfl rfl rfl ?_
    refine wq_aload_n (kk := 0) (q := 16) rfl rfl rfl ?_
    refine wq_getF (q := 19) f_Fl_9 rfl rfl (Nat.le_of_ble_eq_true rfl) rfl rfl rfl ?_
    refine wq_iload_n (kk := 3) (q := 20) rfl rfl rfl ?_
    refine wq_iald (q := 21) rfl (Or.inl ⟨rfl, Nat.le_of_ble_eq_true rfl⟩) rfl rfl (by first | omega | (simp [hup]; omega)) (by first | omega | (simp [hup]; omega)) ?_
    refine wq_aload_n (kk := 1) (q := 22) rfl rfl rfl ?_
    refine wq_getF (q := 25) f_Fl_54 rfl rfl (Nat.le_of_ble_eq_true rfl) rfl rfl rfl ?_
    refine wq_iload_n (kk := 2) (q := 26) rfl rfl rfl ?_
    refine wq_iald (q := 27) rfl (Or.inl ⟨rfl, Nat.le_of_ble_eq_true rfl⟩) rfl rfl (by first | omega | (simp [hup]; omega)) (by first | omega | (simp [hup]; omega)) ?_
    rw [hne.2.1]
    refine wq_min (q := 30) k_Fl_57 k_math_min k_math_min_s k_math_i rfl rfl (Nat.le_of_ble_eq_true rfl) (Nat.le_of_ble_eq_true rfl) (Nat.le_refl _) (Nat.le_refl _) (Nat.le_of_ble_eq_true rfl) ?_
    refine wq_iast (q := 31) rfl (Or.inl ⟨rfl, Nat.le_of_ble_eq_true rfl⟩) rfl rfl (by first | omega | (simp [hup]; omega)) (by first | omega | (simp [hup]; omega)) ?_
    refine wq_aload_n (kk := 1) (q := 32) rfl rfl rfl ?_
    refine wq_getF (q := 35) f_Fl_63 rfl rfl (Nat.le_of_ble_eq_true rfl) rfl rfl rfl ?_
    refine wq_iload_n (kk := 3) (q := 36) rfl rfl rfl ?_
    refine wq_iald (q := 37) rfl (Or.inl ⟨rfl, Nat.le_of_ble_eq_true rfl⟩) rfl rfl (by first | omega | (simp [hup]; omega)) (by first | omega | (simp [hup]; omega)) ?_
    rw [show ∀ x, hup h 49 (dst N e) x 37 (dst N e) = h 37 (dst N e) from fun x => hup_i (by decide)]
    refine wq_istore (i := 4) (q := 39) rfl rfl (Nat.le_of_ble_eq_true rfl) rfl ?_
    have hf0 : fr [49] h (hup h 49 (dst N e) (if ar N e < h 49 (dst N e) then ar N e else h 49 (dst N e))) := fr.rf.up (by decide)
    refine Fl_rideA 48 49 50 hF' N e _ r h he (hw.fr hf0 (by decide)) _ (fun h2 a b f2 x2 => ?_) _ _ _ _ rfl (by rw [hup_i (by decide)]; exact Int.le_refl _) (by rw [hup_i (by decide)]; omega) fr.rf (fun d hd => ?_)
    · refine wq_vret rfl rfl (Nat.le_refl _) (Nat.le_refl _) ⟨rfl, rfl, ((hf0.mono (by decide)).trans f2 (by decide)), fun s hs => ?_, ?_, fun d hd => ?_⟩
      · rw [f2.at 49 s (by decide), hup_j hs]
      · rw [f2.at 49 _ (by decide), hup_s]
      · have := x2 d hd
        rw [hup_i (by decide)] at this
        exact this
    · refine ⟨⟨fun z => Or.inl z, fun z => z.elim id ?_⟩, by rw [hup_i (by decide)]; exact hc d hd⟩
      rintro ⟨-, q, q0, q1, -⟩
      rw [hup_i (by decide)] at q0
      omega
  · refine ⟨ok_Fl_rideOn, Nat.le_of_ble_eq_true rfl, ?_⟩
    refine wq_aload_n (kk := 1) (q := 1) rfl rfl rfl ?_
    refine wq_getR (q := 4) f_Fl_19 rfl rfl (Or.inl ⟨rfl, Nat.le_of_ble_eq_true rfl⟩) hnde rfl rfl ?_
    refine wq_getF (q := 7) f_Fl_51 rfl rfl (Nat.le_of_ble_eq_true rfl) rfl rfl rfl ?_
    refine wq_iload_n (kk := 2) (q := 8) rfl rfl rfl ?_
    refine wq_iald (q := 9) rfl (Or.inl ⟨rfl, Nat.le_of_ble_eq_true rfl⟩) rfl rfl (by first | omega | (simp [hup]; omega)) (by first | omega | (simp [hup]; omega)) ?_
    rw [hne.2.2.2.1]
    refine wq_istore_n (kk := 3) (q := 10) rfl rfl (Nat.le_of_ble_eq_true rfl) rfl ?_
    refine wq_aload_n (kk := 0) (q := 11) rfl rfl rfl ?_
    refine wq_getF (q := 14) f_Fl_9 rfl rfl (Nat.le_of_ble_eq_true rfl) rfl rfl rfl ?_
    refine wq_iload_n (kk := 3) (q := 15) rfl rfl rfl ?_
    refine wq_aload_n (kk := 0) (q := 16) rfl rfl rfl ?_
    refine wq_getF (q := 19) f_Fl_9 rfl rfl (Nat.le_of_ble_eq_true rfl) rfl rfl rfl ?_
    refine wq_iload_n (kk := 3) (q := 20) rfl rfl rfl ?_
    refine wq_iald (q := 21) rfl (Or.inl ⟨rfl, Nat.le_of_ble_eq_true rfl⟩) rfl rfl (by first | omega | (simp [hup]; omega)) (by first | omega | (simp [hup]; omega)) ?_
    refine wq_aload_n (kk := 1) (q := 22) rfl rfl rfl ?_
    refine wq_getF (q := 25) f_Fl_54 rfl rfl (Nat.le_of_ble_eq_true rfl) rfl rfl rfl ?_
    refine wq_iload_n (kk := 2) (q := 26) rfl rfl rfl ?_
    refine wq_iald (q := 27) rfl (Or.inl ⟨rfl, Nat.le_of_ble_eq_true rfl⟩) rfl rfl (by first | omega | (simp [hup]; omega)) (by first | omega | (simp [hup]; omega)) ?_
    rw [hne.2.1]
    refine wq_min (q := 30) k_Fl_57 k_math_min k_math_min_s k_math_i rfl rfl (Nat.le_of_ble_eq_true rfl) (Nat.le_of_ble_eq_true rfl) (Nat.le_refl _) (Nat.le_refl _) (Nat.le_of_ble_eq_true rfl) ?_
    refine wq_iast (q := 31) rfl (Or.inl ⟨rfl, Nat.le_of_ble_eq_true rfl⟩) rfl rfl (by first | omega | (simp [hup]; omega)) (by first | omega | (simp [hup]; omega)) ?_
    refine wq_aload_n (kk := 1) (q := 32) rfl rfl rfl ?_
    refine wq_getF (q := 35) f_Fl_63 rfl rfl (Nat.le_of_ble_eq_true rfl) rfl rfl rfl ?_
    refine wq_iload_n (kk := 3) (q := 36) rfl rfl rfl ?_
    refine wq_iald (q := 37) rfl (Or.inl ⟨rfl, Nat.le_of_ble_eq_true rfl⟩) rfl rfl (by first | omega | (simp [hup]; omega)) (by first | omega | (simp [hup]; omega)) ?_
    rw [show ∀ x, hup h 52 (dst N e) x 37 (dst N e) = h 37 (dst N e) from fun x => hup_i (by decide)]
    refine wq_istore (i := 4) (q := 39) rfl rfl (Nat.le_of_ble_eq_true rfl) rfl ?_
    have hf0 : fr [52] h (hup h 52 (dst N e) (if ar N e < h 52 (dst N e) then ar N e else h 52 (dst N e))) := fr.rf.up (by decide)
    refine Fl_rideA 51 52 53 hF' N e _ r h he (hw.fr hf0 (by decide)) _ (fun h2 a b f2 x2 => ?_) _ _ _ _ rfl (by rw [hup_i (by decide)]; exact Int.le_refl _) (by rw [hup_i (by decide)]; omega) fr.rf (fun d hd => ?_)
    · refine wq_vret rfl rfl (Nat.le_refl _) (Nat.le_refl _) ⟨rfl, rfl, ((hf0.mono (by decide)).trans f2 (by decide)), fun s hs => ?_, ?_, fun d hd => ?_⟩
      · rw [f2.at 52 s (by decide), hup_j hs]
      · rw [f2.at 52 _ (by decide), hup_s]
      · have := x2 d hd
        rw [hup_i (by decide)] at this
        exact this
    · refine ⟨⟨fun z => Or.inl z, fun z => z.elim id ?_⟩, by rw [hup_i (by decide)]; exact hc d hd⟩
      rintro ⟨-, q, q0, q1, -⟩
      rw [hup_i (by decide)] at q0
      omega

/-- which departures one comes to from a, ready at t (c: 1 if so); when one is soonest at each spot (so) -/
def Ct (N : mN) (a t : Int) (c : mF) : Prop := ∀ d, dp N d → (c d = 1 ↔ (frm N d = a ∧ t ≤ lv N d) ∨ ∃ e, dp N e ∧ rn N e = 1 ∧ c e = 1 ∧ J N e d ∧ frm N d = dst N e) ∧ (c d = 0 ∨ c d = 1)
def So (N : mN) (c so : mF) (s : Int) : Prop := (so s = 1000000 ∨ ∃ e, dp N e ∧ rn N e = 1 ∧ c e = 1 ∧ dst N e = s ∧ so s = ar N e) ∧ ∀ e, dp N e → rn N e = 1 → c e = 1 → dst N e = s → so s ≤ ar N e
def Soon (N : mN) (a t : Int) (so : mF) : Prop := so a = t ∧ ∃ c, Ct N a t c ∧ ∀ s, 0 ≤ s → s < nS N → s ≠ a → So N c so s
/-- the same, as far as the order's first i have been ridden -/
def CtI (N : mN) (a t : Int) (o c : mF) (i : Int) : Prop := ∀ d, dp N d → (c d = 1 ↔ (frm N d = a ∧ t ≤ lv N d) ∨ ∃ j, 0 ≤ j ∧ j < i ∧ rn N (o j) = 1 ∧ c (o j) = 1 ∧ J N (o j) d ∧ frm N d = dst N (o j)) ∧ (c d = 0 ∨ c d = 1)
def SoI (N : mN) (o c so : mF) (i s : Int) : Prop := (so s = 1000000 ∨ ∃ j, 0 ≤ j ∧ j < i ∧ rn N (o j) = 1 ∧ c (o j) = 1 ∧ dst N (o j) = s ∧ so s = ar N (o j)) ∧ ∀ j, 0 ≤ j → j < i → rn N (o j) = 1 → c (o j) = 1 → dst N (o j) = s → so s ≤ ar N (o j)
theorem CtI.skip {N : mN} {a t : Int} {o c : mF} {i : Int} (h : CtI N a t o c i) (hz : ¬ (rn N (o i) = 1 ∧ c (o i) = 1)) : CtI N a t o c (i + 1) := fun d hd => ⟨(h d hd).1.trans (or_congr Iff.rfl ⟨fun ⟨j, a, b, z⟩ => ⟨j, a, by omega, z⟩, fun ⟨j, a, b, z⟩ => by
  by_cases e : j = i
  · subst e; exact absurd ⟨z.1, z.2.1⟩ hz
  · exact ⟨j, a, by omega, z⟩⟩), (h d hd).2⟩
theorem SoI.skip {N : mN} {o c so : mF} {i s : Int} (h : SoI N o c so i s) (hz : ¬ (rn N (o i) = 1 ∧ c (o i) = 1)) : SoI N o c so (i + 1) s := ⟨h.1.imp id (fun ⟨j, a, b, z⟩ => ⟨j, a, by omega, z⟩), fun j a b z1 z2 => by
  by_cases e : j = i
  · subst e; exact absurd ⟨z1, z2⟩ hz
  · exact h.2 j a (by omega) z1 z2⟩
/-- riding on marks nothing that the order has passed -/
theorem ride_old {N : mN} (hV : NV N) {o : mF} (hP : Pm o (nN N)) (hO : ∀ i j, 0 ≤ i → i < j → j < nN N → ol N (o i) (o j)) {i j : Int} (j0 : 0 ≤ j) (ji : j ≤ i) (i1 : i < nN N) : ¬ J N (o i) (o j) := by
  intro hJ
  have h1 := (hV.2.2.1 (o i) (hP.1 i (by omega) i1)).2.2.2.1
  have h2 := hJ.1
  by_cases e : j = i
  · subst e; omega
  · have := hO j i j0 (by omega) i1
    unfold ol at this
    omega
theorem CtI.ride {N : mN} (hV : NV N) {a t : Int} {o c c' : mF} {i : Int} (hP : Pm o (nN N)) (hO : ∀ i j, 0 ≤ i → i < j → j < nN N → ol N (o i) (o j)) (i0 : 0 ≤ i) (i1 : i < nN N) (h : CtI N a t o c i) (hr : rn N (o i) = 1) (hc : c (o i) = 1) (h' : ∀ d, dp N d → (c' d = 1 ↔ c d = 1 ∨ (J N (o i) d ∧ frm N d = dst N (o i))) ∧ (c' d = 0 ∨ c' d = 1)) : CtI N a t o c' (i + 1) ∧ ∀ j, 0 ≤ j → j ≤ i → (c' (o j) = 1 ↔ c (o j) = 1) := by
  have hk : ∀ j, 0 ≤ j → j ≤ i → (c' (o j) = 1 ↔ c (o j) = 1) := fun j j0 ji => by
    rw [(h' (o j) (hP.1 j j0 (by omega))).1]
    exact ⟨fun z => z.elim id (fun z => absurd z.1 (ride_old hV hP hO j0 ji i1)), Or.inl⟩
  refine ⟨fun d hd => ⟨?_, (h' d hd).2⟩, hk⟩
  rw [(h' d hd).1, (h d hd).1]
  constructor
  · rintro ((z | ⟨j, j0, j1, z1, z2, z3⟩) | z)
    · exact Or.inl z
    · exact Or.inr ⟨j, j0, by omega, z1, (hk j j0 (by omega)).mpr z2, z3⟩
    · exact Or.inr ⟨i, i0, by omega, hr, (hk i i0 (by omega)).mpr hc, z⟩
  · rintro (z | ⟨j, j0, j1, z1, z2, z3⟩)
    · exact Or.inl (Or.inl z)
    · by_cases e : j = i
      · subst e; exact Or.inr z3
      · exact Or.inl (Or.inr ⟨j, j0, by omega, z1, (hk j j0 (by omega)).mp z2, z3⟩)
theorem SoI.ride {N : mN} {o c c' so so' : mF} {i s : Int} (i0 : 0 ≤ i) (h : SoI N o c so i s) (hm : so s ≤ 1000000) (hr : rn N (o i) = 1) (hc : c (o i) = 1) (hk : ∀ j, 0 ≤ j → j ≤ i → (c' (o j) = 1 ↔ c (o j) = 1)) (h1 : s ≠ dst N (o i) → so' s = so s) (h2 : s = dst N (o i) → so' s = if ar N (o i) < so s then ar N (o i) else so s) : SoI N o c' so' (i + 1) s := by
  by_cases e : s = dst N (o i)
  · have h2 := h2 e
    refine ⟨?_, fun j j0 j1 z1 z2 z3 => ?_⟩
    · by_cases z : ar N (o i) < so s
      · rw [if_pos z] at h2
        exact Or.inr ⟨i, i0, by omega, hr, (hk i i0 (by omega)).mpr hc, e.symm, h2⟩
      · rw [if_neg z] at h2
        rw [h2]
        exact h.1.imp id (fun ⟨j, j0, j1, z1, z2, z3⟩ => ⟨j, j0, by omega, z1, (hk j j0 (by omega)).mpr z2, z3⟩)
    · have hle : so' s ≤ so s ∧ so' s ≤ ar N (o i) := by rw [h2]; split <;> omega
      by_cases ej : j = i
      · subst ej; exact hle.2
      · exact Int.le_trans hle.1 (h.2 j j0 (by omega) z1 ((hk j j0 (by omega)).mp z2) z3)
  · rw [SoI, h1 e]
    refine ⟨h.1.imp id (fun ⟨j, j0, j1, z1, z2, z3⟩ => ⟨j, j0, by omega, z1, (hk j j0 (by omega)).mpr z2, z3⟩), fun j j0 j1 z1 z2 z3 => ?_⟩
    by_cases ej : j = i
    · subst ej; exact absurd z3.symm e
    · exact h.2 j j0 (by omega) z1 ((hk j j0 (by omega)).mp z2) z3
theorem CtI.all {N : mN} {a t : Int} {o c : mF} (hP : Pm o (nN N)) (h : CtI N a t o c (nN N)) : Ct N a t c := fun d hd => ⟨(h d hd).1.trans (or_congr Iff.rfl ⟨fun ⟨j, j0, j1, z⟩ => ⟨o j, hP.1 j j0 j1, z⟩, fun ⟨e, he, z⟩ => by
  obtain ⟨j, j0, j1, rfl⟩ := hP.sur he.1 he.2
  exact ⟨j, j0, j1, z⟩⟩), (h d hd).2⟩
theorem SoI.all {N : mN} {o c so : mF} {s : Int} (hP : Pm o (nN N)) (h : SoI N o c so (nN N) s) : So N c so s := ⟨h.1.imp id (fun ⟨j, j0, j1, z⟩ => ⟨o j, hP.1 j j0 j1, z⟩), fun e he z1 z2 z3 => by
  obtain ⟨j, j0, j1, rfl⟩ := hP.sur he.1 he.2
  exact h.2 j j0 j1 z1 z2 z3⟩
abbrev spQ (SO CA : Nat) (N : mN) (a t : Int) (h : mH) (r : mR) : mP := fun rv h1 r1 => rv = none ∧ r1 = r ∧ fr [SO, CA] h h1 ∧ Soon N a t (h1 SO)
set_option maxRecDepth 100000 in
set_option maxHeartbeats 4000000 in
theorem Fl_spreadC (F SO CA : Nat) (hF : isF F SO CA) (N : mN) (a t : Int) (h : mH) (r : mR) (hw : netW h r N) (ha : 0 ≤ a ∧ a < nS N) : ∀ (M : Nat) (i : Int) (h' : mH) (b : Option mV), (nN N - i).toNat = M → 0 ≤ i → i ≤ nN N → fr [SO, CA] h h' → CtI N a t (h 35) (h' CA) i → (∀ s, 0 ≤ s → s < nS N → SoI N (h 35) (h' CA) (h' SO) i s ∧ h' SO s ≤ 1000000) → WP (true, rm 4) m_Fl_spread (rt m_Fl_spread (rm 4) (spQ SO CA N a t h r)) 88 [some (vR F), some (vR 31), some (vI a), some (vI t), some (vI i), b] [] h' r (0, 0) := by
  have hF' := hF
  rcases hF with ⟨rfl, rfl, rfl⟩ | ⟨rfl, rfl, rfl⟩
  all_goals
    intro M
    induction M using Nat.strongRecOn with
    | ind M ih =>
      intro i h' b hM i0 i1 hf hC hS
      obtain ⟨hnde, hV, hN, hO, hG⟩ := id hw
      have hn := hV.1
      have hSs := hV.2.1
      have hw' : netW h' r N := hw.fr hf (by decide)
      have e31 : h' 31 0 = nN N := hw'.2.2.1.1
      have e35 : h' 35 i = h 35 i := hf.at 35 i (by decide)
      have ho : i < nN N → dp N (h 35 i) := fun z => hO.1.1 i i0 z
      have er : i < nN N → h' 34 (h 35 i) = rn N (h 35 i) := fun z => (hw'.2.2.1.2.2.1 _ (ho z)).2.2.2.2.2
      refine wq_iload (i := 4) (q := 90) rfl rfl rfl ?_
      refine wq_aload_n (kk := 1) (q := 91) rfl rfl rfl ?_
      refine wq_getI (kz := 0) (q := 94) rfl f_Fl_32 rfl rfl (Or.inl ⟨rfl, Nat.le_of_ble_eq_true rfl⟩) rfl rfl ?_
      refine wq_icmp_ge (tgt := 139) (q := 97) rfl rfl rfl (fun c94 => ?_) (fun c94 => ?_)
      · skip
        have ei : i = nN N := by omega
        subst ei
        refine wq_aload_n (kk := 0) (q := 140) rfl rfl rfl ?_
        refine wq_getF (q := 143) f_Fl_9 rfl rfl (Nat.le_of_ble_eq_true rfl) rfl rfl rfl ?_
        refine wq_iload_n (kk := 2) (q := 144) rfl rfl rfl ?_
        refine wq_iload_n (kk := 3) (q := 145) rfl rfl rfl ?_
        refine wq_iast (q := 146) rfl (Or.inl ⟨rfl, Nat.le_of_ble_eq_true rfl⟩) rfl rfl (by first | omega | (have z := ho (by omega); have z1 := z.1; have z2 := z.2; omega)) (by first | omega | (have z := ho (by omega); have z1 := z.1; have z2 := z.2; omega)) ?_
        refine wq_vret rfl rfl (Nat.le_refl _) (Nat.le_refl _) ⟨rfl, rfl, hf.up (by decide), hup_s, _, hC.all hO.1, fun s s0 s1 hs => ?_⟩
        have z := ((hS s s0 s1).1).all hO.1
        unfold So at *
        rw [hup_j hs]
        exact z
      · skip
        refine wq_aload_n (kk := 1) (q := 98) rfl rfl rfl ?_
        refine wq_getF (q := 101) f_Fl_41 rfl rfl (Nat.le_of_ble_eq_true rfl) rfl rfl rfl ?_
        refine wq_iload (i := 4) (q := 103) rfl rfl rfl ?_
        refine wq_iald (q := 104) rfl (Or.inl ⟨rfl, Nat.le_of_ble_eq_true rfl⟩) rfl rfl (by first | omega | (have z := ho (by omega); have z1 := z.1; have z2 := z.2; omega)) (by first | omega | (have z := ho (by omega); have z1 := z.1; have z2 := z.2; omega)) ?_
        rw [e35]
        refine wq_istore (i := 5) (q := 106) rfl rfl (Nat.le_of_ble_eq_true rfl) rfl ?_
        refine wq_aload_n (kk := 1) (q := 107) rfl rfl rfl ?_
        refine wq_getF (q := 110) f_Fl_44 rfl rfl (Nat.le_of_ble_eq_true rfl) rfl rfl rfl ?_
        refine wq_iload (i := 5) (q := 112) rfl rfl rfl ?_
        refine wq_zald (q := 113) rfl (Or.inl ⟨rfl, Nat.le_of_ble_eq_true rfl⟩) rfl rfl (by first | omega | (have z := ho (by omega); have z1 := z.1; have z2 := z.2; omega)) (by first | omega | (have z := ho (by omega); have z1 := z.1; have z2 := z.2; omega)) ?_
        rw [er (by omega)]
        refine wq_if_eq (tgt := 133) (q := 116) rfl rfl rfl (fun c113 => ?_) (fun c113 => ?_)
        · skip
          refine wq_iinc (i := 4) (n := 1) (q := 136) rfl rfl rfl (Nat.le_of_ble_eq_true rfl) rfl (by first | omega | (have z := ho (by omega); have z1 := z.1; have z2 := z.2; omega)) (by first | omega | (have z := ho (by omega); have z1 := z.1; have z2 := z.2; omega)) ?_
          refine wq_goto (tgt := 88) rfl rfl ?_
          first
            | (have hr1 : rn N (h 35 i) = 1 := by
                 have := (hV.2.2.1 _ (ho (by omega))).2.2.2.2
                 omega
               have hc1 := (hC _ (ho (by omega))).2.resolve_left c123
               obtain ⟨y1, y2⟩ := hC.ride hV hO.1 hO.2 i0 (by omega) hr1 hc1 x2
               refine ih _ ?_ (i + 1) h2 _ rfl (by omega) (by omega) (hf.trans f2 (by decide)) y1 (fun s s0' s1' => ⟨((hS s s0' s1').1).ride i0 (hS s s0' s1').2 hr1 hc1 y2 (fun z => s1 s z) (fun z => by subst z; exact s2), ?_⟩)
               · omega
               · have hb := (hS s s0' s1').2
                 by_cases es : s = dst N (h 35 i)
                 · subst es; rw [s2]; split <;> omega
                 · rw [s1 s es]; exact hb)
            | (refine ih _ ?_ (i + 1) h' _ rfl (by omega) (by omega) hf (hC.skip ?_) (fun s s0 s1 => ⟨((hS s s0 s1).1).skip ?_, (hS s s0 s1).2⟩)
               · omega
               · omega
               · omega)
        · skip
          refine wq_aload_n (kk := 0) (q := 117) rfl rfl rfl ?_
          refine wq_getF (q := 120) f_Fl_15 rfl rfl (Nat.le_of_ble_eq_true rfl) rfl rfl rfl ?_
          refine wq_iload (i := 5) (q := 122) rfl rfl rfl ?_
          refine wq_zald (q := 123) rfl (Or.inl ⟨rfl, Nat.le_of_ble_eq_true rfl⟩) rfl rfl (by first | omega | (have z := ho (by omega); have z1 := z.1; have z2 := z.2; omega)) (by first | omega | (have z := ho (by omega); have z1 := z.1; have z2 := z.2; omega)) ?_
          refine wq_if_eq (tgt := 133) (q := 126) rfl rfl rfl (fun c123 => ?_) (fun c123 => ?_)
          · skip
            refine wq_iinc (i := 4) (n := 1) (q := 136) rfl rfl rfl (Nat.le_of_ble_eq_true rfl) rfl (by first | omega | (have z := ho (by omega); have z1 := z.1; have z2 := z.2; omega)) (by first | omega | (have z := ho (by omega); have z1 := z.1; have z2 := z.2; omega)) ?_
            refine wq_goto (tgt := 88) rfl rfl ?_
            first
              | (have hr1 : rn N (h 35 i) = 1 := by
                   have := (hV.2.2.1 _ (ho (by omega))).2.2.2.2
                   omega
                 have hc1 := (hC _ (ho (by omega))).2.resolve_left c123
                 obtain ⟨y1, y2⟩ := hC.ride hV hO.1 hO.2 i0 (by omega) hr1 hc1 x2
                 refine ih _ ?_ (i + 1) h2 _ rfl (by omega) (by omega) (hf.trans f2 (by decide)) y1 (fun s s0' s1' => ⟨((hS s s0' s1').1).ride i0 (hS s s0' s1').2 hr1 hc1 y2 (fun z => s1 s z) (fun z => by subst z; exact s2), ?_⟩)
                 · omega
                 · have hb := (hS s s0' s1').2
                   by_cases es : s = dst N (h 35 i)
                   · subst es; rw [s2]; split <;> omega
                   · rw [s1 s es]; exact hb)
              | (refine ih _ ?_ (i + 1) h' _ rfl (by omega) (by omega) hf (hC.skip ?_) (fun s s0 s1 => ⟨((hS s s0 s1).1).skip ?_, (hS s s0 s1).2⟩)
                 · omega
                 · omega
                 · omega)
          · skip
            refine wq_aload_n (kk := 0) (q := 127) rfl rfl rfl ?_
            refine wq_aload_n (kk := 1) (q := 128) rfl rfl rfl ?_
            refine wq_iload (i := 5) (q := 130) rfl rfl rfl ?_
            refine wq_callV (q := 133) (m' := m_Fl_rideOn) (R' := rm 3) (As := [_, _]) rfl rfl l_Fl_47 vm_Fl_rideOn rfl rfl rfl (Or.inl ⟨rfl, Nat.le_of_ble_eq_true rfl⟩) (Nat.le_of_ble_eq_true rfl) (Nat.le_of_ble_eq_true rfl) (Nat.le_refl _) (Nat.le_refl _) (Nat.le_of_ble_eq_true rfl) (Fl_rideOn_ok _ _ _ hF' N (h 35 i) h' r (ho (by omega)) hw' (fun d hd => (hC d hd).2)) rfl ?_
            rintro rv h2 r2 ⟨rfl, rfl, f2, s1, s2, x2⟩ -
            refine wq_iinc (i := 4) (n := 1) (q := 136) rfl rfl rfl (Nat.le_of_ble_eq_true rfl) rfl (by first | omega | (have z := ho (by omega); have z1 := z.1; have z2 := z.2; omega)) (by first | omega | (have z := ho (by omega); have z1 := z.1; have z2 := z.2; omega)) ?_
            refine wq_goto (tgt := 88) rfl rfl ?_
            first
              | (have hr1 : rn N (h 35 i) = 1 := by
                   have := (hV.2.2.1 _ (ho (by omega))).2.2.2.2
                   omega
                 have hc1 := (hC _ (ho (by omega))).2.resolve_left c123
                 obtain ⟨y1, y2⟩ := hC.ride hV hO.1 hO.2 i0 (by omega) hr1 hc1 x2
                 refine ih _ ?_ (i + 1) h2 _ rfl (by omega) (by omega) (hf.trans f2 (by decide)) y1 (fun s s0' s1' => ⟨((hS s s0' s1').1).ride i0 (hS s s0' s1').2 hr1 hc1 y2 (fun z => s1 s z) (fun z => by subst z; exact s2), ?_⟩)
                 · omega
                 · have hb := (hS s s0' s1').2
                   by_cases es : s = dst N (h 35 i)
                   · subst es; rw [s2]; split <;> omega
                   · rw [s1 s es]; exact hb)
              | (refine ih _ ?_ (i + 1) h' _ rfl (by omega) (by omega) hf (hC.skip ?_) (fun s s0 s1 => ⟨((hS s s0 s1).1).skip ?_, (hS s s0 s1).2⟩)
                 · omega
                 · omega
                 · omega)
set_option maxRecDepth 100000 in
set_option maxHeartbeats 4000000 in
theorem Fl_spreadB (F SO CA : Nat) (hF : isF F SO CA) (N : mN) (a t : Int) (h : mH) (r : mR) (hw : netW h r N) (ha : 0 ≤ a ∧ a < nS N) : ∀ (M : Nat) (d : Int) (h' : mH) (b : Option mV), (nN N - d).toNat = M → 0 ≤ d → d ≤ nN N → fr [SO, CA] h h' → (∀ s, 0 ≤ s → s < nS N → h' SO s = 1000000) → (∀ x, 0 ≤ x → x < d → (h' CA x = 1 ↔ (frm N x = a ∧ t ≤ lv N x)) ∧ (h' CA x = 0 ∨ h' CA x = 1)) → WP (true, rm 4) m_Fl_spread (rt m_Fl_spread (rm 4) (spQ SO CA N a t h r)) 33 [some (vR F), some (vR 31), some (vI a), some (vI t), some (vI d), b] [] h' r (0, 0) := by
  have hF' := hF
  rcases hF with ⟨rfl, rfl, rfl⟩ | ⟨rfl, rfl, rfl⟩
  all_goals
    intro M
    induction M using Nat.strongRecOn with
    | ind M ih =>
      intro d h' b hM d0 d1 hf hS hx
      obtain ⟨hnde, hV, hN, hO, hG⟩ := id hw
      have hn := hV.1
      have hw' : netW h' r N := hw.fr hf (by decide)
      have e31 : h' 31 0 = nN N := hw'.2.2.1.1
      have hd := fun z : d < nN N => hw'.2.2.1.2.2.1 d ⟨d0, z⟩
      refine wq_iload (i := 4) (q := 35) rfl rfl rfl ?_
      refine wq_aload_n (kk := 1) (q := 36) rfl rfl rfl ?_
      refine wq_getI (kz := 0) (q := 39) rfl f_Fl_32 rfl rfl (Or.inl ⟨rfl, Nat.le_of_ble_eq_true rfl⟩) rfl rfl ?_
      refine wq_icmp_ge (tgt := 85) (q := 42) rfl rfl rfl (fun c39 => ?_) (fun c39 => ?_)
      · skip
        refine wq_iconst (n := 0) (q := 86) rfl rfl rfl ?_
        refine wq_istore (i := 4) (q := 88) rfl rfl (Nat.le_of_ble_eq_true rfl) rfl ?_
        have ed : d = nN N := by omega
        subst ed
        refine Fl_spreadC _ _ _ hF' N a t h r hw ha _ 0 h' _ rfl (by omega) (by omega) hf (fun x hx' => ⟨(hx x hx'.1 hx'.2).1.trans ⟨Or.inl, fun z => z.elim id (fun ⟨j, j0, j1, _⟩ => by omega)⟩, (hx x hx'.1 hx'.2).2⟩) (fun s s0 s1 => ⟨⟨Or.inl (hS s s0 s1), fun j j0 j1 => by omega⟩, by rw [hS s s0 s1]; exact Int.le_refl _⟩)
      · skip
        refine wq_aload_n (kk := 0) (q := 43) rfl rfl rfl ?_
        refine wq_getF (q := 46) f_Fl_15 rfl rfl (Nat.le_of_ble_eq_true rfl) rfl rfl rfl ?_
        refine wq_iload (i := 4) (q := 48) rfl rfl rfl ?_
        refine wq_aload_n (kk := 1) (q := 49) rfl rfl rfl ?_
        refine wq_getR (q := 52) f_Fl_19 rfl rfl (Or.inl ⟨rfl, Nat.le_of_ble_eq_true rfl⟩) hnde rfl rfl ?_
        refine wq_getF (q := 55) f_Fl_35 rfl rfl (Nat.le_of_ble_eq_true rfl) rfl rfl rfl ?_
        refine wq_iload (i := 4) (q := 57) rfl rfl rfl ?_
        refine wq_iald (q := 58) rfl (Or.inl ⟨rfl, Nat.le_of_ble_eq_true rfl⟩) rfl rfl (by first | omega | (simp [hup]; omega)) (by first | omega | (simp [hup]; omega)) ?_
        rw [(hd (by omega)).2.2.1]
        refine wq_iload_n (kk := 2) (q := 59) rfl rfl rfl ?_
        refine wq_icmp_ne (tgt := 77) (q := 62) rfl rfl rfl (fun c59 => ?_) (fun c59 => ?_)
        · skip
          refine wq_iconst (n := 0) (q := 78) rfl rfl rfl ?_
          refine wq_zast (q := 79) rfl (Or.inl ⟨rfl, Nat.le_of_ble_eq_true rfl⟩) rfl rfl (by first | omega | (simp [hup]; omega)) (by first | omega | (simp [hup]; omega)) (by omega) ?_
          refine wq_iinc (i := 4) (n := 1) (q := 82) rfl rfl rfl (Nat.le_of_ble_eq_true rfl) rfl (by first | omega | (simp [hup]; omega)) (by first | omega | (simp [hup]; omega)) ?_
          refine wq_goto (tgt := 33) rfl rfl ?_
          refine ih _ ?_ (d + 1) _ _ rfl (by omega) (by omega) (hf.up (by decide)) (fun s s0 s1 => by rw [hup_i (by decide)]; exact hS s s0 s1) (fun x x0 x1 => ?_)
          · omega
          · by_cases ex : x = d
            · subst ex
              rw [hup_s]
              refine ⟨⟨fun z => ?_, fun z => ?_⟩, by omega⟩
              · omega
              · omega
            · rw [hup_j ex]
              exact hx x x0 (by omega)
        · skip
          refine wq_aload_n (kk := 1) (q := 63) rfl rfl rfl ?_
          refine wq_getF (q := 66) f_Fl_38 rfl rfl (Nat.le_of_ble_eq_true rfl) rfl rfl rfl ?_
          refine wq_iload (i := 4) (q := 68) rfl rfl rfl ?_
          refine wq_iald (q := 69) rfl (Or.inl ⟨rfl, Nat.le_of_ble_eq_true rfl⟩) rfl rfl (by first | omega | (simp [hup]; omega)) (by first | omega | (simp [hup]; omega)) ?_
          rw [(hd (by omega)).1]
          refine wq_iload_n (kk := 3) (q := 70) rfl rfl rfl ?_
          refine wq_icmp_lt (tgt := 77) (q := 73) rfl rfl rfl (fun c70 => ?_) (fun c70 => ?_)
          · skip
            refine wq_iconst (n := 0) (q := 78) rfl rfl rfl ?_
            refine wq_zast (q := 79) rfl (Or.inl ⟨rfl, Nat.le_of_ble_eq_true rfl⟩) rfl rfl (by first | omega | (simp [hup]; omega)) (by first | omega | (simp [hup]; omega)) (by omega) ?_
            refine wq_iinc (i := 4) (n := 1) (q := 82) rfl rfl rfl (Nat.le_of_ble_eq_true rfl) rfl (by first | omega | (simp [hup]; omega)) (by first | omega | (simp [hup]; omega)) ?_
            refine wq_goto (tgt := 33) rfl rfl ?_
            refine ih _ ?_ (d + 1) _ _ rfl (by omega) (by omega) (hf.up (by decide)) (fun s s0 s1 => by rw [hup_i (by decide)]; exact hS s s0 s1) (fun x x0 x1 => ?_)
            · omega
            · by_cases ex : x = d
              · subst ex
                rw [hup_s]
                refine ⟨⟨fun z => ?_, fun z => ?_⟩, by omega⟩
                · omega
                · omega
              · rw [hup_j ex]
                exact hx x x0 (by omega)
          · skip
            refine wq_iconst (n := 1) (q := 74) rfl rfl rfl ?_
            refine wq_goto (tgt := 78) rfl rfl ?_
            refine wq_zast (q := 79) rfl (Or.inl ⟨rfl, Nat.le_of_ble_eq_true rfl⟩) rfl rfl (by first | omega | (simp [hup]; omega)) (by first | omega | (simp [hup]; omega)) (by omega) ?_
            refine wq_iinc (i := 4) (n := 1) (q := 82) rfl rfl rfl (Nat.le_of_ble_eq_true rfl) rfl (by first | omega | (simp [hup]; omega)) (by first | omega | (simp [hup]; omega)) ?_
            refine wq_goto (tgt := 33) rfl rfl ?_
            refine ih _ ?_ (d + 1) _ _ rfl (by omega) (by omega) (hf.up (by decide)) (fun s s0 s1 => by rw [hup_i (by decide)]; exact hS s s0 s1) (fun x x0 x1 => ?_)
            · omega
            · by_cases ex : x = d
              · subst ex
                rw [hup_s]
                refine ⟨⟨fun z => ?_, fun z => ?_⟩, by omega⟩
                · omega
                · omega
              · rw [hup_j ex]
                exact hx x x0 (by omega)
set_option maxRecDepth 100000 in
set_option maxHeartbeats 4000000 in
theorem Fl_spreadA (F SO CA : Nat) (hF : isF F SO CA) (N : mN) (a t : Int) (h : mH) (r : mR) (hw : netW h r N) (ha : 0 ≤ a ∧ a < nS N) : ∀ (M : Nat) (s : Int) (h' : mH) (b : Option mV), (nS N - s).toNat = M → 0 ≤ s → s ≤ nS N → fr [SO] h h' → (∀ x, 0 ≤ x → x < s → h' SO x = 1000000) → WP (true, rm 4) m_Fl_spread (rt m_Fl_spread (rm 4) (spQ SO CA N a t h r)) 3 [some (vR F), some (vR 31), some (vI a), some (vI t), some (vI s), b] [] h' r (0, 0) := by
  have hF' := hF
  rcases hF with ⟨rfl, rfl, rfl⟩ | ⟨rfl, rfl, rfl⟩
  all_goals
    intro M
    induction M using Nat.strongRecOn with
    | ind M ih =>
      intro s h' b hM s0 s1 hf hx
      obtain ⟨hnde, hV, hN, hO, hG⟩ := id hw
      have hS := hV.2.1
      have hn := hV.1
      have hw' : netW h' r N := hw.fr hf (by decide)
      have e2 : h' 2 1 = nS N := hw'.2.2.1.2.1
      refine wq_iload (i := 4) (q := 5) rfl rfl rfl ?_
      refine wq_aload_n (kk := 1) (q := 6) rfl rfl rfl ?_
      refine wq_getR (q := 9) f_Fl_19 rfl rfl (Or.inl ⟨rfl, Nat.le_of_ble_eq_true rfl⟩) hnde rfl rfl ?_
      refine wq_getI (kz := 1) (q := 12) rfl f_Fl_25 rfl rfl (Or.inl ⟨rfl, Nat.le_of_ble_eq_true rfl⟩) rfl rfl ?_
      refine wq_icmp_ge (tgt := 30) (q := 15) rfl rfl rfl (fun c12 => ?_) (fun c12 => ?_)
      · skip
        refine wq_iconst (n := 0) (q := 31) rfl rfl rfl ?_
        refine wq_istore (i := 4) (q := 33) rfl rfl (Nat.le_of_ble_eq_true rfl) rfl ?_
        exact Fl_spreadB _ _ _ hF' N a t h r hw ha _ 0 h' _ rfl (by omega) (by omega) (hf.mono (by decide)) (fun x x0 x1 => hx x x0 (by omega)) (fun x x0 x1 => by omega)
      · skip
        refine wq_aload_n (kk := 0) (q := 16) rfl rfl rfl ?_
        refine wq_getF (q := 19) f_Fl_9 rfl rfl (Nat.le_of_ble_eq_true rfl) rfl rfl rfl ?_
        refine wq_iload (i := 4) (q := 21) rfl rfl rfl ?_
        refine wq_ldc (n := 1000000) (q := 23) k_Fl_31 rfl rfl rfl ?_
        refine wq_iast (q := 24) rfl (Or.inl ⟨rfl, Nat.le_of_ble_eq_true rfl⟩) rfl rfl (by first | omega | (simp [hup]; omega)) (by first | omega | (simp [hup]; omega)) ?_
        refine wq_iinc (i := 4) (n := 1) (q := 27) rfl rfl rfl (Nat.le_of_ble_eq_true rfl) rfl (by first | omega | (simp [hup]; omega)) (by first | omega | (simp [hup]; omega)) ?_
        refine wq_goto (tgt := 3) rfl rfl ?_
        refine ih _ ?_ (s + 1) _ _ rfl (by omega) (by omega) (hf.up (by decide)) (fun x x0 x1 => ?_)
        · omega
        · by_cases ex : x = s
          · subst ex; rw [hup_s]
          · rw [hup_j ex]; exact hx x x0 (by omega)
set_option maxRecDepth 100000 in
theorem Fl_spread_ok (F SO CA : Nat) (hF : isF F SO CA) (N : mN) (a t : Int) (h : mH) (r : mR) (hw : netW h r N) (ha : 0 ≤ a ∧ a < nS N) : Meets true (rm 4) m_Fl_spread [vR F, vR 31, vI a, vI t] h r (spQ SO CA N a t h r) := by
  have hS := hw.2.1.2.1
  refine ⟨ok_Fl_spread, Nat.le_of_ble_eq_true rfl, ?_⟩
  refine wq_iconst (n := 0) (q := 1) rfl rfl rfl ?_
  refine wq_istore (i := 4) (q := 3) rfl rfl (Nat.le_of_ble_eq_true rfl) rfl ?_
  exact Fl_spreadA _ _ _ hF N a t h r hw ha _ 0 h _ rfl (by omega) (by omega) fr.rf (fun x x0 x1 => by omega)
end
section
/-! LABELS: for each departure that runs, how one goes on best with it to the spot b: when one arrives (e), changes (t), departures (l), the next one (x); B stands for never -/
def Cd (N : mN) (B : Int) (e : mF) (d f : Int) : Prop := dp N f ∧ rn N f = 1 ∧ J N d f ∧ frm N f = dst N d ∧ e f ≠ B
def kl (e1 t1 l1 x1 e2 t2 l2 x2 : Int) : Prop := e1 < e2 ∨ e1 = e2 ∧ (t1 < t2 ∨ t1 = t2 ∧ (l1 < l2 ∨ l1 = l2 ∧ x1 < x2))
def tn (N : mN) (d f : Int) : Int := if ln N d = ln N f then 0 else 1
theorem tn_b (N : mN) (d f : Int) : 0 ≤ tn N d f ∧ tn N d f ≤ 1 := by unfold tn; split <;> omega
theorem kl.trans {a1 a2 a3 a4 b1 b2 b3 b4 c1 c2 c3 c4 : Int} (h1 : kl a1 a2 a3 a4 b1 b2 b3 b4) (h2 : kl b1 b2 b3 b4 c1 c2 c3 c4) : kl a1 a2 a3 a4 c1 c2 c3 c4 := by unfold kl at *; omega
theorem kl.asym {a1 a2 a3 a4 b1 b2 b3 b4 : Int} (h1 : kl a1 a2 a3 a4 b1 b2 b3 b4) (h2 : kl b1 b2 b3 b4 a1 a2 a3 a4) : False := by unfold kl at *; omega
theorem kl.tot {a1 a2 a3 a4 b1 b2 b3 b4 : Int} (hne : a4 ≠ b4) (h1 : ¬ kl a1 a2 a3 a4 b1 b2 b3 b4) : kl b1 b2 b3 b4 a1 a2 a3 a4 := by unfold kl at *; omega
/-- the least of the candidates of which P is told -/
def Lm (N : mN) (B : Int) (e t l x : mF) (P : Int → Prop) (d : Int) : Prop :=
  ((∀ f, P f → ¬ Cd N B e d f) ∧ e d = B ∧ x d = -1) ∨
  ∃ f, P f ∧ Cd N B e d f ∧ x d = f ∧ e d = e f ∧ t d = t f + tn N d f ∧ l d = l f + 1 ∧ ∀ g, P g → Cd N B e d g → g ≠ f → kl (e f) (t f + tn N d f) (l f) f (e g) (t g + tn N d g) (l g) g
def LabAt (N : mN) (b B : Int) (e t l x : mF) (d : Int) : Prop :=
  (dst N d = b → e d = ar N d ∧ t d = 0 ∧ l d = 1 ∧ x d = -1) ∧ (dst N d ≠ b → Lm N B e t l x (fun _ => True) d)
def Lab (N : mN) (b B : Int) (e t l x : mF) : Prop := ∀ d, dp N d → rn N d = 1 → LabAt N b B e t l x d
theorem J.lt {N : mN} (hV : NV N) {d f : Int} (hd : dp N d) (h : J N d f) : lv N d < lv N f := by
  have h1 := (hV.2.2.1 d hd).2.2.2.1
  have h2 := h.1
  omega
theorem J.ne {N : mN} (hV : NV N) {d f : Int} (hd : dp N d) (h : J N d f) : f ≠ d := fun e => by
  have := J.lt hV hd h
  rw [e] at this
  omega
theorem Lm.congr {N : mN} {B : Int} {e t l x e' t' l' x' : mF} {P Q : Int → Prop} {d : Int} (hd : e' d = e d ∧ t' d = t d ∧ l' d = l d ∧ x' d = x d) (hf : ∀ f, dp N f → J N d f → e' f = e f ∧ t' f = t f ∧ l' f = l f) (hPQ : ∀ f, Cd N B e d f → (Q f ↔ P f)) (h : Lm N B e t l x P d) : Lm N B e' t' l' x' Q d := by
  have hC : ∀ f, Cd N B e' d f ↔ Cd N B e d f := fun f => by
    unfold Cd
    constructor
    · rintro ⟨a, b, c, q, z⟩
      exact ⟨a, b, c, q, by rw [← (hf f a c).1]; exact z⟩
    · rintro ⟨a, b, c, q, z⟩
      exact ⟨a, b, c, q, by rw [(hf f a c).1]; exact z⟩
  rcases h with ⟨h1, h2, h3⟩ | ⟨f, h0, h1, h2, h3, h4, h5, h6⟩
  · refine Or.inl ⟨fun f hq hc => h1 f ((hPQ f ((hC f).mp hc)).mp hq) ((hC f).mp hc), hd.1.trans h2, hd.2.2.2.trans h3⟩
  · have hj := hf f h1.1 h1.2.2.1
    refine Or.inr ⟨f, (hPQ f h1).mpr h0, (hC f).mpr h1, hd.2.2.2.trans h2, ?_, ?_, ?_, fun g hg hc hne => ?_⟩
    · rw [hd.1, h3, hj.1]
    · rw [hd.2.1, h4, hj.2.1]
    · rw [hd.2.2.1, h5, hj.2.2]
    · have hc' := (hC g).mp hc
      have hjg := hf g hc'.1 hc'.2.2.1
      rw [hj.1, hj.2.1, hj.2.2, hjg.1, hjg.2.1, hjg.2.2]
      exact h6 g ((hPQ g hc').mp hg) hc' hne
theorem LabAt.congr {N : mN} {b B : Int} {e t l x e' t' l' x' : mF} {d : Int} (hd : e' d = e d ∧ t' d = t d ∧ l' d = l d ∧ x' d = x d) (hf : ∀ f, dp N f → J N d f → e' f = e f ∧ t' f = t f ∧ l' f = l f) (h : LabAt N b B e t l x d) : LabAt N b B e' t' l' x' d :=
  ⟨fun z => by rw [hd.1, hd.2.1, hd.2.2.1, hd.2.2.2]; exact h.1 z, fun z => (h.2 z).congr hd hf (fun _ _ => Iff.rfl)⟩
/-- labels are what they are: two that are told so agree -/
theorem Lab.uniq {N : mN} (hV : NV N) {b B B' : Int} {e t l x e' t' l' x' : mF} (hB : 1700 < B) (hB' : 1700 < B') (h : Lab N b B e t l x) (h' : Lab N b B' e' t' l' x') :
    ∀ (k : Nat) (d : Int), dp N d → rn N d = 1 → (1501 - lv N d).toNat = k → (e d = B ∧ e' d = B' ∧ x d = -1 ∧ x' d = -1) ∨ (e d ≠ B ∧ e' d ≠ B' ∧ e' d = e d ∧ t' d = t d ∧ l' d = l d ∧ x' d = x d) := by
  intro k
  induction k using Nat.strongRecOn with
  | ind k ih =>
    intro d hd hr hk
    have hv := hV.2.2.1 d hd
    have H := h d hd hr
    have H' := h' d hd hr
    by_cases hb : dst N d = b
    · obtain ⟨a1, a2, a3, a4⟩ := H.1 hb
      obtain ⟨c1, c2, c3, c4⟩ := H'.1 hb
      exact Or.inr ⟨by omega, by omega, by omega, by omega, by omega, by omega⟩
    · have ihf : ∀ f, dp N f → rn N f = 1 → J N d f → (e f = B ∧ e' f = B' ∧ x f = -1 ∧ x' f = -1) ∨ (e f ≠ B ∧ e' f ≠ B' ∧ e' f = e f ∧ t' f = t f ∧ l' f = l f ∧ x' f = x f) := fun f hf hrf hj => by
        have := J.lt hV hd hj
        have hvf := hV.2.2.1 f hf
        exact ih _ (by omega) f hf hrf rfl
      have hC : ∀ f, Cd N B e d f → Cd N B' e' d f ∧ e' f = e f ∧ t' f = t f ∧ l' f = l f := fun f hc => by
        rcases ihf f hc.1 hc.2.1 hc.2.2.1 with z | z
        · exact absurd z.1 hc.2.2.2.2
        · exact ⟨⟨hc.1, hc.2.1, hc.2.2.1, hc.2.2.2.1, z.2.1⟩, z.2.2.1, z.2.2.2.1, z.2.2.2.2.1⟩
      have hC' : ∀ f, Cd N B' e' d f → Cd N B e d f := fun f hc => by
        rcases ihf f hc.1 hc.2.1 hc.2.2.1 with z | z
        · exact absurd z.2.1 hc.2.2.2.2
        · exact ⟨hc.1, hc.2.1, hc.2.2.1, hc.2.2.2.1, z.1⟩
      rcases H.2 hb with ⟨h1, h2, h3⟩ | ⟨f, -, h1, h2, h3, h4, h5, h6⟩
      · rcases H'.2 hb with ⟨g1, g2, g3⟩ | ⟨g, -, g1, -⟩
        · exact Or.inl ⟨h2, g2, h3, g3⟩
        · exact absurd (hC' g g1) (h1 g trivial)
      · rcases H'.2 hb with ⟨g1, g2, g3⟩ | ⟨g, -, g1, g2, g3, g4, g5, g6⟩
        · exact absurd (hC f h1).1 (g1 f trivial)
        · have hf := hC f h1
          have hg := hC g (hC' g g1)
          have hfg : f = g := by
            by_cases q : f = g
            · exact q
            · have k1 := h6 g trivial (hC' g g1) (fun z => q z.symm)
              have k2 := g6 f trivial hf.1 q
              rw [hf.2.1, hf.2.2.1, hf.2.2.2, hg.2.1, hg.2.2.1, hg.2.2.2] at k2
              exact absurd k2 (fun z => k1.asym z)
          subst hfg
          refine Or.inr ⟨by rw [h3]; exact h1.2.2.2.2, by rw [g3]; exact g1.2.2.2.2, ?_, ?_, ?_, ?_⟩
          · rw [g3, h3, hf.2.1]
          · rw [g4, h4, hf.2.2.1]
          · rw [g5, h5, hf.2.2.2]
          · rw [g2, h2]
theorem Lab.eq {N : mN} (hV : NV N) {b B B' : Int} {e t l x e' t' l' x' : mF} (hB : 1700 < B) (hB' : 1700 < B') (h : Lab N b B e t l x) (h' : Lab N b B' e' t' l' x') {d : Int} (hd : dp N d) (hr : rn N d = 1) : (e d = B ∧ e' d = B' ∧ x d = -1 ∧ x' d = -1) ∨ (e d ≠ B ∧ e' d ≠ B' ∧ e' d = e d ∧ t' d = t d ∧ l' d = l d ∧ x' d = x d) := Lab.uniq hV hB hB' h h' _ d hd hr rfl
/-- the first departure of the best way from a, ready at q -/
def Fc (N : mN) (B : Int) (e : mF) (a q d : Int) : Prop := dp N d ∧ rn N d = 1 ∧ frm N d = a ∧ q ≤ lv N d ∧ e d ≠ B
def kf (N : mN) (e t l : mF) (d g : Int) : Prop := e d < e g ∨ e d = e g ∧ (t d < t g ∨ t d = t g ∧ (lv N g < lv N d ∨ lv N g = lv N d ∧ (l d < l g ∨ l d = l g ∧ d < g)))
def Fs (N : mN) (B : Int) (e t l : mF) (a q : Int) (P : Int → Prop) (f : Int) : Prop := (f = -1 ∧ ∀ d, P d → ¬ Fc N B e a q d) ∨ (P f ∧ Fc N B e a q f ∧ ∀ g, P g → Fc N B e a q g → g ≠ f → kf N e t l f g)
theorem kf.asym {N : mN} {e t l : mF} {d g : Int} (h1 : kf N e t l d g) (h2 : kf N e t l g d) : False := by unfold kf at *; omega
theorem kf.trans {N : mN} {e t l : mF} {a b c : Int} (h1 : kf N e t l a b) (h2 : kf N e t l b c) : kf N e t l a c := by unfold kf at *; omega
theorem kf.tot {N : mN} {e t l : mF} {a b : Int} (hne : a ≠ b) (h1 : ¬ kf N e t l a b) : kf N e t l b a := by unfold kf at *; omega
theorem Fs.uniq {N : mN} (hV : NV N) {b B B' : Int} {e t l x e' t' l' x' : mF} (hB : 1700 < B) (hB' : 1700 < B') (h : Lab N b B e t l x) (h' : Lab N b B' e' t' l' x') {a q f f' : Int} (hf : Fs N B e t l a q (fun _ => True) f) (hf' : Fs N B' e' t' l' a q (fun _ => True) f') : f = f' := by
  have tr : ∀ d, Fc N B e a q d → Fc N B' e' a q d ∧ e' d = e d ∧ t' d = t d ∧ l' d = l d := fun d hd => by
    rcases Lab.eq hV hB hB' h h' hd.1 hd.2.1 with z | z
    · exact absurd z.1 hd.2.2.2.2
    · exact ⟨⟨hd.1, hd.2.1, hd.2.2.1, hd.2.2.2.1, z.2.1⟩, z.2.2.1, z.2.2.2.1, z.2.2.2.2.1⟩
  have tr' : ∀ d, Fc N B' e' a q d → Fc N B e a q d := fun d hd => by
    rcases Lab.eq hV hB hB' h h' hd.1 hd.2.1 with z | z
    · exact absurd z.2.1 hd.2.2.2.2
    · exact ⟨hd.1, hd.2.1, hd.2.2.1, hd.2.2.2.1, z.1⟩
  rcases hf with ⟨rfl, h1⟩ | ⟨-, h1, h2⟩
  · rcases hf' with ⟨rfl, -⟩ | ⟨-, g1, -⟩
    · rfl
    · exact absurd (tr' _ g1) (h1 _ trivial)
  · rcases hf' with ⟨rfl, g1⟩ | ⟨-, g1, g2⟩
    · exact absurd (tr f h1).1 (g1 f trivial)
    · by_cases z : f = f'
      · exact z
      · have k1 := h2 f' trivial (tr' _ g1) (fun q => z q.symm)
        have k2 := g2 f trivial (tr f h1).1 z
        have y := tr f h1
        have y' := tr f' (tr' _ g1)
        unfold kf at k1 k2
        rw [y.2.1, y.2.2.1, y.2.2.2, y'.2.1, y'.2.2.1, y'.2.2.2] at k2
        omega
/-- what flows forth comes where the labels lead -/
theorem Soon.back {N : mN} (hV : NV N) {a q b B : Int} {e t l x c : mF} (hB : 1700 < B) (h : Lab N b B e t l x) (hc : Ct N a q c) : ∀ (k : Nat) (d : Int), dp N d → rn N d = 1 → c d = 1 → e d ≠ B → (lv N d).toNat = k → ∃ f, Fc N B e a q f ∧ e f ≤ e d := by
  intro k
  induction k using Nat.strongRecOn with
  | ind k ih =>
    intro d hd hr hcd hed hk
    rcases (hc d hd).1.mp hcd with ⟨z1, z2⟩ | ⟨g, g1, g2, g3, g4, g5⟩
    · exact ⟨d, ⟨hd, hr, z1, z2, hed⟩, Int.le_refl _⟩
    · have hvg := hV.2.2.1 g g1
      have hlt := J.lt hV g1 g4
      have key : e g ≠ B ∧ e g ≤ e d := by
        by_cases hb : dst N g = b
        · have z := (h g g1 g2).1 hb
          have hg4 := g4.1
          have hvd := hV.2.2.1 d hd
          refine ⟨by omega, ?_⟩
          have : ar N d ≤ e d := by
            have : ∀ (m : Nat) (y : Int), dp N y → rn N y = 1 → e y ≠ B → (1501 - lv N y).toNat = m → ar N y ≤ e y := by
              intro m
              induction m using Nat.strongRecOn with
              | ind m im =>
                intro y hy hry hey hm
                have hvy := hV.2.2.1 y hy
                by_cases hby : dst N y = b
                · have := (h y hy hry).1 hby; omega
                · rcases (h y hy hry).2 hby with ⟨-, w, -⟩ | ⟨w, -, w1, -, w3, -⟩
                  · exact absurd w hey
                  · have := J.lt hV hy w1.2.2.1
                    have hvw := hV.2.2.1 w w1.1
                    have hw1 := w1.2.2.1.1
                    have := im _ (by omega) w w1.1 w1.2.1 w1.2.2.2.2 rfl
                    omega
            exact this _ d hd hr hed rfl
          omega
        · rcases (h g g1 g2).2 hb with ⟨w, -⟩ | ⟨w, -, w1, -, w3, -, -, w6⟩
          · exact absurd ⟨hd, hr, g4, g5, hed⟩ (w d trivial)
          · refine ⟨by rw [w3]; exact w1.2.2.2.2, ?_⟩
            rw [w3]
            by_cases hwd : d = w
            · rw [hwd]; exact Int.le_refl _
            · have := w6 d trivial ⟨hd, hr, g4, g5, hed⟩ hwd
              unfold kl at this
              omega
      obtain ⟨f, f1, f2⟩ := ih _ (by omega) g g1 g2 g3 key.1 rfl
      exact ⟨f, f1, by omega⟩
theorem Soon.forth {N : mN} (hV : NV N) {a q b B : Int} {e t l x c : mF} (hB : 1700 < B) (h : Lab N b B e t l x) (hc : Ct N a q c) : ∀ (k : Nat) (d : Int), dp N d → rn N d = 1 → c d = 1 → e d ≠ B → (1501 - lv N d).toNat = k → ∃ g, dp N g ∧ rn N g = 1 ∧ c g = 1 ∧ dst N g = b ∧ ar N g = e d := by
  intro k
  induction k using Nat.strongRecOn with
  | ind k ih =>
    intro d hd hr hcd hed hk
    have hvd := hV.2.2.1 d hd
    by_cases hb : dst N d = b
    · exact ⟨d, hd, hr, hcd, hb, ((h d hd hr).1 hb).1.symm⟩
    · rcases (h d hd hr).2 hb with ⟨-, w, -⟩ | ⟨w, -, w1, -, w3, -⟩
      · exact absurd w hed
      · have := J.lt hV hd w1.2.2.1
        have hvw := hV.2.2.1 w w1.1
        have hcw : c w = 1 := (hc w w1.1).1.mpr (Or.inr ⟨d, hd, hr, hcd, w1.2.2.1, w1.2.2.2.1⟩)
        obtain ⟨g, g1, g2, g3, g4, g5⟩ := ih _ (by omega) w w1.1 w1.2.1 hcw w1.2.2.2.2 rfl
        exact ⟨g, g1, g2, g3, g4, by rw [g5, w3]⟩
theorem Soon.best {N : mN} (hV : NV N) {a q b B f : Int} {e t l x so : mF} (hB : 1700 < B) (h : Lab N b B e t l x) (hs : Soon N a q so) (hb : 0 ≤ b ∧ b < nS N) (hab : b ≠ a) (hf : Fs N B e t l a q (fun _ => True) f) : (f = -1 ∧ so b = 1000000) ∨ (f ≠ -1 ∧ so b = e f ∧ e f ≤ 1700 ∧ 0 ≤ e f) := by
  obtain ⟨-, c, hc, hso⟩ := hs
  have hS := hso b hb.1 hb.2 hab
  have hbd : ∀ d, dp N d → rn N d = 1 → e d ≠ B → c d = 1 → e d ≤ 1700 ∧ 0 ≤ e d := fun d hd hr he hcd => by
    obtain ⟨g, g1, -, -, -, g5⟩ := Soon.forth hV hB h hc _ d hd hr hcd he rfl
    have := hV.2.2.1 g g1
    omega
  rcases hf with ⟨rfl, h1⟩ | ⟨-, h1, h2⟩
  · refine Or.inl ⟨rfl, ?_⟩
    rcases hS.1 with z | ⟨g, g1, g2, g3, g4, g5⟩
    · exact z
    · have hg := (h g g1 g2).1 g4
      have hvg := hV.2.2.1 g g1
      obtain ⟨y, y1, -⟩ := Soon.back hV hB h hc _ g g1 g2 g3 (by omega) rfl
      exact absurd y1 (h1 y trivial)
  · have hcf : c f = 1 := (hc f h1.1).1.mpr (Or.inl ⟨h1.2.2.1, h1.2.2.2.1⟩)
    have hd := hV.2.2.1 f h1.1
    have hb2 := hbd f h1.1 h1.2.1 h1.2.2.2.2 hcf
    obtain ⟨g, g1, g2, g3, g4, g5⟩ := Soon.forth hV hB h hc _ f h1.1 h1.2.1 hcf h1.2.2.2.2 rfl
    have le1 := hS.2 g g1 g2 g3 g4
    refine Or.inr ⟨by have := h1.1.1; omega, ?_, hb2⟩
    rcases hS.1 with z | ⟨y, y1, y2, y3, y4, y5⟩
    · omega
    · have hy := (h y y1 y2).1 y4
      have hvy := hV.2.2.1 y y1
      obtain ⟨w, w1, w2⟩ := Soon.back hV hB h hc _ y y1 y2 y3 (by omega) rfl
      have : e f ≤ e w := by
        by_cases q : w = f
        · rw [q]; exact Int.le_refl _
        · have := h2 w trivial w1 q
          unfold kf at this
          omega
      omega
end
