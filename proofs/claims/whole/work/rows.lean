section
-- ===== PART A: goes FIRST, ahead of the names: the tables' words, and 'selects' of the private methods out of them =====
/-- a private method of a class that the tables say can be made, by its rows of tables_1 -/
def lw_okq (q : MethodName × Nat) : Prop := (q.1.cls ≠ "java/lang/invoke/MethodHandle" ∧ q.1.cls ≠ "java/lang/invoke/VarHandle") ∧ Cond.instantiable q.1.cls q.2 ∈ tables_1 ∧ Cond.privateMethod q.1 ∈ tables_1 ∧ Cond.instanceMethod q.1 ∈ tables_1
theorem lw_p0 : lw_okq (⟨"HeadTrees", "refuse", "(I)I"⟩, 17) := ⟨⟨by decide +kernel, by decide +kernel⟩, List.mem_of_getElem? (i := 21) (by decide +kernel), List.mem_of_getElem? (i := 356) (by decide +kernel), List.mem_of_getElem? (i := 357) (by decide +kernel)⟩
theorem lw_p1 : lw_okq (⟨"HeadTrees$Reader", "readLines", "()I"⟩, 11) := ⟨⟨by decide +kernel, by decide +kernel⟩, List.mem_of_getElem? (i := 29) (by decide +kernel), List.mem_of_getElem? (i := 371) (by decide +kernel), List.mem_of_getElem? (i := 372) (by decide +kernel)⟩
theorem lw_p2 : lw_okq (⟨"HeadTrees$Reader", "advance", "()V"⟩, 11) := ⟨⟨by decide +kernel, by decide +kernel⟩, List.mem_of_getElem? (i := 29) (by decide +kernel), List.mem_of_getElem? (i := 375) (by decide +kernel), List.mem_of_getElem? (i := 376) (by decide +kernel)⟩
theorem lw_p3 : lw_okq (⟨"HeadTrees$Reader", "isLetter", "(I)Z"⟩, 11) := ⟨⟨by decide +kernel, by decide +kernel⟩, List.mem_of_getElem? (i := 29) (by decide +kernel), List.mem_of_getElem? (i := 379) (by decide +kernel), List.mem_of_getElem? (i := 380) (by decide +kernel)⟩
theorem lw_p4 : lw_okq (⟨"HeadTrees$Reader", "takeWord", "()V"⟩, 11) := ⟨⟨by decide +kernel, by decide +kernel⟩, List.mem_of_getElem? (i := 29) (by decide +kernel), List.mem_of_getElem? (i := 383) (by decide +kernel), List.mem_of_getElem? (i := 384) (by decide +kernel)⟩
theorem lw_p5 : lw_okq (⟨"HeadTrees$Reader", "isDigit", "(I)Z"⟩, 11) := ⟨⟨by decide +kernel, by decide +kernel⟩, List.mem_of_getElem? (i := 29) (by decide +kernel), List.mem_of_getElem? (i := 387) (by decide +kernel), List.mem_of_getElem? (i := 388) (by decide +kernel)⟩
theorem lw_p6 : lw_okq (⟨"HeadTrees$Reader", "takeWhole", "()V"⟩, 11) := ⟨⟨by decide +kernel, by decide +kernel⟩, List.mem_of_getElem? (i := 29) (by decide +kernel), List.mem_of_getElem? (i := 391) (by decide +kernel), List.mem_of_getElem? (i := 392) (by decide +kernel)⟩
theorem lw_p7 : lw_okq (⟨"HeadTrees$Reader", "readLine", "()I"⟩, 11) := ⟨⟨by decide +kernel, by decide +kernel⟩, List.mem_of_getElem? (i := 29) (by decide +kernel), List.mem_of_getElem? (i := 395) (by decide +kernel), List.mem_of_getElem? (i := 396) (by decide +kernel)⟩
theorem lw_p8 : lw_okq (⟨"HeadTrees$Reader", "says", "(Ljava/lang/String;)Z"⟩, 11) := ⟨⟨by decide +kernel, by decide +kernel⟩, List.mem_of_getElem? (i := 29) (by decide +kernel), List.mem_of_getElem? (i := 400) (by decide +kernel), List.mem_of_getElem? (i := 401) (by decide +kernel)⟩
theorem lw_p9 : lw_okq (⟨"HeadTrees$Reader", "readPiece", "()I"⟩, 11) := ⟨⟨by decide +kernel, by decide +kernel⟩, List.mem_of_getElem? (i := 29) (by decide +kernel), List.mem_of_getElem? (i := 452) (by decide +kernel), List.mem_of_getElem? (i := 453) (by decide +kernel)⟩
theorem lw_p10 : lw_okq (⟨"HeadTrees$Reader", "readNamed", "(Ljava/lang/String;II)I"⟩, 11) := ⟨⟨by decide +kernel, by decide +kernel⟩, List.mem_of_getElem? (i := 29) (by decide +kernel), List.mem_of_getElem? (i := 457) (by decide +kernel), List.mem_of_getElem? (i := 458) (by decide +kernel)⟩
theorem lw_p11 : lw_okq (⟨"HeadTrees$Reader", "checkWhole", "(II)I"⟩, 11) := ⟨⟨by decide +kernel, by decide +kernel⟩, List.mem_of_getElem? (i := 29) (by decide +kernel), List.mem_of_getElem? (i := 461) (by decide +kernel), List.mem_of_getElem? (i := 462) (by decide +kernel)⟩
theorem lw_p12 : lw_okq (⟨"HeadTrees$Reader", "readNote", "()I"⟩, 11) := ⟨⟨by decide +kernel, by decide +kernel⟩, List.mem_of_getElem? (i := 29) (by decide +kernel), List.mem_of_getElem? (i := 468) (by decide +kernel), List.mem_of_getElem? (i := 469) (by decide +kernel)⟩
theorem lw_p13 : lw_okq (⟨"HeadTrees$Reader", "readRule", "()I"⟩, 11) := ⟨⟨by decide +kernel, by decide +kernel⟩, List.mem_of_getElem? (i := 29) (by decide +kernel), List.mem_of_getElem? (i := 478) (by decide +kernel), List.mem_of_getElem? (i := 479) (by decide +kernel)⟩
theorem lw_p14 : lw_okq (⟨"HeadTrees$Reader", "ruleSaid", "()I"⟩, 11) := ⟨⟨by decide +kernel, by decide +kernel⟩, List.mem_of_getElem? (i := 29) (by decide +kernel), List.mem_of_getElem? (i := 482) (by decide +kernel), List.mem_of_getElem? (i := 483) (by decide +kernel)⟩
theorem lw_p15 : lw_okq (⟨"HeadTrees$Score", "strengthAt", "(I)I"⟩, 10) := ⟨⟨by decide +kernel, by decide +kernel⟩, List.mem_of_getElem? (i := 35) (by decide +kernel), List.mem_of_getElem? (i := 495) (by decide +kernel), List.mem_of_getElem? (i := 496) (by decide +kernel)⟩
def lw_privs_1 : List (MethodName × Nat) := [(⟨"HeadTrees", "refuse", "(I)I"⟩, 17), (⟨"HeadTrees$Reader", "readLines", "()I"⟩, 11), (⟨"HeadTrees$Reader", "advance", "()V"⟩, 11), (⟨"HeadTrees$Reader", "isLetter", "(I)Z"⟩, 11), (⟨"HeadTrees$Reader", "takeWord", "()V"⟩, 11), (⟨"HeadTrees$Reader", "isDigit", "(I)Z"⟩, 11), (⟨"HeadTrees$Reader", "takeWhole", "()V"⟩, 11), (⟨"HeadTrees$Reader", "readLine", "()I"⟩, 11), (⟨"HeadTrees$Reader", "says", "(Ljava/lang/String;)Z"⟩, 11), (⟨"HeadTrees$Reader", "readPiece", "()I"⟩, 11), (⟨"HeadTrees$Reader", "readNamed", "(Ljava/lang/String;II)I"⟩, 11), (⟨"HeadTrees$Reader", "checkWhole", "(II)I"⟩, 11), (⟨"HeadTrees$Reader", "readNote", "()I"⟩, 11), (⟨"HeadTrees$Reader", "readRule", "()I"⟩, 11), (⟨"HeadTrees$Reader", "ruleSaid", "()I"⟩, 11), (⟨"HeadTrees$Score", "strengthAt", "(I)I"⟩, 10)]
theorem lw_r1 : ∀ q ∈ lw_privs_1, lw_okq q := List.forall_mem_cons.mpr ⟨lw_p0, List.forall_mem_cons.mpr ⟨lw_p1, List.forall_mem_cons.mpr ⟨lw_p2, List.forall_mem_cons.mpr ⟨lw_p3, List.forall_mem_cons.mpr ⟨lw_p4, List.forall_mem_cons.mpr ⟨lw_p5, List.forall_mem_cons.mpr ⟨lw_p6, List.forall_mem_cons.mpr ⟨lw_p7, List.forall_mem_cons.mpr ⟨lw_p8, List.forall_mem_cons.mpr ⟨lw_p9, List.forall_mem_cons.mpr ⟨lw_p10, List.forall_mem_cons.mpr ⟨lw_p11, List.forall_mem_cons.mpr ⟨lw_p12, List.forall_mem_cons.mpr ⟨lw_p13, List.forall_mem_cons.mpr ⟨lw_p14, List.forall_mem_cons.mpr ⟨lw_p15, fun _ h => absurd h List.not_mem_nil⟩⟩⟩⟩⟩⟩⟩⟩⟩⟩⟩⟩⟩⟩⟩⟩
theorem lw_p16 : lw_okq (⟨"HeadTrees$Score", "stableOf", "(I)I"⟩, 10) := ⟨⟨by decide +kernel, by decide +kernel⟩, List.mem_of_getElem? (i := 35) (by decide +kernel), List.mem_of_getElem? (i := 502) (by decide +kernel), List.mem_of_getElem? (i := 503) (by decide +kernel)⟩
theorem lw_p17 : lw_okq (⟨"HeadTrees", "renew", "()V"⟩, 17) := ⟨⟨by decide +kernel, by decide +kernel⟩, List.mem_of_getElem? (i := 21) (by decide +kernel), List.mem_of_getElem? (i := 513) (by decide +kernel), List.mem_of_getElem? (i := 514) (by decide +kernel)⟩
theorem lw_p18 : lw_okq (⟨"HeadTrees", "grant", "(I)I"⟩, 17) := ⟨⟨by decide +kernel, by decide +kernel⟩, List.mem_of_getElem? (i := 21) (by decide +kernel), List.mem_of_getElem? (i := 521) (by decide +kernel), List.mem_of_getElem? (i := 522) (by decide +kernel)⟩
theorem lw_p19 : lw_okq (⟨"HeadTrees", "hasPiece", "()Z"⟩, 17) := ⟨⟨by decide +kernel, by decide +kernel⟩, List.mem_of_getElem? (i := 21) (by decide +kernel), List.mem_of_getElem? (i := 537) (by decide +kernel), List.mem_of_getElem? (i := 538) (by decide +kernel)⟩
theorem lw_p20 : lw_okq (⟨"HeadTrees", "hasNote", "(I)Z"⟩, 17) := ⟨⟨by decide +kernel, by decide +kernel⟩, List.mem_of_getElem? (i := 21) (by decide +kernel), List.mem_of_getElem? (i := 553) (by decide +kernel), List.mem_of_getElem? (i := 554) (by decide +kernel)⟩
theorem lw_p21 : lw_okq (⟨"HeadTrees", "freshTree", "()LHeadTrees$Tree;"⟩, 17) := ⟨⟨by decide +kernel, by decide +kernel⟩, List.mem_of_getElem? (i := 21) (by decide +kernel), List.mem_of_getElem? (i := 557) (by decide +kernel), List.mem_of_getElem? (i := 558) (by decide +kernel)⟩
theorem lw_p22 : lw_okq (⟨"HeadTrees", "freshSpans", "()LHeadTrees$Chart;"⟩, 17) := ⟨⟨by decide +kernel, by decide +kernel⟩, List.mem_of_getElem? (i := 21) (by decide +kernel), List.mem_of_getElem? (i := 561) (by decide +kernel), List.mem_of_getElem? (i := 562) (by decide +kernel)⟩
theorem lw_p23 : lw_okq (⟨"HeadTrees$Chart", "fillSpan", "(II)V"⟩, 4) := ⟨⟨by decide +kernel, by decide +kernel⟩, List.mem_of_getElem? (i := 157) (by decide +kernel), List.mem_of_getElem? (i := 583) (by decide +kernel), List.mem_of_getElem? (i := 584) (by decide +kernel)⟩
theorem lw_p24 : lw_okq (⟨"HeadTrees$Chart", "leastInside", "(III)I"⟩, 4) := ⟨⟨by decide +kernel, by decide +kernel⟩, List.mem_of_getElem? (i := 157) (by decide +kernel), List.mem_of_getElem? (i := 590) (by decide +kernel), List.mem_of_getElem? (i := 591) (by decide +kernel)⟩
theorem lw_p25 : lw_okq (⟨"HeadTrees$Chart", "leastUnder", "(IIII)I"⟩, 4) := ⟨⟨by decide +kernel, by decide +kernel⟩, List.mem_of_getElem? (i := 157) (by decide +kernel), List.mem_of_getElem? (i := 595) (by decide +kernel), List.mem_of_getElem? (i := 596) (by decide +kernel)⟩
theorem lw_p26 : lw_okq (⟨"HeadTrees$Tree", "open", "(IIIII)V"⟩, 10) := ⟨⟨by decide +kernel, by decide +kernel⟩, List.mem_of_getElem? (i := 188) (by decide +kernel), List.mem_of_getElem? (i := 607) (by decide +kernel), List.mem_of_getElem? (i := 608) (by decide +kernel)⟩
theorem lw_p27 : lw_okq (⟨"HeadTrees$Tree", "divide", "(LHeadTrees$Chart;I)V"⟩, 10) := ⟨⟨by decide +kernel, by decide +kernel⟩, List.mem_of_getElem? (i := 188) (by decide +kernel), List.mem_of_getElem? (i := 611) (by decide +kernel), List.mem_of_getElem? (i := 612) (by decide +kernel)⟩
theorem lw_p28 : lw_okq (⟨"HeadTrees", "hasRule", "(I)Z"⟩, 17) := ⟨⟨by decide +kernel, by decide +kernel⟩, List.mem_of_getElem? (i := 21) (by decide +kernel), List.mem_of_getElem? (i := 644) (by decide +kernel), List.mem_of_getElem? (i := 645) (by decide +kernel)⟩
theorem lw_p29 : lw_okq (⟨"HeadTrees", "hasSpan", "(II)Z"⟩, 17) := ⟨⟨by decide +kernel, by decide +kernel⟩, List.mem_of_getElem? (i := 21) (by decide +kernel), List.mem_of_getElem? (i := 652) (by decide +kernel), List.mem_of_getElem? (i := 653) (by decide +kernel)⟩
theorem lw_p30 : lw_okq (⟨"HeadTrees$Counts", "fillSpan", "(LHeadTrees$Chart;II)V"⟩, 1) := ⟨⟨by decide +kernel, by decide +kernel⟩, List.mem_of_getElem? (i := 177) (by decide +kernel), List.mem_of_getElem? (i := 684) (by decide +kernel), List.mem_of_getElem? (i := 685) (by decide +kernel)⟩
theorem lw_p31 : lw_okq (⟨"HeadTrees$Counts", "countInside", "(LHeadTrees$Chart;III)J"⟩, 1) := ⟨⟨by decide +kernel, by decide +kernel⟩, List.mem_of_getElem? (i := 177) (by decide +kernel), List.mem_of_getElem? (i := 689) (by decide +kernel), List.mem_of_getElem? (i := 690) (by decide +kernel)⟩
def lw_privs_2 : List (MethodName × Nat) := [(⟨"HeadTrees$Score", "stableOf", "(I)I"⟩, 10), (⟨"HeadTrees", "renew", "()V"⟩, 17), (⟨"HeadTrees", "grant", "(I)I"⟩, 17), (⟨"HeadTrees", "hasPiece", "()Z"⟩, 17), (⟨"HeadTrees", "hasNote", "(I)Z"⟩, 17), (⟨"HeadTrees", "freshTree", "()LHeadTrees$Tree;"⟩, 17), (⟨"HeadTrees", "freshSpans", "()LHeadTrees$Chart;"⟩, 17), (⟨"HeadTrees$Chart", "fillSpan", "(II)V"⟩, 4), (⟨"HeadTrees$Chart", "leastInside", "(III)I"⟩, 4), (⟨"HeadTrees$Chart", "leastUnder", "(IIII)I"⟩, 4), (⟨"HeadTrees$Tree", "open", "(IIIII)V"⟩, 10), (⟨"HeadTrees$Tree", "divide", "(LHeadTrees$Chart;I)V"⟩, 10), (⟨"HeadTrees", "hasRule", "(I)Z"⟩, 17), (⟨"HeadTrees", "hasSpan", "(II)Z"⟩, 17), (⟨"HeadTrees$Counts", "fillSpan", "(LHeadTrees$Chart;II)V"⟩, 1), (⟨"HeadTrees$Counts", "countInside", "(LHeadTrees$Chart;III)J"⟩, 1)]
theorem lw_r2 : ∀ q ∈ lw_privs_2, lw_okq q := List.forall_mem_cons.mpr ⟨lw_p16, List.forall_mem_cons.mpr ⟨lw_p17, List.forall_mem_cons.mpr ⟨lw_p18, List.forall_mem_cons.mpr ⟨lw_p19, List.forall_mem_cons.mpr ⟨lw_p20, List.forall_mem_cons.mpr ⟨lw_p21, List.forall_mem_cons.mpr ⟨lw_p22, List.forall_mem_cons.mpr ⟨lw_p23, List.forall_mem_cons.mpr ⟨lw_p24, List.forall_mem_cons.mpr ⟨lw_p25, List.forall_mem_cons.mpr ⟨lw_p26, List.forall_mem_cons.mpr ⟨lw_p27, List.forall_mem_cons.mpr ⟨lw_p28, List.forall_mem_cons.mpr ⟨lw_p29, List.forall_mem_cons.mpr ⟨lw_p30, List.forall_mem_cons.mpr ⟨lw_p31, fun _ h => absurd h List.not_mem_nil⟩⟩⟩⟩⟩⟩⟩⟩⟩⟩⟩⟩⟩⟩⟩⟩
theorem lw_p32 : lw_okq (⟨"HeadTrees$Counts", "countUnder", "(LHeadTrees$Chart;III)J"⟩, 1) := ⟨⟨by decide +kernel, by decide +kernel⟩, List.mem_of_getElem? (i := 177) (by decide +kernel), List.mem_of_getElem? (i := 695) (by decide +kernel), List.mem_of_getElem? (i := 696) (by decide +kernel)⟩
theorem lw_p33 : lw_okq (⟨"HeadTrees$Tree", "leftNotes", "(I)I"⟩, 10) := ⟨⟨by decide +kernel, by decide +kernel⟩, List.mem_of_getElem? (i := 188) (by decide +kernel), List.mem_of_getElem? (i := 743) (by decide +kernel), List.mem_of_getElem? (i := 744) (by decide +kernel)⟩
theorem lw_p34 : lw_okq (⟨"HeadTrees$Tree", "rightNotes", "(I)I"⟩, 10) := ⟨⟨by decide +kernel, by decide +kernel⟩, List.mem_of_getElem? (i := 188) (by decide +kernel), List.mem_of_getElem? (i := 747) (by decide +kernel), List.mem_of_getElem? (i := 748) (by decide +kernel)⟩
theorem lw_p35 : lw_okq (⟨"HeadTrees", "cutLayer", "(LHeadTrees$Layer;I)I"⟩, 17) := ⟨⟨by decide +kernel, by decide +kernel⟩, List.mem_of_getElem? (i := 21) (by decide +kernel), List.mem_of_getElem? (i := 780) (by decide +kernel), List.mem_of_getElem? (i := 781) (by decide +kernel)⟩
theorem lw_p36 : lw_okq (⟨"HeadTrees$Sway", "learn", "(LHeadTrees$Score;II)V"⟩, 7) := ⟨⟨by decide +kernel, by decide +kernel⟩, List.mem_of_getElem? (i := 237) (by decide +kernel), List.mem_of_getElem? (i := 862) (by decide +kernel), List.mem_of_getElem? (i := 863) (by decide +kernel)⟩
theorem lw_p37 : lw_okq (⟨"HeadTrees$Sway", "isOneLine", "(III)Z"⟩, 7) := ⟨⟨by decide +kernel, by decide +kernel⟩, List.mem_of_getElem? (i := 237) (by decide +kernel), List.mem_of_getElem? (i := 871) (by decide +kernel), List.mem_of_getElem? (i := 872) (by decide +kernel)⟩
theorem lw_p38 : lw_okq (⟨"HeadTrees$Sway", "copyBetween", "(III)V"⟩, 7) := ⟨⟨by decide +kernel, by decide +kernel⟩, List.mem_of_getElem? (i := 237) (by decide +kernel), List.mem_of_getElem? (i := 887) (by decide +kernel), List.mem_of_getElem? (i := 888) (by decide +kernel)⟩
theorem lw_p39 : lw_okq (⟨"HeadTrees", "hasNotesFrom", "(II)Z"⟩, 17) := ⟨⟨by decide +kernel, by decide +kernel⟩, List.mem_of_getElem? (i := 21) (by decide +kernel), List.mem_of_getElem? (i := 907) (by decide +kernel), List.mem_of_getElem? (i := 908) (by decide +kernel)⟩
theorem lw_p40 : lw_okq (⟨"HeadTrees", "wholeBreaks", "()I"⟩, 17) := ⟨⟨by decide +kernel, by decide +kernel⟩, List.mem_of_getElem? (i := 21) (by decide +kernel), List.mem_of_getElem? (i := 937) (by decide +kernel), List.mem_of_getElem? (i := 938) (by decide +kernel)⟩
theorem lw_p41 : lw_okq (⟨"HeadTrees$Tree", "joiningOf", "(II)I"⟩, 10) := ⟨⟨by decide +kernel, by decide +kernel⟩, List.mem_of_getElem? (i := 188) (by decide +kernel), List.mem_of_getElem? (i := 949) (by decide +kernel), List.mem_of_getElem? (i := 950) (by decide +kernel)⟩
theorem lw_p42 : lw_okq (⟨"HeadTrees", "act", "(IIII)I"⟩, 17) := ⟨⟨by decide +kernel, by decide +kernel⟩, List.mem_of_getElem? (i := 21) (by decide +kernel), List.mem_of_getElem? (i := 975) (by decide +kernel), List.mem_of_getElem? (i := 976) (by decide +kernel)⟩
theorem lw_p43 : lw_okq (⟨"HeadTrees$Acts", "forgetFirst", "()V"⟩, 4) := ⟨⟨by decide +kernel, by decide +kernel⟩, List.mem_of_getElem? (i := 134) (by decide +kernel), List.mem_of_getElem? (i := 983) (by decide +kernel), List.mem_of_getElem? (i := 984) (by decide +kernel)⟩
theorem lw_p44 : lw_okq (⟨"HeadTrees", "change", "(III)V"⟩, 17) := ⟨⟨by decide +kernel, by decide +kernel⟩, List.mem_of_getElem? (i := 21) (by decide +kernel), List.mem_of_getElem? (i := 987) (by decide +kernel), List.mem_of_getElem? (i := 988) (by decide +kernel)⟩
theorem lw_p45 : lw_okq (⟨"java/lang/Throwable", "fillInStackTrace", "(I)Ljava/lang/Throwable;"⟩, 6) := ⟨⟨by decide +kernel, by decide +kernel⟩, List.mem_of_getElem? (i := 1072) (by decide +kernel), List.mem_of_getElem? (i := 1070) (by decide +kernel), List.mem_of_getElem? (i := 1071) (by decide +kernel)⟩
theorem lw_p46 : lw_okq (⟨"HeadTreesModel", "refused", "(I)I"⟩, 52) := ⟨⟨by decide +kernel, by decide +kernel⟩, List.mem_of_getElem? (i := 1097) (by decide +kernel), List.mem_of_getElem? (i := 1272) (by decide +kernel), List.mem_of_getElem? (i := 1273) (by decide +kernel)⟩
theorem lw_p47 : lw_okq (⟨"HeadTreesModel", "readAll", "()V"⟩, 52) := ⟨⟨by decide +kernel, by decide +kernel⟩, List.mem_of_getElem? (i := 1097) (by decide +kernel), List.mem_of_getElem? (i := 1276) (by decide +kernel), List.mem_of_getElem? (i := 1277) (by decide +kernel)⟩
def lw_privs_3 : List (MethodName × Nat) := [(⟨"HeadTrees$Counts", "countUnder", "(LHeadTrees$Chart;III)J"⟩, 1), (⟨"HeadTrees$Tree", "leftNotes", "(I)I"⟩, 10), (⟨"HeadTrees$Tree", "rightNotes", "(I)I"⟩, 10), (⟨"HeadTrees", "cutLayer", "(LHeadTrees$Layer;I)I"⟩, 17), (⟨"HeadTrees$Sway", "learn", "(LHeadTrees$Score;II)V"⟩, 7), (⟨"HeadTrees$Sway", "isOneLine", "(III)Z"⟩, 7), (⟨"HeadTrees$Sway", "copyBetween", "(III)V"⟩, 7), (⟨"HeadTrees", "hasNotesFrom", "(II)Z"⟩, 17), (⟨"HeadTrees", "wholeBreaks", "()I"⟩, 17), (⟨"HeadTrees$Tree", "joiningOf", "(II)I"⟩, 10), (⟨"HeadTrees", "act", "(IIII)I"⟩, 17), (⟨"HeadTrees$Acts", "forgetFirst", "()V"⟩, 4), (⟨"HeadTrees", "change", "(III)V"⟩, 17), (⟨"java/lang/Throwable", "fillInStackTrace", "(I)Ljava/lang/Throwable;"⟩, 6), (⟨"HeadTreesModel", "refused", "(I)I"⟩, 52), (⟨"HeadTreesModel", "readAll", "()V"⟩, 52)]
theorem lw_r3 : ∀ q ∈ lw_privs_3, lw_okq q := List.forall_mem_cons.mpr ⟨lw_p32, List.forall_mem_cons.mpr ⟨lw_p33, List.forall_mem_cons.mpr ⟨lw_p34, List.forall_mem_cons.mpr ⟨lw_p35, List.forall_mem_cons.mpr ⟨lw_p36, List.forall_mem_cons.mpr ⟨lw_p37, List.forall_mem_cons.mpr ⟨lw_p38, List.forall_mem_cons.mpr ⟨lw_p39, List.forall_mem_cons.mpr ⟨lw_p40, List.forall_mem_cons.mpr ⟨lw_p41, List.forall_mem_cons.mpr ⟨lw_p42, List.forall_mem_cons.mpr ⟨lw_p43, List.forall_mem_cons.mpr ⟨lw_p44, List.forall_mem_cons.mpr ⟨lw_p45, List.forall_mem_cons.mpr ⟨lw_p46, List.forall_mem_cons.mpr ⟨lw_p47, fun _ h => absurd h List.not_mem_nil⟩⟩⟩⟩⟩⟩⟩⟩⟩⟩⟩⟩⟩⟩⟩⟩
theorem lw_p48 : lw_okq (⟨"HeadTreesModel", "next", "()V"⟩, 52) := ⟨⟨by decide +kernel, by decide +kernel⟩, List.mem_of_getElem? (i := 1097) (by decide +kernel), List.mem_of_getElem? (i := 1280) (by decide +kernel), List.mem_of_getElem? (i := 1281) (by decide +kernel)⟩
theorem lw_p49 : lw_okq (⟨"HeadTreesModel", "byteAt", "(I)I"⟩, 52) := ⟨⟨by decide +kernel, by decide +kernel⟩, List.mem_of_getElem? (i := 1097) (by decide +kernel), List.mem_of_getElem? (i := 1284) (by decide +kernel), List.mem_of_getElem? (i := 1285) (by decide +kernel)⟩
theorem lw_p50 : lw_okq (⟨"HeadTreesModel", "nextWord", "()V"⟩, 52) := ⟨⟨by decide +kernel, by decide +kernel⟩, List.mem_of_getElem? (i := 1097) (by decide +kernel), List.mem_of_getElem? (i := 1291) (by decide +kernel), List.mem_of_getElem? (i := 1292) (by decide +kernel)⟩
theorem lw_p51 : lw_okq (⟨"HeadTreesModel", "nextWhole", "()V"⟩, 52) := ⟨⟨by decide +kernel, by decide +kernel⟩, List.mem_of_getElem? (i := 1097) (by decide +kernel), List.mem_of_getElem? (i := 1295) (by decide +kernel), List.mem_of_getElem? (i := 1296) (by decide +kernel)⟩
theorem lw_p52 : lw_okq (⟨"HeadTreesModel", "readLine", "()V"⟩, 52) := ⟨⟨by decide +kernel, by decide +kernel⟩, List.mem_of_getElem? (i := 1097) (by decide +kernel), List.mem_of_getElem? (i := 1299) (by decide +kernel), List.mem_of_getElem? (i := 1300) (by decide +kernel)⟩
theorem lw_p53 : lw_okq (⟨"HeadTreesModel", "isWord", "(Ljava/lang/String;)Z"⟩, 52) := ⟨⟨by decide +kernel, by decide +kernel⟩, List.mem_of_getElem? (i := 1097) (by decide +kernel), List.mem_of_getElem? (i := 1304) (by decide +kernel), List.mem_of_getElem? (i := 1305) (by decide +kernel)⟩
theorem lw_p54 : lw_okq (⟨"HeadTreesModel", "readPiece", "()V"⟩, 52) := ⟨⟨by decide +kernel, by decide +kernel⟩, List.mem_of_getElem? (i := 1097) (by decide +kernel), List.mem_of_getElem? (i := 1310) (by decide +kernel), List.mem_of_getElem? (i := 1311) (by decide +kernel)⟩
theorem lw_p55 : lw_okq (⟨"HeadTreesModel", "flaw", "(I)V"⟩, 52) := ⟨⟨by decide +kernel, by decide +kernel⟩, List.mem_of_getElem? (i := 1097) (by decide +kernel), List.mem_of_getElem? (i := 1314) (by decide +kernel), List.mem_of_getElem? (i := 1315) (by decide +kernel)⟩
theorem lw_p56 : lw_okq (⟨"HeadTreesModel", "readPart", "(Ljava/lang/String;II)I"⟩, 52) := ⟨⟨by decide +kernel, by decide +kernel⟩, List.mem_of_getElem? (i := 1097) (by decide +kernel), List.mem_of_getElem? (i := 1319) (by decide +kernel), List.mem_of_getElem? (i := 1320) (by decide +kernel)⟩
theorem lw_p57 : lw_okq (⟨"HeadTreesModel", "readWhole", "(II)I"⟩, 52) := ⟨⟨by decide +kernel, by decide +kernel⟩, List.mem_of_getElem? (i := 1097) (by decide +kernel), List.mem_of_getElem? (i := 1323) (by decide +kernel), List.mem_of_getElem? (i := 1324) (by decide +kernel)⟩
theorem lw_p58 : lw_okq (⟨"HeadTreesModel", "readNote", "()V"⟩, 52) := ⟨⟨by decide +kernel, by decide +kernel⟩, List.mem_of_getElem? (i := 1097) (by decide +kernel), List.mem_of_getElem? (i := 1330) (by decide +kernel), List.mem_of_getElem? (i := 1331) (by decide +kernel)⟩
theorem lw_p59 : lw_okq (⟨"HeadTreesModel", "begins", "(Z)V"⟩, 52) := ⟨⟨by decide +kernel, by decide +kernel⟩, List.mem_of_getElem? (i := 1097) (by decide +kernel), List.mem_of_getElem? (i := 1334) (by decide +kernel), List.mem_of_getElem? (i := 1335) (by decide +kernel)⟩
theorem lw_p60 : lw_okq (⟨"HeadTreesModel", "readRule", "()V"⟩, 52) := ⟨⟨by decide +kernel, by decide +kernel⟩, List.mem_of_getElem? (i := 1097) (by decide +kernel), List.mem_of_getElem? (i := 1340) (by decide +kernel), List.mem_of_getElem? (i := 1341) (by decide +kernel)⟩
theorem lw_p61 : lw_okq (⟨"HeadTreesModel", "ruleHere", "()I"⟩, 52) := ⟨⟨by decide +kernel, by decide +kernel⟩, List.mem_of_getElem? (i := 1097) (by decide +kernel), List.mem_of_getElem? (i := 1344) (by decide +kernel), List.mem_of_getElem? (i := 1345) (by decide +kernel)⟩
theorem lw_p62 : lw_okq (⟨"HeadTreesModel", "lays", "()V"⟩, 52) := ⟨⟨by decide +kernel, by decide +kernel⟩, List.mem_of_getElem? (i := 1097) (by decide +kernel), List.mem_of_getElem? (i := 1353) (by decide +kernel), List.mem_of_getElem? (i := 1354) (by decide +kernel)⟩
theorem lw_p63 : lw_okq (⟨"HeadTreesModel", "strength", "(I)I"⟩, 52) := ⟨⟨by decide +kernel, by decide +kernel⟩, List.mem_of_getElem? (i := 1097) (by decide +kernel), List.mem_of_getElem? (i := 1357) (by decide +kernel), List.mem_of_getElem? (i := 1358) (by decide +kernel)⟩
def lw_privs_4 : List (MethodName × Nat) := [(⟨"HeadTreesModel", "next", "()V"⟩, 52), (⟨"HeadTreesModel", "byteAt", "(I)I"⟩, 52), (⟨"HeadTreesModel", "nextWord", "()V"⟩, 52), (⟨"HeadTreesModel", "nextWhole", "()V"⟩, 52), (⟨"HeadTreesModel", "readLine", "()V"⟩, 52), (⟨"HeadTreesModel", "isWord", "(Ljava/lang/String;)Z"⟩, 52), (⟨"HeadTreesModel", "readPiece", "()V"⟩, 52), (⟨"HeadTreesModel", "flaw", "(I)V"⟩, 52), (⟨"HeadTreesModel", "readPart", "(Ljava/lang/String;II)I"⟩, 52), (⟨"HeadTreesModel", "readWhole", "(II)I"⟩, 52), (⟨"HeadTreesModel", "readNote", "()V"⟩, 52), (⟨"HeadTreesModel", "begins", "(Z)V"⟩, 52), (⟨"HeadTreesModel", "readRule", "()V"⟩, 52), (⟨"HeadTreesModel", "ruleHere", "()I"⟩, 52), (⟨"HeadTreesModel", "lays", "()V"⟩, 52), (⟨"HeadTreesModel", "strength", "(I)I"⟩, 52)]
theorem lw_r4 : ∀ q ∈ lw_privs_4, lw_okq q := List.forall_mem_cons.mpr ⟨lw_p48, List.forall_mem_cons.mpr ⟨lw_p49, List.forall_mem_cons.mpr ⟨lw_p50, List.forall_mem_cons.mpr ⟨lw_p51, List.forall_mem_cons.mpr ⟨lw_p52, List.forall_mem_cons.mpr ⟨lw_p53, List.forall_mem_cons.mpr ⟨lw_p54, List.forall_mem_cons.mpr ⟨lw_p55, List.forall_mem_cons.mpr ⟨lw_p56, List.forall_mem_cons.mpr ⟨lw_p57, List.forall_mem_cons.mpr ⟨lw_p58, List.forall_mem_cons.mpr ⟨lw_p59, List.forall_mem_cons.mpr ⟨lw_p60, List.forall_mem_cons.mpr ⟨lw_p61, List.forall_mem_cons.mpr ⟨lw_p62, List.forall_mem_cons.mpr ⟨lw_p63, fun _ h => absurd h List.not_mem_nil⟩⟩⟩⟩⟩⟩⟩⟩⟩⟩⟩⟩⟩⟩⟩⟩
theorem lw_p64 : lw_okq (⟨"HeadTreesModel", "beginOf", "(I)I"⟩, 52) := ⟨⟨by decide +kernel, by decide +kernel⟩, List.mem_of_getElem? (i := 1097) (by decide +kernel), List.mem_of_getElem? (i := 1361) (by decide +kernel), List.mem_of_getElem? (i := 1362) (by decide +kernel)⟩
theorem lw_p65 : lw_okq (⟨"HeadTreesModel", "lasts", "(I)I"⟩, 52) := ⟨⟨by decide +kernel, by decide +kernel⟩, List.mem_of_getElem? (i := 1097) (by decide +kernel), List.mem_of_getElem? (i := 1365) (by decide +kernel), List.mem_of_getElem? (i := 1366) (by decide +kernel)⟩
theorem lw_p66 : lw_okq (⟨"HeadTreesModel", "stable", "(I)I"⟩, 52) := ⟨⟨by decide +kernel, by decide +kernel⟩, List.mem_of_getElem? (i := 1097) (by decide +kernel), List.mem_of_getElem? (i := 1369) (by decide +kernel), List.mem_of_getElem? (i := 1370) (by decide +kernel)⟩
theorem lw_p67 : lw_okq (⟨"HeadTreesModel", "pitchOf", "(I)I"⟩, 52) := ⟨⟨by decide +kernel, by decide +kernel⟩, List.mem_of_getElem? (i := 1097) (by decide +kernel), List.mem_of_getElem? (i := 1373) (by decide +kernel), List.mem_of_getElem? (i := 1374) (by decide +kernel)⟩
theorem lw_p68 : lw_okq (⟨"HeadTreesModel", "laysOne", "(III)V"⟩, 52) := ⟨⟨by decide +kernel, by decide +kernel⟩, List.mem_of_getElem? (i := 1097) (by decide +kernel), List.mem_of_getElem? (i := 1377) (by decide +kernel), List.mem_of_getElem? (i := 1378) (by decide +kernel)⟩
theorem lw_p69 : lw_okq (⟨"HeadTreesModel", "tries", "(IIIIII)V"⟩, 52) := ⟨⟨by decide +kernel, by decide +kernel⟩, List.mem_of_getElem? (i := 1097) (by decide +kernel), List.mem_of_getElem? (i := 1385) (by decide +kernel), List.mem_of_getElem? (i := 1386) (by decide +kernel)⟩
theorem lw_p70 : lw_okq (⟨"HeadTreesModel", "joinedBy", "(IIIII)I"⟩, 52) := ⟨⟨by decide +kernel, by decide +kernel⟩, List.mem_of_getElem? (i := 1097) (by decide +kernel), List.mem_of_getElem? (i := 1389) (by decide +kernel), List.mem_of_getElem? (i := 1390) (by decide +kernel)⟩
theorem lw_p71 : lw_okq (⟨"HeadTreesModel", "brokenAll", "(IIII)I"⟩, 52) := ⟨⟨by decide +kernel, by decide +kernel⟩, List.mem_of_getElem? (i := 1097) (by decide +kernel), List.mem_of_getElem? (i := 1393) (by decide +kernel), List.mem_of_getElem? (i := 1394) (by decide +kernel)⟩
theorem lw_p72 : lw_okq (⟨"HeadTreesModel", "brokenBy", "(IIIII)I"⟩, 52) := ⟨⟨by decide +kernel, by decide +kernel⟩, List.mem_of_getElem? (i := 1097) (by decide +kernel), List.mem_of_getElem? (i := 1397) (by decide +kernel), List.mem_of_getElem? (i := 1398) (by decide +kernel)⟩
theorem lw_p73 : lw_okq (⟨"HeadTreesModel", "laysTree", "()V"⟩, 52) := ⟨⟨by decide +kernel, by decide +kernel⟩, List.mem_of_getElem? (i := 1097) (by decide +kernel), List.mem_of_getElem? (i := 1408) (by decide +kernel), List.mem_of_getElem? (i := 1409) (by decide +kernel)⟩
theorem lw_p74 : lw_okq (⟨"HeadTreesModel", "headOf", "(II)I"⟩, 52) := ⟨⟨by decide +kernel, by decide +kernel⟩, List.mem_of_getElem? (i := 1097) (by decide +kernel), List.mem_of_getElem? (i := 1412) (by decide +kernel), List.mem_of_getElem? (i := 1413) (by decide +kernel)⟩
theorem lw_p75 : lw_okq (⟨"HeadTreesModel", "goes", "(IIII)V"⟩, 52) := ⟨⟨by decide +kernel, by decide +kernel⟩, List.mem_of_getElem? (i := 1097) (by decide +kernel), List.mem_of_getElem? (i := 1416) (by decide +kernel), List.mem_of_getElem? (i := 1417) (by decide +kernel)⟩
theorem lw_p76 : lw_okq (⟨"HeadTreesModel", "good", "(I)I"⟩, 52) := ⟨⟨by decide +kernel, by decide +kernel⟩, List.mem_of_getElem? (i := 1097) (by decide +kernel), List.mem_of_getElem? (i := 1420) (by decide +kernel), List.mem_of_getElem? (i := 1421) (by decide +kernel)⟩
theorem lw_p77 : lw_okq (⟨"HeadTreesModel", "isNote", "(I)Z"⟩, 52) := ⟨⟨by decide +kernel, by decide +kernel⟩, List.mem_of_getElem? (i := 1097) (by decide +kernel), List.mem_of_getElem? (i := 1440) (by decide +kernel), List.mem_of_getElem? (i := 1441) (by decide +kernel)⟩
theorem lw_p78 : lw_okq (⟨"HeadTreesModel", "isSpan", "(II)Z"⟩, 52) := ⟨⟨by decide +kernel, by decide +kernel⟩, List.mem_of_getElem? (i := 1097) (by decide +kernel), List.mem_of_getElem? (i := 1455) (by decide +kernel), List.mem_of_getElem? (i := 1456) (by decide +kernel)⟩
theorem lw_p79 : lw_okq (⟨"HeadTreesModel", "joiningAt", "(I)I"⟩, 52) := ⟨⟨by decide +kernel, by decide +kernel⟩, List.mem_of_getElem? (i := 1097) (by decide +kernel), List.mem_of_getElem? (i := 1491) (by decide +kernel), List.mem_of_getElem? (i := 1492) (by decide +kernel)⟩
def lw_privs_5 : List (MethodName × Nat) := [(⟨"HeadTreesModel", "beginOf", "(I)I"⟩, 52), (⟨"HeadTreesModel", "lasts", "(I)I"⟩, 52), (⟨"HeadTreesModel", "stable", "(I)I"⟩, 52), (⟨"HeadTreesModel", "pitchOf", "(I)I"⟩, 52), (⟨"HeadTreesModel", "laysOne", "(III)V"⟩, 52), (⟨"HeadTreesModel", "tries", "(IIIIII)V"⟩, 52), (⟨"HeadTreesModel", "joinedBy", "(IIIII)I"⟩, 52), (⟨"HeadTreesModel", "brokenAll", "(IIII)I"⟩, 52), (⟨"HeadTreesModel", "brokenBy", "(IIIII)I"⟩, 52), (⟨"HeadTreesModel", "laysTree", "()V"⟩, 52), (⟨"HeadTreesModel", "headOf", "(II)I"⟩, 52), (⟨"HeadTreesModel", "goes", "(IIII)V"⟩, 52), (⟨"HeadTreesModel", "good", "(I)I"⟩, 52), (⟨"HeadTreesModel", "isNote", "(I)Z"⟩, 52), (⟨"HeadTreesModel", "isSpan", "(II)Z"⟩, 52), (⟨"HeadTreesModel", "joiningAt", "(I)I"⟩, 52)]
theorem lw_r5 : ∀ q ∈ lw_privs_5, lw_okq q := List.forall_mem_cons.mpr ⟨lw_p64, List.forall_mem_cons.mpr ⟨lw_p65, List.forall_mem_cons.mpr ⟨lw_p66, List.forall_mem_cons.mpr ⟨lw_p67, List.forall_mem_cons.mpr ⟨lw_p68, List.forall_mem_cons.mpr ⟨lw_p69, List.forall_mem_cons.mpr ⟨lw_p70, List.forall_mem_cons.mpr ⟨lw_p71, List.forall_mem_cons.mpr ⟨lw_p72, List.forall_mem_cons.mpr ⟨lw_p73, List.forall_mem_cons.mpr ⟨lw_p74, List.forall_mem_cons.mpr ⟨lw_p75, List.forall_mem_cons.mpr ⟨lw_p76, List.forall_mem_cons.mpr ⟨lw_p77, List.forall_mem_cons.mpr ⟨lw_p78, List.forall_mem_cons.mpr ⟨lw_p79, fun _ h => absurd h List.not_mem_nil⟩⟩⟩⟩⟩⟩⟩⟩⟩⟩⟩⟩⟩⟩⟩⟩
theorem lw_p80 : lw_okq (⟨"HeadTreesModel", "isJoining", "(I)Z"⟩, 52) := ⟨⟨by decide +kernel, by decide +kernel⟩, List.mem_of_getElem? (i := 1097) (by decide +kernel), List.mem_of_getElem? (i := 1495) (by decide +kernel), List.mem_of_getElem? (i := 1496) (by decide +kernel)⟩
theorem lw_p81 : lw_okq (⟨"HeadTreesModel", "splitAt", "(I)I"⟩, 52) := ⟨⟨by decide +kernel, by decide +kernel⟩, List.mem_of_getElem? (i := 1097) (by decide +kernel), List.mem_of_getElem? (i := 1503) (by decide +kernel), List.mem_of_getElem? (i := 1504) (by decide +kernel)⟩
theorem lw_p82 : lw_okq (⟨"HeadTreesModel", "underAt", "(I)I"⟩, 52) := ⟨⟨by decide +kernel, by decide +kernel⟩, List.mem_of_getElem? (i := 1097) (by decide +kernel), List.mem_of_getElem? (i := 1507) (by decide +kernel), List.mem_of_getElem? (i := 1508) (by decide +kernel)⟩
theorem lw_p83 : lw_okq (⟨"HeadTreesModel", "breaksAt", "(II)I"⟩, 52) := ⟨⟨by decide +kernel, by decide +kernel⟩, List.mem_of_getElem? (i := 1097) (by decide +kernel), List.mem_of_getElem? (i := 1511) (by decide +kernel), List.mem_of_getElem? (i := 1512) (by decide +kernel)⟩
theorem lw_p84 : lw_okq (⟨"HeadTreesModel", "deep", "()I"⟩, 52) := ⟨⟨by decide +kernel, by decide +kernel⟩, List.mem_of_getElem? (i := 1097) (by decide +kernel), List.mem_of_getElem? (i := 1523) (by decide +kernel), List.mem_of_getElem? (i := 1524) (by decide +kernel)⟩
theorem lw_p85 : lw_okq (⟨"HeadTreesModel", "isLevel", "(I)Z"⟩, 52) := ⟨⟨by decide +kernel, by decide +kernel⟩, List.mem_of_getElem? (i := 1097) (by decide +kernel), List.mem_of_getElem? (i := 1531) (by decide +kernel), List.mem_of_getElem? (i := 1532) (by decide +kernel)⟩
theorem lw_p86 : lw_okq (⟨"HeadTreesModel", "levelAt", "(II)I"⟩, 52) := ⟨⟨by decide +kernel, by decide +kernel⟩, List.mem_of_getElem? (i := 1097) (by decide +kernel), List.mem_of_getElem? (i := 1535) (by decide +kernel), List.mem_of_getElem? (i := 1536) (by decide +kernel)⟩
theorem lw_p87 : lw_okq (⟨"HeadTreesModel", "isAt", "(II)Z"⟩, 52) := ⟨⟨by decide +kernel, by decide +kernel⟩, List.mem_of_getElem? (i := 1097) (by decide +kernel), List.mem_of_getElem? (i := 1539) (by decide +kernel), List.mem_of_getElem? (i := 1540) (by decide +kernel)⟩
theorem lw_p88 : lw_okq (⟨"HeadTreesModel", "underOne", "(I)I"⟩, 52) := ⟨⟨by decide +kernel, by decide +kernel⟩, List.mem_of_getElem? (i := 1097) (by decide +kernel), List.mem_of_getElem? (i := 1559) (by decide +kernel), List.mem_of_getElem? (i := 1560) (by decide +kernel)⟩
theorem lw_p89 : lw_okq (⟨"HeadTreesModel", "partOf", "(I)I"⟩, 52) := ⟨⟨by decide +kernel, by decide +kernel⟩, List.mem_of_getElem? (i := 1097) (by decide +kernel), List.mem_of_getElem? (i := 1567) (by decide +kernel), List.mem_of_getElem? (i := 1568) (by decide +kernel)⟩
theorem lw_p90 : lw_okq (⟨"HeadTreesModel", "aboveOf", "(I)I"⟩, 52) := ⟨⟨by decide +kernel, by decide +kernel⟩, List.mem_of_getElem? (i := 1097) (by decide +kernel), List.mem_of_getElem? (i := 1571) (by decide +kernel), List.mem_of_getElem? (i := 1572) (by decide +kernel)⟩
theorem lw_p91 : lw_okq (⟨"HeadTreesModel", "levelPitch", "(II)I"⟩, 52) := ⟨⟨by decide +kernel, by decide +kernel⟩, List.mem_of_getElem? (i := 1097) (by decide +kernel), List.mem_of_getElem? (i := 1583) (by decide +kernel), List.mem_of_getElem? (i := 1584) (by decide +kernel)⟩
theorem lw_p92 : lw_okq (⟨"HeadTreesModel", "laysBy", "(II)V"⟩, 52) := ⟨⟨by decide +kernel, by decide +kernel⟩, List.mem_of_getElem? (i := 1097) (by decide +kernel), List.mem_of_getElem? (i := 1595) (by decide +kernel), List.mem_of_getElem? (i := 1596) (by decide +kernel)⟩
theorem lw_p93 : lw_okq (⟨"HeadTreesModel", "isAsItWas", "()Z"⟩, 52) := ⟨⟨by decide +kernel, by decide +kernel⟩, List.mem_of_getElem? (i := 1097) (by decide +kernel), List.mem_of_getElem? (i := 1599) (by decide +kernel), List.mem_of_getElem? (i := 1600) (by decide +kernel)⟩
theorem lw_p94 : lw_okq (⟨"HeadTreesModel", "areSpans", "(III)Z"⟩, 52) := ⟨⟨by decide +kernel, by decide +kernel⟩, List.mem_of_getElem? (i := 1097) (by decide +kernel), List.mem_of_getElem? (i := 1615) (by decide +kernel), List.mem_of_getElem? (i := 1616) (by decide +kernel)⟩
theorem lw_p95 : lw_okq (⟨"HeadTreesModel", "areTwins", "(III)Z"⟩, 52) := ⟨⟨by decide +kernel, by decide +kernel⟩, List.mem_of_getElem? (i := 1097) (by decide +kernel), List.mem_of_getElem? (i := 1619) (by decide +kernel), List.mem_of_getElem? (i := 1620) (by decide +kernel)⟩
def lw_privs_6 : List (MethodName × Nat) := [(⟨"HeadTreesModel", "isJoining", "(I)Z"⟩, 52), (⟨"HeadTreesModel", "splitAt", "(I)I"⟩, 52), (⟨"HeadTreesModel", "underAt", "(I)I"⟩, 52), (⟨"HeadTreesModel", "breaksAt", "(II)I"⟩, 52), (⟨"HeadTreesModel", "deep", "()I"⟩, 52), (⟨"HeadTreesModel", "isLevel", "(I)Z"⟩, 52), (⟨"HeadTreesModel", "levelAt", "(II)I"⟩, 52), (⟨"HeadTreesModel", "isAt", "(II)Z"⟩, 52), (⟨"HeadTreesModel", "underOne", "(I)I"⟩, 52), (⟨"HeadTreesModel", "partOf", "(I)I"⟩, 52), (⟨"HeadTreesModel", "aboveOf", "(I)I"⟩, 52), (⟨"HeadTreesModel", "levelPitch", "(II)I"⟩, 52), (⟨"HeadTreesModel", "laysBy", "(II)V"⟩, 52), (⟨"HeadTreesModel", "isAsItWas", "()Z"⟩, 52), (⟨"HeadTreesModel", "areSpans", "(III)Z"⟩, 52), (⟨"HeadTreesModel", "areTwins", "(III)Z"⟩, 52)]
theorem lw_r6 : ∀ q ∈ lw_privs_6, lw_okq q := List.forall_mem_cons.mpr ⟨lw_p80, List.forall_mem_cons.mpr ⟨lw_p81, List.forall_mem_cons.mpr ⟨lw_p82, List.forall_mem_cons.mpr ⟨lw_p83, List.forall_mem_cons.mpr ⟨lw_p84, List.forall_mem_cons.mpr ⟨lw_p85, List.forall_mem_cons.mpr ⟨lw_p86, List.forall_mem_cons.mpr ⟨lw_p87, List.forall_mem_cons.mpr ⟨lw_p88, List.forall_mem_cons.mpr ⟨lw_p89, List.forall_mem_cons.mpr ⟨lw_p90, List.forall_mem_cons.mpr ⟨lw_p91, List.forall_mem_cons.mpr ⟨lw_p92, List.forall_mem_cons.mpr ⟨lw_p93, List.forall_mem_cons.mpr ⟨lw_p94, List.forall_mem_cons.mpr ⟨lw_p95, fun _ h => absurd h List.not_mem_nil⟩⟩⟩⟩⟩⟩⟩⟩⟩⟩⟩⟩⟩⟩⟩⟩
theorem lw_p96 : lw_okq (⟨"HeadTreesModel", "areAlike", "(III)Z"⟩, 52) := ⟨⟨by decide +kernel, by decide +kernel⟩, List.mem_of_getElem? (i := 1097) (by decide +kernel), List.mem_of_getElem? (i := 1631) (by decide +kernel), List.mem_of_getElem? (i := 1632) (by decide +kernel)⟩
theorem lw_p97 : lw_okq (⟨"HeadTreesModel", "keptAt", "(II)I"⟩, 52) := ⟨⟨by decide +kernel, by decide +kernel⟩, List.mem_of_getElem? (i := 1097) (by decide +kernel), List.mem_of_getElem? (i := 1643) (by decide +kernel), List.mem_of_getElem? (i := 1644) (by decide +kernel)⟩
theorem lw_p98 : lw_okq (⟨"HeadTreesModel", "sets", "(II)I"⟩, 52) := ⟨⟨by decide +kernel, by decide +kernel⟩, List.mem_of_getElem? (i := 1097) (by decide +kernel), List.mem_of_getElem? (i := 1655) (by decide +kernel), List.mem_of_getElem? (i := 1656) (by decide +kernel)⟩
theorem lw_p99 : lw_okq (⟨"HeadTreesModel", "remembers", "()V"⟩, 52) := ⟨⟨by decide +kernel, by decide +kernel⟩, List.mem_of_getElem? (i := 1097) (by decide +kernel), List.mem_of_getElem? (i := 1659) (by decide +kernel), List.mem_of_getElem? (i := 1660) (by decide +kernel)⟩
def lw_privs_7 : List (MethodName × Nat) := [(⟨"HeadTreesModel", "areAlike", "(III)Z"⟩, 52), (⟨"HeadTreesModel", "keptAt", "(II)I"⟩, 52), (⟨"HeadTreesModel", "sets", "(II)I"⟩, 52), (⟨"HeadTreesModel", "remembers", "()V"⟩, 52)]
theorem lw_r7 : ∀ q ∈ lw_privs_7, lw_okq q := List.forall_mem_cons.mpr ⟨lw_p96, List.forall_mem_cons.mpr ⟨lw_p97, List.forall_mem_cons.mpr ⟨lw_p98, List.forall_mem_cons.mpr ⟨lw_p99, fun _ h => absurd h List.not_mem_nil⟩⟩⟩⟩
def lw_privs : List (MethodName × Nat) := lw_privs_1 ++ (lw_privs_2 ++ (lw_privs_3 ++ (lw_privs_4 ++ (lw_privs_5 ++ (lw_privs_6 ++ (lw_privs_7))))))
def lw_tbl : List Cond := k2_sels lw_privs ++ tables_1
theorem lw_privs_ok : ∀ q ∈ lw_privs, lw_okq q := by
  show ∀ q ∈ lw_privs_1 ++ (lw_privs_2 ++ (lw_privs_3 ++ (lw_privs_4 ++ (lw_privs_5 ++ (lw_privs_6 ++ (lw_privs_7)))))), lw_okq q
  exact List.forall_mem_append.mpr ⟨lw_r1, List.forall_mem_append.mpr ⟨lw_r2, List.forall_mem_append.mpr ⟨lw_r3, List.forall_mem_append.mpr ⟨lw_r4, List.forall_mem_append.mpr ⟨lw_r5, List.forall_mem_append.mpr ⟨lw_r6, lw_r7⟩⟩⟩⟩⟩⟩
-- ===== end of PART A; then your names; then what follows =====
end
section
def RX0 : String := "HeadTrees$Acts"
def TX0 : u_T := fun k => match k with
  | 0 => ("HeadTrees$Acts", "size", "I", false)
  | 1 => ("HeadTrees$Acts", "kinds", "[I", true)
  | 2 => ("HeadTrees$Acts", "places", "[I", true)
  | _ => ("HeadTrees$Acts", "olds", "[I", true)
def tyX0 : Nat → FieldType := fun k => match k with
  | 0 => .int
  | 1 => .array .int
  | 2 => .array .int
  | _ => .array .int
abbrev wsX00 : List Cond := u_ws RX0 TX0 4
theorem nmX0 : ∀ a, a < 4 → ∀ b, b < 4 → a ≠ b → (TX0 a).2.1 ≠ (TX0 b).2.1 := by decide +kernel
theorem tyX0_ok : ∀ k, k < 4 → parseFieldDescriptor (TX0 k).2.2.1 = some (tyX0 k) := by decide +kernel
abbrev cX0_init : ByteArray := prog_2_method_1_code
def yX0_init : MethodName := ⟨RX0, "<init>", "()V"⟩
abbrev cX0_add : ByteArray := prog_2_method_2_code
def yX0_add : MethodName := ⟨RX0, "add", "(III)V"⟩
abbrev cX0_forgetFirst : ByteArray := prog_2_method_3_code
def yX0_forgetFirst : MethodName := ⟨RX0, "forgetFirst", "()V"⟩
def RX1 : String := "HeadTrees$Chart"
def TX1 : u_T := fun k => match k with
  | 0 => ("HeadTrees$Chart", "count", "I", false)
  | 1 => ("HeadTrees$Chart", "even", "I", false)
  | 2 => ("HeadTrees$Chart", "cells", "[I", false)
  | _ => ("HeadTrees$Chart", "pairs", "[I", false)
def tyX1 : Nat → FieldType := fun k => match k with
  | 0 => .int
  | 1 => .int
  | 2 => .array .int
  | _ => .array .int
abbrev wsX10 : List Cond := u_ws RX1 TX1 4
theorem nmX1 : ∀ a, a < 4 → ∀ b, b < 4 → a ≠ b → (TX1 a).2.1 ≠ (TX1 b).2.1 := by decide +kernel
theorem tyX1_ok : ∀ k, k < 4 → parseFieldDescriptor (TX1 k).2.2.1 = some (tyX1 k) := by decide +kernel
abbrev cX1_init : ByteArray := prog_3_method_1_code
def yX1_init : MethodName := ⟨RX1, "<init>", "()V"⟩
abbrev cX1_row : ByteArray := prog_3_method_2_code
def yX1_row : MethodName := ⟨RX1, "row", "(II)I"⟩
abbrev cX1_cell : ByteArray := prog_3_method_3_code
def yX1_cell : MethodName := ⟨RX1, "cell", "(III)I"⟩
abbrev cX1_fill : ByteArray := prog_3_method_4_code
def yX1_fill : MethodName := ⟨RX1, "fill", "(LHeadTrees$Score;)V"⟩
abbrev cX1_fillSpan : ByteArray := prog_3_method_5_code
def yX1_fillSpan : MethodName := ⟨RX1, "fillSpan", "(II)V"⟩
abbrev cX1_leastInside : ByteArray := prog_3_method_6_code
def yX1_leastInside : MethodName := ⟨RX1, "leastInside", "(III)I"⟩
abbrev cX1_leastUnder : ByteArray := prog_3_method_7_code
def yX1_leastUnder : MethodName := ⟨RX1, "leastUnder", "(IIII)I"⟩
abbrev cX1_least : ByteArray := prog_3_method_8_code
def yX1_least : MethodName := ⟨RX1, "least", "(II)I"⟩
abbrev cX1_bestHead : ByteArray := prog_3_method_9_code
def yX1_bestHead : MethodName := ⟨RX1, "bestHead", "(II)I"⟩
abbrev cX1_nextHead : ByteArray := prog_3_method_10_code
def yX1_nextHead : MethodName := ⟨RX1, "nextHead", "(II)I"⟩
abbrev cX1_splitAt : ByteArray := prog_3_method_11_code
def yX1_splitAt : MethodName := ⟨RX1, "splitAt", "(IIII)I"⟩
abbrev cX1_leastSplitAt : ByteArray := prog_3_method_12_code
def yX1_leastSplitAt : MethodName := ⟨RX1, "leastSplitAt", "(III)I"⟩
abbrev cX1_bestSplit : ByteArray := prog_3_method_13_code
def yX1_bestSplit : MethodName := ⟨RX1, "bestSplit", "(III)I"⟩
abbrev cX1_underAt : ByteArray := prog_3_method_14_code
def yX1_underAt : MethodName := ⟨RX1, "underAt", "(IIII)I"⟩
abbrev cX1_bestUnder : ByteArray := prog_3_method_15_code
def yX1_bestUnder : MethodName := ⟨RX1, "bestUnder", "(III)I"⟩
def RX2 : String := "HeadTrees$Counts"
def TX2 : u_T := fun k => match k with
  | _ => ("HeadTrees$Counts", "cells", "[J", false)
def tyX2 : Nat → FieldType := fun k => match k with
  | _ => .array .long
abbrev wsX20 : List Cond := u_ws RX2 TX2 1
theorem nmX2 : ∀ a, a < 1 → ∀ b, b < 1 → a ≠ b → (TX2 a).2.1 ≠ (TX2 b).2.1 := by decide +kernel
theorem tyX2_ok : ∀ k, k < 1 → parseFieldDescriptor (TX2 k).2.2.1 = some (tyX2 k) := by decide +kernel
abbrev cX2_init : ByteArray := prog_4_method_1_code
def yX2_init : MethodName := ⟨RX2, "<init>", "()V"⟩
abbrev cX2_fill : ByteArray := prog_4_method_2_code
def yX2_fill : MethodName := ⟨RX2, "fill", "(LHeadTrees$Chart;)V"⟩
abbrev cX2_fillSpan : ByteArray := prog_4_method_3_code
def yX2_fillSpan : MethodName := ⟨RX2, "fillSpan", "(LHeadTrees$Chart;II)V"⟩
abbrev cX2_countInside : ByteArray := prog_4_method_4_code
def yX2_countInside : MethodName := ⟨RX2, "countInside", "(LHeadTrees$Chart;III)J"⟩
abbrev cX2_countUnder : ByteArray := prog_4_method_5_code
def yX2_countUnder : MethodName := ⟨RX2, "countUnder", "(LHeadTrees$Chart;III)J"⟩
abbrev cX2_ofBest : ByteArray := prog_4_method_6_code
def yX2_ofBest : MethodName := ⟨RX2, "ofBest", "(LHeadTrees$Chart;II)J"⟩
def RX3 : String := "HeadTrees$Layer"
def TX3 : u_T := fun k => match k with
  | 0 => ("HeadTrees$Layer", "size", "I", false)
  | 1 => ("HeadTrees$Layer", "notes", "[I", true)
  | 2 => ("HeadTrees$Layer", "firsts", "[I", true)
  | _ => ("HeadTrees$Layer", "lasts", "[I", true)
def tyX3 : Nat → FieldType := fun k => match k with
  | 0 => .int
  | 1 => .array .int
  | 2 => .array .int
  | _ => .array .int
abbrev wsX30 : List Cond := u_ws RX3 TX3 4
theorem nmX3 : ∀ a, a < 4 → ∀ b, b < 4 → a ≠ b → (TX3 a).2.1 ≠ (TX3 b).2.1 := by decide +kernel
theorem tyX3_ok : ∀ k, k < 4 → parseFieldDescriptor (TX3 k).2.2.1 = some (tyX3 k) := by decide +kernel
abbrev cX3_init : ByteArray := prog_5_method_1_code
def yX3_init : MethodName := ⟨RX3, "<init>", "()V"⟩
abbrev cX3_cut : ByteArray := prog_5_method_2_code
def yX3_cut : MethodName := ⟨RX3, "cut", "(LHeadTrees$Tree;II)V"⟩
abbrev cX3_stepFrom : ByteArray := prog_5_method_3_code
def yX3_stepFrom : MethodName := ⟨RX3, "stepFrom", "(LHeadTrees$Score;I)I"⟩
abbrev cX3_stepsAsIn : ByteArray := prog_5_method_4_code
def yX3_stepsAsIn : MethodName := ⟨RX3, "stepsAsIn", "(LHeadTrees$Score;LHeadTrees$Layer;I)Z"⟩
def RX4 : String := "HeadTrees$Reader"
def TX4 : u_T := fun k => match k with
  | 0 => ("HeadTrees$Reader", "taped", "I", false)
  | 1 => ("HeadTrees$Reader", "tape", "[B", true)
  | 2 => ("HeadTrees$Reader", "length", "I", false)
  | 3 => ("HeadTrees$Reader", "draft", "LHeadTrees$Score;", false)
  | 4 => ("HeadTrees$Reader", "toldPiece", "Z", false)
  | 5 => ("HeadTrees$Reader", "toldRules", "[Z", true)
  | 6 => ("HeadTrees$Reader", "kind", "I", false)
  | 7 => ("HeadTrees$Reader", "at", "I", false)
  | 8 => ("HeadTrees$Reader", "behind", "I", false)
  | 9 => ("HeadTrees$Reader", "number", "I", false)
  | _ => ("HeadTrees$Reader", "fault", "I", false)
def tyX4 : Nat → FieldType := fun k => match k with
  | 0 => .int
  | 1 => .array .byte
  | 2 => .int
  | 3 => .object "HeadTrees$Score"
  | 4 => .boolean
  | 5 => .array .boolean
  | 6 => .int
  | 7 => .int
  | 8 => .int
  | 9 => .int
  | _ => .int
abbrev wsX40 : List Cond := u_ws RX4 TX4 11
theorem nmX4 : ∀ a, a < 11 → ∀ b, b < 11 → a ≠ b → (TX4 a).2.1 ≠ (TX4 b).2.1 := by decide +kernel
theorem tyX4_ok : ∀ k, k < 11 → parseFieldDescriptor (TX4 k).2.2.1 = some (tyX4 k) := by decide +kernel
abbrev cX4_init : ByteArray := prog_6_method_1_code
def yX4_init : MethodName := ⟨RX4, "<init>", "()V"⟩
abbrev cX4_take : ByteArray := prog_6_method_2_code
def yX4_take : MethodName := ⟨RX4, "take", "(I)V"⟩
abbrev cX4_swap : ByteArray := prog_6_method_3_code
def yX4_swap : MethodName := ⟨RX4, "swap", "(LHeadTrees$Score;)LHeadTrees$Score;"⟩
abbrev cX4_read : ByteArray := prog_6_method_4_code
def yX4_read : MethodName := ⟨RX4, "read", "(I)V"⟩
abbrev cX4_readLines : ByteArray := prog_6_method_5_code
def yX4_readLines : MethodName := ⟨RX4, "readLines", "()I"⟩
abbrev cX4_readLine : ByteArray := prog_6_method_6_code
def yX4_readLine : MethodName := ⟨RX4, "readLine", "()I"⟩
abbrev cX4_readPiece : ByteArray := prog_6_method_7_code
def yX4_readPiece : MethodName := ⟨RX4, "readPiece", "()I"⟩
abbrev cX4_readNote : ByteArray := prog_6_method_8_code
def yX4_readNote : MethodName := ⟨RX4, "readNote", "()I"⟩
abbrev cX4_readRule : ByteArray := prog_6_method_9_code
def yX4_readRule : MethodName := ⟨RX4, "readRule", "()I"⟩
abbrev cX4_readNamed : ByteArray := prog_6_method_10_code
def yX4_readNamed : MethodName := ⟨RX4, "readNamed", "(Ljava/lang/String;II)I"⟩
abbrev cX4_checkWhole : ByteArray := prog_6_method_11_code
def yX4_checkWhole : MethodName := ⟨RX4, "checkWhole", "(II)I"⟩
abbrev cX4_ruleSaid : ByteArray := prog_6_method_12_code
def yX4_ruleSaid : MethodName := ⟨RX4, "ruleSaid", "()I"⟩
abbrev cX4_says : ByteArray := prog_6_method_13_code
def yX4_says : MethodName := ⟨RX4, "says", "(Ljava/lang/String;)Z"⟩
abbrev cX4_advance : ByteArray := prog_6_method_14_code
def yX4_advance : MethodName := ⟨RX4, "advance", "()V"⟩
abbrev cX4_takeWord : ByteArray := prog_6_method_15_code
def yX4_takeWord : MethodName := ⟨RX4, "takeWord", "()V"⟩
abbrev cX4_takeWhole : ByteArray := prog_6_method_16_code
def yX4_takeWhole : MethodName := ⟨RX4, "takeWhole", "()V"⟩
abbrev cX4_isLetter : ByteArray := prog_6_method_17_code
def yX4_isLetter : MethodName := ⟨RX4, "isLetter", "(I)Z"⟩
abbrev cX4_isDigit : ByteArray := prog_6_method_18_code
def yX4_isDigit : MethodName := ⟨RX4, "isDigit", "(I)Z"⟩
def RX5 : String := "HeadTrees$Score"
def TX5 : u_T := fun k => match k with
  | 0 => ("HeadTrees$Score", "bar", "I", false)
  | 1 => ("HeadTrees$Score", "beat", "I", false)
  | 2 => ("HeadTrees$Score", "key", "I", false)
  | 3 => ("HeadTrees$Score", "count", "I", false)
  | 4 => ("HeadTrees$Score", "pitches", "[I", true)
  | 5 => ("HeadTrees$Score", "lengths", "[I", true)
  | 6 => ("HeadTrees$Score", "weights", "[I", true)
  | 7 => ("HeadTrees$Score", "begins", "[I", true)
  | 8 => ("HeadTrees$Score", "strengths", "[I", true)
  | _ => ("HeadTrees$Score", "stables", "[I", true)
def tyX5 : Nat → FieldType := fun k => match k with
  | 0 => .int
  | 1 => .int
  | 2 => .int
  | 3 => .int
  | 4 => .array .int
  | 5 => .array .int
  | 6 => .array .int
  | 7 => .array .int
  | 8 => .array .int
  | _ => .array .int
abbrev wsX50 : List Cond := u_ws RX5 TX5 10
theorem nmX5 : ∀ a, a < 10 → ∀ b, b < 10 → a ≠ b → (TX5 a).2.1 ≠ (TX5 b).2.1 := by decide +kernel
theorem tyX5_ok : ∀ k, k < 10 → parseFieldDescriptor (TX5 k).2.2.1 = some (tyX5 k) := by decide +kernel
abbrev cX5_init : ByteArray := prog_7_method_1_code
def yX5_init : MethodName := ⟨RX5, "<init>", "()V"⟩
abbrev cX5_empty : ByteArray := prog_7_method_2_code
def yX5_empty : MethodName := ⟨RX5, "empty", "()V"⟩
abbrev cX5_addNote : ByteArray := prog_7_method_3_code
def yX5_addNote : MethodName := ⟨RX5, "addNote", "(II)V"⟩
abbrev cX5_derive : ByteArray := prog_7_method_4_code
def yX5_derive : MethodName := ⟨RX5, "derive", "()V"⟩
abbrev cX5_strengthAt : ByteArray := prog_7_method_5_code
def yX5_strengthAt : MethodName := ⟨RX5, "strengthAt", "(I)I"⟩
abbrev cX5_isMultiple : ByteArray := prog_7_method_6_code
def yX5_isMultiple : MethodName := ⟨RX5, "isMultiple", "(II)Z"⟩
abbrev cX5_stableOf : ByteArray := prog_7_method_7_code
def yX5_stableOf : MethodName := ⟨RX5, "stableOf", "(I)I"⟩
abbrev cX5_lasting : ByteArray := prog_7_method_8_code
def yX5_lasting : MethodName := ⟨RX5, "lasting", "(II)I"⟩
abbrev cX5_weighted : ByteArray := prog_7_method_9_code
def yX5_weighted : MethodName := ⟨RX5, "weighted", "()I"⟩
abbrev cX5_units : ByteArray := prog_7_method_10_code
def yX5_units : MethodName := ⟨RX5, "units", "(IIIII)I"⟩
abbrev cX5_excess : ByteArray := prog_7_method_11_code
def yX5_excess : MethodName := ⟨RX5, "excess", "(II)I"⟩
abbrev cX5_breaking : ByteArray := prog_7_method_12_code
def yX5_breaking : MethodName := ⟨RX5, "breaking", "(IIII)I"⟩
abbrev cX5_areTwins : ByteArray := prog_7_method_13_code
def yX5_areTwins : MethodName := ⟨RX5, "areTwins", "(III)Z"⟩
abbrev cX5_nextTwin : ByteArray := prog_7_method_14_code
def yX5_nextTwin : MethodName := ⟨RX5, "nextTwin", "(II)I"⟩
abbrev cX5_canMove : ByteArray := prog_7_method_15_code
def yX5_canMove : MethodName := ⟨RX5, "canMove", "(I)Z"⟩
abbrev cX5_moveAll : ByteArray := prog_7_method_16_code
def yX5_moveAll : MethodName := ⟨RX5, "moveAll", "(I)V"⟩
def RX6 : String := "HeadTrees$Sway"
def TX6 : u_T := fun k => match k with
  | 0 => ("HeadTrees$Sway", "chart", "LHeadTrees$Chart;", true)
  | 1 => ("HeadTrees$Sway", "tree", "LHeadTrees$Tree;", true)
  | 2 => ("HeadTrees$Sway", "known", "[Z", false)
  | 3 => ("HeadTrees$Sway", "heads", "[I", false)
  | 4 => ("HeadTrees$Sway", "breaking", "[I", false)
  | 5 => ("HeadTrees$Sway", "slopes", "[I", false)
  | _ => ("HeadTrees$Sway", "ends", "[I", true)
def tyX6 : Nat → FieldType := fun k => match k with
  | 0 => .object "HeadTrees$Chart"
  | 1 => .object "HeadTrees$Tree"
  | 2 => .array .boolean
  | 3 => .array .int
  | 4 => .array .int
  | 5 => .array .int
  | _ => .array .int
abbrev wsX60 : List Cond := u_ws RX6 TX6 7
theorem nmX6 : ∀ a, a < 7 → ∀ b, b < 7 → a ≠ b → (TX6 a).2.1 ≠ (TX6 b).2.1 := by decide +kernel
theorem tyX6_ok : ∀ k, k < 7 → parseFieldDescriptor (TX6 k).2.2.1 = some (tyX6 k) := by decide +kernel
abbrev cX6_init : ByteArray := prog_8_method_1_code
def yX6_init : MethodName := ⟨RX6, "<init>", "()V"⟩
abbrev cX6_forget : ByteArray := prog_8_method_2_code
def yX6_forget : MethodName := ⟨RX6, "forget", "()V"⟩
abbrev cX6_breaksWith : ByteArray := prog_8_method_3_code
def yX6_breaksWith : MethodName := ⟨RX6, "breaksWith", "(LHeadTrees$Score;II)I"⟩
abbrev cX6_firmUpTo : ByteArray := prog_8_method_4_code
def yX6_firmUpTo : MethodName := ⟨RX6, "firmUpTo", "(LHeadTrees$Score;I)I"⟩
abbrev cX6_firmDownTo : ByteArray := prog_8_method_5_code
def yX6_firmDownTo : MethodName := ⟨RX6, "firmDownTo", "(LHeadTrees$Score;I)I"⟩
abbrev cX6_leastWeightFor : ByteArray := prog_8_method_6_code
def yX6_leastWeightFor : MethodName := ⟨RX6, "leastWeightFor", "(II)I"⟩
abbrev cX6_isOneLine : ByteArray := prog_8_method_7_code
def yX6_isOneLine : MethodName := ⟨RX6, "isOneLine", "(III)Z"⟩
abbrev cX6_learn : ByteArray := prog_8_method_8_code
def yX6_learn : MethodName := ⟨RX6, "learn", "(LHeadTrees$Score;II)V"⟩
abbrev cX6_learnAll : ByteArray := prog_8_method_9_code
def yX6_learnAll : MethodName := ⟨RX6, "learnAll", "(LHeadTrees$Score;I)V"⟩
abbrev cX6_copyBetween : ByteArray := prog_8_method_10_code
def yX6_copyBetween : MethodName := ⟨RX6, "copyBetween", "(III)V"⟩
def RX7 : String := "HeadTrees$Tree"
def TX7 : u_T := fun k => match k with
  | 0 => ("HeadTrees$Tree", "first", "I", false)
  | 1 => ("HeadTrees$Tree", "last", "I", false)
  | 2 => ("HeadTrees$Tree", "joined", "I", false)
  | 3 => ("HeadTrees$Tree", "firsts", "[I", true)
  | 4 => ("HeadTrees$Tree", "lasts", "[I", true)
  | 5 => ("HeadTrees$Tree", "splits", "[I", true)
  | 6 => ("HeadTrees$Tree", "heads", "[I", true)
  | 7 => ("HeadTrees$Tree", "unders", "[I", true)
  | 8 => ("HeadTrees$Tree", "depths", "[I", true)
  | _ => ("HeadTrees$Tree", "uppers", "[I", true)
def tyX7 : Nat → FieldType := fun k => match k with
  | 0 => .int
  | 1 => .int
  | 2 => .int
  | 3 => .array .int
  | 4 => .array .int
  | 5 => .array .int
  | 6 => .array .int
  | 7 => .array .int
  | 8 => .array .int
  | _ => .array .int
abbrev wsX70 : List Cond := u_ws RX7 TX7 10
theorem nmX7 : ∀ a, a < 10 → ∀ b, b < 10 → a ≠ b → (TX7 a).2.1 ≠ (TX7 b).2.1 := by decide +kernel
theorem tyX7_ok : ∀ k, k < 10 → parseFieldDescriptor (TX7 k).2.2.1 = some (tyX7 k) := by decide +kernel
abbrev cX7_init : ByteArray := prog_9_method_1_code
def yX7_init : MethodName := ⟨RX7, "<init>", "()V"⟩
abbrev cX7_build : ByteArray := prog_9_method_2_code
def yX7_build : MethodName := ⟨RX7, "build", "(LHeadTrees$Chart;II)V"⟩
abbrev cX7_open : ByteArray := prog_9_method_3_code
def yX7_open : MethodName := ⟨RX7, "open", "(IIIII)V"⟩
abbrev cX7_divide : ByteArray := prog_9_method_4_code
def yX7_divide : MethodName := ⟨RX7, "divide", "(LHeadTrees$Chart;I)V"⟩
abbrev cX7_unitsAt : ByteArray := prog_9_method_5_code
def yX7_unitsAt : MethodName := ⟨RX7, "unitsAt", "(LHeadTrees$Score;II)I"⟩
abbrev cX7_unitsOf : ByteArray := prog_9_method_6_code
def yX7_unitsOf : MethodName := ⟨RX7, "unitsOf", "(LHeadTrees$Score;I)I"⟩
abbrev cX7_breaksAt : ByteArray := prog_9_method_7_code
def yX7_breaksAt : MethodName := ⟨RX7, "breaksAt", "(LHeadTrees$Score;I)I"⟩
abbrev cX7_breaksOfAll : ByteArray := prog_9_method_8_code
def yX7_breaksOfAll : MethodName := ⟨RX7, "breaksOfAll", "(LHeadTrees$Score;)I"⟩
abbrev cX7_leftNotes : ByteArray := prog_9_method_9_code
def yX7_leftNotes : MethodName := ⟨RX7, "leftNotes", "(I)I"⟩
abbrev cX7_rightNotes : ByteArray := prog_9_method_10_code
def yX7_rightNotes : MethodName := ⟨RX7, "rightNotes", "(I)I"⟩
abbrev cX7_greatestDepth : ByteArray := prog_9_method_11_code
def yX7_greatestDepth : MethodName := ⟨RX7, "greatestDepth", "()I"⟩
abbrev cX7_rank : ByteArray := prog_9_method_12_code
def yX7_rank : MethodName := ⟨RX7, "rank", "(I)I"⟩
abbrev cX7_noteOver : ByteArray := prog_9_method_13_code
def yX7_noteOver : MethodName := ⟨RX7, "noteOver", "(I)I"⟩
abbrev cX7_partFirst : ByteArray := prog_9_method_14_code
def yX7_partFirst : MethodName := ⟨RX7, "partFirst", "(I)I"⟩
abbrev cX7_partLast : ByteArray := prog_9_method_15_code
def yX7_partLast : MethodName := ⟨RX7, "partLast", "(I)I"⟩
abbrev cX7_notesUnder : ByteArray := prog_9_method_16_code
def yX7_notesUnder : MethodName := ⟨RX7, "notesUnder", "(I)I"⟩
abbrev cX7_headOverBoth : ByteArray := prog_9_method_17_code
def yX7_headOverBoth : MethodName := ⟨RX7, "headOverBoth", "(II)I"⟩
abbrev cX7_isLike : ByteArray := prog_9_method_18_code
def yX7_isLike : MethodName := ⟨RX7, "isLike", "(LHeadTrees$Tree;I)Z"⟩
abbrev cX7_joiningOf : ByteArray := prog_9_method_19_code
def yX7_joiningOf : MethodName := ⟨RX7, "joiningOf", "(II)I"⟩
abbrev cX7_spansNotIn : ByteArray := prog_9_method_20_code
def yX7_spansNotIn : MethodName := ⟨RX7, "spansNotIn", "(LHeadTrees$Tree;)I"⟩
abbrev cX7_headsUnlike : ByteArray := prog_9_method_21_code
def yX7_headsUnlike : MethodName := ⟨RX7, "headsUnlike", "(LHeadTrees$Tree;)I"⟩
abbrev cX7_ranksUnlike : ByteArray := prog_9_method_22_code
def yX7_ranksUnlike : MethodName := ⟨RX7, "ranksUnlike", "(LHeadTrees$Tree;I)I"⟩
def RX8 : String := "HeadTrees"
def TX8 : u_T := fun k => match k with
  | 0 => ("HeadTrees", "latestTrouble", "I", false)
  | 1 => ("HeadTrees", "reader", "LHeadTrees$Reader;", true)
  | 2 => ("HeadTrees", "score", "LHeadTrees$Score;", false)
  | 3 => ("HeadTrees", "acts", "LHeadTrees$Acts;", true)
  | 4 => ("HeadTrees", "spans", "LHeadTrees$Chart;", true)
  | 5 => ("HeadTrees", "spansFresh", "Z", false)
  | 6 => ("HeadTrees", "counts", "LHeadTrees$Counts;", true)
  | 7 => ("HeadTrees", "countsFresh", "Z", false)
  | 8 => ("HeadTrees", "whole", "LHeadTrees$Tree;", true)
  | 9 => ("HeadTrees", "wholeFresh", "Z", false)
  | 10 => ("HeadTrees", "sway", "LHeadTrees$Sway;", true)
  | 11 => ("HeadTrees", "kept", "LHeadTrees$Tree;", true)
  | 12 => ("HeadTrees", "hasKept", "Z", false)
  | 13 => ("HeadTrees", "oneTree", "LHeadTrees$Tree;", true)
  | 14 => ("HeadTrees", "otherTree", "LHeadTrees$Tree;", true)
  | 15 => ("HeadTrees", "layer", "LHeadTrees$Layer;", true)
  | _ => ("HeadTrees", "within", "LHeadTrees$Layer;", true)
def tyX8 : Nat → FieldType := fun k => match k with
  | 0 => .int
  | 1 => .object "HeadTrees$Reader"
  | 2 => .object "HeadTrees$Score"
  | 3 => .object "HeadTrees$Acts"
  | 4 => .object "HeadTrees$Chart"
  | 5 => .boolean
  | 6 => .object "HeadTrees$Counts"
  | 7 => .boolean
  | 8 => .object "HeadTrees$Tree"
  | 9 => .boolean
  | 10 => .object "HeadTrees$Sway"
  | 11 => .object "HeadTrees$Tree"
  | 12 => .boolean
  | 13 => .object "HeadTrees$Tree"
  | 14 => .object "HeadTrees$Tree"
  | 15 => .object "HeadTrees$Layer"
  | _ => .object "HeadTrees$Layer"
abbrev wsX80 : List Cond := u_ws RX8 TX8 17
theorem nmX8 : ∀ a, a < 17 → ∀ b, b < 17 → a ≠ b → (TX8 a).2.1 ≠ (TX8 b).2.1 := by decide +kernel
theorem tyX8_ok : ∀ k, k < 17 → parseFieldDescriptor (TX8 k).2.2.1 = some (tyX8 k) := by decide +kernel
abbrev cX8_init : ByteArray := prog_1_method_1_code
def yX8_init : MethodName := ⟨RX8, "<init>", "()V"⟩
abbrev cX8_feed : ByteArray := prog_1_method_2_code
def yX8_feed : MethodName := ⟨RX8, "feed", "(IIIII)I"⟩
abbrev cX8_piece : ByteArray := prog_1_method_3_code
def yX8_piece : MethodName := ⟨RX8, "piece", "(I)I"⟩
abbrev cX8_fault : ByteArray := prog_1_method_4_code
def yX8_fault : MethodName := ⟨RX8, "fault", "()I"⟩
abbrev cX8_where : ByteArray := prog_1_method_5_code
def yX8_where : MethodName := ⟨RX8, "where", "()I"⟩
abbrev cX8_about : ByteArray := prog_1_method_6_code
def yX8_about : MethodName := ⟨RX8, "about", "(I)I"⟩
abbrev cX8_note : ByteArray := prog_1_method_7_code
def yX8_note : MethodName := ⟨RX8, "note", "(II)I"⟩
abbrev cX8_weight : ByteArray := prog_1_method_8_code
def yX8_weight : MethodName := ⟨RX8, "weight", "(I)I"⟩
abbrev cX8_breaks : ByteArray := prog_1_method_9_code
def yX8_breaks : MethodName := ⟨RX8, "breaks", "(II)I"⟩
abbrev cX8_head : ByteArray := prog_1_method_10_code
def yX8_head : MethodName := ⟨RX8, "head", "(II)I"⟩
abbrev cX8_split : ByteArray := prog_1_method_11_code
def yX8_split : MethodName := ⟨RX8, "split", "(II)I"⟩
abbrev cX8_breaksBy : ByteArray := prog_1_method_12_code
def yX8_breaksBy : MethodName := ⟨RX8, "breaksBy", "(III)I"⟩
abbrev cX8_ways : ByteArray := prog_1_method_13_code
def yX8_ways : MethodName := ⟨RX8, "ways", "(II)J"⟩
abbrev cX8_splitCost : ByteArray := prog_1_method_14_code
def yX8_splitCost : MethodName := ⟨RX8, "splitCost", "(III)I"⟩
abbrev cX8_second : ByteArray := prog_1_method_15_code
def yX8_second : MethodName := ⟨RX8, "second", "(II)I"⟩
abbrev cX8_broken : ByteArray := prog_1_method_16_code
def yX8_broken : MethodName := ⟨RX8, "broken", "(IIIII)I"⟩
abbrev cX8_joinings : ByteArray := prog_1_method_17_code
def yX8_joinings : MethodName := ⟨RX8, "joinings", "()I"⟩
abbrev cX8_joining : ByteArray := prog_1_method_18_code
def yX8_joining : MethodName := ⟨RX8, "joining", "(II)I"⟩
abbrev cX8_breaksOf : ByteArray := prog_1_method_19_code
def yX8_breaksOf : MethodName := ⟨RX8, "breaksOf", "(I)I"⟩
abbrev cX8_deepest : ByteArray := prog_1_method_20_code
def yX8_deepest : MethodName := ⟨RX8, "deepest", "()I"⟩
abbrev cX8_level : ByteArray := prog_1_method_21_code
def yX8_level : MethodName := ⟨RX8, "level", "(I)I"⟩
abbrev cX8_levelNote : ByteArray := prog_1_method_22_code
def yX8_levelNote : MethodName := ⟨RX8, "levelNote", "(III)I"⟩
abbrev cX8_path : ByteArray := prog_1_method_23_code
def yX8_path : MethodName := ⟨RX8, "path", "(I)I"⟩
abbrev cX8_reach : ByteArray := prog_1_method_24_code
def yX8_reach : MethodName := ⟨RX8, "reach", "(II)I"⟩
abbrev cX8_climax : ByteArray := prog_1_method_25_code
def yX8_climax : MethodName := ⟨RX8, "climax", "(I)I"⟩
abbrev cX8_widest : ByteArray := prog_1_method_26_code
def yX8_widest : MethodName := ⟨RX8, "widest", "(I)I"⟩
abbrev cX8_echo : ByteArray := prog_1_method_27_code
def yX8_echo : MethodName := ⟨RX8, "echo", "(II)I"⟩
abbrev cX8_over : ByteArray := prog_1_method_28_code
def yX8_over : MethodName := ⟨RX8, "over", "(II)I"⟩
abbrev cX8_under : ByteArray := prog_1_method_29_code
def yX8_under : MethodName := ⟨RX8, "under", "(I)I"⟩
abbrev cX8_firm : ByteArray := prog_1_method_30_code
def yX8_firm : MethodName := ⟨RX8, "firm", "(IZ)I"⟩
abbrev cX8_sways : ByteArray := prog_1_method_31_code
def yX8_sways : MethodName := ⟨RX8, "sways", "(II)I"⟩
abbrev cX8_swayed : ByteArray := prog_1_method_32_code
def yX8_swayed : MethodName := ⟨RX8, "swayed", "(II)I"⟩
abbrev cX8_twins : ByteArray := prog_1_method_33_code
def yX8_twins : MethodName := ⟨RX8, "twins", "(III)I"⟩
abbrev cX8_twin : ByteArray := prog_1_method_34_code
def yX8_twin : MethodName := ⟨RX8, "twin", "(I)I"⟩
abbrev cX8_alike : ByteArray := prog_1_method_35_code
def yX8_alike : MethodName := ⟨RX8, "alike", "(III)I"⟩
abbrev cX8_keep : ByteArray := prog_1_method_36_code
def yX8_keep : MethodName := ⟨RX8, "keep", "()I"⟩
abbrev cX8_unlike : ByteArray := prog_1_method_37_code
def yX8_unlike : MethodName := ⟨RX8, "unlike", "(I)I"⟩
abbrev cX8_keptBreaks : ByteArray := prog_1_method_38_code
def yX8_keptBreaks : MethodName := ⟨RX8, "keptBreaks", "()I"⟩
abbrev cX8_pitch : ByteArray := prog_1_method_39_code
def yX8_pitch : MethodName := ⟨RX8, "pitch", "(II)I"⟩
abbrev cX8_last : ByteArray := prog_1_method_40_code
def yX8_last : MethodName := ⟨RX8, "last", "(II)I"⟩
abbrev cX8_weigh : ByteArray := prog_1_method_41_code
def yX8_weigh : MethodName := ⟨RX8, "weigh", "(II)I"⟩
abbrev cX8_key : ByteArray := prog_1_method_42_code
def yX8_key : MethodName := ⟨RX8, "key", "(I)I"⟩
abbrev cX8_move : ByteArray := prog_1_method_43_code
def yX8_move : MethodName := ⟨RX8, "move", "(I)I"⟩
abbrev cX8_undo : ByteArray := prog_1_method_44_code
def yX8_undo : MethodName := ⟨RX8, "undo", "()Z"⟩
abbrev cX8_bare : ByteArray := prog_1_method_45_code
def yX8_bare : MethodName := ⟨RX8, "bare", "(I)I"⟩
abbrev cX8_size : ByteArray := prog_1_method_46_code
def yX8_size : MethodName := ⟨RX8, "size", "(I)I"⟩
abbrev cX8_trouble : ByteArray := prog_1_method_47_code
def yX8_trouble : MethodName := ⟨RX8, "trouble", "()I"⟩
abbrev cX8_refuse : ByteArray := prog_1_method_48_code
def yX8_refuse : MethodName := ⟨RX8, "refuse", "(I)I"⟩
abbrev cX8_grant : ByteArray := prog_1_method_49_code
def yX8_grant : MethodName := ⟨RX8, "grant", "(I)I"⟩
abbrev cX8_hasPiece : ByteArray := prog_1_method_50_code
def yX8_hasPiece : MethodName := ⟨RX8, "hasPiece", "()Z"⟩
abbrev cX8_hasNote : ByteArray := prog_1_method_51_code
def yX8_hasNote : MethodName := ⟨RX8, "hasNote", "(I)Z"⟩
abbrev cX8_hasSpan : ByteArray := prog_1_method_52_code
def yX8_hasSpan : MethodName := ⟨RX8, "hasSpan", "(II)Z"⟩
abbrev cX8_hasNotesFrom : ByteArray := prog_1_method_53_code
def yX8_hasNotesFrom : MethodName := ⟨RX8, "hasNotesFrom", "(II)Z"⟩
abbrev cX8_hasRule : ByteArray := prog_1_method_54_code
def yX8_hasRule : MethodName := ⟨RX8, "hasRule", "(I)Z"⟩
abbrev cX8_renew : ByteArray := prog_1_method_55_code
def yX8_renew : MethodName := ⟨RX8, "renew", "()V"⟩
abbrev cX8_freshSpans : ByteArray := prog_1_method_56_code
def yX8_freshSpans : MethodName := ⟨RX8, "freshSpans", "()LHeadTrees$Chart;"⟩
abbrev cX8_freshTree : ByteArray := prog_1_method_57_code
def yX8_freshTree : MethodName := ⟨RX8, "freshTree", "()LHeadTrees$Tree;"⟩
abbrev cX8_wholeBreaks : ByteArray := prog_1_method_58_code
def yX8_wholeBreaks : MethodName := ⟨RX8, "wholeBreaks", "()I"⟩
abbrev cX8_cutLayer : ByteArray := prog_1_method_59_code
def yX8_cutLayer : MethodName := ⟨RX8, "cutLayer", "(LHeadTrees$Layer;I)I"⟩
abbrev cX8_act : ByteArray := prog_1_method_60_code
def yX8_act : MethodName := ⟨RX8, "act", "(IIII)I"⟩
abbrev cX8_change : ByteArray := prog_1_method_61_code
def yX8_change : MethodName := ⟨RX8, "change", "(III)V"⟩
def RX9 : String := "HeadTreesModel"
def TX9 : u_T := fun k => match k with
  | 0 => ("HeadTreesModel", "thrown", "I", false)
  | 1 => ("HeadTreesModel", "trouble", "I", false)
  | 2 => ("HeadTreesModel", "wrongAt", "I", false)
  | 3 => ("HeadTreesModel", "x", "[I", true)
  | 4 => ("HeadTreesModel", "read", "[I", true)
  | 5 => ("HeadTreesModel", "past", "[I", true)
  | 6 => ("HeadTreesModel", "bar", "I", false)
  | 7 => ("HeadTreesModel", "beat", "I", false)
  | 8 => ("HeadTreesModel", "notes", "I", false)
  | 9 => ("HeadTreesModel", "acts", "I", false)
  | 10 => ("HeadTreesModel", "readBar", "I", false)
  | 11 => ("HeadTreesModel", "readBeat", "I", false)
  | 12 => ("HeadTreesModel", "readNotes", "I", false)
  | 13 => ("HeadTreesModel", "readRules", "I", false)
  | 14 => ("HeadTreesModel", "isThere", "Z", false)
  | 15 => ("HeadTreesModel", "isKept", "Z", false)
  | 16 => ("HeadTreesModel", "tape", "[B", true)
  | 17 => ("HeadTreesModel", "taped", "I", false)
  | 18 => ("HeadTreesModel", "size", "I", false)
  | 19 => ("HeadTreesModel", "spot", "I", false)
  | 20 => ("HeadTreesModel", "token", "I", false)
  | 21 => ("HeadTreesModel", "at", "I", false)
  | 22 => ("HeadTreesModel", "number", "I", false)
  | 23 => ("HeadTreesModel", "fault", "I", false)
  | 24 => ("HeadTreesModel", "word", "J", false)
  | 25 => ("HeadTreesModel", "strengths", "[I", true)
  | 26 => ("HeadTreesModel", "stables", "[I", true)
  | 27 => ("HeadTreesModel", "best", "[I", true)
  | 28 => ("HeadTreesModel", "splitOf", "[I", true)
  | 29 => ("HeadTreesModel", "underOf", "[I", true)
  | 30 => ("HeadTreesModel", "waysOf", "[J", true)
  | 31 => ("HeadTreesModel", "partFrom", "[I", true)
  | 32 => ("HeadTreesModel", "partTill", "[I", true)
  | 33 => ("HeadTreesModel", "partHead", "[I", true)
  | 34 => ("HeadTreesModel", "partDepth", "[I", true)
  | 35 => ("HeadTreesModel", "rank", "[I", true)
  | 36 => ("HeadTreesModel", "openFrom", "[I", true)
  | 37 => ("HeadTreesModel", "openTill", "[I", true)
  | 38 => ("HeadTreesModel", "openHead", "[I", true)
  | 39 => ("HeadTreesModel", "openDepth", "[I", true)
  | 40 => ("HeadTreesModel", "parts", "I", false)
  | 41 => ("HeadTreesModel", "opens", "I", false)
  | 42 => ("HeadTreesModel", "wasFrom", "[I", true)
  | 43 => ("HeadTreesModel", "wasTill", "[I", true)
  | 44 => ("HeadTreesModel", "wasHead", "[I", true)
  | 45 => ("HeadTreesModel", "keptFrom", "[I", true)
  | 46 => ("HeadTreesModel", "keptTill", "[I", true)
  | 47 => ("HeadTreesModel", "keptSplit", "[I", true)
  | 48 => ("HeadTreesModel", "keptHead", "[I", true)
  | 49 => ("HeadTreesModel", "keptUnder", "[I", true)
  | 50 => ("HeadTreesModel", "keptRank", "[I", true)
  | _ => ("HeadTreesModel", "keptMany", "I", false)
def tyX9 : Nat → FieldType := fun k => match k with
  | 0 => .int
  | 1 => .int
  | 2 => .int
  | 3 => .array .int
  | 4 => .array .int
  | 5 => .array .int
  | 6 => .int
  | 7 => .int
  | 8 => .int
  | 9 => .int
  | 10 => .int
  | 11 => .int
  | 12 => .int
  | 13 => .int
  | 14 => .boolean
  | 15 => .boolean
  | 16 => .array .byte
  | 17 => .int
  | 18 => .int
  | 19 => .int
  | 20 => .int
  | 21 => .int
  | 22 => .int
  | 23 => .int
  | 24 => .long
  | 25 => .array .int
  | 26 => .array .int
  | 27 => .array .int
  | 28 => .array .int
  | 29 => .array .int
  | 30 => .array .long
  | 31 => .array .int
  | 32 => .array .int
  | 33 => .array .int
  | 34 => .array .int
  | 35 => .array .int
  | 36 => .array .int
  | 37 => .array .int
  | 38 => .array .int
  | 39 => .array .int
  | 40 => .int
  | 41 => .int
  | 42 => .array .int
  | 43 => .array .int
  | 44 => .array .int
  | 45 => .array .int
  | 46 => .array .int
  | 47 => .array .int
  | 48 => .array .int
  | 49 => .array .int
  | 50 => .array .int
  | _ => .int
abbrev wsX90 : List Cond := u_ws RX9 TX9 52
theorem nmX9 : ∀ a, a < 52 → ∀ b, b < 52 → a ≠ b → (TX9 a).2.1 ≠ (TX9 b).2.1 := by decide +kernel
theorem tyX9_ok : ∀ k, k < 52 → parseFieldDescriptor (TX9 k).2.2.1 = some (tyX9 k) := by decide +kernel
abbrev cX9_init : ByteArray := prog_11_method_1_code
def yX9_init : MethodName := ⟨RX9, "<init>", "()V"⟩
abbrev cX9_thrown : ByteArray := prog_11_method_2_code
def yX9_thrown : MethodName := ⟨RX9, "thrown", "()I"⟩
abbrev cX9_refused : ByteArray := prog_11_method_3_code
def yX9_refused : MethodName := ⟨RX9, "refused", "(I)I"⟩
abbrev cX9_good : ByteArray := prog_11_method_4_code
def yX9_good : MethodName := ⟨RX9, "good", "(I)I"⟩
abbrev cX9_in : ByteArray := prog_11_method_5_code
def yX9_in : MethodName := ⟨RX9, "in", "(III)Z"⟩
abbrev cX9_byteAt : ByteArray := prog_11_method_6_code
def yX9_byteAt : MethodName := ⟨RX9, "byteAt", "(I)I"⟩
abbrev cX9_next : ByteArray := prog_11_method_7_code
def yX9_next : MethodName := ⟨RX9, "next", "()V"⟩
abbrev cX9_nextWord : ByteArray := prog_11_method_8_code
def yX9_nextWord : MethodName := ⟨RX9, "nextWord", "()V"⟩
abbrev cX9_nextWhole : ByteArray := prog_11_method_9_code
def yX9_nextWhole : MethodName := ⟨RX9, "nextWhole", "()V"⟩
abbrev cX9_flaw : ByteArray := prog_11_method_10_code
def yX9_flaw : MethodName := ⟨RX9, "flaw", "(I)V"⟩
abbrev cX9_isWord : ByteArray := prog_11_method_11_code
def yX9_isWord : MethodName := ⟨RX9, "isWord", "(Ljava/lang/String;)Z"⟩
abbrev cX9_readWhole : ByteArray := prog_11_method_12_code
def yX9_readWhole : MethodName := ⟨RX9, "readWhole", "(II)I"⟩
abbrev cX9_readPart : ByteArray := prog_11_method_13_code
def yX9_readPart : MethodName := ⟨RX9, "readPart", "(Ljava/lang/String;II)I"⟩
abbrev cX9_readAll : ByteArray := prog_11_method_14_code
def yX9_readAll : MethodName := ⟨RX9, "readAll", "()V"⟩
abbrev cX9_readLine : ByteArray := prog_11_method_15_code
def yX9_readLine : MethodName := ⟨RX9, "readLine", "()V"⟩
abbrev cX9_readPiece : ByteArray := prog_11_method_16_code
def yX9_readPiece : MethodName := ⟨RX9, "readPiece", "()V"⟩
abbrev cX9_begins : ByteArray := prog_11_method_17_code
def yX9_begins : MethodName := ⟨RX9, "begins", "(Z)V"⟩
abbrev cX9_readNote : ByteArray := prog_11_method_18_code
def yX9_readNote : MethodName := ⟨RX9, "readNote", "()V"⟩
abbrev cX9_ruleHere : ByteArray := prog_11_method_19_code
def yX9_ruleHere : MethodName := ⟨RX9, "ruleHere", "()I"⟩
abbrev cX9_readRule : ByteArray := prog_11_method_20_code
def yX9_readRule : MethodName := ⟨RX9, "readRule", "()V"⟩
abbrev cX9_feed : ByteArray := prog_11_method_21_code
def yX9_feed : MethodName := ⟨RX9, "feed", "(IIIII)I"⟩
abbrev cX9_piece : ByteArray := prog_11_method_22_code
def yX9_piece : MethodName := ⟨RX9, "piece", "(I)I"⟩
abbrev cX9_fault : ByteArray := prog_11_method_23_code
def yX9_fault : MethodName := ⟨RX9, "fault", "()I"⟩
abbrev cX9_where : ByteArray := prog_11_method_24_code
def yX9_where : MethodName := ⟨RX9, "where", "()I"⟩
abbrev cX9_pitchOf : ByteArray := prog_11_method_25_code
def yX9_pitchOf : MethodName := ⟨RX9, "pitchOf", "(I)I"⟩
abbrev cX9_lasts : ByteArray := prog_11_method_26_code
def yX9_lasts : MethodName := ⟨RX9, "lasts", "(I)I"⟩
abbrev cX9_beginOf : ByteArray := prog_11_method_27_code
def yX9_beginOf : MethodName := ⟨RX9, "beginOf", "(I)I"⟩
abbrev cX9_strength : ByteArray := prog_11_method_28_code
def yX9_strength : MethodName := ⟨RX9, "strength", "(I)I"⟩
abbrev cX9_stable : ByteArray := prog_11_method_29_code
def yX9_stable : MethodName := ⟨RX9, "stable", "(I)I"⟩
abbrev cX9_above : ByteArray := prog_11_method_30_code
def yX9_above : MethodName := ⟨RX9, "above", "(II)I"⟩
abbrev cX9_apart : ByteArray := prog_11_method_31_code
def yX9_apart : MethodName := ⟨RX9, "apart", "(II)I"⟩
abbrev cX9_brokenBy : ByteArray := prog_11_method_32_code
def yX9_brokenBy : MethodName := ⟨RX9, "brokenBy", "(IIIII)I"⟩
abbrev cX9_brokenAll : ByteArray := prog_11_method_33_code
def yX9_brokenAll : MethodName := ⟨RX9, "brokenAll", "(IIII)I"⟩
abbrev cX9_cube : ByteArray := prog_11_method_34_code
def yX9_cube : MethodName := ⟨RX9, "cube", "(III)I"⟩
abbrev cX9_lays : ByteArray := prog_11_method_35_code
def yX9_lays : MethodName := ⟨RX9, "lays", "()V"⟩
abbrev cX9_laysOne : ByteArray := prog_11_method_36_code
def yX9_laysOne : MethodName := ⟨RX9, "laysOne", "(III)V"⟩
abbrev cX9_joinedBy : ByteArray := prog_11_method_37_code
def yX9_joinedBy : MethodName := ⟨RX9, "joinedBy", "(IIIII)I"⟩
abbrev cX9_tries : ByteArray := prog_11_method_38_code
def yX9_tries : MethodName := ⟨RX9, "tries", "(IIIIII)V"⟩
abbrev cX9_headOf : ByteArray := prog_11_method_39_code
def yX9_headOf : MethodName := ⟨RX9, "headOf", "(II)I"⟩
abbrev cX9_isNote : ByteArray := prog_11_method_40_code
def yX9_isNote : MethodName := ⟨RX9, "isNote", "(I)Z"⟩
abbrev cX9_isSpan : ByteArray := prog_11_method_41_code
def yX9_isSpan : MethodName := ⟨RX9, "isSpan", "(II)Z"⟩
abbrev cX9_isRule : ByteArray := prog_11_method_42_code
def yX9_isRule : MethodName := ⟨RX9, "isRule", "(I)Z"⟩
abbrev cX9_about : ByteArray := prog_11_method_43_code
def yX9_about : MethodName := ⟨RX9, "about", "(I)I"⟩
abbrev cX9_note : ByteArray := prog_11_method_44_code
def yX9_note : MethodName := ⟨RX9, "note", "(II)I"⟩
abbrev cX9_weight : ByteArray := prog_11_method_45_code
def yX9_weight : MethodName := ⟨RX9, "weight", "(I)I"⟩
abbrev cX9_breaks : ByteArray := prog_11_method_46_code
def yX9_breaks : MethodName := ⟨RX9, "breaks", "(II)I"⟩
abbrev cX9_head : ByteArray := prog_11_method_47_code
def yX9_head : MethodName := ⟨RX9, "head", "(II)I"⟩
abbrev cX9_split : ByteArray := prog_11_method_48_code
def yX9_split : MethodName := ⟨RX9, "split", "(II)I"⟩
abbrev cX9_breaksBy : ByteArray := prog_11_method_49_code
def yX9_breaksBy : MethodName := ⟨RX9, "breaksBy", "(III)I"⟩
abbrev cX9_ways : ByteArray := prog_11_method_50_code
def yX9_ways : MethodName := ⟨RX9, "ways", "(II)J"⟩
abbrev cX9_splitCost : ByteArray := prog_11_method_51_code
def yX9_splitCost : MethodName := ⟨RX9, "splitCost", "(III)I"⟩
abbrev cX9_second : ByteArray := prog_11_method_52_code
def yX9_second : MethodName := ⟨RX9, "second", "(II)I"⟩
abbrev cX9_broken : ByteArray := prog_11_method_53_code
def yX9_broken : MethodName := ⟨RX9, "broken", "(IIIII)I"⟩
abbrev cX9_goes : ByteArray := prog_11_method_54_code
def yX9_goes : MethodName := ⟨RX9, "goes", "(IIII)V"⟩
abbrev cX9_laysTree : ByteArray := prog_11_method_55_code
def yX9_laysTree : MethodName := ⟨RX9, "laysTree", "()V"⟩
abbrev cX9_isJoining : ByteArray := prog_11_method_56_code
def yX9_isJoining : MethodName := ⟨RX9, "isJoining", "(I)Z"⟩
abbrev cX9_joiningAt : ByteArray := prog_11_method_57_code
def yX9_joiningAt : MethodName := ⟨RX9, "joiningAt", "(I)I"⟩
abbrev cX9_splitAt : ByteArray := prog_11_method_58_code
def yX9_splitAt : MethodName := ⟨RX9, "splitAt", "(I)I"⟩
abbrev cX9_underAt : ByteArray := prog_11_method_59_code
def yX9_underAt : MethodName := ⟨RX9, "underAt", "(I)I"⟩
abbrev cX9_breaksAt : ByteArray := prog_11_method_60_code
def yX9_breaksAt : MethodName := ⟨RX9, "breaksAt", "(II)I"⟩
abbrev cX9_joinings : ByteArray := prog_11_method_61_code
def yX9_joinings : MethodName := ⟨RX9, "joinings", "()I"⟩
abbrev cX9_joining : ByteArray := prog_11_method_62_code
def yX9_joining : MethodName := ⟨RX9, "joining", "(II)I"⟩
abbrev cX9_breaksOf : ByteArray := prog_11_method_63_code
def yX9_breaksOf : MethodName := ⟨RX9, "breaksOf", "(I)I"⟩
abbrev cX9_deep : ByteArray := prog_11_method_64_code
def yX9_deep : MethodName := ⟨RX9, "deep", "()I"⟩
abbrev cX9_deepest : ByteArray := prog_11_method_65_code
def yX9_deepest : MethodName := ⟨RX9, "deepest", "()I"⟩
abbrev cX9_isLevel : ByteArray := prog_11_method_66_code
def yX9_isLevel : MethodName := ⟨RX9, "isLevel", "(I)Z"⟩
abbrev cX9_isAt : ByteArray := prog_11_method_67_code
def yX9_isAt : MethodName := ⟨RX9, "isAt", "(II)Z"⟩
abbrev cX9_levelAt : ByteArray := prog_11_method_68_code
def yX9_levelAt : MethodName := ⟨RX9, "levelAt", "(II)I"⟩
abbrev cX9_level : ByteArray := prog_11_method_69_code
def yX9_level : MethodName := ⟨RX9, "level", "(I)I"⟩
abbrev cX9_levelNote : ByteArray := prog_11_method_70_code
def yX9_levelNote : MethodName := ⟨RX9, "levelNote", "(III)I"⟩
abbrev cX9_path : ByteArray := prog_11_method_71_code
def yX9_path : MethodName := ⟨RX9, "path", "(I)I"⟩
abbrev cX9_over : ByteArray := prog_11_method_72_code
def yX9_over : MethodName := ⟨RX9, "over", "(II)I"⟩
abbrev cX9_underOne : ByteArray := prog_11_method_73_code
def yX9_underOne : MethodName := ⟨RX9, "underOne", "(I)I"⟩
abbrev cX9_under : ByteArray := prog_11_method_74_code
def yX9_under : MethodName := ⟨RX9, "under", "(I)I"⟩
abbrev cX9_partOf : ByteArray := prog_11_method_75_code
def yX9_partOf : MethodName := ⟨RX9, "partOf", "(I)I"⟩
abbrev cX9_aboveOf : ByteArray := prog_11_method_76_code
def yX9_aboveOf : MethodName := ⟨RX9, "aboveOf", "(I)I"⟩
abbrev cX9_reach : ByteArray := prog_11_method_77_code
def yX9_reach : MethodName := ⟨RX9, "reach", "(II)I"⟩
abbrev cX9_climax : ByteArray := prog_11_method_78_code
def yX9_climax : MethodName := ⟨RX9, "climax", "(I)I"⟩
abbrev cX9_levelPitch : ByteArray := prog_11_method_79_code
def yX9_levelPitch : MethodName := ⟨RX9, "levelPitch", "(II)I"⟩
abbrev cX9_widest : ByteArray := prog_11_method_80_code
def yX9_widest : MethodName := ⟨RX9, "widest", "(I)I"⟩
abbrev cX9_echo : ByteArray := prog_11_method_81_code
def yX9_echo : MethodName := ⟨RX9, "echo", "(II)I"⟩
abbrev cX9_laysBy : ByteArray := prog_11_method_82_code
def yX9_laysBy : MethodName := ⟨RX9, "laysBy", "(II)V"⟩
abbrev cX9_isAsItWas : ByteArray := prog_11_method_83_code
def yX9_isAsItWas : MethodName := ⟨RX9, "isAsItWas", "()Z"⟩
abbrev cX9_firm : ByteArray := prog_11_method_84_code
def yX9_firm : MethodName := ⟨RX9, "firm", "(IZ)I"⟩
abbrev cX9_sways : ByteArray := prog_11_method_85_code
def yX9_sways : MethodName := ⟨RX9, "sways", "(II)I"⟩
abbrev cX9_swayed : ByteArray := prog_11_method_86_code
def yX9_swayed : MethodName := ⟨RX9, "swayed", "(II)I"⟩
abbrev cX9_areTwins : ByteArray := prog_11_method_87_code
def yX9_areTwins : MethodName := ⟨RX9, "areTwins", "(III)Z"⟩
abbrev cX9_areSpans : ByteArray := prog_11_method_88_code
def yX9_areSpans : MethodName := ⟨RX9, "areSpans", "(III)Z"⟩
abbrev cX9_twins : ByteArray := prog_11_method_89_code
def yX9_twins : MethodName := ⟨RX9, "twins", "(III)I"⟩
abbrev cX9_twin : ByteArray := prog_11_method_90_code
def yX9_twin : MethodName := ⟨RX9, "twin", "(I)I"⟩
abbrev cX9_areAlike : ByteArray := prog_11_method_91_code
def yX9_areAlike : MethodName := ⟨RX9, "areAlike", "(III)Z"⟩
abbrev cX9_alike : ByteArray := prog_11_method_92_code
def yX9_alike : MethodName := ⟨RX9, "alike", "(III)I"⟩
abbrev cX9_keep : ByteArray := prog_11_method_93_code
def yX9_keep : MethodName := ⟨RX9, "keep", "()I"⟩
abbrev cX9_keptAt : ByteArray := prog_11_method_94_code
def yX9_keptAt : MethodName := ⟨RX9, "keptAt", "(II)I"⟩
abbrev cX9_unlike : ByteArray := prog_11_method_95_code
def yX9_unlike : MethodName := ⟨RX9, "unlike", "(I)I"⟩
abbrev cX9_keptBreaks : ByteArray := prog_11_method_96_code
def yX9_keptBreaks : MethodName := ⟨RX9, "keptBreaks", "()I"⟩
abbrev cX9_remembers : ByteArray := prog_11_method_97_code
def yX9_remembers : MethodName := ⟨RX9, "remembers", "()V"⟩
abbrev cX9_sets : ByteArray := prog_11_method_98_code
def yX9_sets : MethodName := ⟨RX9, "sets", "(II)I"⟩
abbrev cX9_pitch : ByteArray := prog_11_method_99_code
def yX9_pitch : MethodName := ⟨RX9, "pitch", "(II)I"⟩
abbrev cX9_last : ByteArray := prog_11_method_100_code
def yX9_last : MethodName := ⟨RX9, "last", "(II)I"⟩
abbrev cX9_weigh : ByteArray := prog_11_method_101_code
def yX9_weigh : MethodName := ⟨RX9, "weigh", "(II)I"⟩
abbrev cX9_key : ByteArray := prog_11_method_102_code
def yX9_key : MethodName := ⟨RX9, "key", "(I)I"⟩
abbrev cX9_move : ByteArray := prog_11_method_103_code
def yX9_move : MethodName := ⟨RX9, "move", "(I)I"⟩
abbrev cX9_undo : ByteArray := prog_11_method_104_code
def yX9_undo : MethodName := ⟨RX9, "undo", "()Z"⟩
abbrev cX9_bare : ByteArray := prog_11_method_105_code
def yX9_bare : MethodName := ⟨RX9, "bare", "(I)I"⟩
abbrev cX9_size : ByteArray := prog_11_method_106_code
def yX9_size : MethodName := ⟨RX9, "size", "(I)I"⟩
abbrev cX9_trouble : ByteArray := prog_11_method_107_code
def yX9_trouble : MethodName := ⟨RX9, "trouble", "()I"⟩
def RJx145de : String := "java/io/Serializable"
def TJx145de : u_T := fun k => match k with
  | _ => ("", "", "", false)
def tyJx145de : Nat → FieldType := fun k => match k with
  | _ => .int
abbrev wsJx145de0 : List Cond := u_ws RJx145de TJx145de 0
theorem nmJx145de : ∀ a, a < 0 → ∀ b, b < 0 → a ≠ b → (TJx145de a).2.1 ≠ (TJx145de b).2.1 := by decide +kernel
theorem tyJx145de_ok : ∀ k, k < 0 → parseFieldDescriptor (TJx145de k).2.2.1 = some (tyJx145de k) := by decide +kernel
def RJx9f9b0 : String := "java/lang/CharSequence"
def TJx9f9b0 : u_T := fun k => match k with
  | _ => ("", "", "", false)
def tyJx9f9b0 : Nat → FieldType := fun k => match k with
  | _ => .int
abbrev wsJx9f9b00 : List Cond := u_ws RJx9f9b0 TJx9f9b0 0
theorem nmJx9f9b0 : ∀ a, a < 0 → ∀ b, b < 0 → a ≠ b → (TJx9f9b0 a).2.1 ≠ (TJx9f9b0 b).2.1 := by decide +kernel
theorem tyJx9f9b0_ok : ∀ k, k < 0 → parseFieldDescriptor (TJx9f9b0 k).2.2.1 = some (tyJx9f9b0 k) := by decide +kernel
def RJxb160c : String := "java/lang/Comparable"
def TJxb160c : u_T := fun k => match k with
  | _ => ("", "", "", false)
def tyJxb160c : Nat → FieldType := fun k => match k with
  | _ => .int
abbrev wsJxb160c0 : List Cond := u_ws RJxb160c TJxb160c 0
theorem nmJxb160c : ∀ a, a < 0 → ∀ b, b < 0 → a ≠ b → (TJxb160c a).2.1 ≠ (TJxb160c b).2.1 := by decide +kernel
theorem tyJxb160c_ok : ∀ k, k < 0 → parseFieldDescriptor (TJxb160c k).2.2.1 = some (tyJxb160c k) := by decide +kernel
def RJ9 : String := "java/lang/Math"
def TJ9 : u_T := fun k => match k with
  | _ => ("", "", "", false)
def tyJ9 : Nat → FieldType := fun k => match k with
  | _ => .int
abbrev wsJ90 : List Cond := u_ws RJ9 TJ9 0
theorem nmJ9 : ∀ a, a < 0 → ∀ b, b < 0 → a ≠ b → (TJ9 a).2.1 ≠ (TJ9 b).2.1 := by decide +kernel
theorem tyJ9_ok : ∀ k, k < 0 → parseFieldDescriptor (TJ9 k).2.2.1 = some (tyJ9 k) := by decide +kernel
abbrev cJ9_floorMod_7cf53 : ByteArray := prog_16_method_50_code
def yJ9_floorMod_7cf53 : MethodName := ⟨RJ9, "floorMod", "(II)I"⟩
abbrev cJ9_abs_0f7a4 : ByteArray := prog_16_method_59_code
def yJ9_abs_0f7a4 : MethodName := ⟨RJ9, "abs", "(I)I"⟩
abbrev cJ9_max_7cf53 : ByteArray := prog_16_method_65_code
def yJ9_max_7cf53 : MethodName := ⟨RJ9, "max", "(II)I"⟩
abbrev cJ9_min_7cf53 : ByteArray := prog_16_method_69_code
def yJ9_min_7cf53 : MethodName := ⟨RJ9, "min", "(II)I"⟩
abbrev cJ9_min_f86c9 : ByteArray := prog_16_method_70_code
def yJ9_min_f86c9 : MethodName := ⟨RJ9, "min", "(JJ)J"⟩
def RJ0 : String := "java/lang/String"
def TJ0 : u_T := fun k => match k with
  | _ => ("", "", "", false)
def tyJ0 : Nat → FieldType := fun k => match k with
  | _ => .int
abbrev wsJ00 : List Cond := u_ws RJ0 TJ0 0
theorem nmJ0 : ∀ a, a < 0 → ∀ b, b < 0 → a ≠ b → (TJ0 a).2.1 ≠ (TJ0 b).2.1 := by decide +kernel
theorem tyJ0_ok : ∀ k, k < 0 → parseFieldDescriptor (TJ0 k).2.2.1 = some (tyJ0 k) := by decide +kernel
abbrev cJ0_length_8abf5 : ByteArray := prog_18_method_54_code
def yJ0_length_8abf5 : MethodName := ⟨RJ0, "length", "()I"⟩
abbrev cJ0_charAt_5068e : ByteArray := prog_18_method_56_code
def yJ0_charAt_5068e : MethodName := ⟨RJ0, "charAt", "(I)C"⟩
abbrev cJ0_coder_7d493 : ByteArray := prog_18_method_152_code
def yJ0_coder_7d493 : MethodName := ⟨RJ0, "coder", "()B"⟩
abbrev cJ0_isLatin1_aae02 : ByteArray := prog_18_method_154_code
def yJ0_isLatin1_aae02 : MethodName := ⟨RJ0, "isLatin1", "()Z"⟩
abbrev cJ0_checkIndex_df160 : ByteArray := prog_18_method_155_code
def yJ0_checkIndex_df160 : MethodName := ⟨RJ0, "checkIndex", "(II)V"⟩
def RJ1 : String := "java/lang/StringLatin1"
def TJ1 : u_T := fun k => match k with
  | _ => ("", "", "", false)
def tyJ1 : Nat → FieldType := fun k => match k with
  | _ => .int
abbrev wsJ10 : List Cond := u_ws RJ1 TJ1 0
theorem nmJ1 : ∀ a, a < 0 → ∀ b, b < 0 → a ≠ b → (TJ1 a).2.1 ≠ (TJ1 b).2.1 := by decide +kernel
theorem tyJ1_ok : ∀ k, k < 0 → parseFieldDescriptor (TJ1 k).2.2.1 = some (tyJ1 k) := by decide +kernel
abbrev cJ1_charAt_3b067 : ByteArray := prog_19_method_2_code
def yJ1_charAt_3b067 : MethodName := ⟨RJ1, "charAt", "([BI)C"⟩
def RJ2 : String := "java/lang/StringUTF16"
def TJ2 : u_T := fun k => match k with
  | _ => ("", "", "", false)
def tyJ2 : Nat → FieldType := fun k => match k with
  | _ => .int
abbrev wsJ20 : List Cond := u_ws RJ2 TJ2 0
theorem nmJ2 : ∀ a, a < 0 → ∀ b, b < 0 → a ≠ b → (TJ2 a).2.1 ≠ (TJ2 b).2.1 := by decide +kernel
theorem tyJ2_ok : ∀ k, k < 0 → parseFieldDescriptor (TJ2 k).2.2.1 = some (tyJ2 k) := by decide +kernel
abbrev cJ2_getChar_3b067 : ByteArray := prog_20_method_5_code
def yJ2_getChar_3b067 : MethodName := ⟨RJ2, "getChar", "([BI)C"⟩
abbrev cJ2_length_9d52b : ByteArray := prog_20_method_6_code
def yJ2_length_9d52b : MethodName := ⟨RJ2, "length", "([B)I"⟩
abbrev cJ2_charAt_3b067 : ByteArray := prog_20_method_83_code
def yJ2_charAt_3b067 : MethodName := ⟨RJ2, "charAt", "([BI)C"⟩
abbrev cJ2_checkIndex_2214a : ByteArray := prog_20_method_91_code
def yJ2_checkIndex_2214a : MethodName := ⟨RJ2, "checkIndex", "(I[B)V"⟩
def RJxfd54e : String := "java/lang/constant/Constable"
def TJxfd54e : u_T := fun k => match k with
  | _ => ("", "", "", false)
def tyJxfd54e : Nat → FieldType := fun k => match k with
  | _ => .int
abbrev wsJxfd54e0 : List Cond := u_ws RJxfd54e TJxfd54e 0
theorem nmJxfd54e : ∀ a, a < 0 → ∀ b, b < 0 → a ≠ b → (TJxfd54e a).2.1 ≠ (TJxfd54e b).2.1 := by decide +kernel
theorem tyJxfd54e_ok : ∀ k, k < 0 → parseFieldDescriptor (TJxfd54e k).2.2.1 = some (tyJxfd54e k) := by decide +kernel
def RJx3cf43 : String := "java/lang/constant/ConstantDesc"
def TJx3cf43 : u_T := fun k => match k with
  | _ => ("", "", "", false)
def tyJx3cf43 : Nat → FieldType := fun k => match k with
  | _ => .int
abbrev wsJx3cf430 : List Cond := u_ws RJx3cf43 TJx3cf43 0
theorem nmJx3cf43 : ∀ a, a < 0 → ∀ b, b < 0 → a ≠ b → (TJx3cf43 a).2.1 ≠ (TJx3cf43 b).2.1 := by decide +kernel
theorem tyJx3cf43_ok : ∀ k, k < 0 → parseFieldDescriptor (TJx3cf43 k).2.2.1 = some (tyJx3cf43 k) := by decide +kernel
def RJ3 : String := "jdk/internal/util/Preconditions"
def TJ3 : u_T := fun k => match k with
  | _ => ("", "", "", false)
def tyJ3 : Nat → FieldType := fun k => match k with
  | _ => .int
abbrev wsJ30 : List Cond := u_ws RJ3 TJ3 0
theorem nmJ3 : ∀ a, a < 0 → ∀ b, b < 0 → a ≠ b → (TJ3 a).2.1 ≠ (TJ3 b).2.1 := by decide +kernel
theorem tyJ3_ok : ∀ k, k < 0 → parseFieldDescriptor (TJ3 k).2.2.1 = some (tyJ3 k) := by decide +kernel
abbrev cJ3_checkIndex_8e157 : ByteArray := prog_25_method_11_code
def yJ3_checkIndex_8e157 : MethodName := ⟨RJ3, "checkIndex", "(IILjava/util/function/BiFunction;)I"⟩
def RL : String := "HeadTreesLaw"
abbrev cL_bare : ByteArray := method_3_code
def yL_bare : MethodName := ⟨RL, "bare", "(LHeadTrees;I[J)I"⟩
abbrev cL_law : ByteArray := code
def yL_law : MethodName := ⟨RL, "law", "([I)Z"⟩
abbrev vwCl : List vw_C := [(RX0, TX0, 4), (RX1, TX1, 4), (RX2, TX2, 1), (RX3, TX3, 4), (RX4, TX4, 11), (RX5, TX5, 10), (RX6, TX6, 7), (RX7, TX7, 10), (RX8, TX8, 17), (RX9, TX9, 52)]
end
section
/-! THE ABSTRACT MACHINE: definitions -/
/-- an object: its numbers by field, its arrays by field (length, contents) -/
abbrev ab_Ob : Type := (Nat → Int) × (Nat → Int × (Int → Int))
/-- a value: int, long, object at a place, array of a field of an object, string constant -/
abbrev ab_V : Type := Int ⊕ (Int ⊕ (Nat ⊕ ((Nat × Nat) ⊕ Nat)))
abbrev ab_I (z : Int) : ab_V := .inl z
abbrev ab_L (z : Int) : ab_V := .inr (.inl z)
abbrev ab_O (o : Nat) : ab_V := .inr (.inr (.inl o))
abbrev ab_A (o f : Nat) : ab_V := .inr (.inr (.inr (.inl (o, f))))
abbrev ab_S (n : Nat) : ab_V := .inr (.inr (.inr (.inr n)))
/-- a method: name, code, locals, answer | classes of its world, where each comes from (argument, offset), which are written, moves arrays, makes cells, place of an answered object | static, class of the receiver, how many parameters -/
abbrev ab_M : Type := (MethodName × ByteArray × Nat × Option FieldType) × (List Nat × List (Nat × Nat) × List Bool × Bool × Bool × Nat) × (Bool × Nat × Nat)
abbrev ab_nm (M : ab_M) : MethodName := M.1.1
abbrev ab_cd (M : ab_M) : ByteArray := M.1.2.1
abbrev ab_ml (M : ab_M) : Nat := M.1.2.2.1
abbrev ab_rt (M : ab_M) : Option FieldType := M.1.2.2.2
abbrev ab_G (M : ab_M) : List Nat := M.2.1.1
abbrev ab_pt (M : ab_M) : List (Nat × Nat) := M.2.1.2.1
abbrev ab_wr (M : ab_M) : List Bool := M.2.1.2.2.1
abbrev ab_mv (M : ab_M) : Bool := M.2.1.2.2.2.1
abbrev ab_al (M : ab_M) : Bool := M.2.1.2.2.2.2.1
abbrev ab_rp (M : ab_M) : Nat := M.2.1.2.2.2.2.2
abbrev ab_st (M : ab_M) : Bool := M.2.2.1
abbrev ab_ci (M : ab_M) : Nat := M.2.2.2.1
abbrev ab_na (M : ab_M) : Nat := M.2.2.2.2
/-- a row of code: pc, instruction, length, three numbers, targets, callee -/
abbrev ab_R : Type := Nat × Instr × Nat × Nat × Nat × Nat × List Nat × Option ab_M
/-- kinds of fields: 0 int, 1 boolean, 2 long, 3 int[], 4 byte[], 5 long[], 6 boolean[], 7 + k the object k places further -/
def ab_lay : Nat → List Nat
  | 0 => [0, 3, 3, 3]
  | 1 => [0, 0, 3, 3]
  | 2 => [5]
  | 3 => [0, 3, 3, 3]
  | 4 => [0, 4, 0, 8, 1, 6, 0, 0, 0, 0, 0]
  | 5 => [0, 0, 0, 0, 3, 3, 3, 3, 3, 3]
  | 6 => [8, 9, 6, 3, 3, 3, 3]
  | 7 => [0, 0, 0, 3, 3, 3, 3, 3, 3, 3]
  | 8 => [0, 8, 10, 11, 12, 1, 13, 1, 14, 1, 15, 18, 1, 19, 20, 21, 22]
  | 9 => [0, 0, 0, 3, 3, 3, 0, 0, 0, 0, 0, 0, 0, 0, 1, 1, 4, 0, 0, 0, 0, 0, 0, 0, 2, 3, 3, 3, 3, 3, 5, 3, 3, 3, 3, 3, 3, 3, 3, 3, 0, 0, 3, 3, 3, 3, 3, 3, 3, 3, 3, 0]
  | _ => []
def ab_kd (ci f : Nat) : Nat := (ab_lay ci).getD f 0
abbrev ab_arr (k : Nat) : Prop := 3 ≤ k ∧ k ≤ 6
/-- what the strings are, by their numbers: their signs -/
def ab_str : Nat → List Int
  | 0 => [112, 105, 101, 99, 101]
  | 1 => [110, 111, 116, 101]
  | 2 => [114, 117, 108, 101]
  | 3 => [98, 97, 114]
  | 4 => [98, 101, 97, 116]
  | 5 => [107, 101, 121]
  | 6 => [108, 111, 110, 103]
  | 7 => [115, 116, 114, 111, 110, 103]
  | 8 => [115, 116, 97, 98, 108, 101]
  | 9 => [115, 116, 101, 112]
  | 10 => [101, 118, 101, 110]
  | 11 => [99, 108, 111, 115, 101]
  | _ => []
/-- small tables -/
def ab_at {α : Type} : List α → Nat → Option α
  | [], _ => none
  | x :: _, 0 => some x
  | _ :: l, n + 1 => ab_at l n
def ab_set {α : Type} : List α → Nat → α → List α
  | [], _, _ => []
  | _ :: l, 0, y => y :: l
  | x :: l, n + 1, y => x :: ab_set l n y
/-- a list laid out, then what goes on with it -/
def ab_frc {α : Type} : List α → (List α → Prop) → Prop
  | [], k => k []
  | x :: l, k => ab_frc l (fun l' => k (x :: l'))
def ab_up (f : Nat → Int) (k : Nat) (z : Int) : Nat → Int := fun j => if j = k then z else f j
def ab_ua (f : Nat → Int × (Int → Int)) (k : Nat) (a : Int × (Int → Int)) : Nat → Int × (Int → Int) := fun j => if j = k then a else f j
def ab_ui (f : Int → Int) (i z : Int) : Int → Int := fun j => if j = i then z else f j
/-- a number of an object is another one; an element of an array of it; an array of it -/
def ab_pf (ob : ab_Ob) (k : Nat) (z : Int) : ab_Ob := (ab_up ob.1 k z, ob.2)
def ab_pa (ob : ab_Ob) (k : Nat) (i z : Int) : ab_Ob := (ob.1, ab_ua ob.2 k ((ob.2 k).1, ab_ui (ob.2 k).2 i z))
def ab_pn (ob : ab_Ob) (k : Nat) (n : Int) : ab_Ob := (ob.1, ab_ua ob.2 k (n, fun _ => 0))
def ab_isL : Option ab_V → Bool
  | some (.inr (.inl _)) => true
  | _ => false
/-- a local of one word, of two words -/
def ab_kill (lv : List (Option ab_V)) : Nat → List (Option ab_V)
  | 0 => lv
  | i + 1 => match ab_at lv i with
    | some w => match ab_isL w with
      | true => ab_set lv i none
      | false => lv
    | none => lv
def ab_s1 (lv : List (Option ab_V)) (i : Nat) (v : ab_V) : List (Option ab_V) := ab_set (ab_kill lv i) i (some v)
def ab_s2 (lv : List (Option ab_V)) (i : Nat) (v : ab_V) : List (Option ab_V) := ab_set (ab_set (ab_kill lv i) (i + 1) none) i (some v)
def ab_cat : ab_V → Nat
  | .inr (.inl _) => 2
  | _ => 1
def ab_cats : List ab_V → Nat
  | [] => 0
  | v :: l => ab_cat v + ab_cats l
/-- no array is in hand -/
def ab_na0 : ab_V → Bool
  | .inr (.inr (.inr (.inl _))) => false
  | _ => true
def ab_nas : List ab_V → Bool
  | [] => true
  | v :: l => ab_na0 v && ab_nas l
def ab_nal : List (Option ab_V) → Bool
  | [] => true
  | none :: l => ab_nal l
  | some v :: l => ab_na0 v && ab_nal l
def ab_take : Nat → List ab_V → List ab_V → Option (List ab_V × List ab_V)
  | 0, acc, l => some (acc, l)
  | n + 1, acc, v :: l => ab_take n (v :: acc) l
  | _ + 1, _, [] => none
def ab_pls (as : List ab_V) : List (Nat × Nat) → Option (List Nat)
  | [] => some []
  | q :: qs => match ab_at as q.1, ab_pls as qs with
    | some (.inr (.inr (.inl o))), some l => some ((o + q.2) :: l)
    | _, _ => none
def ab_ix (o : Nat) : List Nat → Option Nat
  | [] => none
  | x :: l => match Nat.beq x o with
    | true => some 0
    | false => (ab_ix o l).map (· + 1)
def ab_ren (pl : List Nat) : ab_V → Option ab_V
  | .inr (.inr (.inl o)) => (ab_ix o pl).map ab_O
  | .inr (.inr (.inr (.inl _))) => none
  | v => some v
def ab_rens (pl : List Nat) : List ab_V → Option (List ab_V)
  | [] => some []
  | v :: l => match ab_ren pl v, ab_rens pl l with
    | some w, some r => some (w :: r)
    | _, _ => none
def ab_sub {α : Type} (l : List α) : List Nat → Option (List α)
  | [] => some []
  | p :: ps => match ab_at l p, ab_sub l ps with
    | some x, some r => some (x :: r)
    | _, _ => none
def ab_put {α : Type} (l : List α) : List Nat → List α → List α
  | p :: ps, x :: xs => ab_put (ab_set l p x) ps xs
  | _, _ => l
def ab_eqs : List Nat → List Nat → Bool
  | [], [] => true
  | x :: a, y :: b => Nat.beq x y && ab_eqs a b
  | _, _ => false
def ab_hasn (x : Nat) : List Nat → Bool
  | [] => false
  | y :: l => Nat.beq y x || ab_hasn x l
def ab_nd : List Nat → Bool
  | [] => true
  | x :: l => !(ab_hasn x l) && ab_nd l
def ab_back (pl : List Nat) : Option ab_V → List ab_V → Option (List ab_V)
  | none, r => some r
  | some (.inr (.inr (.inl q))), r => (ab_at pl q).map (fun o => ab_O o :: r)
  | some (.inr (.inr (.inr _))), _ => none
  | some v, r => some (v :: r)
/-- objects inside an object lie in both worlds at the same offsets -/
def ab_ck1 (pl : List Nat) (q p : Nat) : List Nat → Bool
  | [] => true
  | kd :: l => (match kd with
    | k + 7 => match ab_at pl (q + k) with
      | some p' => Nat.beq p' (p + k)
      | none => false
    | _ => true) && ab_ck1 pl q p l
def ab_ck2 (pl : List Nat) : Nat → List Nat → List Nat → Bool
  | q, p :: ps, c :: cs => ab_ck1 pl q p (ab_lay c) && ab_ck2 pl (q + 1) ps cs
  | _, [], [] => true
  | _, _, _ => false
def ab_seek (rows : List ab_R) (t : Nat) : List ab_R := match rows with
  | [] => []
  | r :: rs => match Nat.beq r.1 t with
    | true => r :: rs
    | false => ab_seek rs t
/-- what is left of the locals at a cut point -/
def ab_mask : List Bool → List (Option ab_V) → List (Option ab_V)
  | true :: bs, v :: l => v :: ab_mask bs l
  | false :: bs, _ :: l => none :: ab_mask bs l
  | _, l => l
def ab_stop : List (Nat × List Bool) → Nat → Option (List Bool)
  | [], _ => none
  | q :: l, pc => match Nat.beq q.1 pc with
    | true => some q.2
    | false => ab_stop l pc
abbrev ab_num (z : Int) (k : Prop) : Prop := (-2147483648 ≤ z ∧ z ≤ 2147483647) ∧ k
abbrev ab_lng (z : Int) (k : Prop) : Prop := (-9223372036854775808 ≤ z ∧ z ≤ 9223372036854775807) ∧ k
def ab_cmp (x y : Int) : Int := if y < x then 1 else if x = y then 0 else -1
def ab_i8 (x : Int) : Int := (Int8.ofInt x).toInt
/-- the answers of a callee, by their shapes -/
def ab_shr : Option FieldType → Nat → Option ab_V → Prop
  | none, _, rv => rv = none
  | some .long, _, rv => ∃ r : Int, rv = some (ab_L r)
  | some (.object _), p, rv => rv = some (ab_O p)
  | some _, _, rv => ∃ r : Int, rv = some (ab_I r)
def ab_shw : List Bool → List ab_Ob → List ab_Ob → Prop
  | [], [], l => l = []
  | true :: bs, _ :: os, l => ∃ x l', l = x :: l' ∧ ab_shw bs os l'
  | false :: bs, o :: os, l => ∃ l', l = o :: l' ∧ ab_shw bs os l'
  | _, _, _ => False
def ab_alW : List Bool → List ab_Ob → (List ab_Ob → Prop) → Prop
  | [], [], k => k []
  | true :: bs, _ :: os, k => ∀ x : ab_Ob, ab_alW bs os (fun l => k (x :: l))
  | false :: bs, o :: os, k => ab_alW bs os (fun l => k (o :: l))
  | _, _, _ => False
def ab_alR : Option FieldType → Nat → (Option ab_V → Prop) → Prop
  | none, _, k => k none
  | some .long, _, k => ∀ r : Int, k (some (ab_L r))
  | some (.object _), p, k => k (some (ab_O p))
  | some _, _, k => ∀ r : Int, k (some (ab_I r))
def ab_exA (kc ks mc ms : Nat) : Bool → (Nat → Nat → Prop) → Prop
  | false, k => k 0 0
  | true, k => ∃ mc' ms' : Nat, (kc + mc' ≤ mc ∧ ks + ms' ≤ ms) ∧ k mc' ms'
/-- the table's words that stay true -/
def ab_gw : List Jvm.Cond := lw_tbl.filter goodWord
def ab_ws (M : ab_M) : List Jvm.Cond := .code (ab_nm M) (ab_cd M) (ab_ml M) (ab_rt M) :: ab_gw
def ab_rm (d mc ms : Nat) : Room := { frames := d, cells := mc, slots := ms, locals := 37 * d }
/-- classes and array classes, the strings' addresses -/
abbrev ab_E : Type := va_G × (Nat → ClassId) × (Nat → Nat) × (Nat → Nat)
def ab_cv (ad : Nat → Nat → Nat) (ak : Nat → Nat) : ab_V → Value
  | .inl z => .int (Int32.ofInt z)
  | .inr (.inl z) => .long (Int64.ofInt z)
  | .inr (.inr (.inl o)) => .ref (ad o 0)
  | .inr (.inr (.inr (.inl q))) => .ref (ad q.1 (q.2 + 1))
  | .inr (.inr (.inr (.inr n))) => .ref (ak n)
def ab_okk (k : Nat) (z : Int) : Prop := match k with
  | 1 => z = 0 ∨ z = 1
  | 6 => z = 0 ∨ z = 1
  | 4 => -128 ≤ z ∧ z ≤ 127
  | 2 => -9223372036854775808 ≤ z ∧ z ≤ 9223372036854775807
  | 5 => -9223372036854775808 ≤ z ∧ z ≤ 9223372036854775807
  | _ => -2147483648 ≤ z ∧ z ≤ 2147483647
def ab_okv : ab_V → Prop
  | .inl z => ab_okk 0 z
  | .inr (.inl z) => ab_okk 2 z
  | _ => True
def ab_fv (ad : Nat → Nat → Nat) (o : Nat) (ob : ab_Ob) (f : Nat) : Nat → Value
  | 0 => .int (Int32.ofInt (ob.1 f))
  | 1 => .int (Int32.ofInt (ob.1 f))
  | 2 => .long (Int64.ofInt (ob.1 f))
  | 3 => .ref (ad o (f + 1))
  | 4 => .ref (ad o (f + 1))
  | 5 => .ref (ad o (f + 1))
  | 6 => .ref (ad o (f + 1))
  | k + 7 => .ref (ad (o + k) 0)
def ab_el (k : Nat) (z : Int) : Value := if k = 5 then .long (Int64.ofInt z) else .int (Int32.ofInt z)
def ab_ac (cA : ClassId) (k : Nat) (a : Int × (Int → Int)) : Cell := arrV cA a.1.toNat (fun j => ab_el k (a.2 j))
def ab_oko (ci : Nat) (ob : ab_Ob) : Prop := ∀ f : Nat, (¬ ab_arr (ab_kd ci f) → ab_kd ci f ≤ 2 → ab_okk (ab_kd ci f) (ob.1 f)) ∧ (ab_arr (ab_kd ci f) → 0 ≤ (ob.2 f).1 ∧ (ob.2 f).1 ≤ 2147483647 ∧ ∀ i : Int, ab_okk (ab_kd ci f) ((ob.2 f).2 i))
def ab_ob (E : ab_E) (ad : Nat → Nat → Nat) (o ci : Nat) (ob : ab_Ob) (H : Heap) : Prop :=
  t_OB (ad o 0) (E.1.1 ci) (ab_lay ci).length (E.1.2 ci) H (fun f => ab_fv ad o ob f (ab_kd ci f)) ∧ (∀ f : Nat, ab_arr (ab_kd ci f) → H[ad o (f + 1)]? = some (ab_ac (E.2.1 (ab_kd ci f)) (ab_kd ci f) (ob.2 f))) ∧ ab_oko ci ob
def ab_W (E : ab_E) (ad : Nat → Nat → Nat) (G : List Nat) (ws : List ab_Ob) (H : Heap) : Prop :=
  ws.length = G.length ∧ ∀ (o ci : Nat) (ob : ab_Ob), ab_at G o = some ci → ab_at ws o = some ob → ab_ob E ad o ci ob H
def ab_sl (G : List Nat) (o : Nat) : Nat → Prop
  | 0 => ∃ ci, ab_at G o = some ci
  | f + 1 => ∃ ci, ab_at G o = some ci ∧ ab_arr (ab_kd ci f)
def ab_ia (ad : Nat → Nat → Nat) (G : List Nat) (A : Nat → Prop) : Prop :=
  (∀ o f o' f' : Nat, ab_sl G o f → ab_sl G o' f' → ad o f = ad o' f' → o = o' ∧ f = f') ∧ ∀ o f : Nat, ab_sl G o f → A (ad o f)
def ab_rg (G : List Nat) (ad : Nat → Nat → Nat) (sz : Nat) : Nat → Prop := fun q => (∃ o f : Nat, ab_sl G o f ∧ ad o f = q) ∨ sz ≤ q
def ab_rel (mv : Bool) (ad0 ad : Nat → Nat → Nat) : Prop := (∀ o : Nat, ad o 0 = ad0 o 0) ∧ (mv = false → ∀ o f : Nat, ad o f = ad0 o f)
/-- the strings as the tables have them: class, entry, text, number -/
def ab_sts : List (String × Nat × String × Nat) := [("HeadTrees$Reader", 77, "piece", 0), ("HeadTrees$Reader", 96, "bar", 3), ("HeadTrees$Reader", 104, "beat", 4), ("HeadTrees$Reader", 108, "key", 5), ("HeadTrees$Reader", 86, "note", 1), ("HeadTrees$Reader", 115, "long", 6), ("HeadTrees$Reader", 91, "rule", 2), ("HeadTrees$Reader", 128, "strong", 7), ("HeadTrees$Reader", 130, "stable", 8), ("HeadTrees$Reader", 132, "step", 9), ("HeadTrees$Reader", 134, "even", 10), ("HeadTrees$Reader", 136, "close", 11), ("HeadTreesModel", 179, "piece", 0), ("HeadTreesModel", 194, "bar", 3), ("HeadTreesModel", 200, "beat", 4), ("HeadTreesModel", 205, "key", 5), ("HeadTreesModel", 184, "note", 1), ("HeadTreesModel", 211, "long", 6), ("HeadTreesModel", 189, "rule", 2), ("HeadTreesModel", 213, "strong", 7), ("HeadTreesModel", 215, "stable", 8), ("HeadTreesModel", 217, "step", 9), ("HeadTreesModel", 219, "even", 10), ("HeadTreesModel", 221, "close", 11)]
def ab_tys (E : ab_E) : List (ClassId × FieldType) := [(E.2.1 3, .int), (E.2.1 4, .byte), (E.2.1 5, .long), (E.2.1 6, .boolean)]
def ab_len : List Nat := [5, 4, 4, 3, 4, 3, 4, 6, 6, 4, 4, 5]
def ab_byt : List (List Int32) := [[112, 105, 101, 99, 101], [110, 111, 116, 101], [114, 117, 108, 101], [98, 97, 114], [98, 101, 97, 116], [107, 101, 121], [108, 111, 110, 103], [115, 116, 114, 111, 110, 103], [115, 116, 97, 98, 108, 101], [115, 116, 101, 112], [101, 118, 101, 110], [99, 108, 111, 115, 101]]
def ab_K (E : ab_E) (A : Nat → Prop) (U : State) (H : Heap) : Prop :=
  va_K E.1 vwCl (ab_tys E) U ∧ vk_S 12 ab_len ab_byt E.2.2.1 E.2.2.2 A U H ∧ (∀ q ∈ ab_sts, vk_R q.1 q.2.1 q.2.2.1 (E.2.2.1 q.2.2.2) U) ∧ va_Z "java/lang/String" "COMPACT_STRINGS" "Z" (.int 1) A U H
/-- what is behind a call -/
def ab_Q (E : ab_E) (ad0 : Nat → Nat → Nat) (sz : Nat) (M : ab_M) (Post : Option ab_V → List ab_Ob → Prop) : Array Value → State → Outcome → State → Prop := fun _ st oc t =>
  (∃ (rv : Option ab_V) (ws : List ab_Ob) (ad : Nat → Nat → Nat), oc = .returned (rv.map (ab_cv ad E.2.2.1)) ∧ Post rv ws ∧ (∀ v, rv = some v → ab_okv v) ∧ ab_W E ad (ab_G M) ws t.heap ∧ ab_rel (ab_mv M) ad0 ad ∧ ab_ia ad (ab_G M) (ab_rg (ab_G M) ad0 sz)) ∧ va_F (ab_rg (ab_G M) ad0 sz) st t
/-- what the tables say of a method -/
def ab_mok (M : ab_M) : Prop :=
  .code (ab_nm M) (ab_cd M) (ab_ml M) (ab_rt M) ∈ ab_gw ∧ .initialized (ab_nm M).cls ∈ ab_gw ∧ ((ab_nm M).cls ≠ "java/lang/invoke/MethodHandle" ∧ (ab_nm M).cls ≠ "java/lang/invoke/VarHandle" ∧ (parseMethodDescriptor (ab_nm M).desc).map (fun d => d.parameters.length) = some (ab_na M)) ∧ ab_ml M ≤ 18 ∧
  (if ab_st M = true then .static (ab_nm M) ∈ ab_gw else (.instanceMethod (ab_nm M) ∈ ab_gw ∧ .selects (ab_nm M).cls (ab_nm M) (ab_nm M) ∈ ab_gw ∧ ((∃ T N, vwCl[ab_ci M]? = some ((ab_nm M).cls, T, N)) ∨ (ab_ci M = 100 ∧ (ab_nm M).cls = "java/lang/String"))))
/-- a call of M returns, with what Post says -/
def ab_WC (d mc ms : Nat) (M : ab_M) (as : List ab_V) (ws : List ab_Ob) (Post : Option ab_V → List ab_Ob → Prop) : Prop :=
  ab_mok M ∧ ∀ (l : Launch) (E : ab_E) (ad : Nat → Nat → Nat) (sz : Nat), (∀ v ∈ as, ab_okv v) →
    Met l (ab_nm M) (ab_ws M) (ab_rm d mc ms) (va_Pc (as.map (ab_cv ad E.2.2.1)) (fun U => U.heap.size = sz ∧ ab_W E ad (ab_G M) ws U.heap ∧ ab_ia ad (ab_G M) (fun _ => True) ∧ ab_K E (ab_rg (ab_G M) ad sz) U U.heap)) (ab_Q E ad sz M Post) mc ms (ab_rg (ab_G M) ad sz)
/-- a call of M: its answer and its world are so -/
def ab_Ct (d mc ms : Nat) (M : ab_M) (as : List ab_V) (ws : List ab_Ob) (Q : Option ab_V → List ab_Ob → Prop) : Prop :=
  ab_WC d mc ms M as ws (fun r w => (ab_shr (ab_rt M) (ab_rp M) r ∧ ab_shw (ab_wr M) ws w) ∧ Q r w)
abbrev ab_KT : Type := List ab_R → List (Option ab_V) → List ab_V → List ab_Ob → Nat → Nat → Prop
def ab_sw (x : Int) (hi : Int) : Int → List Nat → (Nat → Prop) → Prop
  | _, [], _ => True
  | v, t :: ts, k => (x = v → k t) ∧ ab_sw x hi (v + 1) ts k
def ab_ldI (lv : List (Option ab_V)) (i : Nat) (k : ab_V → Prop) : Prop := match ab_at lv i with
  | some (some (.inl z)) => k (.inl z)
  | _ => False
def ab_ldL (lv : List (Option ab_V)) (i : Nat) (k : ab_V → Prop) : Prop := match ab_at lv i with
  | some (some (.inr (.inl z))) => k (.inr (.inl z))
  | _ => False
def ab_ldA (lv : List (Option ab_V)) (i : Nat) (k : ab_V → Prop) : Prop := match ab_at lv i with
  | some (some (.inr (.inr r))) => k (.inr (.inr r))
  | _ => False
def ab_if (cn : Jvm.ClassFile.Cond) (x y : Int) (kt kf : Prop) : Prop := match cn with
  | .eq => (x = y → kt) ∧ (¬ x = y → kf)
  | .ne => (¬ x = y → kt) ∧ (x = y → kf)
  | .lt => (x < y → kt) ∧ (¬ x < y → kf)
  | .ge => (y ≤ x → kt) ∧ (¬ y ≤ x → kf)
  | .gt => (y < x → kt) ∧ (¬ y < x → kf)
  | .le => (x ≤ y → kt) ∧ (¬ x ≤ y → kf)
def ab_ald (G : List Nat) (ws : List ab_Ob) (o f : Nat) (i : Int) (q : Nat → Bool) (k : Nat → Int → Prop) : Prop := match ab_at G o, ab_at ws o with
  | some ci, some ob => match q (ab_kd ci f) with
    | true => (0 ≤ i ∧ i < (ob.2 f).1) ∧ k (ab_kd ci f) ((ob.2 f).2 i)
    | false => False
  | _, _ => False
def ab_ast (G : List Nat) (ws : List ab_Ob) (o f : Nat) (i : Int) (q : Nat → Bool) (k : Nat → (Int → List ab_Ob) → Prop) : Prop := match ab_at G o, ab_at ws o with
  | some ci, some ob => match q (ab_kd ci f) with
    | true => (0 ≤ i ∧ i < (ob.2 f).1) ∧ k (ab_kd ci f) (fun z => ab_set ws o (ab_pa ob f i z))
    | false => False
  | _, _ => False
def ab_getf (G : List Nat) (ws : List ab_Ob) (o a f : Nat) (k : ab_V → Prop) : Prop := match ab_at G o, ab_at ws o with
  | some ci, some ob => match Nat.beq ci a with
    | true => match ab_kd ci f with
      | 0 => k (.inl (ob.1 f))
      | 1 => k (.inl (ob.1 f))
      | 2 => k (.inr (.inl (ob.1 f)))
      | 3 => k (ab_A o f)
      | 4 => k (ab_A o f)
      | 5 => k (ab_A o f)
      | 6 => k (ab_A o f)
      | j + 7 => k (ab_O (o + j))
    | false => False
  | _, _ => False
def ab_putf (G : List Nat) (ws : List ab_Ob) (o a f : Nat) (v : ab_V) (k : List ab_Ob → Prop) : Prop := match ab_at G o, ab_at ws o with
  | some ci, some ob => match Nat.beq ci a with
    | true => match ab_kd ci f, v with
      | 0, .inl z => ab_frc (ab_set ws o (ab_pf ob f z)) k
      | 1, .inl z => (z = 0 ∨ z = 1) ∧ ab_frc (ab_set ws o (ab_pf ob f z)) k
      | 2, .inr (.inl z) => ab_frc (ab_set ws o (ab_pf ob f z)) k
      | _, _ => False
    | false => False
  | _, _ => False
def ab_newf (G : List Nat) (ws : List ab_Ob) (o a f : Nat) (n : Int) (q : Nat → Bool) (k : List ab_Ob → Prop) : Prop := match ab_at G o, ab_at ws o with
  | some ci, some ob => match Nat.beq ci a && q (ab_kd ci f) with
    | true => ab_frc (ab_set ws o (ab_pn ob f n)) k
    | false => False
  | _, _ => False
def ab_isN (t k : Nat) : Bool := Nat.beq k t
def ab_isB (k : Nat) : Bool := Nat.beq k 4 || Nat.beq k 6
def ab_atk : ArrayType → Nat
  | .int => 3
  | .byte => 4
  | .long => 5
  | .boolean => 6
  | _ => 0
def ab_inv (G : List Nat) (d mc ms : Nat) (mv : Bool) (K : ab_KT) (M : ab_M) (rs : List ab_R) (lv : List (Option ab_V)) (as rest : List ab_V) (ws : List ab_Ob) (kc ks : Nat) : Prop :=
  match ab_pls as (ab_pt M) with
  | none => False
  | some pl => match ab_rens pl as, ab_sub ws pl, ab_sub G pl with
    | some as', some ws', some G' => match ab_nd pl && (ab_eqs G' (ab_G M) && (ab_ck2 pl 0 pl G' && (Nat.ble (ab_cats rest) 8 && (!(ab_mv M) || (mv && (ab_nas rest && ab_nal lv)))))) with
      | true => ab_exA kc ks mc ms (ab_al M) fun mc' ms' => ∃ Q : Option ab_V → List ab_Ob → Prop, ab_Ct d mc' ms' M as' ws' Q ∧ ab_alR (ab_rt M) (ab_rp M) fun rv => ab_alW (ab_wr M) ws' fun ws'' => Q rv ws'' →
          match ab_back pl rv rest with
          | some st => ab_frc (ab_put ws pl ws'') fun ws3 => K rs lv st ws3 (kc + mc') (ks + ms')
          | none => False
      | false => False
    | _, _, _ => False
/-! stack helpers -/
def ab_pI : List ab_V → (Int → List ab_V → Prop) → Prop
  | .inl z :: st, k => k z st
  | _, _ => False
def ab_pL : List ab_V → (Int → List ab_V → Prop) → Prop
  | .inr (.inl z) :: st, k => k z st
  | _, _ => False
def ab_pR : List ab_V → (Nat ⊕ ((Nat × Nat) ⊕ Nat) → List ab_V → Prop) → Prop
  | .inr (.inr z) :: st, k => k z st
  | _, _ => False
def ab_pO : List ab_V → (Nat → List ab_V → Prop) → Prop
  | .inr (.inr (.inl o)) :: st, k => k o st
  | _, _ => False
def ab_pA : List ab_V → (Nat → Nat → List ab_V → Prop) → Prop
  | .inr (.inr (.inr (.inl q))) :: st, k => k q.1 q.2 st
  | _, _ => False
def ab_pY : List ab_V → (ab_V → List ab_V → Prop) → Prop
  | v :: st, k => k v st
  | _, _ => False
def ab_pV : List ab_V → (ab_V → List ab_V → Prop) → Prop
  | v :: st, k => match ab_cat v with
    | 1 => k v st
    | _ => False
  | _, _ => False
def ab_nil : List ab_V → Prop → Prop
  | [], k => k
  | _, _ => False
def ab_one : List Nat → (Nat → Prop) → Prop
  | [t], k => k t
  | _, _ => False
def ab_hd : List Nat → (Nat → List Nat → Prop) → Prop
  | t :: ts, k => k t ts
  | _, _ => False
def ab_sel : Nat → Prop → Prop → Prop
  | 0, a, _ => a
  | _ + 1, _, b => b
def ab_imth (c : Nat) (p10 p11 p12 p13 p0 : Prop) : Prop := match c with
  | 10 => p10
  | 11 => p11
  | 12 => p12
  | 13 => p13
  | 0 => p0
  | _ => False
def ab_iinc (lv : List (Option ab_V)) (i : Nat) (k : Int → Prop) : Prop := match ab_at lv i with
  | some (some (.inl z)) => k z
  | _ => False
def ab_pnx : Bool → List ab_R → (Nat → Nat → List ab_R → Prop) → Prop
  | true, (_, .putfield _, _, a, f, _, _, _) :: rs2, k => k a f rs2
  | _, _, _ => False
def ab_bst (kd : Nat) (x : Int) (k : Int → Prop) : Prop := match kd with
  | 4 => k (ab_i8 x)
  | _ => (x = 0 ∨ x = 1) ∧ k x
def ab_aln (G : List Nat) (ws : List ab_Ob) (o f : Nat) (k : Int → Prop) : Prop := match ab_at G o, ab_at ws o with
  | some ci, some ob => match Nat.ble 3 (ab_kd ci f) && Nat.ble (ab_kd ci f) 6 with
    | true => k (ob.2 f).1
    | false => False
  | _, _ => False
def ab_irt (rt : Option FieldType) (z : Int) (k : Prop) : Prop := match rt with
  | some .int => k
  | some .boolean => (z = 0 ∨ z = 1) ∧ k
  | _ => False
def ab_lrt (rt : Option FieldType) (k : Prop) : Prop := match rt with
  | some .long => k
  | _ => False
def ab_art (rt : Option FieldType) (k : Prop) : Prop := match rt with
  | some (.object _) => k
  | _ => False
def ab_vrt (rt : Option FieldType) (k : Prop) : Prop := match rt with
  | none => k
  | _ => False
def ab_le8 (st : List ab_V) (k : Prop) : Prop := match Nat.ble (ab_cats st) 8 with
  | true => k
  | false => False
def ab_vir (G : List Nat) (Mo : Option ab_M) (st : List ab_V) (k : ab_M → List ab_V → List ab_V → Prop) : Prop := match Mo with
  | some M => match ab_st M, ab_take (ab_na M + 1) [] st with
    | false, some (.inr (.inr (.inl o)) :: as, rest) => match ab_at G o with
      | some ci => match Nat.beq ci (ab_ci M) && Nat.blt ci 10 with
        | true => k M (.inr (.inr (.inl o)) :: as) rest
        | false => False
      | none => False
    | false, some (.inr (.inr (.inr (.inr n))) :: as, rest) => match Nat.beq (ab_ci M) 100 with
      | true => n < 12 ∧ k M (.inr (.inr (.inr (.inr n))) :: as) rest
      | false => False
    | _, _ => False
  | none => False
def ab_sta (Mo : Option ab_M) (st : List ab_V) (k : ab_M → List ab_V → List ab_V → Prop) : Prop := match Mo with
  | some M => match ab_st M, ab_take (ab_na M) [] st with
    | true, some (as, rest) => k M as rest
    | _, _ => False
  | none => False
/-- one instruction -/
def ab_step (G : List Nat) (rows : List ab_R) (d mc ms : Nat) (mv : Bool) (rt : Option FieldType) (Post : Option ab_V → List ab_Ob → Prop) (K : ab_KT) (r : ab_R) (rs : List ab_R) (lv : List (Option ab_V)) (st : List ab_V) (ws : List ab_Ob) (kc ks : Nat) : Prop :=
  match r.2.1 with
  | .iconst z => K rs lv (.inl z :: st) ws kc ks
  | .bipush z => K rs lv (.inl z :: st) ws kc ks
  | .sipush z => K rs lv (.inl z :: st) ws kc ks
  | .ldc i => ab_sel r.2.2.2.2.2.1 (K rs lv (.inl (r.2.2.2.2.1 : Nat) :: st) ws kc ks) (K rs lv (ab_S r.2.2.2.2.1 :: st) ws kc ks)
  | .ldc_w i => K rs lv (.inl (r.2.2.2.2.1 : Nat) :: st) ws kc ks
  | .ldc2_w i => K rs lv (.inr (.inl (r.2.2.2.2.1 : Nat)) :: st) ws kc ks
  | .lconst z => K rs lv (.inr (.inl (z : Nat)) :: st) ws kc ks
  | .iload i => ab_ldI lv i fun v => K rs lv (v :: st) ws kc ks
  | .iload_n i => ab_ldI lv i fun v => K rs lv (v :: st) ws kc ks
  | .lload i => ab_ldL lv i fun v => K rs lv (v :: st) ws kc ks
  | .lload_n i => ab_ldL lv i fun v => K rs lv (v :: st) ws kc ks
  | .aload i => ab_ldA lv i fun v => K rs lv (v :: st) ws kc ks
  | .aload_n i => ab_ldA lv i fun v => K rs lv (v :: st) ws kc ks
  | .istore i => ab_pI st fun z st => ab_frc (ab_s1 lv i (.inl z)) fun lv1 => K rs lv1 st ws kc ks
  | .istore_n i => ab_pI st fun z st => ab_frc (ab_s1 lv i (.inl z)) fun lv1 => K rs lv1 st ws kc ks
  | .lstore i => ab_pL st fun z st => ab_frc (ab_s2 lv i (.inr (.inl z))) fun lv1 => K rs lv1 st ws kc ks
  | .lstore_n i => ab_pL st fun z st => ab_frc (ab_s2 lv i (.inr (.inl z))) fun lv1 => K rs lv1 st ws kc ks
  | .astore i => ab_pR st fun z st => ab_frc (ab_s1 lv i (.inr (.inr z))) fun lv1 => K rs lv1 st ws kc ks
  | .astore_n i => ab_pR st fun z st => ab_frc (ab_s1 lv i (.inr (.inr z))) fun lv1 => K rs lv1 st ws kc ks
  | .iinc i n => ab_iinc lv i fun z => ab_num (z + n) (ab_frc (ab_s1 lv i (.inl (z + n))) fun lv1 => K rs lv1 st ws kc ks)
  | .iadd => ab_pI st fun y st => ab_pI st fun x st => ab_num (x + y) (K rs lv (.inl (x + y) :: st) ws kc ks)
  | .isub => ab_pI st fun y st => ab_pI st fun x st => ab_num (x - y) (K rs lv (.inl (x - y) :: st) ws kc ks)
  | .imul => ab_pI st fun y st => ab_pI st fun x st => ab_num (x * y) (K rs lv (.inl (x * y) :: st) ws kc ks)
  | .ineg => ab_pI st fun x st => ab_num (-x) (K rs lv (.inl (-x) :: st) ws kc ks)
  | .idiv => ab_pI st fun y st => ab_pI st fun x st => (¬ y = 0) ∧ ab_num (x.tdiv y) (K rs lv (.inl (x.tdiv y) :: st) ws kc ks)
  | .irem => ab_pI st fun y st => ab_pI st fun x st => (¬ y = 0) ∧ ab_num (x.tmod y) (K rs lv (.inl (x.tmod y) :: st) ws kc ks)
  | .iand => ab_pI st fun y st => ab_pI st fun x st => K rs lv (.inl (Int32.ofInt x &&& Int32.ofInt y).toInt :: st) ws kc ks
  | .ior => ab_pI st fun y st => ab_pI st fun x st => K rs lv (.inl (Int32.ofInt x ||| Int32.ofInt y).toInt :: st) ws kc ks
  | .ixor => ab_pI st fun y st => ab_pI st fun x st => K rs lv (.inl (Int32.ofInt x ^^^ Int32.ofInt y).toInt :: st) ws kc ks
  | .ishl => ab_pI st fun y st => ab_pI st fun x st => K rs lv (.inl (Int32.ofInt x <<< (Int32.ofInt y &&& 31)).toInt :: st) ws kc ks
  | .ishr => ab_pI st fun y st => ab_pI st fun x st => K rs lv (.inl (Int32.ofInt x >>> (Int32.ofInt y &&& 31)).toInt :: st) ws kc ks
  | .i2b => ab_pI st fun x st => K rs lv (.inl (ab_i8 x) :: st) ws kc ks
  | .i2l => ab_pI st fun x st => K rs lv (.inr (.inl x) :: st) ws kc ks
  | .ladd => ab_pL st fun y st => ab_pL st fun x st => ab_lng (x + y) (K rs lv (.inr (.inl (x + y)) :: st) ws kc ks)
  | .lmul => ab_pL st fun y st => ab_pL st fun x st => ab_lng (x * y) (K rs lv (.inr (.inl (x * y)) :: st) ws kc ks)
  | .ldiv => ab_pL st fun y st => ab_pL st fun x st => (¬ y = 0) ∧ ab_lng (x.tdiv y) (K rs lv (.inr (.inl (x.tdiv y)) :: st) ws kc ks)
  | .lor => ab_pL st fun y st => ab_pL st fun x st => K rs lv (.inr (.inl (Int64.ofInt x ||| Int64.ofInt y).toInt) :: st) ws kc ks
  | .lshl => ab_pI st fun y st => ab_pL st fun x st => K rs lv (.inr (.inl (Int64.ofInt x <<< ((Int32.ofInt y).toInt64 &&& 63)).toInt) :: st) ws kc ks
  | .lcmp => ab_pL st fun y st => ab_pL st fun x st => K rs lv (.inl (ab_cmp x y) :: st) ws kc ks
  | .dup => ab_pV st fun v st => K rs lv (v :: v :: st) ws kc ks
  | .pop => ab_pV st fun _ st => K rs lv st ws kc ks
  | .dup2 => ab_pV st fun v st => ab_pV st fun w st => K rs lv (v :: w :: v :: w :: st) ws kc ks
  | .ifCond cn off => ab_pI st fun x st => ab_one r.2.2.2.2.2.2.1 fun t => ab_if cn x 0 (K (ab_seek rows t) lv st ws kc ks) (K rs lv st ws kc ks)
  | .if_icmp cn off => ab_pI st fun y st => ab_pI st fun x st => ab_one r.2.2.2.2.2.2.1 fun t => ab_if cn x y (K (ab_seek rows t) lv st ws kc ks) (K rs lv st ws kc ks)
  | .goto off => ab_one r.2.2.2.2.2.2.1 fun t => K (ab_seek rows t) lv st ws kc ks
  | .tableswitch dflt lo hi offs => ab_pI st fun x st => ab_hd r.2.2.2.2.2.2.1 fun t ts => (x < lo ∨ hi < x → K (ab_seek rows t) lv st ws kc ks) ∧ ab_sw x hi lo ts (fun t => K (ab_seek rows t) lv st ws kc ks)
  | .getfield i => ab_pO st fun o st => ab_getf G ws o r.2.2.2.1 r.2.2.2.2.1 fun v => K rs lv (v :: st) ws kc ks
  | .putfield i => ab_pY st fun v st => ab_pO st fun o st => ab_putf G ws o r.2.2.2.1 r.2.2.2.2.1 v fun ws' => K rs lv st ws' kc ks
  | .newarray ty => ab_pI st fun n st => ab_pO st fun o st => ab_pnx (mv && (ab_nas st && ab_nal lv)) rs fun a f rs2 => (0 ≤ n ∧ n ≤ 100000) ∧ (kc + 1 ≤ mc ∧ ks + n.toNat ≤ ms) ∧ ab_newf G ws o a f n (ab_isN (ab_atk ty)) fun ws' => K rs2 lv st ws' (kc + 1) (ks + n.toNat)
  | .iaload => ab_pI st fun i st => ab_pA st fun o f st => ab_ald G ws o f i (ab_isN 3) fun _ z => K rs lv (.inl z :: st) ws kc ks
  | .baload => ab_pI st fun i st => ab_pA st fun o f st => ab_ald G ws o f i ab_isB fun _ z => K rs lv (.inl z :: st) ws kc ks
  | .laload => ab_pI st fun i st => ab_pA st fun o f st => ab_ald G ws o f i (ab_isN 5) fun _ z => K rs lv (.inr (.inl z) :: st) ws kc ks
  | .iastore => ab_pI st fun x st => ab_pI st fun i st => ab_pA st fun o f st => ab_ast G ws o f i (ab_isN 3) fun _ w => ab_frc (w x) fun ws1 => K rs lv st ws1 kc ks
  | .lastore => ab_pL st fun x st => ab_pI st fun i st => ab_pA st fun o f st => ab_ast G ws o f i (ab_isN 5) fun _ w => ab_frc (w x) fun ws1 => K rs lv st ws1 kc ks
  | .bastore => ab_pI st fun x st => ab_pI st fun i st => ab_pA st fun o f st => ab_ast G ws o f i ab_isB fun k w => ab_bst k x fun z => ab_frc (w z) fun ws1 => K rs lv st ws1 kc ks
  | .arraylength => ab_pA st fun o f st => ab_aln G ws o f fun n => K rs lv (.inl n :: st) ws kc ks
  | .ireturn => ab_pI st fun z st => ab_nil st (ab_irt rt z (Post (some (.inl z)) ws))
  | .lreturn => ab_pL st fun z st => ab_nil st (ab_lrt rt (Post (some (.inr (.inl z))) ws))
  | .areturn => ab_pO st fun o st => ab_nil st (ab_art rt (Post (some (ab_O o)) ws))
  | .return_ => ab_nil st (ab_vrt rt (Post none ws))
  | .invokevirtual i => ab_vir G r.2.2.2.2.2.2.2 st fun M as rest => ab_inv G d mc ms mv K M rs lv as rest ws kc ks
  | .invokestatic i => ab_imth r.2.2.2.2.2.1 (ab_pI st fun y st => ab_pI st fun x st => ab_le8 st (K rs lv (.inl (if x < y then y else x) :: st) ws kc ks)) (ab_pI st fun y st => ab_pI st fun x st => ab_le8 st (K rs lv (.inl (if y < x then y else x) :: st) ws kc ks)) (ab_pI st fun x st => ab_le8 st (ab_num (-x) (K rs lv (.inl (if 0 ≤ x then x else 0 - x) :: st) ws kc ks))) (ab_pL st fun y st => ab_pL st fun x st => ab_le8 st (K rs lv (.inr (.inl (if y < x then y else x)) :: st) ws kc ks)) (ab_sta r.2.2.2.2.2.2.2 st fun M as rest => ab_inv G d mc ms mv K M rs lv as rest ws kc ks)
  | _ => False
def ab_nx (stops : List (Nat × List Bool)) (leaf : Nat → List (Option ab_V) → List ab_V → List ab_Ob → Nat → Nat → Prop) (K : ab_KT) : ab_KT := fun rs lv st ws kc ks => match rs with
  | [] => False
  | r :: rs => match ab_stop stops r.1 with
    | some bs => leaf r.1 (ab_mask bs lv) st ws kc ks
    | none => K (r :: rs) lv st ws kc ks
def ab_wp (G : List Nat) (rows : List ab_R) (stops : List (Nat × List Bool)) (d mc ms : Nat) (mv : Bool) (rt : Option FieldType) (leaf : Nat → List (Option ab_V) → List ab_V → List ab_Ob → Nat → Nat → Prop) (Post : Option ab_V → List ab_Ob → Prop) : Nat → ab_KT
  | 0, _, _, _, _, _, _ => False
  | _ + 1, [], _, _, _, _, _ => False
  | n + 1, r :: rs, lv, st, ws, kc, ks => ab_step G rows d mc ms mv rt Post (ab_nx stops leaf (ab_wp G rows stops d mc ms mv rt leaf Post n)) r rs lv st ws kc ks
end
section
/-! SOUNDNESS of the abstract machine, first part: small facts -/
theorem ab_at_eq {α : Type} (l : List α) (i : Nat) : ab_at l i = l[i]? := by
  induction l generalizing i with
  | nil => simp [ab_at]
  | cons x l ih => cases i with
    | zero => simp [ab_at]
    | succ i => simp [ab_at, ih]
theorem ab_set_eq {α : Type} (l : List α) (i : Nat) (y : α) : ab_set l i y = l.set i y := by
  induction l generalizing i with
  | nil => simp [ab_set]
  | cons x l ih => cases i with
    | zero => simp [ab_set]
    | succ i => simp [ab_set, ih]
theorem ab_set_len {α : Type} (l : List α) (i : Nat) (y : α) : (ab_set l i y).length = l.length := by rw [ab_set_eq]; simp
theorem ab_at_set_eq {α : Type} {l : List α} {i : Nat} {y : α} (h : i < l.length) : ab_at (ab_set l i y) i = some y := by
  rw [ab_at_eq, ab_set_eq]; simp [h]
theorem ab_at_set_ne {α : Type} {l : List α} {i j : Nat} {y : α} (h : i ≠ j) : ab_at (ab_set l i y) j = ab_at l j := by
  rw [ab_at_eq, ab_set_eq, ab_at_eq]; simp [h]
theorem ab_at_lt {α : Type} {l : List α} {i : Nat} {y : α} (h : ab_at l i = some y) : i < l.length := by
  rw [ab_at_eq] at h; exact (List.getElem?_eq_some_iff.mp h).1
theorem ab_at_mem {α : Type} {l : List α} {i : Nat} {y : α} (h : ab_at l i = some y) : y ∈ l := by
  rw [ab_at_eq] at h; exact List.mem_of_getElem? h
theorem ab_frc_eq {α : Type} (l : List α) (k : List α → Prop) : ab_frc l k = k l := by
  induction l generalizing k with
  | nil => rfl
  | cons x l ih => simp only [ab_frc, ih]
/-- the locals as the kit has them -/
def ab_lc (ad : Nat → Nat → Nat) (ak : Nat → Nat) : Nat → List (Option ab_V) → List (Nat × Value)
  | _, [] => []
  | i, none :: l => ab_lc ad ak (i + 1) l
  | i, some v :: l => (i, ab_cv ad ak v) :: ab_lc ad ak (i + 1) l
theorem ab_lc_mem {ad : Nat → Nat → Nat} {ak : Nat → Nat} {lv : List (Option ab_V)} {n : Nat} {q : Nat × Value} : q ∈ ab_lc ad ak n lv ↔ ∃ (j : Nat) (v : ab_V), ab_at lv j = some (some v) ∧ q = (n + j, ab_cv ad ak v) := by
  induction lv generalizing n with
  | nil => simp [ab_lc, ab_at]
  | cons w l ih =>
    cases w with
    | none =>
      simp only [ab_lc, ih]
      constructor
      · rintro ⟨j, v, h1, h2⟩
        exact ⟨j + 1, v, h1, by rw [h2]; congr 1; omega⟩
      · rintro ⟨j, v, h1, h2⟩
        cases j with
        | zero => simp [ab_at] at h1
        | succ j => exact ⟨j, v, h1, by rw [h2]; congr 1; omega⟩
    | some u =>
      simp only [ab_lc, List.mem_cons, ih]
      constructor
      · rintro (h | ⟨j, v, h1, h2⟩)
        · exact ⟨0, u, rfl, h⟩
        · exact ⟨j + 1, v, h1, by rw [h2]; congr 1; omega⟩
      · rintro ⟨j, v, h1, h2⟩
        cases j with
        | zero =>
          simp only [ab_at, Option.some.injEq] at h1
          subst h1
          exact Or.inl h2
        | succ j => exact Or.inr ⟨j, v, h1, by rw [h2]; congr 1; omega⟩
theorem ab_lc_at {ad : Nat → Nat → Nat} {ak : Nat → Nat} {lv : List (Option ab_V)} {ls : Array Slot} {nL i : Nat} {v : ab_V} (h : lv_has ls nL (ab_lc ad ak 0 lv)) (hi : ab_at lv i = some (some v)) : ls[i]? = some (.val (ab_cv ad ak v)) := by
  have := h.2.2 (i, ab_cv ad ak v) (ab_lc_mem.mpr ⟨i, v, hi, by simp⟩)
  exact this
theorem ab_cv_cat (ad : Nat → Nat → Nat) (ak : Nat → Nat) (v : ab_V) : (ab_cv ad ak v).category = ab_cat v := by
  rcases v with z | z | o | q | n <;> rfl
theorem ab_kill_at {lv : List (Option ab_V)} {i j : Nat} {v : ab_V} (h : ab_at (ab_kill lv i) j = some (some v)) : ab_at lv j = some (some v) ∧ ¬ (j + 1 = i ∧ ab_cat v = 2) := by
  cases i with
  | zero => exact ⟨h, by omega⟩
  | succ i =>
    simp only [ab_kill] at h
    cases hw : ab_at lv i with
    | none =>
      rw [hw] at h
      refine ⟨h, fun ⟨h1, _⟩ => ?_⟩
      have : j = i := by omega
      subst this
      rw [hw] at h; cases h
    | some w =>
      rw [hw] at h
      dsimp only at h
      cases hb : ab_isL w with
      | true =>
        rw [hb] at h
        dsimp only at h
        by_cases hij : i = j
        · subst hij
          rw [ab_at_set_eq (ab_at_lt hw)] at h; cases h
        · rw [ab_at_set_ne hij] at h
          exact ⟨h, fun ⟨h1, _⟩ => hij (by omega)⟩
      | false =>
        rw [hb] at h
        dsimp only at h
        refine ⟨h, fun ⟨h1, h2⟩ => ?_⟩
        have : j = i := by omega
        subst this
        rw [hw] at h
        cases h
        rcases v with z | z | o | q | n
        · cases h2
        · cases hb
        · cases h2
        · cases h2
        · cases h2
theorem ab_kill_len (lv : List (Option ab_V)) (i : Nat) : (ab_kill lv i).length = lv.length := by
  cases i with
  | zero => rfl
  | succ i =>
    simp only [ab_kill]
    split
    · split
      · rw [ab_set_len]
      · rfl
    · rfl
theorem ab_s1_len (lv : List (Option ab_V)) (i : Nat) (v : ab_V) : (ab_s1 lv i v).length = lv.length := by
  unfold ab_s1; rw [ab_set_len, ab_kill_len]
theorem ab_s2_len (lv : List (Option ab_V)) (i : Nat) (v : ab_V) : (ab_s2 lv i v).length = lv.length := by
  unfold ab_s2; rw [ab_set_len, ab_set_len, ab_kill_len]
theorem ab_s1_at {lv : List (Option ab_V)} {i j : Nat} {v w : ab_V} (h : ab_at (ab_s1 lv i v) j = some (some w)) : (j = i ∧ w = v) ∨ (j ≠ i ∧ ab_at lv j = some (some w) ∧ ¬ (j + 1 = i ∧ ab_cat w = 2)) := by
  unfold ab_s1 at h
  by_cases hij : i = j
  · subst hij
    have hl : i < (ab_set (ab_kill lv i) i (some v)).length := ab_at_lt h
    rw [ab_set_len] at hl
    rw [ab_at_set_eq hl] at h
    cases h
    exact Or.inl ⟨rfl, rfl⟩
  · rw [ab_at_set_ne hij] at h
    have := ab_kill_at h
    exact Or.inr ⟨fun e => hij e.symm, this.1, this.2⟩
theorem ab_s2_at {lv : List (Option ab_V)} {i j : Nat} {v w : ab_V} (h : ab_at (ab_s2 lv i v) j = some (some w)) : (j = i ∧ w = v) ∨ (j ≠ i ∧ j ≠ i + 1 ∧ ab_at lv j = some (some w) ∧ ¬ (j + 1 = i ∧ ab_cat w = 2)) := by
  unfold ab_s2 at h
  by_cases hij : i = j
  · subst hij
    have hl : i < (ab_set (ab_set (ab_kill lv i) (i + 1) none) i (some v)).length := ab_at_lt h
    rw [ab_set_len] at hl
    rw [ab_at_set_eq hl] at h
    cases h
    exact Or.inl ⟨rfl, rfl⟩
  · rw [ab_at_set_ne hij] at h
    by_cases hij2 : i + 1 = j
    · subst hij2
      have hl := ab_at_lt h
      rw [ab_set_len] at hl
      rw [ab_at_set_eq hl] at h
      cases h
    · rw [ab_at_set_ne hij2] at h
      have := ab_kill_at h
      exact Or.inr ⟨fun e => hij e.symm, fun e => hij2 e.symm, this.1, this.2⟩
theorem ab_mem_at {α : Type} {l : List α} {y : α} (h : y ∈ l) : ∃ i, ab_at l i = some y := by
  obtain ⟨i, hi⟩ := List.getElem?_of_mem h
  exact ⟨i, by rw [ab_at_eq]; exact hi⟩
theorem ab_s1_ok {lv : List (Option ab_V)} {i : Nat} {v : ab_V} (h : ∀ w, some w ∈ lv → ab_okv w) (hv : ab_okv v) : ∀ w, some w ∈ ab_s1 lv i v → ab_okv w := by
  intro w hw
  obtain ⟨j, hj⟩ := ab_mem_at hw
  rcases ab_s1_at hj with ⟨_, rfl⟩ | ⟨_, h2, _⟩
  · exact hv
  · exact h w (ab_at_mem h2)
theorem ab_s2_ok {lv : List (Option ab_V)} {i : Nat} {v : ab_V} (h : ∀ w, some w ∈ lv → ab_okv w) (hv : ab_okv v) : ∀ w, some w ∈ ab_s2 lv i v → ab_okv w := by
  intro w hw
  obtain ⟨j, hj⟩ := ab_mem_at hw
  rcases ab_s2_at hj with ⟨_, rfl⟩ | ⟨_, _, h2, _⟩
  · exact hv
  · exact h w (ab_at_mem h2)
/-- fewer locals are known -/
theorem ab_lc_le {ad : Nat → Nat → Nat} {ak : Nat → Nat} {lv : List (Option ab_V)} {ls : Array Slot} {nL : Nat} {l : List (Nat × Value)} (h : lv_has ls nL l) (hs : ∀ j v, ab_at lv j = some (some v) → (j, ab_cv ad ak v) ∈ l) : lv_has ls nL (ab_lc ad ak 0 lv) := by
  refine ⟨h.1, h.2.1, fun q hq => ?_⟩
  obtain ⟨j, v, h1, h2⟩ := ab_lc_mem.mp hq
  rw [h2]
  simp only [Nat.zero_add]
  exact h.2.2 _ (hs j v h1)
theorem ab_lc_s1 {ad : Nat → Nat → Nat} {ak : Nat → Nat} {lv : List (Option ab_V)} {ls : Array Slot} {nL i : Nat} {v : ab_V} (h : lv_has ls nL ((i, ab_cv ad ak v) :: (ab_lc ad ak 0 lv).filter (fun q => !(q.1 == i) && !(q.1 + 1 == i && q.2.category == 2)))) : lv_has ls nL (ab_lc ad ak 0 (ab_s1 lv i v)) := by
  refine ab_lc_le h fun j w hj => ?_
  rcases ab_s1_at hj with ⟨rfl, rfl⟩ | ⟨h1, h2, h3⟩
  · exact List.mem_cons_self
  · refine List.mem_cons_of_mem _ (List.mem_filter.mpr ⟨ab_lc_mem.mpr ⟨j, w, h2, by simp⟩, ?_⟩)
    simp only [ab_cv_cat]
    simp
    exact ⟨h1, by by_cases e : j + 1 = i; exact Or.inr (fun c => h3 ⟨e, c⟩); exact Or.inl e⟩
theorem ab_lc_s2 {ad : Nat → Nat → Nat} {ak : Nat → Nat} {lv : List (Option ab_V)} {ls : Array Slot} {nL i : Nat} {v : ab_V} (h : lv_has ls nL ((i, ab_cv ad ak v) :: (ab_lc ad ak 0 lv).filter (fun q => !(q.1 == i) && (!(q.1 == i + 1) && !(q.1 + 1 == i && q.2.category == 2))))) : lv_has ls nL (ab_lc ad ak 0 (ab_s2 lv i v)) := by
  refine ab_lc_le h fun j w hj => ?_
  rcases ab_s2_at hj with ⟨rfl, rfl⟩ | ⟨h1, h1b, h2, h3⟩
  · exact List.mem_cons_self
  · refine List.mem_cons_of_mem _ (List.mem_filter.mpr ⟨ab_lc_mem.mpr ⟨j, w, h2, by simp⟩, ?_⟩)
    simp only [ab_cv_cat]
    simp
    exact ⟨h1, h1b, by by_cases e : j + 1 = i; exact Or.inr (fun c => h3 ⟨e, c⟩); exact Or.inl e⟩
theorem ab_mask_at {bs : List Bool} {lv : List (Option ab_V)} {j : Nat} {v : ab_V} (h : ab_at (ab_mask bs lv) j = some (some v)) : ab_at lv j = some (some v) := by
  induction bs generalizing lv j with
  | nil => cases lv <;> simpa [ab_mask] using h
  | cons b bs ih =>
    cases lv with
    | nil => cases b <;> simpa [ab_mask] using h
    | cons w l =>
      cases b with
      | true =>
        simp only [ab_mask] at h
        cases j with
        | zero => exact h
        | succ j => exact ih (lv := l) (j := j) h
      | false =>
        simp only [ab_mask] at h
        cases j with
        | zero => simp [ab_at] at h
        | succ j => exact ih (lv := l) (j := j) h
theorem ab_mask_len (bs : List Bool) (lv : List (Option ab_V)) : (ab_mask bs lv).length = lv.length := by
  induction bs generalizing lv with
  | nil => cases lv <;> rfl
  | cons b bs ih =>
    cases lv with
    | nil => cases b <;> rfl
    | cons w l => cases b <;> simp [ab_mask, ih]
/-! numbers -/
theorem ab_t32 {z : Int} (h : ab_okk 0 z) : (Int32.ofInt z).toInt = z := Int32.toInt_ofInt_of_le (by have := h.1; omega) (by have := h.2; omega)
theorem ab_t64 {z : Int} (h : ab_okk 2 z) : (Int64.ofInt z).toInt = z := Int64.toInt_ofInt_of_le (by have := h.1; omega) (by have := h.2; omega)
theorem ab_eq32 {x y : Int} (hx : ab_okk 0 x) (hy : ab_okk 0 y) : Int32.ofInt x = Int32.ofInt y ↔ x = y := by
  rw [← Int32.toInt_inj, ab_t32 hx, ab_t32 hy]
theorem ab_lt32 {x y : Int} (hx : ab_okk 0 x) (hy : ab_okk 0 y) : Int32.ofInt x < Int32.ofInt y ↔ x < y := by
  rw [Int32.lt_iff_toInt_lt, ab_t32 hx, ab_t32 hy]
theorem ab_le32 {x y : Int} (hx : ab_okk 0 x) (hy : ab_okk 0 y) : Int32.ofInt x ≤ Int32.ofInt y ↔ x ≤ y := by
  rw [Int32.le_iff_toInt_le, ab_t32 hx, ab_t32 hy]
theorem ab_ok0 : ab_okk 0 0 := ⟨by omega, by omega⟩
theorem ab_of0 : Int32.ofInt 0 = 0 := by decide
theorem ab_okT (v : Int32) : ab_okk 0 v.toInt := ⟨by have := v.le_toInt; omega, by have := v.toInt_lt; omega⟩
theorem ab_okT64 (v : Int64) : ab_okk 2 v.toInt := ⟨by have := v.le_toInt; omega, by have := v.toInt_lt; omega⟩
theorem ab_in32 {i n : Int} (hi : ab_okk 0 i) (h0 : 0 ≤ i) (hn : i < n) : ¬ (Int32.ofInt i < 0 ∨ n.toNat ≤ (Int32.ofInt i).toNatClampNeg) := by
  have e : (Int32.ofInt i).toNatClampNeg = i.toNat := by
    show (Int32.ofInt i).toInt.toNat = i.toNat
    rw [ab_t32 hi]
  rw [e, ← ab_of0, ab_lt32 hi ab_ok0]
  omega
theorem ab_cl32 {i : Int} (hi : ab_okk 0 i) : (Int32.ofInt i).toNatClampNeg = i.toNat := by
  show (Int32.ofInt i).toInt.toNat = i.toNat
  rw [ab_t32 hi]
end
section
/-! SOUNDNESS, second part: the judgement, rows that touch stack and locals alone -/
/-- the machine's own: p l e R s m args | below meth c Q | E ad0 M A d mc ms -/
abbrev ab_Cx : Type := (Program × Launch × Env × Room × State × MethodId × Array Value) × (List Frame × Method × Code × (State → Prop)) × (ab_E × (Nat → Nat → Nat) × ab_M × (Nat → Prop) × Nat × Nat × Nat)
abbrev ab_cs (x : ab_Cx) : State := x.1.2.2.2.2.1
abbrev ab_cm (x : ab_Cx) : MethodId := x.1.2.2.2.2.2.1
abbrev ab_ca (x : ab_Cx) : Array Value := x.1.2.2.2.2.2.2
abbrev ab_cR (x : ab_Cx) : Room := x.1.2.2.2.1
abbrev ab_cE (x : ab_Cx) : ab_E := x.2.2.1
abbrev ab_c0 (x : ab_Cx) : Nat → Nat → Nat := x.2.2.2.1
abbrev ab_cM (x : ab_Cx) : ab_M := x.2.2.2.2.1
abbrev ab_cA (x : ab_Cx) : Nat → Prop := x.2.2.2.2.2.1
abbrev ab_cd' (x : ab_Cx) : Nat := x.2.2.2.2.2.2.1
abbrev ab_cc (x : ab_Cx) : Nat := x.2.2.2.2.2.2.2.1
abbrev ab_ck (x : ab_Cx) : Nat := x.2.2.2.2.2.2.2.2
abbrev ab_Wx (x : ab_Cx) (H : Heap) (locs : List Loc) (kc ks : Nat) (g : JFrame) : Prop :=
  W x.1.1 x.1.2.1 x.1.2.2.1 (ab_cR x) (ab_cs x) (ab_cm x) (ab_ca x) x.2.1.1 x.2.1.2.1 x.2.1.2.2.1 H locs kc ks x.2.1.2.2.2 g
def ab_J (x : ab_Cx) (pc : Nat) (lv : List (Option ab_V)) (st : List ab_V) (ws : List ab_Ob) (kc ks : Nat) : Prop :=
  ∀ (ad : Nat → Nat → Nat) (H : Heap) (locs : List Loc) (ls : Array Slot), ab_rel (ab_mv (ab_cM x)) (ab_c0 x) ad → ab_W (ab_cE x) ad (ab_G (ab_cM x)) ws H → ab_ia ad (ab_G (ab_cM x)) (ab_cA x) → va_S (ab_cA x) (ab_cs x).heap H locs → lv_has ls (ab_ml (ab_cM x)) (ab_lc ad (ab_cE x).2.2.1 0 lv) → (∀ v ∈ st, ab_okv v) → (∀ v, some v ∈ lv → ab_okv v) → lv.length = ab_ml (ab_cM x) → kc ≤ ab_cc x ∧ ks ≤ ab_ck x →
    ab_Wx x H locs kc ks (F0 (ab_cm x) pc ls (st.map (ab_cv ad (ab_cE x).2.2.1)))
def ab_X (x : ab_Cx) : Prop :=
  x.1.1.tables.exec = Jvm.exec ∧ x.2.1.2.2.1.code = ab_cd (ab_cM x) ∧ x.2.1.2.2.1.maxLocals = ab_ml (ab_cM x) ∧ (ab_cs x).vm.findClass (ab_nm (ab_cM x)).cls = some (ab_cm x).cls ∧ (∀ w ∈ ab_gw, w.before (ab_ca x) (ab_cs x) = true) ∧ x.2.1.2.1.sig.returnType = ab_rt (ab_cM x) ∧ x.2.1.2.1.locks = false ∧ ab_K (ab_cE x) (ab_cA x) (ab_cs x) (ab_cs x).heap ∧ (∀ q, (ab_cs x).heap.size ≤ q → ab_cA x q) ∧ ab_cR x = ab_rm (ab_cd' x + 1) (ab_cc x) (ab_ck x)
theorem ab_X.ex {x : ab_Cx} (X : ab_X x) : x.1.1.tables.exec = Jvm.exec := X.1
theorem ab_X.cd {x : ab_Cx} (X : ab_X x) : x.2.1.2.2.1.code = ab_cd (ab_cM x) := X.2.1
theorem ab_X.ml {x : ab_Cx} (X : ab_X x) : x.2.1.2.2.1.maxLocals = ab_ml (ab_cM x) := X.2.2.1
theorem ab_X.own {x : ab_Cx} (X : ab_X x) : (ab_cs x).vm.findClass (ab_nm (ab_cM x)).cls = some (ab_cm x).cls := X.2.2.2.1
theorem ab_X.ts {x : ab_Cx} (X : ab_X x) : ∀ w ∈ ab_gw, w.before (ab_ca x) (ab_cs x) = true := X.2.2.2.2.1
theorem ab_X.rt {x : ab_Cx} (X : ab_X x) : x.2.1.2.1.sig.returnType = ab_rt (ab_cM x) := X.2.2.2.2.2.1
theorem ab_X.lk {x : ab_Cx} (X : ab_X x) : x.2.1.2.1.locks = false := X.2.2.2.2.2.2.1
theorem ab_X.K {x : ab_Cx} (X : ab_X x) : ab_K (ab_cE x) (ab_cA x) (ab_cs x) (ab_cs x).heap := X.2.2.2.2.2.2.2.1
theorem ab_X.A {x : ab_Cx} (X : ab_X x) : ∀ q, (ab_cs x).heap.size ≤ q → ab_cA x q := X.2.2.2.2.2.2.2.2.1
theorem ab_X.R {x : ab_Cx} (X : ab_X x) : ab_cR x = ab_rm (ab_cd' x + 1) (ab_cc x) (ab_ck x) := X.2.2.2.2.2.2.2.2.2
abbrev ab_dec (x : ab_Cx) (pc : Nat) (i : Instr) (n : Nat) : Prop := decode (ab_cd (ab_cM x)) pc = .ok (i, n)
/-- rows that change the stack alone -/
theorem ab_s_st {x : ab_Cx} {pc pc' : Nat} {lv : List (Option ab_V)} {st st' : List ab_V} {ws : List ab_Ob} {kc ks : Nat} (hok : (∀ v ∈ st, ab_okv v) → ∀ v ∈ st', ab_okv v)
    (hW : ∀ (ad : Nat → Nat → Nat) (H : Heap) (locs : List Loc) (ls : Array Slot), (∀ v ∈ st, ab_okv v) → lv_has ls (ab_ml (ab_cM x)) (ab_lc ad (ab_cE x).2.2.1 0 lv) → ab_Wx x H locs kc ks (F0 (ab_cm x) pc' ls (st'.map (ab_cv ad (ab_cE x).2.2.1))) → ab_Wx x H locs kc ks (F0 (ab_cm x) pc ls (st.map (ab_cv ad (ab_cE x).2.2.1))))
    (k : ab_J x pc' lv st' ws kc ks) : ab_J x pc lv st ws kc ks := by
  intro ad H locs ls h1 h2 h3 h4 h5 h6 h7 h8 h9
  exact hW ad H locs ls h6 h5 (k ad H locs ls h1 h2 h3 h4 h5 (hok h6) h7 h8 h9)
section
variable {x : ab_Cx} {pc : Nat} {lv : List (Option ab_V)} {st : List ab_V} {ws : List ab_Ob} {kc ks : Nat}
theorem ab_okc {v : ab_V} (hv : ab_okv v) : (∀ w ∈ st, ab_okv w) → ∀ w ∈ v :: st, ab_okv w := fun h w hw => by
  rcases List.mem_cons.mp hw with rfl | hw
  · exact hv
  · exact h w hw
theorem ab_ok2 {a b v : ab_V} (hv : ab_okv a → ab_okv b → ab_okv v) : (∀ w ∈ a :: b :: st, ab_okv w) → ∀ w ∈ v :: st, ab_okv w := fun h w hw => by
  rcases List.mem_cons.mp hw with rfl | hw
  · exact hv (h _ List.mem_cons_self) (h _ (List.mem_cons_of_mem _ List.mem_cons_self))
  · exact h w (List.mem_cons_of_mem _ (List.mem_cons_of_mem _ hw))
theorem ab_ok1 {a v : ab_V} (hv : ab_okv a → ab_okv v) : (∀ w ∈ a :: st, ab_okv w) → ∀ w ∈ v :: st, ab_okv w := fun h w hw => by
  rcases List.mem_cons.mp hw with rfl | hw
  · exact hv (h _ List.mem_cons_self)
  · exact h w (List.mem_cons_of_mem _ hw)
theorem ab_okt {a : ab_V} : (∀ w ∈ a :: st, ab_okv w) → ∀ w ∈ st, ab_okv w := fun h w hw => h w (List.mem_cons_of_mem _ hw)
theorem ab_r_iconst (X : ab_X x) {z : Int} (hz : -1 ≤ z ∧ z ≤ 5) (hd : ab_dec x pc (.iconst z) 1) (k : ab_J x (pc + 1) lv (.inl z :: st) ws kc ks) : ab_J x pc lv st ws kc ks :=
  ab_s_st (ab_okc (v := .inl z) ⟨by omega, by omega⟩) (fun _ _ _ _ _ _ kk => lv_iconst X.ex X.cd hd rfl kk) k
theorem ab_r_bipush (X : ab_X x) {z : Int} (hz : -128 ≤ z ∧ z ≤ 127) (hd : ab_dec x pc (.bipush z) 2) (k : ab_J x (pc + 2) lv (.inl z :: st) ws kc ks) : ab_J x pc lv st ws kc ks :=
  ab_s_st (ab_okc (v := .inl z) ⟨by omega, by omega⟩) (fun _ _ _ _ _ _ kk => lv_bipush X.ex X.cd hd (by
    rw [← Int32.toInt_inj, ab_t32 (z := z) ⟨by omega, by omega⟩]
    simp [Int8.toInt_ofInt_of_le (n := z) (by omega) (by omega)]) kk) k
theorem ab_r_sipush (X : ab_X x) {z : Int} (hz : -32768 ≤ z ∧ z ≤ 32767) (hd : ab_dec x pc (.sipush z) 3) (k : ab_J x (pc + 3) lv (.inl z :: st) ws kc ks) : ab_J x pc lv st ws kc ks :=
  ab_s_st (ab_okc (v := .inl z) ⟨by omega, by omega⟩) (fun _ _ _ _ _ _ kk => lv_sipush X.ex X.cd hd (by
    rw [← Int32.toInt_inj, ab_t32 (z := z) ⟨by omega, by omega⟩]
    simp [Int16.toInt_ofInt_of_le (n := z) (by omega) (by omega)]) kk) k
theorem ab_r_lconst (X : ab_X x) {z : Fin 2} (hd : ab_dec x pc (.lconst z) 1) (k : ab_J x (pc + 1) lv (.inr (.inl (z : Nat)) :: st) ws kc ks) : ab_J x pc lv st ws kc ks :=
  ab_s_st (ab_okc (v := .inr (.inl (z : Nat))) ⟨by omega, by omega⟩) (fun _ _ _ _ _ _ kk => lv_lconst X.ex X.cd hd Int64.ofInt_eq_ofNat.symm kk) k
theorem ab_r_ldc (X : ab_X x) {i b : Nat} (hb : b ≤ 2147483647) (hw : .constant (ab_nm (ab_cM x)).cls i (Int32.ofInt (b : Nat)) ∈ ab_gw) (hd : ab_dec x pc (.ldc i) 2) (k : ab_J x (pc + 2) lv (.inl (b : Nat) :: st) ws kc ks) : ab_J x pc lv st ws kc ks :=
  ab_s_st (ab_okc (v := .inl (b : Nat)) ⟨by omega, by omega⟩) (fun _ _ _ _ _ _ kk => lv_ldc X.ex X.cd X.own (X.ts _ hw) hd kk) k
theorem ab_r_ldcw (X : ab_X x) {i b : Nat} (hb : b ≤ 2147483647) (hw : .constant (ab_nm (ab_cM x)).cls i (Int32.ofInt (b : Nat)) ∈ ab_gw) (hd : ab_dec x pc (.ldc_w i) 3) (k : ab_J x (pc + 3) lv (.inl (b : Nat) :: st) ws kc ks) : ab_J x pc lv st ws kc ks :=
  ab_s_st (ab_okc (v := .inl (b : Nat)) ⟨by omega, by omega⟩) (fun _ _ _ _ _ _ kk => lv_ldcw X.ex X.cd X.own (X.ts _ hw) hd kk) k
theorem ab_r_ldc2 (X : ab_X x) {i b : Nat} (hb : b ≤ 9223372036854775807) (hw : .constantLong (ab_nm (ab_cM x)).cls i (Int64.ofInt (b : Nat)) ∈ ab_gw) (hd : ab_dec x pc (.ldc2_w i) 3) (k : ab_J x (pc + 3) lv (.inr (.inl (b : Nat)) :: st) ws kc ks) : ab_J x pc lv st ws kc ks :=
  ab_s_st (ab_okc (v := .inr (.inl (b : Nat))) ⟨by omega, by omega⟩) (fun _ _ _ _ _ _ kk => lv_ldc2 X.ex X.cd X.own (X.ts _ hw) hd kk) k
theorem ab_r_ldcS (X : ab_X x) {i n : Nat} {tx : String} (hw : ((ab_nm (ab_cM x)).cls, i, tx, n) ∈ ab_sts) (hd : ab_dec x pc (.ldc i) 2) (k : ab_J x (pc + 2) lv (ab_S n :: st) ws kc ks) : ab_J x pc lv st ws kc ks :=
  ab_s_st (ab_okc (v := ab_S n) trivial) (fun _ _ _ _ _ _ kk => va_ldcS X.ex X.cd X.own (X.K.2.2.1 _ hw) hd kk) k
theorem ab_r_iload (X : ab_X x) {i : Nat} (hd : ab_dec x pc (.iload i) 2) (k : ab_ldI lv i fun v => ab_J x (pc + 2) lv (v :: st) ws kc ks) : ab_J x pc lv st ws kc ks := by
  unfold ab_ldI at k
  split at k
  · rename_i z hz
    intro ad H locs ls h1 h2 h3 h4 h5 h6 h7 h8 h9
    exact lv_iload X.ex X.cd hd (ab_lc_at h5 hz) (k ad H locs ls h1 h2 h3 h4 h5 (ab_okc (h7 _ (ab_at_mem hz)) h6) h7 h8 h9)
  · exact k.elim
theorem ab_r_iload_n (X : ab_X x) {i : Fin 4} (hd : ab_dec x pc (.iload_n i) 1) (k : ab_ldI lv i fun v => ab_J x (pc + 1) lv (v :: st) ws kc ks) : ab_J x pc lv st ws kc ks := by
  unfold ab_ldI at k
  split at k
  · rename_i z hz
    intro ad H locs ls h1 h2 h3 h4 h5 h6 h7 h8 h9
    exact lv_iload_n X.ex X.cd hd rfl (ab_lc_at h5 hz) (k ad H locs ls h1 h2 h3 h4 h5 (ab_okc (h7 _ (ab_at_mem hz)) h6) h7 h8 h9)
  · exact k.elim
theorem ab_r_lload (X : ab_X x) {i : Nat} (hd : ab_dec x pc (.lload i) 2) (k : ab_ldL lv i fun v => ab_J x (pc + 2) lv (v :: st) ws kc ks) : ab_J x pc lv st ws kc ks := by
  unfold ab_ldL at k
  split at k
  · rename_i z hz
    intro ad H locs ls h1 h2 h3 h4 h5 h6 h7 h8 h9
    exact lv_lload X.ex X.cd hd (ab_lc_at h5 hz) (k ad H locs ls h1 h2 h3 h4 h5 (ab_okc (h7 _ (ab_at_mem hz)) h6) h7 h8 h9)
  · exact k.elim
theorem ab_r_lload_n (X : ab_X x) {i : Fin 4} (hd : ab_dec x pc (.lload_n i) 1) (k : ab_ldL lv i fun v => ab_J x (pc + 1) lv (v :: st) ws kc ks) : ab_J x pc lv st ws kc ks := by
  unfold ab_ldL at k
  split at k
  · rename_i z hz
    intro ad H locs ls h1 h2 h3 h4 h5 h6 h7 h8 h9
    exact lv_lload_n X.ex X.cd hd rfl (ab_lc_at h5 hz) (k ad H locs ls h1 h2 h3 h4 h5 (ab_okc (h7 _ (ab_at_mem hz)) h6) h7 h8 h9)
  · exact k.elim
theorem ab_cvr (ad : Nat → Nat → Nat) (ak : Nat → Nat) (r : Nat ⊕ ((Nat × Nat) ⊕ Nat)) : ∃ a : Nat, ab_cv ad ak (.inr (.inr r)) = .ref a := by
  rcases r with o | q | n
  · exact ⟨_, rfl⟩
  · exact ⟨_, rfl⟩
  · exact ⟨_, rfl⟩
theorem ab_r_aload (X : ab_X x) {i : Nat} (hd : ab_dec x pc (.aload i) 2) (k : ab_ldA lv i fun v => ab_J x (pc + 2) lv (v :: st) ws kc ks) : ab_J x pc lv st ws kc ks := by
  unfold ab_ldA at k
  split at k
  · rename_i z hz
    intro ad H locs ls h1 h2 h3 h4 h5 h6 h7 h8 h9
    obtain ⟨a, ha⟩ := ab_cvr ad (ab_cE x).2.2.1 z
    have hl := ab_lc_at h5 hz
    have kk := k ad H locs ls h1 h2 h3 h4 h5 (ab_okc (h7 _ (ab_at_mem hz)) h6) h7 h8 h9
    rw [ha] at hl
    rw [List.map_cons, ha] at kk
    exact lv_aload X.ex X.cd hd hl kk
  · exact k.elim
theorem ab_r_aload_n (X : ab_X x) {i : Fin 4} (hd : ab_dec x pc (.aload_n i) 1) (k : ab_ldA lv i fun v => ab_J x (pc + 1) lv (v :: st) ws kc ks) : ab_J x pc lv st ws kc ks := by
  unfold ab_ldA at k
  split at k
  · rename_i z hz
    intro ad H locs ls h1 h2 h3 h4 h5 h6 h7 h8 h9
    obtain ⟨a, ha⟩ := ab_cvr ad (ab_cE x).2.2.1 z
    have hl := ab_lc_at h5 hz
    have kk := k ad H locs ls h1 h2 h3 h4 h5 (ab_okc (h7 _ (ab_at_mem hz)) h6) h7 h8 h9
    rw [ha] at hl
    rw [List.map_cons, ha] at kk
    exact lv_aload_n X.ex X.cd hd rfl hl kk
  · exact k.elim
end
end
section
/-! SOUNDNESS, third part: stores, arithmetic, branches, answers -/
section
variable {x : ab_Cx} {pc : Nat} {lv : List (Option ab_V)} {st : List ab_V} {ws : List ab_Ob} {kc ks : Nat}
theorem ab_r_istore (X : ab_X x) {i : Nat} {z : Int} (hi : i < ab_ml (ab_cM x)) (hd : ab_dec x pc (.istore i) 2) (k : ab_J x (pc + 2) (ab_s1 lv i (.inl z)) st ws kc ks) : ab_J x pc lv (.inl z :: st) ws kc ks := by
  intro ad H locs ls h1 h2 h3 h4 h5 h6 h7 h8 h9
  exact lv_istore X.ex X.cd hd h5 hi rfl (fun ls' hl => k ad H locs ls' h1 h2 h3 h4 (ab_lc_s1 (v := .inl z) hl) (ab_okt h6) (ab_s1_ok h7 (h6 _ List.mem_cons_self)) (by rw [ab_s1_len]; exact h8) h9)
theorem ab_r_istore_n (X : ab_X x) {i : Fin 4} {z : Int} (hi : (i : Nat) < ab_ml (ab_cM x)) (hd : ab_dec x pc (.istore_n i) 1) (k : ab_J x (pc + 1) (ab_s1 lv i (.inl z)) st ws kc ks) : ab_J x pc lv (.inl z :: st) ws kc ks := by
  intro ad H locs ls h1 h2 h3 h4 h5 h6 h7 h8 h9
  exact lv_istore_n X.ex X.cd hd rfl h5 hi rfl (fun ls' hl => k ad H locs ls' h1 h2 h3 h4 (ab_lc_s1 (v := .inl z) hl) (ab_okt h6) (ab_s1_ok h7 (h6 _ List.mem_cons_self)) (by rw [ab_s1_len]; exact h8) h9)
theorem ab_r_lstore (X : ab_X x) {i : Nat} {z : Int} (hi : i + 1 < ab_ml (ab_cM x)) (hd : ab_dec x pc (.lstore i) 2) (k : ab_J x (pc + 2) (ab_s2 lv i (.inr (.inl z))) st ws kc ks) : ab_J x pc lv (.inr (.inl z) :: st) ws kc ks := by
  intro ad H locs ls h1 h2 h3 h4 h5 h6 h7 h8 h9
  exact lv_lstore X.ex X.cd hd h5 hi rfl (fun ls' hl => k ad H locs ls' h1 h2 h3 h4 (ab_lc_s2 (v := .inr (.inl z)) hl) (ab_okt h6) (ab_s2_ok h7 (h6 _ List.mem_cons_self)) (by rw [ab_s2_len]; exact h8) h9)
theorem ab_r_lstore_n (X : ab_X x) {i : Fin 4} {z : Int} (hi : (i : Nat) + 1 < ab_ml (ab_cM x)) (hd : ab_dec x pc (.lstore_n i) 1) (k : ab_J x (pc + 1) (ab_s2 lv i (.inr (.inl z))) st ws kc ks) : ab_J x pc lv (.inr (.inl z) :: st) ws kc ks := by
  intro ad H locs ls h1 h2 h3 h4 h5 h6 h7 h8 h9
  exact lv_lstore_n X.ex X.cd hd rfl h5 hi rfl (fun ls' hl => k ad H locs ls' h1 h2 h3 h4 (ab_lc_s2 (v := .inr (.inl z)) hl) (ab_okt h6) (ab_s2_ok h7 (h6 _ List.mem_cons_self)) (by rw [ab_s2_len]; exact h8) h9)
theorem ab_r_astore (X : ab_X x) {i : Nat} {r : Nat ⊕ ((Nat × Nat) ⊕ Nat)} (hi : i < ab_ml (ab_cM x)) (hd : ab_dec x pc (.astore i) 2) (k : ab_J x (pc + 2) (ab_s1 lv i (.inr (.inr r))) st ws kc ks) : ab_J x pc lv (.inr (.inr r) :: st) ws kc ks := by
  intro ad H locs ls h1 h2 h3 h4 h5 h6 h7 h8 h9
  obtain ⟨a, ha⟩ := ab_cvr ad (ab_cE x).2.2.1 r
  rw [List.map_cons, ha]
  exact lv_astore X.ex X.cd hd h5 hi rfl (fun ls' hl => k ad H locs ls' h1 h2 h3 h4 (ab_lc_s1 (v := .inr (.inr r)) (by rw [ha]; exact hl)) (ab_okt h6) (ab_s1_ok h7 (h6 _ List.mem_cons_self)) (by rw [ab_s1_len]; exact h8) h9)
theorem ab_r_astore_n (X : ab_X x) {i : Fin 4} {r : Nat ⊕ ((Nat × Nat) ⊕ Nat)} (hi : (i : Nat) < ab_ml (ab_cM x)) (hd : ab_dec x pc (.astore_n i) 1) (k : ab_J x (pc + 1) (ab_s1 lv i (.inr (.inr r))) st ws kc ks) : ab_J x pc lv (.inr (.inr r) :: st) ws kc ks := by
  intro ad H locs ls h1 h2 h3 h4 h5 h6 h7 h8 h9
  obtain ⟨a, ha⟩ := ab_cvr ad (ab_cE x).2.2.1 r
  rw [List.map_cons, ha]
  exact lv_astore_n X.ex X.cd hd rfl h5 hi rfl (fun ls' hl => k ad H locs ls' h1 h2 h3 h4 (ab_lc_s1 (v := .inr (.inr r)) (by rw [ha]; exact hl)) (ab_okt h6) (ab_s1_ok h7 (h6 _ List.mem_cons_self)) (by rw [ab_s1_len]; exact h8) h9)
theorem ab_r_iinc (X : ab_X x) {i : Nat} {n z : Int} (hi : i < ab_ml (ab_cM x)) (hz : ab_at lv i = some (some (.inl z))) (hd : ab_dec x pc (.iinc i n) 3) (k : ab_num (z + n) (ab_J x (pc + 3) (ab_s1 lv i (.inl (z + n))) st ws kc ks)) : ab_J x pc lv st ws kc ks := by
  intro ad H locs ls h1 h2 h3 h4 h5 h6 h7 h8 h9
  obtain ⟨j, hj⟩ := List.getElem?_of_mem (ab_lc_mem (ad := ad) (ak := (ab_cE x).2.2.1) (n := 0) (q := (i, ab_cv ad (ab_cE x).2.2.1 (.inl z))) |>.mpr ⟨i, .inl z, hz, by simp⟩)
  refine lv_iinc (k := j) X.ex X.cd hd h5 hj (v := Int32.ofInt (z + n)) (by rw [Int32.ofInt_add]) hi rfl (fun ls' hl => k.2 ad H locs ls' h1 h2 h3 h4 (ab_lc_s1 (v := .inl (z + n)) hl) h6 (ab_s1_ok h7 k.1) (by rw [ab_s1_len]; exact h8) h9)
theorem ab_r_iadd (X : ab_X x) {a b : Int} (hd : ab_dec x pc .iadd 1) (k : ab_num (a + b) (ab_J x (pc + 1) lv (.inl (a + b) :: st) ws kc ks)) : ab_J x pc lv (.inl b :: .inl a :: st) ws kc ks :=
  ab_s_st (ab_ok2 (v := .inl (a + b)) fun _ _ => k.1) (fun _ _ _ _ _ _ kk => lv_iadd X.ex X.cd hd (by rw [← Int32.ofInt_add]; exact kk)) k.2
theorem ab_r_isub (X : ab_X x) {a b : Int} (hd : ab_dec x pc .isub 1) (k : ab_num (a - b) (ab_J x (pc + 1) lv (.inl (a - b) :: st) ws kc ks)) : ab_J x pc lv (.inl b :: .inl a :: st) ws kc ks :=
  ab_s_st (ab_ok2 (v := .inl (a - b)) fun _ _ => k.1) (fun _ _ _ _ _ _ kk => lv_isub X.ex X.cd hd (by rw [← Int32.ofInt_sub]; exact kk)) k.2
theorem ab_r_imul (X : ab_X x) {a b : Int} (hd : ab_dec x pc .imul 1) (k : ab_num (a * b) (ab_J x (pc + 1) lv (.inl (a * b) :: st) ws kc ks)) : ab_J x pc lv (.inl b :: .inl a :: st) ws kc ks :=
  ab_s_st (ab_ok2 (v := .inl (a * b)) fun _ _ => k.1) (fun _ _ _ _ _ _ kk => lv_imul X.ex X.cd hd (by rw [← Int32.ofInt_mul]; exact kk)) k.2
theorem ab_r_ineg (X : ab_X x) {a : Int} (hd : ab_dec x pc .ineg 1) (k : ab_num (-a) (ab_J x (pc + 1) lv (.inl (-a) :: st) ws kc ks)) : ab_J x pc lv (.inl a :: st) ws kc ks :=
  ab_s_st (ab_ok1 (v := .inl (-a)) fun _ => k.1) (fun _ _ _ _ _ _ kk => lv_ineg X.ex X.cd hd (by rw [← Int32.ofInt_neg]; exact kk)) k.2
theorem ab_div32 {a b : Int} (ha : ab_okk 0 a) (hb : ab_okk 0 b) : Int32.ofInt a / Int32.ofInt b = Int32.ofInt (a.tdiv b) := by
  rw [← Int32.toInt_inj, Int32.toInt_div, ab_t32 ha, ab_t32 hb, Int32.toInt_ofInt]
theorem ab_div64 {a b : Int} (ha : ab_okk 2 a) (hb : ab_okk 2 b) : Int64.ofInt a / Int64.ofInt b = Int64.ofInt (a.tdiv b) := by
  rw [← Int64.toInt_inj, Int64.toInt_div, ab_t64 ha, ab_t64 hb, Int64.toInt_ofInt]
theorem ab_ne32 {b : Int} (hb : ab_okk 0 b) (h : ¬ b = 0) : ¬ Int32.ofInt b = 0 := by rw [← ab_of0, ab_eq32 hb ab_ok0]; exact h
theorem ab_ne64 {b : Int} (hb : ab_okk 2 b) (h : ¬ b = 0) : ¬ Int64.ofInt b = 0 := by
  rw [← Int64.toInt_inj, ab_t64 hb]; exact h
theorem ab_r_idiv (X : ab_X x) {a b : Int} (hd : ab_dec x pc .idiv 1) (k : (¬ b = 0) ∧ ab_num (a.tdiv b) (ab_J x (pc + 1) lv (.inl (a.tdiv b) :: st) ws kc ks)) : ab_J x pc lv (.inl b :: .inl a :: st) ws kc ks :=
  ab_s_st (ab_ok2 (v := .inl (a.tdiv b)) fun _ _ => k.2.1) (fun _ _ _ _ h _ kk => lv_idiv X.ex X.cd hd (ab_ne32 (h _ List.mem_cons_self) k.1) (by rw [ab_div32 (h _ (List.mem_cons_of_mem _ List.mem_cons_self)) (h _ List.mem_cons_self)]; exact kk)) k.2.2
theorem ab_r_irem (X : ab_X x) {a b : Int} (hd : ab_dec x pc .irem 1) (k : (¬ b = 0) ∧ ab_num (a.tmod b) (ab_J x (pc + 1) lv (.inl (a.tmod b) :: st) ws kc ks)) : ab_J x pc lv (.inl b :: .inl a :: st) ws kc ks :=
  ab_s_st (ab_ok2 (v := .inl (a.tmod b)) fun _ _ => k.2.1) (fun _ _ _ _ h _ kk => lv_irem X.ex X.cd hd (ab_ne32 (h _ List.mem_cons_self) k.1) (by
    rw [ab_div32 (h _ (List.mem_cons_of_mem _ List.mem_cons_self)) (h _ List.mem_cons_self), ← Int32.ofInt_mul, ← Int32.ofInt_sub, Int.mul_comm, ← Int.tmod_def]; exact kk)) k.2.2
theorem ab_r_iand (X : ab_X x) {a b : Int} (hd : ab_dec x pc .iand 1) (k : ab_J x (pc + 1) lv (.inl (Int32.ofInt a &&& Int32.ofInt b).toInt :: st) ws kc ks) : ab_J x pc lv (.inl b :: .inl a :: st) ws kc ks :=
  ab_s_st (ab_ok2 (v := .inl (Int32.ofInt a &&& Int32.ofInt b).toInt) fun _ _ => ab_okT _) (fun _ _ _ _ _ _ kk => lv_iand X.ex X.cd hd (by rw [List.map_cons] at kk; simp only [ab_cv, Int32.ofInt_toInt] at kk; exact kk)) k
theorem ab_r_ior (X : ab_X x) {a b : Int} (hd : ab_dec x pc .ior 1) (k : ab_J x (pc + 1) lv (.inl (Int32.ofInt a ||| Int32.ofInt b).toInt :: st) ws kc ks) : ab_J x pc lv (.inl b :: .inl a :: st) ws kc ks :=
  ab_s_st (ab_ok2 (v := .inl (Int32.ofInt a ||| Int32.ofInt b).toInt) fun _ _ => ab_okT _) (fun _ _ _ _ _ _ kk => lv_ior X.ex X.cd hd (by rw [List.map_cons] at kk; simp only [ab_cv, Int32.ofInt_toInt] at kk; exact kk)) k
theorem ab_r_ixor (X : ab_X x) {a b : Int} (hd : ab_dec x pc .ixor 1) (k : ab_J x (pc + 1) lv (.inl (Int32.ofInt a ^^^ Int32.ofInt b).toInt :: st) ws kc ks) : ab_J x pc lv (.inl b :: .inl a :: st) ws kc ks :=
  ab_s_st (ab_ok2 (v := .inl (Int32.ofInt a ^^^ Int32.ofInt b).toInt) fun _ _ => ab_okT _) (fun _ _ _ _ _ _ kk => lv_ixor X.ex X.cd hd (by rw [List.map_cons] at kk; simp only [ab_cv, Int32.ofInt_toInt] at kk; exact kk)) k
theorem ab_r_ishl (X : ab_X x) {a b : Int} (hd : ab_dec x pc .ishl 1) (k : ab_J x (pc + 1) lv (.inl (Int32.ofInt a <<< (Int32.ofInt b &&& 31)).toInt :: st) ws kc ks) : ab_J x pc lv (.inl b :: .inl a :: st) ws kc ks :=
  ab_s_st (ab_ok2 (v := .inl (Int32.ofInt a <<< (Int32.ofInt b &&& 31)).toInt) fun _ _ => ab_okT _) (fun _ _ _ _ _ _ kk => lv_ishl X.ex X.cd hd (by rw [List.map_cons] at kk; simp only [ab_cv, Int32.ofInt_toInt] at kk; exact kk)) k
theorem ab_r_ishr (X : ab_X x) {a b : Int} (hd : ab_dec x pc .ishr 1) (k : ab_J x (pc + 1) lv (.inl (Int32.ofInt a >>> (Int32.ofInt b &&& 31)).toInt :: st) ws kc ks) : ab_J x pc lv (.inl b :: .inl a :: st) ws kc ks :=
  ab_s_st (ab_ok2 (v := .inl (Int32.ofInt a >>> (Int32.ofInt b &&& 31)).toInt) fun _ _ => ab_okT _) (fun _ _ _ _ _ _ kk => lv_ishr X.ex X.cd hd (by rw [List.map_cons] at kk; simp only [ab_cv, Int32.ofInt_toInt] at kk; exact kk)) k
theorem ab_i8_ok (z : Int) : -128 ≤ ab_i8 z ∧ ab_i8 z ≤ 127 := by
  unfold ab_i8
  have h1 := (Int8.ofInt z).le_toInt
  have h2 := (Int8.ofInt z).toInt_lt
  omega
theorem ab_i8_32 (z : Int) : (Int32.ofInt z).toInt8.toInt32 = Int32.ofInt (ab_i8 z) := by
  rw [← Int32.toInt_inj, ab_t32 (z := ab_i8 z) (by have := ab_i8_ok z; exact ⟨by omega, by omega⟩)]
  simp [ab_i8]
theorem ab_r_i2b (X : ab_X x) {a : Int} (hd : ab_dec x pc .i2b 1) (k : ab_J x (pc + 1) lv (.inl (ab_i8 a) :: st) ws kc ks) : ab_J x pc lv (.inl a :: st) ws kc ks :=
  ab_s_st (ab_ok1 (v := .inl (ab_i8 a)) fun _ => by have := ab_i8_ok a; exact ⟨by omega, by omega⟩) (fun _ _ _ _ _ _ kk => lv_i2b X.ex X.cd hd (ab_i8_32 a) kk) k
theorem ab_r_i2l (X : ab_X x) {a : Int} (hd : ab_dec x pc .i2l 1) (k : ab_J x (pc + 1) lv (.inr (.inl a) :: st) ws kc ks) : ab_J x pc lv (.inl a :: st) ws kc ks :=
  ab_s_st (ab_ok1 (v := .inr (.inl a)) fun h => ⟨by have := h.1; omega, by have := h.2; omega⟩) (fun _ _ _ _ h _ kk => lv_i2l X.ex X.cd hd (by
    have h0 : ab_okk 0 a := h _ List.mem_cons_self
    rw [← Int64.toInt_inj, Int32.toInt_toInt64, ab_t32 h0, ab_t64 (z := a) ⟨by have := h0.1; omega, by have := h0.2; omega⟩]) kk) k
theorem ab_r_ladd (X : ab_X x) {a b : Int} (hd : ab_dec x pc .ladd 1) (k : ab_lng (a + b) (ab_J x (pc + 1) lv (.inr (.inl (a + b)) :: st) ws kc ks)) : ab_J x pc lv (.inr (.inl b) :: .inr (.inl a) :: st) ws kc ks :=
  ab_s_st (ab_ok2 (v := .inr (.inl (a + b))) fun _ _ => k.1) (fun _ _ _ _ _ _ kk => lv_ladd X.ex X.cd hd (by rw [← Int64.ofInt_add]; exact kk)) k.2
theorem ab_r_lmul (X : ab_X x) {a b : Int} (hd : ab_dec x pc .lmul 1) (k : ab_lng (a * b) (ab_J x (pc + 1) lv (.inr (.inl (a * b)) :: st) ws kc ks)) : ab_J x pc lv (.inr (.inl b) :: .inr (.inl a) :: st) ws kc ks :=
  ab_s_st (ab_ok2 (v := .inr (.inl (a * b))) fun _ _ => k.1) (fun _ _ _ _ _ _ kk => lv_lmul X.ex X.cd hd (by rw [← Int64.ofInt_mul]; exact kk)) k.2
theorem ab_r_ldiv (X : ab_X x) {a b : Int} (hd : ab_dec x pc .ldiv 1) (k : (¬ b = 0) ∧ ab_lng (a.tdiv b) (ab_J x (pc + 1) lv (.inr (.inl (a.tdiv b)) :: st) ws kc ks)) : ab_J x pc lv (.inr (.inl b) :: .inr (.inl a) :: st) ws kc ks :=
  ab_s_st (ab_ok2 (v := .inr (.inl (a.tdiv b))) fun _ _ => k.2.1) (fun _ _ _ _ h _ kk => lv_ldiv X.ex X.cd hd (ab_ne64 (h _ List.mem_cons_self) k.1) (by rw [ab_div64 (h _ (List.mem_cons_of_mem _ List.mem_cons_self)) (h _ List.mem_cons_self)]; exact kk)) k.2.2
theorem ab_r_lor (X : ab_X x) {a b : Int} (hd : ab_dec x pc .lor 1) (k : ab_J x (pc + 1) lv (.inr (.inl (Int64.ofInt a ||| Int64.ofInt b).toInt) :: st) ws kc ks) : ab_J x pc lv (.inr (.inl b) :: .inr (.inl a) :: st) ws kc ks :=
  ab_s_st (ab_ok2 (v := .inr (.inl (Int64.ofInt a ||| Int64.ofInt b).toInt)) fun _ _ => ab_okT64 _) (fun _ _ _ _ _ _ kk => lv_lor X.ex X.cd hd (by rw [List.map_cons] at kk; simp only [ab_cv, Int64.ofInt_toInt] at kk; exact kk)) k
theorem ab_r_lshl (X : ab_X x) {a b : Int} (hd : ab_dec x pc .lshl 1) (k : ab_J x (pc + 1) lv (.inr (.inl (Int64.ofInt a <<< ((Int32.ofInt b).toInt64 &&& 63)).toInt) :: st) ws kc ks) : ab_J x pc lv (.inl b :: .inr (.inl a) :: st) ws kc ks :=
  ab_s_st (ab_ok2 (v := .inr (.inl (Int64.ofInt a <<< ((Int32.ofInt b).toInt64 &&& 63)).toInt)) fun _ _ => ab_okT64 _) (fun _ _ _ _ _ _ kk => lv_lshl X.ex X.cd hd rfl (by rw [List.map_cons] at kk; simp only [ab_cv, Int64.ofInt_toInt] at kk; exact kk)) k
theorem ab_cmp64 {a b : Int} (ha : ab_okk 2 a) (hb : ab_okk 2 b) : lg_cmp (Int64.ofInt a) (Int64.ofInt b) = Int32.ofInt (ab_cmp a b) := by
  unfold lg_cmp ab_cmp
  simp only [gt_iff_lt, Int64.lt_iff_toInt_lt, ← Int64.toInt_inj, ab_t64 ha, ab_t64 hb]
  split
  · rfl
  · split
    · rfl
    · rfl
theorem ab_cmp_ok (a b : Int) : ab_okk 0 (ab_cmp a b) := by
  unfold ab_cmp
  split
  · exact ⟨by omega, by omega⟩
  · split <;> exact ⟨by omega, by omega⟩
theorem ab_r_lcmp (X : ab_X x) {a b : Int} (hd : ab_dec x pc .lcmp 1) (k : ab_J x (pc + 1) lv (.inl (ab_cmp a b) :: st) ws kc ks) : ab_J x pc lv (.inr (.inl b) :: .inr (.inl a) :: st) ws kc ks :=
  ab_s_st (ab_ok2 (v := .inl (ab_cmp a b)) fun _ _ => ab_cmp_ok a b) (fun _ _ _ _ h _ kk => W.lcmp X.ex X.cd hd (by rw [ab_cmp64 (h _ (List.mem_cons_of_mem _ List.mem_cons_self)) (h _ List.mem_cons_self)]; exact kk)) k
theorem ab_r_dup (X : ab_X x) {v : ab_V} (hv : ab_cat v = 1) (hd : ab_dec x pc .dup 1) (k : ab_J x (pc + 1) lv (v :: v :: st) ws kc ks) : ab_J x pc lv (v :: st) ws kc ks :=
  ab_s_st (fun h => ab_okc (h _ List.mem_cons_self) h) (fun ad _ _ _ _ _ kk => lv_dup X.ex X.cd hd (by rw [ab_cv_cat]; exact hv) kk) k
theorem ab_r_pop (X : ab_X x) {v : ab_V} (hv : ab_cat v = 1) (hd : ab_dec x pc .pop 1) (k : ab_J x (pc + 1) lv st ws kc ks) : ab_J x pc lv (v :: st) ws kc ks :=
  ab_s_st ab_okt (fun ad _ _ _ _ _ kk => lv_pop X.ex X.cd hd (by rw [ab_cv_cat]; exact hv) kk) k
theorem ab_r_dup2 (X : ab_X x) {v w : ab_V} (hv : ab_cat v = 1) (hw : ab_cat w = 1) (hd : ab_dec x pc .dup2 1) (k : ab_J x (pc + 1) lv (v :: w :: v :: w :: st) ws kc ks) : ab_J x pc lv (v :: w :: st) ws kc ks :=
  ab_s_st (fun h => ab_okc (h _ List.mem_cons_self) (ab_okc (h _ (List.mem_cons_of_mem _ List.mem_cons_self)) h)) (fun ad _ _ _ _ _ kk => lv_dup2_11 X.ex X.cd hd (by rw [ab_cv_cat]; exact hv) (by rw [ab_cv_cat]; exact hw) kk) k
theorem ab_r_goto (X : ab_X x) {off : Int} {t : Nat} (ht : (pc : Int) + off = (t : Int)) (hd : ab_dec x pc (.goto off) 3) (k : ab_J x t lv st ws kc ks) : ab_J x pc lv st ws kc ks :=
  ab_s_st (fun h => h) (fun _ _ _ _ _ _ kk => lv_goto X.ex X.cd hd ht kk) k
theorem ab_r_if (X : ab_X x) {cn : Jvm.ClassFile.Cond} {off a : Int} {t : Nat} (ht : (pc : Int) + off = (t : Int)) (hd : ab_dec x pc (.ifCond cn off) 3) (k : ab_if cn a 0 (ab_J x t lv st ws kc ks) (ab_J x (pc + 3) lv st ws kc ks)) : ab_J x pc lv (.inl a :: st) ws kc ks := by
  intro ad H locs ls h1 h2 h3 h4 h5 h6 h7 h8 h9
  have ha : ab_okk 0 a := h6 _ List.mem_cons_self
  have h6' := ab_okt h6
  cases cn with
  | eq => exact lv_if_eq X.ex X.cd hd ht (fun e => k.1 ((ab_eq32 ha ab_ok0).mp e) ad H locs ls h1 h2 h3 h4 h5 h6' h7 h8 h9) (fun e => k.2 (fun q => e ((ab_eq32 ha ab_ok0).mpr q)) ad H locs ls h1 h2 h3 h4 h5 h6' h7 h8 h9)
  | ne => exact lv_if_ne X.ex X.cd hd ht (fun e => k.1 (fun q => e ((ab_eq32 ha ab_ok0).mpr q)) ad H locs ls h1 h2 h3 h4 h5 h6' h7 h8 h9) (fun e => k.2 ((ab_eq32 ha ab_ok0).mp e) ad H locs ls h1 h2 h3 h4 h5 h6' h7 h8 h9)
  | lt => exact lv_if_lt X.ex X.cd hd ht (fun e => k.1 ((ab_lt32 ha ab_ok0).mp e) ad H locs ls h1 h2 h3 h4 h5 h6' h7 h8 h9) (fun e => k.2 (fun q => e ((ab_lt32 ha ab_ok0).mpr q)) ad H locs ls h1 h2 h3 h4 h5 h6' h7 h8 h9)
  | ge => exact lv_if_ge X.ex X.cd hd ht (fun e => k.1 ((ab_le32 ab_ok0 ha).mp e) ad H locs ls h1 h2 h3 h4 h5 h6' h7 h8 h9) (fun e => k.2 (fun q => e ((ab_le32 ab_ok0 ha).mpr q)) ad H locs ls h1 h2 h3 h4 h5 h6' h7 h8 h9)
  | gt => exact lv_if_gt X.ex X.cd hd ht (fun e => k.1 ((ab_lt32 ab_ok0 ha).mp e) ad H locs ls h1 h2 h3 h4 h5 h6' h7 h8 h9) (fun e => k.2 (fun q => e ((ab_lt32 ab_ok0 ha).mpr q)) ad H locs ls h1 h2 h3 h4 h5 h6' h7 h8 h9)
  | le => exact lv_if_le X.ex X.cd hd ht (fun e => k.1 ((ab_le32 ha ab_ok0).mp e) ad H locs ls h1 h2 h3 h4 h5 h6' h7 h8 h9) (fun e => k.2 (fun q => e ((ab_le32 ha ab_ok0).mpr q)) ad H locs ls h1 h2 h3 h4 h5 h6' h7 h8 h9)
theorem ab_r_icmp (X : ab_X x) {cn : Jvm.ClassFile.Cond} {off a b : Int} {t : Nat} (ht : (pc : Int) + off = (t : Int)) (hd : ab_dec x pc (.if_icmp cn off) 3) (k : ab_if cn a b (ab_J x t lv st ws kc ks) (ab_J x (pc + 3) lv st ws kc ks)) : ab_J x pc lv (.inl b :: .inl a :: st) ws kc ks := by
  intro ad H locs ls h1 h2 h3 h4 h5 h6 h7 h8 h9
  have hb : ab_okk 0 b := h6 _ List.mem_cons_self
  have ha : ab_okk 0 a := h6 _ (List.mem_cons_of_mem _ List.mem_cons_self)
  have h6' := ab_okt (ab_okt h6)
  cases cn with
  | eq => exact lv_icmp_eq X.ex X.cd hd ht (fun e => k.1 ((ab_eq32 ha hb).mp e) ad H locs ls h1 h2 h3 h4 h5 h6' h7 h8 h9) (fun e => k.2 (fun q => e ((ab_eq32 ha hb).mpr q)) ad H locs ls h1 h2 h3 h4 h5 h6' h7 h8 h9)
  | ne => exact lv_icmp_ne X.ex X.cd hd ht (fun e => k.1 (fun q => e ((ab_eq32 ha hb).mpr q)) ad H locs ls h1 h2 h3 h4 h5 h6' h7 h8 h9) (fun e => k.2 ((ab_eq32 ha hb).mp e) ad H locs ls h1 h2 h3 h4 h5 h6' h7 h8 h9)
  | lt => exact lv_icmp_lt X.ex X.cd hd ht (fun e => k.1 ((ab_lt32 ha hb).mp e) ad H locs ls h1 h2 h3 h4 h5 h6' h7 h8 h9) (fun e => k.2 (fun q => e ((ab_lt32 ha hb).mpr q)) ad H locs ls h1 h2 h3 h4 h5 h6' h7 h8 h9)
  | ge => exact lv_icmp_ge X.ex X.cd hd ht (fun e => k.1 ((ab_le32 hb ha).mp e) ad H locs ls h1 h2 h3 h4 h5 h6' h7 h8 h9) (fun e => k.2 (fun q => e ((ab_le32 hb ha).mpr q)) ad H locs ls h1 h2 h3 h4 h5 h6' h7 h8 h9)
  | gt => exact lv_icmp_gt X.ex X.cd hd ht (fun e => k.1 ((ab_lt32 hb ha).mp e) ad H locs ls h1 h2 h3 h4 h5 h6' h7 h8 h9) (fun e => k.2 (fun q => e ((ab_lt32 hb ha).mpr q)) ad H locs ls h1 h2 h3 h4 h5 h6' h7 h8 h9)
  | le => exact lv_icmp_le X.ex X.cd hd ht (fun e => k.1 ((ab_le32 ha hb).mp e) ad H locs ls h1 h2 h3 h4 h5 h6' h7 h8 h9) (fun e => k.2 (fun q => e ((ab_le32 ha hb).mpr q)) ad H locs ls h1 h2 h3 h4 h5 h6' h7 h8 h9)
end
end
section
/-! the classes: names, fields, and their words in the table -/
theorem ab_inP (ws : List Jvm.Cond) (ps : List Nat) (h1 : ws = ps.filterMap (fun i => lw_tbl[i]?)) (h2 : ws.all goodWord = true) : ∀ w ∈ ws, w ∈ ab_gw := by
  intro w hw
  refine List.mem_filter.mpr ⟨?_, List.all_eq_true.mp h2 w hw⟩
  rw [h1] at hw
  obtain ⟨i, -, hi⟩ := List.mem_filterMap.mp hw
  exact List.mem_of_getElem? hi
set_option maxRecDepth 100000 in
theorem ab_in0 : ∀ w ∈ u_ws RX0 TX0 4, w ∈ ab_gw := ab_inP _ [247, 249, 251, 253] (by decide +kernel) (by decide +kernel)
set_option maxRecDepth 100000 in
theorem ab_in1 : ∀ w ∈ u_ws RX1 TX1 4, w ∈ ab_gw := ab_inP _ [267, 269, 271, 273] (by decide +kernel) (by decide +kernel)
set_option maxRecDepth 100000 in
theorem ab_in2 : ∀ w ∈ u_ws RX2 TX2 1, w ∈ ab_gw := ab_inP _ [283] (by decide +kernel) (by decide +kernel)
set_option maxRecDepth 100000 in
theorem ab_in3 : ∀ w ∈ u_ws RX3 TX3 4, w ∈ ab_gw := ab_inP _ [382, 384, 386, 388] (by decide +kernel) (by decide +kernel)
set_option maxRecDepth 100000 in
theorem ab_in4 : ∀ w ∈ u_ws RX4 TX4 11, w ∈ ab_gw := ab_inP _ [207, 209, 211, 213, 215, 217, 219, 221, 223, 225, 227] (by decide +kernel) (by decide +kernel)
set_option maxRecDepth 100000 in
theorem ab_in5 : ∀ w ∈ u_ws RX5 TX5 10, w ∈ ab_gw := ab_inP _ [170, 172, 174, 176, 178, 180, 182, 184, 186, 188] (by decide +kernel) (by decide +kernel)
set_option maxRecDepth 100000 in
theorem ab_in6 : ∀ w ∈ u_ws RX6 TX6 7, w ∈ ab_gw := ab_inP _ [353, 355, 357, 359, 361, 363, 365] (by decide +kernel) (by decide +kernel)
set_option maxRecDepth 100000 in
theorem ab_in7 : ∀ w ∈ u_ws RX7 TX7 10, w ∈ ab_gw := ab_inP _ [315, 317, 319, 321, 323, 325, 327, 329, 331, 333] (by decide +kernel) (by decide +kernel)
set_option maxRecDepth 100000 in
theorem ab_in8 : ∀ w ∈ u_ws RX8 TX8 17, w ∈ ab_gw := ab_inP _ [408, 410, 412, 414, 416, 418, 420, 422, 424, 426, 428, 430, 432, 434, 436, 438, 440] (by decide +kernel) (by decide +kernel)
set_option maxRecDepth 100000 in
theorem ab_in9 : ∀ w ∈ u_ws RX9 TX9 52, w ∈ ab_gw := ab_inP _ [1254, 1256, 1258, 1260, 1262, 1264, 1266, 1268, 1270, 1272, 1274, 1276, 1278, 1280, 1282, 1284, 1286, 1288, 1290, 1292, 1294, 1296, 1298, 1300, 1302, 1304, 1306, 1308, 1310, 1312, 1314, 1316, 1318, 1320, 1322, 1324, 1326, 1328, 1330, 1332, 1334, 1336, 1338, 1340, 1342, 1344, 1346, 1348, 1350, 1352, 1354, 1356] (by decide +kernel) (by decide +kernel)
def ab_C : Nat → String
  | 0 => RX0
  | 1 => RX1
  | 2 => RX2
  | 3 => RX3
  | 4 => RX4
  | 5 => RX5
  | 6 => RX6
  | 7 => RX7
  | 8 => RX8
  | _ => RX9
def ab_T : Nat → u_T
  | 0 => TX0
  | 1 => TX1
  | 2 => TX2
  | 3 => TX3
  | 4 => TX4
  | 5 => TX5
  | 6 => TX6
  | 7 => TX7
  | 8 => TX8
  | _ => TX9
def ab_ty : Nat → Nat → FieldType
  | 0 => tyX0
  | 1 => tyX1
  | 2 => tyX2
  | 3 => tyX3
  | 4 => tyX4
  | 5 => tyX5
  | 6 => tyX6
  | 7 => tyX7
  | 8 => tyX8
  | _ => tyX9
theorem ab_cls {ci : Nat} (h : ci < 10) : vwCl[ci]? = some (ab_C ci, ab_T ci, (ab_lay ci).length) := by
  match ci, h with
  | 0, _ => exact rfl
  | 1, _ => exact rfl
  | 2, _ => exact rfl
  | 3, _ => exact rfl
  | 4, _ => exact rfl
  | 5, _ => exact rfl
  | 6, _ => exact rfl
  | 7, _ => exact rfl
  | 8, _ => exact rfl
  | 9, _ => exact rfl
  | c + 10, h => exact absurd h (by omega)
theorem ab_tyok {ci : Nat} (h : ci < 10) : ∀ k, k < (ab_lay ci).length → parseFieldDescriptor (ab_T ci k).2.2.1 = some (ab_ty ci k) := by
  match ci, h with
  | 0, _ => exact tyX0_ok
  | 1, _ => exact tyX1_ok
  | 2, _ => exact tyX2_ok
  | 3, _ => exact tyX3_ok
  | 4, _ => exact tyX4_ok
  | 5, _ => exact tyX5_ok
  | 6, _ => exact tyX6_ok
  | 7, _ => exact tyX7_ok
  | 8, _ => exact tyX8_ok
  | 9, _ => exact tyX9_ok
  | c + 10, h => exact absurd h (by omega)
theorem ab_nms {ci : Nat} (h : ci < 10) : ∀ a, a < (ab_lay ci).length → ∀ b, b < (ab_lay ci).length → a ≠ b → (ab_T ci a).2.1 ≠ (ab_T ci b).2.1 := by
  match ci, h with
  | 0, _ => exact nmX0
  | 1, _ => exact nmX1
  | 2, _ => exact nmX2
  | 3, _ => exact nmX3
  | 4, _ => exact nmX4
  | 5, _ => exact nmX5
  | 6, _ => exact nmX6
  | 7, _ => exact nmX7
  | 8, _ => exact nmX8
  | 9, _ => exact nmX9
  | c + 10, h => exact absurd h (by omega)
theorem ab_inl {ci : Nat} (h : ci < 10) : ∀ w ∈ u_ws (ab_C ci) (ab_T ci) (ab_lay ci).length, w ∈ ab_gw := by
  match ci, h with
  | 0, _ => exact ab_in0
  | 1, _ => exact ab_in1
  | 2, _ => exact ab_in2
  | 3, _ => exact ab_in3
  | 4, _ => exact ab_in4
  | 5, _ => exact ab_in5
  | 6, _ => exact ab_in6
  | 7, _ => exact ab_in7
  | 8, _ => exact ab_in8
  | 9, _ => exact ab_in9
  | c + 10, h => exact absurd h (by omega)
theorem ab_kty {ci : Nat} (h : ci < 10) : ∀ k, k < (ab_lay ci).length → (ab_kd ci k = 0 → ab_ty ci k = .int ∧ (ab_T ci k).2.2.2 = false) ∧ (ab_kd ci k = 1 → ab_ty ci k = .boolean ∧ (ab_T ci k).2.2.2 = false) ∧ (ab_kd ci k = 2 → ab_ty ci k = .long ∧ (ab_T ci k).2.2.2 = false) ∧ (ab_kd ci k = 3 → ab_ty ci k = .array .int) ∧ (ab_kd ci k = 5 → ab_ty ci k = .array .long) ∧ (ab_kd ci k = 6 → ab_ty ci k = .array .boolean) := by
  match ci, h with
  | 0, _ => exact (by decide +kernel)
  | 1, _ => exact (by decide +kernel)
  | 2, _ => exact (by decide +kernel)
  | 3, _ => exact (by decide +kernel)
  | 4, _ => exact (by decide +kernel)
  | 5, _ => exact (by decide +kernel)
  | 6, _ => exact (by decide +kernel)
  | 7, _ => exact (by decide +kernel)
  | 8, _ => exact (by decide +kernel)
  | 9, _ => exact (by decide +kernel)
  | c + 10, h => exact absurd h (by omega)
end
section
/-! SOUNDNESS, fourth part: fields and arrays -/
theorem ab_beq {a b : Nat} (h : Nat.beq a b = true) : a = b := Nat.eq_of_beq_eq_true h
theorem ab_sl0 {G : List Nat} {o ci : Nat} (h : ab_at G o = some ci) : ab_sl G o 0 := ⟨ci, h⟩
theorem ab_slf {G : List Nat} {o ci f : Nat} (h : ab_at G o = some ci) (ha : ab_arr (ab_kd ci f)) : ab_sl G o (f + 1) := ⟨ci, h, ha⟩
/-- one cell of the world has changed -/
theorem ab_W_upd {E : ab_E} {ad : Nat → Nat → Nat} {G : List Nat} {ws : List ab_Ob} {H H' : Heap} {A : Nat → Prop} {o ci f0 : Nat} {ob' : ab_Ob} (hW : ab_W E ad G ws H) (hI : ab_ia ad G A) (hG : ab_at G o = some ci) (hf : ab_sl G o f0) (hne : ∀ q, q ≠ ad o f0 → H'[q]? = H[q]?) (hnew : ab_ob E ad o ci ob' H') : ab_W E ad G (ab_set ws o ob') H' := by
  refine ⟨by rw [ab_set_len]; exact hW.1, fun o1 c1 b1 h1 h2 => ?_⟩
  by_cases ho : o = o1
  · subst ho
    rw [ab_at_set_eq (by have := ab_at_lt h2; rw [ab_set_len] at this; exact this)] at h2
    cases h2
    cases hG.symm.trans h1
    exact hnew
  · rw [ab_at_set_ne ho] at h2
    obtain ⟨q1, q2, q3⟩ := hW.2 o1 c1 b1 h1 h2
    have key : ∀ f1, ab_sl G o1 f1 → H'[ad o1 f1]? = H[ad o1 f1]? := fun f1 hs => hne _ (fun e => ho (hI.1 _ _ _ _ hs hf e).1.symm)
    exact ⟨q1.kept (key 0 (ab_sl0 h1)), fun f ha => by rw [key _ (ab_slf h1 ha)]; exact q2 f ha, q3⟩
section
variable {x : ab_Cx} {pc : Nat} {lv : List (Option ab_V)} {st : List ab_V} {ws : List ab_Ob} {kc ks : Nat}
theorem ab_r_getf (X : ab_X x) {i a f o : Nat} (ha : a < 10) (hf : f < (ab_lay a).length) (hw : .fieldLink (ab_nm (ab_cM x)).cls i (ab_T a f).1 (ab_T a f).2.1 (ab_T a f).2.2.1 ∈ ab_gw) (hd : ab_dec x pc (.getfield i) 3) (k : ab_getf (ab_G (ab_cM x)) ws o a f fun v => ab_J x (pc + 3) lv (v :: st) ws kc ks) : ab_J x pc lv (ab_O o :: st) ws kc ks := by
  unfold ab_getf at k
  split at k
  · rename_i ci ob hG hob
    cases hb : Nat.beq ci a with
    | false => rw [hb] at k; exact k.elim
    | true =>
      rw [hb] at k
      dsimp only at k
      have e := ab_beq hb
      subst e
      intro ad H locs ls h1 h2 h3 h4 h5 h6 h7 h8 h9
      obtain ⟨⟨cell, q1, q2, q3, q4⟩, q5, q6⟩ := h2.2 o ci ob hG hob
      obtain ⟨hS, hfc, kC, hkC, hkind⟩ := X.K.1.1 ci _ (ab_cls ha)
      obtain ⟨cf, kf, fi, fd, hi, hsl⟩ := hS f hf
      have go : ∀ v : Value, cell.slots[fd.slot]? = some v → ab_Wx x H locs kc ks (F0 (ab_cm x) (pc + 3) ls (v :: st.map (ab_cv ad (ab_cE x).2.2.1))) → ab_Wx x H locs kc ks (F0 (ab_cm x) pc ls (.ref (ad o 0) :: st.map (ab_cv ad (ab_cE x).2.2.1))) := fun v hv kk =>
        W.getf X.ex X.cd X.own (X.ts _ hw) hi (u_facts hfc hkC (u_lays X.ts (ab_inl ha) hf) hi).1 q1 (by rw [q3]; exact fun h => by cases h) (v := v) hv rfl rfl hd kk
      have hv : cell.slots[((ab_cE x).1.2 ci) f]? = some (ab_fv ad o ob f (ab_kd ci f)) := q4 f hf
      rw [← hsl] at hv
      have ok := (q6 f).1
      show ab_Wx x H locs kc ks (F0 (ab_cm x) pc ls (.ref (ad o 0) :: st.map (ab_cv ad (ab_cE x).2.2.1)))
      revert k hv ok
      generalize ab_kd ci f = kd
      intro k hv ok
      match kd, k, hv, ok with
      | 0, k, hv, ok => exact go _ hv (k ad H locs ls h1 h2 h3 h4 h5 (ab_okc (v := .inl (ob.1 f)) (ok (by unfold ab_arr; omega) (by omega)) (ab_okt h6)) h7 h8 h9)
      | 1, k, hv, ok => exact go _ hv (k ad H locs ls h1 h2 h3 h4 h5 (ab_okc (v := .inl (ob.1 f)) (by have h0 : ob.1 f = 0 ∨ ob.1 f = 1 := ok (by unfold ab_arr; omega) (by omega); exact ⟨by omega, by omega⟩) (ab_okt h6)) h7 h8 h9)
      | 2, k, hv, ok => exact go _ hv (k ad H locs ls h1 h2 h3 h4 h5 (ab_okc (v := .inr (.inl (ob.1 f))) (ok (by unfold ab_arr; omega) (by omega)) (ab_okt h6)) h7 h8 h9)
      | 3, k, hv, ok => exact go _ hv (k ad H locs ls h1 h2 h3 h4 h5 (ab_okc (v := ab_A o f) trivial (ab_okt h6)) h7 h8 h9)
      | 4, k, hv, ok => exact go _ hv (k ad H locs ls h1 h2 h3 h4 h5 (ab_okc (v := ab_A o f) trivial (ab_okt h6)) h7 h8 h9)
      | 5, k, hv, ok => exact go _ hv (k ad H locs ls h1 h2 h3 h4 h5 (ab_okc (v := ab_A o f) trivial (ab_okt h6)) h7 h8 h9)
      | 6, k, hv, ok => exact go _ hv (k ad H locs ls h1 h2 h3 h4 h5 (ab_okc (v := ab_A o f) trivial (ab_okt h6)) h7 h8 h9)
      | j + 7, k, hv, ok => exact go _ hv (k ad H locs ls h1 h2 h3 h4 h5 (ab_okc (v := ab_O (o + j)) trivial (ab_okt h6)) h7 h8 h9)
  · exact k.elim
/-- what a world is when one number of an object has changed -/
theorem ab_ob_pf {E : ab_E} {ad : Nat → Nat → Nat} {G : List Nat} {A : Nat → Prop} {H H' : Heap} {o ci f : Nat} {ob : ab_Ob} {z : Int} {v : Value} {cell : Cell} (hI : ab_ia ad G A) (hG : ab_at G o = some ci) (h0 : ab_ob E ad o ci ob H) (hf : f < (ab_lay ci).length) (hap : ∀ a b, a < (ab_lay ci).length → b < (ab_lay ci).length → a ≠ b → (E.1.2 ci) a ≠ (E.1.2 ci) b)
    (hc : H[ad o 0]? = some cell) (e1 : H'[ad o 0]? = some (cell.setSlot ((E.1.2 ci) f) v)) (e3 : ∀ q, q ≠ ad o 0 → H'[q]? = H[q]?) (hk : ab_kd ci f ≤ 2) (hv : ab_fv ad o (ab_pf ob f z) f (ab_kd ci f) = v) (hok : ab_okk (ab_kd ci f) z) : ab_ob E ad o ci (ab_pf ob f z) H' := by
  obtain ⟨⟨cell', q1, q2, q3, q4⟩, q5, q6⟩ := h0
  cases hc.symm.trans q1
  refine ⟨⟨_, e1, q2, q3, fun j hj => ?_⟩, fun g ha => ?_, fun g => ⟨fun hn hl => ?_, fun ha => (q6 g).2 ha⟩⟩
  · rw [t_set q4 hap hf v j hj]
    congr 1
    by_cases hjf : j = f
    · subst hjf
      simp only [updV, if_true]
      exact hv.symm
    · simp only [updV, if_neg hjf]
      have : ab_fv ad o ob j (ab_kd ci j) = ab_fv ad o (ab_pf ob f z) j (ab_kd ci j) := by
        generalize ab_kd ci j = kd
        have e : (ab_pf ob f z).1 j = ob.1 j := by simp [ab_pf, ab_up, hjf]
        match kd with
        | 0 => simp [ab_fv, e]
        | 1 => simp [ab_fv, e]
        | 2 => simp [ab_fv, e]
        | 3 => rfl
        | 4 => rfl
        | 5 => rfl
        | 6 => rfl
        | k + 7 => rfl
      exact this
  · rw [e3 _ (fun e => by have := (hI.1 _ _ _ _ (ab_slf hG ha) (ab_sl0 hG) e).2; omega)]
    exact q5 g ha
  · by_cases hgf : g = f
    · subst hgf
      have e : (ab_pf ob g z).1 g = z := by simp [ab_pf, ab_up]
      rw [e]; exact hok
    · have e : (ab_pf ob f z).1 g = ob.1 g := by simp [ab_pf, ab_up, hgf]
      rw [e]; exact (q6 g).1 hn hl
theorem ab_r_putf (X : ab_X x) {i a f o : Nat} {v : ab_V} (ha : a < 10) (hf : f < (ab_lay a).length) (hw : .fieldLink (ab_nm (ab_cM x)).cls i (ab_T a f).1 (ab_T a f).2.1 (ab_T a f).2.2.1 ∈ ab_gw) (hd : ab_dec x pc (.putfield i) 3) (k : ab_putf (ab_G (ab_cM x)) ws o a f v fun ws' => ab_J x (pc + 3) lv st ws' kc ks) : ab_J x pc lv (v :: ab_O o :: st) ws kc ks := by
  unfold ab_putf at k
  simp only [ab_frc_eq] at k
  split at k
  · rename_i ci ob hG hob
    cases hb : Nat.beq ci a with
    | false => rw [hb] at k; exact k.elim
    | true =>
      rw [hb] at k
      dsimp only at k
      have e := ab_beq hb
      subst e
      intro ad H locs ls h1 h2 h3 h4 h5 h6 h7 h8 h9
      have h0 := h2.2 o ci ob hG hob
      obtain ⟨⟨cell, q1, q2, q3, q4⟩, q5, q6⟩ := id h0
      have hc := X.K.1.1 ci _ (ab_cls ha)
      obtain ⟨hS, hfc, kC, hkC, hkind⟩ := hc
      obtain ⟨cf, kf, fi, fd, hi, hsl⟩ := hS f hf
      have hap := va_apart (own := "") X.ts (ab_inl ha) (ab_ty ci) (ab_tyok ha) (ab_nms ha) X.K.1 (ab_cls ha)
      have hkt := ab_kty ha f hf
      have h6v := h6 v List.mem_cons_self
      have h6' := ab_okt (ab_okt h6)
      have hst := (u_facts hfc hkC (u_lays X.ts (ab_inl ha) hf) hi).1
      have go : ∀ (z : Int) (w : Value) (ty : FieldType), ab_kd ci f ≤ 2 → ab_ty ci f = ty → (ab_T ci f).2.2.2 = false → ab_fv ad o (ab_pf ob f z) f (ab_kd ci f) = w → ab_okk (ab_kd ci f) z → narrow ty w = w → fits ty w = true → ab_J x (pc + 3) lv st (ab_set ws o (ab_pf ob f z)) kc ks → ab_Wx x H locs kc ks (F0 (ab_cm x) pc ls (w :: .ref (ad o 0) :: st.map (ab_cv ad (ab_cE x).2.2.1))) := by
        intro z w ty g1 g2 g3 g4 g5 g6 g7 kk
        have hlay := X.ts _ (ab_inl ha _ (u_in_lay hf))
        unfold u_lay at hlay
        rw [if_neg (by rw [g3]; decide)] at hlay
        have h6s := u_store hfc hkC hkind hlay hi (by rw [ab_tyok ha f hf, g2]) g6 g7
        refine W.putK X.ex X.cd (f := fd) ⟨X.own, X.ts _ hw, ⟨_, _, _, hi⟩, hst⟩ (by rw [q2]; exact h6s) q1 q3 (by rw [hsl]; exact k2_hasslot (q4 f hf)) rfl rfl hd fun H' e1 e2 e3 => ?_
        rw [hsl] at e1
        exact kk ad H' _ ls h1 (ab_W_upd h2 h3 hG (ab_sl0 hG) e3 (ab_ob_pf h3 hG h0 hf hap q1 e1 e3 g1 g4 g5)) h3 (h4.put e2 e3 (h3.2 _ _ (ab_sl0 hG))) h5 h6' h7 h8 h9
      show ab_Wx x H locs kc ks (F0 (ab_cm x) pc ls (ab_cv ad (ab_cE x).2.2.1 v :: .ref (ad o 0) :: st.map (ab_cv ad (ab_cE x).2.2.1)))
      have eu : ∀ z : Int, (ab_pf ob f z).1 f = z := fun z => by simp [ab_pf, ab_up]
      split at k
      · rename_i z hk0
        exact go z _ .int (by omega) (hkt.1 hk0).1 (hkt.1 hk0).2 (by rw [hk0]; simp [ab_fv, eu, ab_cv]) (by rw [hk0]; exact h6v) rfl rfl k
      · rename_i z hk0
        have hz : narrow .boolean (ab_cv ad (ab_cE x).2.2.1 (.inl z)) = ab_cv ad (ab_cE x).2.2.1 (.inl z) ∧ fits .boolean (ab_cv ad (ab_cE x).2.2.1 (.inl z)) = true := by
          rcases k.1 with rfl | rfl
          · exact ⟨(by decide : narrow .boolean (.int (Int32.ofInt 0)) = .int (Int32.ofInt 0)), (by decide : fits .boolean (.int (Int32.ofInt 0)) = true)⟩
          · exact ⟨(by decide : narrow .boolean (.int (Int32.ofInt 1)) = .int (Int32.ofInt 1)), (by decide : fits .boolean (.int (Int32.ofInt 1)) = true)⟩
        exact go z _ .boolean (by omega) (hkt.2.1 hk0).1 (hkt.2.1 hk0).2 (by rw [hk0]; simp [ab_fv, eu, ab_cv]) (by rw [hk0]; exact k.1) hz.1 hz.2 k.2
      · rename_i z hk0
        exact go z _ .long (by omega) (hkt.2.2.1 hk0).1 (hkt.2.2.1 hk0).2 (by rw [hk0]; simp [ab_fv, eu, ab_cv]) (by rw [hk0]; exact h6v) rfl rfl k
      · exact k.elim
  · exact k.elim
end
end
section
/-! SOUNDNESS, fifth part: arrays, answers, switches, Math -/
def ab_kt : Nat → FieldType
  | 3 => .int
  | 4 => .byte
  | 5 => .long
  | _ => .boolean
theorem ab_Karr {E : ab_E} {U : State} (h : va_K E.1 vwCl (ab_tys E) U) {k : Nat} (hk : ab_arr k) : ArrOfT U (E.2.1 k) (ab_kt k) ∧ va_RA U (E.2.1 k) (ab_kt k) := by
  obtain ⟨h1, h2⟩ := hk
  have : k = 3 ∨ k = 4 ∨ k = 5 ∨ k = 6 := by omega
  rcases this with rfl | rfl | rfl | rfl
  · exact h.2 0 _ rfl
  · exact h.2 1 _ rfl
  · exact h.2 2 _ rfl
  · exact h.2 3 _ rfl
theorem ab_el_upd (k : Nat) (f : Int → Int) (i z : Int) (h0 : 0 ≤ i) : updV (fun j => ab_el k (f j)) i.toNat (ab_el k z) = fun j : Nat => ab_el k (ab_ui f i z j) := by
  funext j
  unfold updV ab_ui
  by_cases h : j = i.toNat
  · subst h
    rw [if_pos rfl, if_pos (by omega)]
  · rw [if_neg h, if_neg (by omega)]
/-- an element of an array has changed -/
theorem ab_ob_pa {E : ab_E} {ad : Nat → Nat → Nat} {G : List Nat} {A : Nat → Prop} {H H' : Heap} {o ci f : Nat} {ob : ab_Ob} {i z : Int} (hI : ab_ia ad G A) (hG : ab_at G o = some ci) (h0 : ab_ob E ad o ci ob H) (ha : ab_arr (ab_kd ci f)) (hi : 0 ≤ i)
    (e1 : H'[ad o (f + 1)]? = some ((ab_ac (E.2.1 (ab_kd ci f)) (ab_kd ci f) (ob.2 f)).setSlot i.toNat (ab_el (ab_kd ci f) z))) (e3 : ∀ q, q ≠ ad o (f + 1) → H'[q]? = H[q]?) (hok : ab_okk (ab_kd ci f) z) : ab_ob E ad o ci (ab_pa ob f i z) H' := by
  obtain ⟨q1, q5, q6⟩ := h0
  refine ⟨?_, fun g hg => ?_, fun g => ⟨fun hn hl => (q6 g).1 hn hl, fun hg => ?_⟩⟩
  · have := q1.kept (e3 _ (fun e => by have := (hI.1 _ _ _ _ (ab_sl0 hG) (ab_slf hG ha) e).2; omega))
    refine this.to fun j _ => ?_
    generalize ab_kd ci j = kd
    match kd with
    | 0 => rfl
    | 1 => rfl
    | 2 => rfl
    | 3 => rfl
    | 4 => rfl
    | 5 => rfl
    | 6 => rfl
    | k + 7 => rfl
  · by_cases hgf : g = f
    · subst hgf
      rw [e1]
      have e : (ab_pa ob g i z).2 g = ((ob.2 g).1, ab_ui (ob.2 g).2 i z) := by simp [ab_pa, ab_ua]
      rw [e]
      unfold ab_ac
      rw [arrV_store]
      dsimp only
      rw [ab_el_upd _ _ _ _ hi]
    · have e : (ab_pa ob f i z).2 g = ob.2 g := by simp [ab_pa, ab_ua, hgf]
      rw [e, e3 _ (fun h => by have := (hI.1 _ _ _ _ (ab_slf hG hg) (ab_slf hG ha) h).2; omega)]
      exact q5 g hg
  · by_cases hgf : g = f
    · subst hgf
      have e : (ab_pa ob g i z).2 g = ((ob.2 g).1, ab_ui (ob.2 g).2 i z) := by simp [ab_pa, ab_ua]
      rw [e]
      obtain ⟨g1, g2, g3⟩ := (q6 g).2 hg
      refine ⟨g1, g2, fun j => ?_⟩
      show ab_okk _ (ab_ui (ob.2 g).2 i z j)
      unfold ab_ui
      split
      · exact hok
      · exact g3 j
    · have e : (ab_pa ob f i z).2 g = ob.2 g := by simp [ab_pa, ab_ua, hgf]
      rw [e]; exact (q6 g).2 hg
section
variable {x : ab_Cx} {pc : Nat} {lv : List (Option ab_V)} {st : List ab_V} {ws : List ab_Ob} {kc ks : Nat}
theorem ab_okk0 {k : Nat} {z : Int} (hk : ab_arr k) (h5 : k ≠ 5) (h : ab_okk k z) : ab_okk 0 z := by
  obtain ⟨h1, h2⟩ := hk
  have : k = 3 ∨ k = 4 ∨ k = 6 := by omega
  rcases this with rfl | rfl | rfl
  · exact h
  · have h : -128 ≤ z ∧ z ≤ 127 := h
    exact ⟨by omega, by omega⟩
  · have h : z = 0 ∨ z = 1 := h
    exact ⟨by omega, by omega⟩
theorem ab_r_iald (X : ab_X x) {i : Int} {q : Nat × Nat} (hd : ab_dec x pc .iaload 1) (k : ab_ald (ab_G (ab_cM x)) ws q.1 q.2 i (ab_isN 3) fun _ z => ab_J x (pc + 1) lv (.inl z :: st) ws kc ks) : ab_J x pc lv (.inl i :: .inr (.inr (.inr (.inl q))) :: st) ws kc ks := by
  unfold ab_ald at k
  split at k
  · rename_i ci ob hG hob
    split at k
    · rename_i hb
      have hk : ab_kd ci q.2 = 3 := ab_beq hb
      intro ad H locs ls h1 h2 h3 h4 h5 h6 h7 h8 h9
      have ha : ab_arr (ab_kd ci q.2) := by rw [hk]; exact ⟨by omega, by omega⟩
      obtain ⟨q1, q5, q6⟩ := h2.2 q.1 ci ob hG hob
      have hi : ab_okk 0 i := h6 _ List.mem_cons_self
      have hc := q5 q.2 ha
      have hA := (ab_Karr X.K.1 ha).1
      have hz := ((q6 q.2).2 ha).2.2 i
      rw [hk] at hc hA hz
      refine W.iald (v := .int (Int32.ofInt ((ob.2 q.2).2 i))) X.ex X.cd hc (hA _ _) (fun q => by cases q) (by unfold ab_ac; rw [arrV_size]; exact ab_in32 hi k.1.1 k.1.2) ?_ rfl rfl hd (k.2 ad H locs ls h1 h2 h3 h4 h5 (ab_okc (v := .inl _) hz (ab_okt (ab_okt h6))) h7 h8 h9)
      rw [ab_cl32 hi]
      unfold ab_ac
      rw [arrV_read _ _ (by have := k.1; omega)]
      have e : ((i.toNat : Nat) : Int) = i := by have := k.1; omega
      rw [e]
      rfl
    · exact k.elim
  · exact k.elim
theorem ab_r_bald (X : ab_X x) {i : Int} {q : Nat × Nat} (hd : ab_dec x pc .baload 1) (k : ab_ald (ab_G (ab_cM x)) ws q.1 q.2 i ab_isB fun _ z => ab_J x (pc + 1) lv (.inl z :: st) ws kc ks) : ab_J x pc lv (.inl i :: .inr (.inr (.inr (.inl q))) :: st) ws kc ks := by
  unfold ab_ald at k
  split at k
  · rename_i ci ob hG hob
    split at k
    · rename_i hb
      have hk : ab_kd ci q.2 = 4 ∨ ab_kd ci q.2 = 6 := by
        unfold ab_isB at hb
        rcases (Bool.or_eq_true _ _).mp hb with h | h
        · exact Or.inl (ab_beq h)
        · exact Or.inr (ab_beq h)
      intro ad H locs ls h1 h2 h3 h4 h5 h6 h7 h8 h9
      have ha : ab_arr (ab_kd ci q.2) := by rcases hk with h | h <;> rw [h] <;> exact ⟨by omega, by omega⟩
      obtain ⟨q1, q5, q6⟩ := h2.2 q.1 ci ob hG hob
      have hi : ab_okk 0 i := h6 _ List.mem_cons_self
      have hc := q5 q.2 ha
      have hA := (ab_Karr X.K.1 ha).1
      have hz := ab_okk0 ha (by omega) (((q6 q.2).2 ha).2.2 i)
      have kk := k.2 ad H locs ls h1 h2 h3 h4 h5 (ab_okc (v := .inl _) hz (ab_okt (ab_okt h6))) h7 h8 h9
      have hv : ∀ (cA : ClassId) (kd : Nat), kd ≠ 5 → (ab_ac cA kd (ob.2 q.2)).slots[(Int32.ofInt i).toNatClampNeg]? = some (.int (Int32.ofInt ((ob.2 q.2).2 i))) := fun cA kd h5' => by
        rw [ab_cl32 hi]
        unfold ab_ac
        rw [arrV_read _ _ (by have := k.1; omega)]
        have e : ((i.toNat : Nat) : Int) = i := by have := k.1; omega
        rw [e]
        simp [ab_el, h5']
      rcases hk with hk | hk
      · rw [hk] at hc hA
        exact W.bald (v := .int (Int32.ofInt ((ob.2 q.2).2 i))) X.ex X.cd hc (hA _ _) (fun q => by cases q) (by unfold ab_ac; rw [arrV_size]; exact ab_in32 hi k.1.1 k.1.2) (hv _ _ (by omega)) rfl rfl hd kk
      · rw [hk] at hc hA
        exact W.zald (v := .int (Int32.ofInt ((ob.2 q.2).2 i))) X.ex X.cd hc (hA _ _) (fun q => by cases q) (by unfold ab_ac; rw [arrV_size]; exact ab_in32 hi k.1.1 k.1.2) (hv _ _ (by omega)) rfl rfl hd kk
    · exact k.elim
  · exact k.elim
theorem ab_r_lald (X : ab_X x) {i : Int} {q : Nat × Nat} (hd : ab_dec x pc .laload 1) (k : ab_ald (ab_G (ab_cM x)) ws q.1 q.2 i (ab_isN 5) fun _ z => ab_J x (pc + 1) lv (.inr (.inl z) :: st) ws kc ks) : ab_J x pc lv (.inl i :: .inr (.inr (.inr (.inl q))) :: st) ws kc ks := by
  unfold ab_ald at k
  split at k
  · rename_i ci ob hG hob
    split at k
    · rename_i hb
      have hk : ab_kd ci q.2 = 5 := ab_beq hb
      intro ad H locs ls h1 h2 h3 h4 h5 h6 h7 h8 h9
      have ha : ab_arr (ab_kd ci q.2) := by rw [hk]; exact ⟨by omega, by omega⟩
      obtain ⟨q1, q5, q6⟩ := h2.2 q.1 ci ob hG hob
      have hi : ab_okk 0 i := h6 _ List.mem_cons_self
      have hc := q5 q.2 ha
      have hA := (ab_Karr X.K.1 ha).1
      have hz := ((q6 q.2).2 ha).2.2 i
      rw [hk] at hc hA hz
      refine W.lald (v := .long (Int64.ofInt ((ob.2 q.2).2 i))) X.ex X.cd hc (hA _ _) (fun q => by cases q) (by unfold ab_ac; rw [arrV_size]; exact ab_in32 hi k.1.1 k.1.2) ?_ rfl rfl hd (k.2 ad H locs ls h1 h2 h3 h4 h5 (ab_okc (v := .inr (.inl _)) hz (ab_okt (ab_okt h6))) h7 h8 h9)
      rw [ab_cl32 hi]
      unfold ab_ac
      rw [arrV_read _ _ (by have := k.1; omega)]
      have e : ((i.toNat : Nat) : Int) = i := by have := k.1; omega
      rw [e]
      rfl
    · exact k.elim
  · exact k.elim
theorem ab_r_iast (X : ab_X x) {i z : Int} {q : Nat × Nat} (hd : ab_dec x pc .iastore 1) (k : ab_ast (ab_G (ab_cM x)) ws q.1 q.2 i (ab_isN 3) fun _ w => ab_J x (pc + 1) lv st (w z) kc ks) : ab_J x pc lv (.inl z :: .inl i :: .inr (.inr (.inr (.inl q))) :: st) ws kc ks := by
  unfold ab_ast at k
  split at k
  · rename_i ci ob hG hob
    split at k
    · rename_i hb
      have hk : ab_kd ci q.2 = 3 := ab_beq hb
      intro ad H locs ls h1 h2 h3 h4 h5 h6 h7 h8 h9
      have ha : ab_arr (ab_kd ci q.2) := by rw [hk]; exact ⟨by omega, by omega⟩
      have h0 := h2.2 q.1 ci ob hG hob
      have hz : ab_okk 0 z := h6 _ List.mem_cons_self
      have hi : ab_okk 0 i := h6 _ (List.mem_cons_of_mem _ List.mem_cons_self)
      have hc := h0.2.1 q.2 ha
      have hA := (ab_Karr X.K.1 ha).1 (ob.2 q.2).1.toNat (fun j => ab_el (ab_kd ci q.2) ((ob.2 q.2).2 j))
      refine W.iast X.ex X.cd hc (by rw [show ab_kt (ab_kd ci q.2) = .int by rw [hk]; rfl] at hA; exact hA) (fun q => by cases q) (by unfold ab_ac; rw [arrV_size]; exact ab_in32 hi k.1.1 k.1.2) rfl rfl hd fun H' e1 e2 e3 => ?_
      rw [ab_cl32 hi] at e1
      have e1' : H'[ad q.1 (q.2 + 1)]? = some ((ab_ac ((ab_cE x).2.1 (ab_kd ci q.2)) (ab_kd ci q.2) (ob.2 q.2)).setSlot i.toNat (ab_el (ab_kd ci q.2) z)) := by rw [e1]; congr 2; rw [hk]; rfl
      exact k.2 ad H' _ ls h1 (ab_W_upd h2 h3 hG (ab_slf hG ha) e3 (ab_ob_pa h3 hG h0 ha k.1.1 e1' e3 (by rw [hk]; exact hz))) h3 (h4.put e2 e3 (h3.2 _ _ (ab_slf hG ha))) h5 (ab_okt (ab_okt (ab_okt h6))) h7 h8 h9
    · exact k.elim
  · exact k.elim
theorem ab_r_last (X : ab_X x) {i z : Int} {q : Nat × Nat} (hd : ab_dec x pc .lastore 1) (k : ab_ast (ab_G (ab_cM x)) ws q.1 q.2 i (ab_isN 5) fun _ w => ab_J x (pc + 1) lv st (w z) kc ks) : ab_J x pc lv (.inr (.inl z) :: .inl i :: .inr (.inr (.inr (.inl q))) :: st) ws kc ks := by
  unfold ab_ast at k
  split at k
  · rename_i ci ob hG hob
    split at k
    · rename_i hb
      have hk : ab_kd ci q.2 = 5 := ab_beq hb
      intro ad H locs ls h1 h2 h3 h4 h5 h6 h7 h8 h9
      have ha : ab_arr (ab_kd ci q.2) := by rw [hk]; exact ⟨by omega, by omega⟩
      have h0 := h2.2 q.1 ci ob hG hob
      have hz : ab_okk 2 z := h6 _ List.mem_cons_self
      have hi : ab_okk 0 i := h6 _ (List.mem_cons_of_mem _ List.mem_cons_self)
      have hc := h0.2.1 q.2 ha
      have hA := (ab_Karr X.K.1 ha).1 (ob.2 q.2).1.toNat (fun j => ab_el (ab_kd ci q.2) ((ob.2 q.2).2 j))
      refine W.last X.ex X.cd hc (by rw [show ab_kt (ab_kd ci q.2) = .long by rw [hk]; rfl] at hA; exact hA) (fun q => by cases q) (by unfold ab_ac; rw [arrV_size]; exact ab_in32 hi k.1.1 k.1.2) rfl rfl hd fun H' e1 e2 e3 => ?_
      rw [ab_cl32 hi] at e1
      have e1' : H'[ad q.1 (q.2 + 1)]? = some ((ab_ac ((ab_cE x).2.1 (ab_kd ci q.2)) (ab_kd ci q.2) (ob.2 q.2)).setSlot i.toNat (ab_el (ab_kd ci q.2) z)) := by rw [e1]; congr 2; rw [hk]; rfl
      exact k.2 ad H' _ ls h1 (ab_W_upd h2 h3 hG (ab_slf hG ha) e3 (ab_ob_pa h3 hG h0 ha k.1.1 e1' e3 (by rw [hk]; exact hz))) h3 (h4.put e2 e3 (h3.2 _ _ (ab_slf hG ha))) h5 (ab_okt (ab_okt (ab_okt h6))) h7 h8 h9
    · exact k.elim
  · exact k.elim
theorem ab_r_bast (X : ab_X x) {i z : Int} {q : Nat × Nat} (hd : ab_dec x pc .bastore 1) (k : ab_ast (ab_G (ab_cM x)) ws q.1 q.2 i ab_isB fun kd w => match kd with | 4 => ab_J x (pc + 1) lv st (w (ab_i8 z)) kc ks | _ => (z = 0 ∨ z = 1) ∧ ab_J x (pc + 1) lv st (w z) kc ks) : ab_J x pc lv (.inl z :: .inl i :: .inr (.inr (.inr (.inl q))) :: st) ws kc ks := by
  unfold ab_ast at k
  split at k
  · rename_i ci ob hG hob
    split at k
    · rename_i hb
      have hk : ab_kd ci q.2 = 4 ∨ ab_kd ci q.2 = 6 := by
        unfold ab_isB at hb
        rcases (Bool.or_eq_true _ _).mp hb with h | h
        · exact Or.inl (ab_beq h)
        · exact Or.inr (ab_beq h)
      intro ad H locs ls h1 h2 h3 h4 h5 h6 h7 h8 h9
      have ha : ab_arr (ab_kd ci q.2) := by rcases hk with h | h <;> rw [h] <;> exact ⟨by omega, by omega⟩
      have h0 := h2.2 q.1 ci ob hG hob
      have hi : ab_okk 0 i := h6 _ (List.mem_cons_of_mem _ List.mem_cons_self)
      have hc := h0.2.1 q.2 ha
      have hA := (ab_Karr X.K.1 ha).1 (ob.2 q.2).1.toNat (fun j => ab_el (ab_kd ci q.2) ((ob.2 q.2).2 j))
      rcases hk with hk | hk
      · have k2 : ab_J x (pc + 1) lv st (ab_set ws q.1 (ab_pa ob q.2 i (ab_i8 z))) kc ks := by have := k.2; rw [hk] at this; exact this
        refine W.bast X.ex X.cd hc (by rw [show ab_kt (ab_kd ci q.2) = .byte by rw [hk]; rfl] at hA; exact hA) (fun q => by cases q) (by unfold ab_ac; rw [arrV_size]; exact ab_in32 hi k.1.1 k.1.2) rfl rfl hd fun H' e1 e2 e3 => ?_
        rw [ab_cl32 hi] at e1
        have e1' : H'[ad q.1 (q.2 + 1)]? = some ((ab_ac ((ab_cE x).2.1 (ab_kd ci q.2)) (ab_kd ci q.2) (ob.2 q.2)).setSlot i.toNat (ab_el (ab_kd ci q.2) (ab_i8 z))) := by
          rw [e1]; congr 2
          have : ab_el (ab_kd ci q.2) (ab_i8 z) = .int (Int32.ofInt (ab_i8 z)) := by rw [hk]; rfl
          rw [this, ← ab_i8_32]
          rfl
        exact k2 ad H' _ ls h1 (ab_W_upd h2 h3 hG (ab_slf hG ha) e3 (ab_ob_pa h3 hG h0 ha k.1.1 e1' e3 (by rw [hk]; exact ab_i8_ok z))) h3 (h4.put e2 e3 (h3.2 _ _ (ab_slf hG ha))) h5 (ab_okt (ab_okt (ab_okt h6))) h7 h8 h9
      · have k2 : (z = 0 ∨ z = 1) ∧ ab_J x (pc + 1) lv st (ab_set ws q.1 (ab_pa ob q.2 i z)) kc ks := by have := k.2; rw [hk] at this; exact this
        refine W.zast X.ex X.cd hc (by rw [show ab_kt (ab_kd ci q.2) = .boolean by rw [hk]; rfl] at hA; exact hA) (fun q => by cases q) (by unfold ab_ac; rw [arrV_size]; exact ab_in32 hi k.1.1 k.1.2) rfl rfl hd fun H' e1 e2 e3 => ?_
        rw [ab_cl32 hi] at e1
        have e1' : H'[ad q.1 (q.2 + 1)]? = some ((ab_ac ((ab_cE x).2.1 (ab_kd ci q.2)) (ab_kd ci q.2) (ob.2 q.2)).setSlot i.toNat (ab_el (ab_kd ci q.2) z)) := by
          rw [e1]; congr 2
          have : ab_el (ab_kd ci q.2) z = .int (Int32.ofInt z) := by rw [hk]; rfl
          rw [this]
          rcases k2.1 with rfl | rfl
          · exact (by decide : narrow .boolean (.int (Int32.ofInt 0)) = .int (Int32.ofInt 0))
          · exact (by decide : narrow .boolean (.int (Int32.ofInt 1)) = .int (Int32.ofInt 1))
        exact k2.2 ad H' _ ls h1 (ab_W_upd h2 h3 hG (ab_slf hG ha) e3 (ab_ob_pa h3 hG h0 ha k.1.1 e1' e3 (by rw [hk]; exact k2.1))) h3 (h4.put e2 e3 (h3.2 _ _ (ab_slf hG ha))) h5 (ab_okt (ab_okt (ab_okt h6))) h7 h8 h9
    · exact k.elim
  · exact k.elim
theorem ab_r_alen (X : ab_X x) {q : Nat × Nat} {ci : Nat} {ob : ab_Ob} (hG : ab_at (ab_G (ab_cM x)) q.1 = some ci) (hob : ab_at ws q.1 = some ob) (ha : ab_arr (ab_kd ci q.2)) (hd : ab_dec x pc .arraylength 1) (k : ab_J x (pc + 1) lv (.inl (ob.2 q.2).1 :: st) ws kc ks) : ab_J x pc lv (.inr (.inr (.inr (.inl q))) :: st) ws kc ks := by
  intro ad H locs ls h1 h2 h3 h4 h5 h6 h7 h8 h9
  have h0 := h2.2 q.1 ci ob hG hob
  have hl := (h0.2.2 q.2).2 ha
  refine W.alen (n := Int32.ofInt (ob.2 q.2).1) X.ex X.cd (h0.2.1 q.2 ha) ((ab_Karr X.K.1 ha).1 _ _) ?_ rfl rfl hd (k ad H locs ls h1 h2 h3 h4 h5 (ab_okc (v := .inl _) ⟨by have := hl.1; omega, hl.2.1⟩ (ab_okt h6)) h7 h8 h9)
  unfold ab_ac
  rw [arrV_size]
  have e : (((ob.2 q.2).1.toNat : Nat) : Int) = (ob.2 q.2).1 := by have := hl.1; omega
  show Int32.ofNat (ob.2 q.2).1.toNat = Int32.ofInt (ob.2 q.2).1
  rw [← Int32.ofInt_eq_ofNat, e]
end
end
section
/-! SOUNDNESS, sixth part: new arrays, switches, Math, answers -/
theorem ab_cv_na {ad ad' : Nat → Nat → Nat} {ak : Nat → Nat} (h : ∀ o, ad' o 0 = ad o 0) {v : ab_V} (hv : ab_na0 v = true) : ab_cv ad' ak v = ab_cv ad ak v := by
  rcases v with z | z | o | q | n
  · rfl
  · rfl
  · simp [ab_cv, h]
  · cases hv
  · rfl
theorem ab_nas_mem {l : List ab_V} (h : ab_nas l = true) {v : ab_V} (hv : v ∈ l) : ab_na0 v = true := by
  induction l with
  | nil => cases hv
  | cons w l ih =>
    simp only [ab_nas, Bool.and_eq_true] at h
    rcases List.mem_cons.mp hv with rfl | hv
    · exact h.1
    · exact ih h.2 hv
theorem ab_nal_mem {l : List (Option ab_V)} (h : ab_nal l = true) {v : ab_V} (hv : some v ∈ l) : ab_na0 v = true := by
  induction l with
  | nil => cases hv
  | cons w l ih =>
    cases w with
    | none =>
      rcases List.mem_cons.mp hv with h' | hv
      · cases h'
      · exact ih h hv
    | some u =>
      simp only [ab_nal, Bool.and_eq_true] at h
      rcases List.mem_cons.mp hv with h' | hv
      · cases h'; exact h.1
      · exact ih h.2 hv
theorem ab_map_na {ad ad' : Nat → Nat → Nat} {ak : Nat → Nat} (h : ∀ o, ad' o 0 = ad o 0) {l : List ab_V} (hl : ab_nas l = true) : l.map (ab_cv ad' ak) = l.map (ab_cv ad ak) :=
  List.map_congr_left fun _ hv => ab_cv_na h (ab_nas_mem hl hv)
theorem ab_lc_na {ad ad' : Nat → Nat → Nat} {ak : Nat → Nat} (h : ∀ o, ad' o 0 = ad o 0) {lv : List (Option ab_V)} (hl : ab_nal lv = true) {ls : Array Slot} {nL : Nat} (h5 : lv_has ls nL (ab_lc ad ak 0 lv)) : lv_has ls nL (ab_lc ad' ak 0 lv) := by
  refine ab_lc_le h5 fun j v hj => ?_
  rw [ab_cv_na h (ab_nal_mem hl (ab_at_mem hj))]
  exact ab_lc_mem.mpr ⟨j, v, hj, by simp⟩
theorem ab_def (k : Nat) (hk : ab_arr k) : defaultValue (ab_kt k) = ab_el k 0 := by
  obtain ⟨h1, h2⟩ := hk
  have : k = 3 ∨ k = 4 ∨ k = 5 ∨ k = 6 := by omega
  rcases this with rfl | rfl | rfl | rfl <;> rfl
section
variable {x : ab_Cx} {pc : Nat} {lv : List (Option ab_V)} {st : List ab_V} {ws : List ab_Ob} {kc ks : Nat}
theorem ab_r_newa (X : ab_X x) {i a f o : Nat} {n : Int} {ty : ArrayType} (ha : a < 10) (hf : f < (ab_lay a).length) (hfin : (ab_T a f).2.2.2 = false) (hw : .fieldLink (ab_nm (ab_cM x)).cls i (ab_T a f).1 (ab_T a f).2.1 (ab_T a f).2.2.1 ∈ ab_gw) (hty : newarray.typeOf ty = ab_kt (ab_atk ty)) (htk : ab_atk ty = 3 ∨ ab_atk ty = 5 ∨ ab_atk ty = 6) (hac : .arrayClass (newarray.typeOf ty) ∈ ab_gw)
    (hd : ab_dec x pc (.newarray ty) 2) (hd2 : ab_dec x (pc + 2) (.putfield i) 3) (hmv : ab_mv (ab_cM x) = true) (hns : ab_nas st = true) (hnl : ab_nal lv = true) (hn : 0 ≤ n ∧ n ≤ 100000) (hr : kc + 1 ≤ ab_cc x ∧ ks + n.toNat ≤ ab_ck x)
    (k : ab_newf (ab_G (ab_cM x)) ws o a f n (ab_isN (ab_atk ty)) fun ws' => ab_J x (pc + 5) lv st ws' (kc + 1) (ks + n.toNat)) : ab_J x pc lv (.inl n :: ab_O o :: st) ws kc ks := by
  unfold ab_newf at k
  simp only [ab_frc_eq] at k
  split at k
  · rename_i ci ob hG hob
    split at k
    · rename_i hb
      obtain ⟨hb1, hb2⟩ := (Bool.and_eq_true _ _).mp hb
      have e := ab_beq hb1
      subst e
      have hkd : ab_kd ci f = ab_atk ty := ab_beq hb2
      have har : ab_arr (ab_kd ci f) := by rw [hkd]; rcases htk with h | h | h <;> rw [h] <;> exact ⟨by omega, by omega⟩
      intro ad H locs ls h1 h2 h3 h4 h5 h6 h7 h8 h9
      have h0 := h2.2 o ci ob hG hob
      obtain ⟨⟨cell, q1, q2, q3, q4⟩, q5, q6⟩ := id h0
      have hnn : ab_okk 0 n := h6 _ List.mem_cons_self
      have hR := X.R
      refine va_newaK X.ex X.cd (atype := ty) (X.ts _ hac) rfl hd rfl (N := n.toNat) (by rw [← ab_of0, ab_lt32 hnn ab_ok0]; omega) (ab_cl32 hnn) (by
        have hcb : componentBytes (newarray.typeOf ty) ≤ 8 := by rw [hty]; rcases htk with h | h | h <;> rw [h] <;> decide
        calc n.toNat * componentBytes (newarray.typeOf ty) ≤ 100000 * 8 := Nat.mul_le_mul (by omega) hcb
          _ ≤ 536870912 := by decide) (by rw [hR]; exact hr.1) (by rw [hR]; exact hr.2) rfl fun H1 cA e1 z1 o1 hAr hNm => ?_
      have hlt : ∀ q cl, H[q]? = some cl → q < H.size := fun q cl h => (Array.getElem?_eq_some_iff.mp h).1
      have hcA : cA = (ab_cE x).2.1 (ab_kd ci f) := by
        have hRA := (ab_Karr X.K.1 har).2
        rw [hkd, ← hty] at hRA
        rw [hkd]
        have : (ab_cs x).vm.findClass ("[" ++ (newarray.typeOf ty).toString) = some ((ab_cE x).2.1 (ab_atk ty)) := by
          revert hRA
          cases ty <;> exact fun h => h
        exact Option.some.inj (hNm.symm.trans this)
      have hc := X.K.1.1 ci _ (ab_cls ha)
      obtain ⟨hS, hfc, kC, hkC, hkind⟩ := hc
      obtain ⟨cf, kf, fi, fd, hi, hsl⟩ := hS f hf
      have hap := va_apart (own := "") X.ts (ab_inl ha) (ab_ty ci) (ab_tyok ha) (ab_nms ha) X.K.1 (ab_cls ha)
      have hkt := ab_kty ha f hf
      have hst := (u_facts hfc hkC (u_lays X.ts (ab_inl ha) hf) hi).1
      have hlay := X.ts _ (ab_inl ha _ (u_in_lay hf))
      unfold u_lay at hlay
      rw [if_neg (by rw [hfin]; decide)] at hlay
      have htf : ∃ t, ab_ty ci f = .array t := by
        rcases htk with h | h | h <;> rw [h] at hkd
        · exact ⟨_, hkt.2.2.2.1 hkd⟩
        · exact ⟨_, hkt.2.2.2.2.1 hkd⟩
        · exact ⟨_, hkt.2.2.2.2.2 hkd⟩
      obtain ⟨tA, htA⟩ := htf
      have h6s := u_store (v := .ref H.size) hfc hkC hkind hlay hi (by rw [ab_tyok ha f hf, htA]) rfl rfl
      have hq1 : H1[ad o 0]? = some cell := by rw [o1 _ (hlt _ _ q1)]; exact q1
      refine W.putK X.ex X.cd (f := fd) ⟨X.own, X.ts _ hw, ⟨_, _, _, hi⟩, hst⟩ (by rw [q2]; exact h6s) hq1 q3 (by rw [hsl]; exact k2_hasslot (q4 f hf)) rfl rfl hd2 fun H2 e2 z2 o2 => ?_
      rw [hsl] at e2
      -- the new addresses
      obtain ⟨ad', had⟩ : ∃ ad' : Nat → Nat → Nat, ∀ o' f', ad' o' f' = if o' = o ∧ f' = f + 1 then H.size else ad o' f' := ⟨_, fun _ _ => rfl⟩
      have ha0 : ∀ o', ad' o' 0 = ad o' 0 := fun o' => by rw [had, if_neg (by omega)]
      have hsz : ∀ o' f', ab_sl (ab_G (ab_cM x)) o' f' → ad o' f' < H.size := by
        intro o' f' hs
        match f', hs with
        | 0, ⟨c1, hc1⟩ =>
          have hl1 := ab_at_lt hc1
          rw [← h2.1] at hl1
          obtain ⟨b1, hb1⟩ : ∃ b1, ab_at ws o' = some b1 := ⟨ws[o'], by rw [ab_at_eq]; simp [hl1]⟩
          obtain ⟨⟨cl1, g1, _⟩, _⟩ := h2.2 o' c1 b1 hc1 hb1
          exact hlt _ _ g1
        | g + 1, ⟨c1, hc1, hg⟩ =>
          have hl1 := ab_at_lt hc1
          rw [← h2.1] at hl1
          obtain ⟨b1, hb1⟩ : ∃ b1, ab_at ws o' = some b1 := ⟨ws[o'], by rw [ab_at_eq]; simp [hl1]⟩
          exact hlt _ _ ((h2.2 o' c1 b1 hc1 hb1).2.1 g hg)
      have hkeep : ∀ q, q < H.size → q ≠ ad o 0 → H2[q]? = H[q]? := fun q hq hne => by rw [o2 q hne, o1 q hq]
      have hW' : ab_W (ab_cE x) ad' (ab_G (ab_cM x)) (ab_set ws o (ab_pn ob f n)) H2 := by
        refine ⟨by rw [ab_set_len]; exact h2.1, fun o1' c1 b1 g1 g2 => ?_⟩
        by_cases ho : o = o1'
        · subst ho
          rw [ab_at_set_eq (by have := ab_at_lt g2; rw [ab_set_len] at this; exact this)] at g2
          cases g2
          cases hG.symm.trans g1
          refine ⟨⟨cell.setSlot (((ab_cE x).1.2 ci) f) (.ref H.size), by rw [ha0]; exact e2, q2, q3, fun j hj => ?_⟩, fun g hg => ?_, fun g => ⟨fun hn' hl' => (q6 g).1 hn' hl', fun hg => ?_⟩⟩
          · rw [t_set q4 hap hf _ j hj]
            congr 1
            by_cases hjf : j = f
            · subst hjf
              simp only [updV, if_true]
              have : ∀ kd, ab_arr kd → ab_fv ad' o (ab_pn ob j n) j kd = .ref (ad' o (j + 1)) := by
                intro kd hkd'
                obtain ⟨u1, u2⟩ := hkd'
                have : kd = 3 ∨ kd = 4 ∨ kd = 5 ∨ kd = 6 := by omega
                rcases this with rfl | rfl | rfl | rfl <;> rfl
              rw [this _ har, had, if_pos ⟨rfl, rfl⟩]
            · simp only [updV, if_neg hjf]
              generalize ab_kd ci j = kd
              have ej : ad' o (j + 1) = ad o (j + 1) := by rw [had, if_neg (by omega)]
              match kd with
              | 0 => rfl
              | 1 => rfl
              | 2 => rfl
              | 3 => simp [ab_fv, ej]
              | 4 => simp [ab_fv, ej]
              | 5 => simp [ab_fv, ej]
              | 6 => simp [ab_fv, ej]
              | k + 7 => simp [ab_fv, ha0]
          · by_cases hgf : g = f
            · subst hgf
              have e : (ab_pn ob g n).2 g = (n, fun _ => 0) := by simp [ab_pn, ab_ua]
              rw [e, had, if_pos ⟨rfl, rfl⟩, o2 _ (Nat.ne_of_gt (hsz o 0 (ab_sl0 hG))), e1]
              unfold ab_ac
              rw [hcA, hty, ← hkd, ab_def _ har]
            · have e : (ab_pn ob f n).2 g = ob.2 g := by simp [ab_pn, ab_ua, hgf]
              rw [e, had, if_neg (by omega), hkeep _ (hsz o (g + 1) (ab_slf hG hg)) (fun h => by have := (h3.1 _ _ _ _ (ab_slf hG hg) (ab_sl0 hG) h).2; omega)]
              exact q5 g hg
          · by_cases hgf : g = f
            · subst hgf
              have e : (ab_pn ob g n).2 g = (n, fun _ => 0) := by simp [ab_pn, ab_ua]
              rw [e]
              refine ⟨hn.1, Int.le_trans hn.2 (by decide), fun _ => ?_⟩
              show ab_okk (ab_kd ci g) 0
              rw [hkd]
              rcases htk with h | h | h <;> rw [h]
              · exact ⟨by omega, by omega⟩
              · exact ⟨by omega, by omega⟩
              · exact Or.inl rfl
            · have e : (ab_pn ob f n).2 g = ob.2 g := by simp [ab_pn, ab_ua, hgf]
              rw [e]; exact (q6 g).2 hg
        · rw [ab_at_set_ne ho] at g2
          obtain ⟨r1, r2, r3⟩ := h2.2 o1' c1 b1 g1 g2
          have key : ∀ f1, ab_sl (ab_G (ab_cM x)) o1' f1 → H2[ad o1' f1]? = H[ad o1' f1]? := fun f1 hs => hkeep _ (hsz _ _ hs) (fun e => ho (h3.1 _ _ _ _ hs (ab_sl0 hG) e).1.symm)
          have had1 : ∀ f1, ad' o1' f1 = ad o1' f1 := fun f1 => by rw [had, if_neg (fun h => ho h.1.symm)]
          refine ⟨?_, fun g hg => by rw [had1, key _ (ab_slf g1 hg)]; exact r2 g hg, r3⟩
          rw [had1]
          refine (r1.kept (key 0 (ab_sl0 g1))).to fun j _ => ?_
          generalize ab_kd c1 j = kd
          match kd with
          | 0 => rfl
          | 1 => rfl
          | 2 => rfl
          | 3 => simp [ab_fv, had1]
          | 4 => simp [ab_fv, had1]
          | 5 => simp [ab_fv, had1]
          | 6 => simp [ab_fv, had1]
          | k + 7 => simp [ab_fv, ha0]
      have hI' : ab_ia ad' (ab_G (ab_cM x)) (ab_cA x) := by
        refine ⟨fun o1' f1 o2' f2 s1 s2 he => ?_, fun o1' f1 s1 => ?_⟩
        · rw [had, had] at he
          have t1 := hsz _ _ s1
          have t2 := hsz _ _ s2
          by_cases c1 : o1' = o ∧ f1 = f + 1
          · by_cases c2 : o2' = o ∧ f2 = f + 1
            · exact ⟨c1.1.trans c2.1.symm, c1.2.trans c2.2.symm⟩
            · rw [if_pos c1, if_neg c2] at he; omega
          · by_cases c2 : o2' = o ∧ f2 = f + 1
            · rw [if_neg c1, if_pos c2] at he; omega
            · rw [if_neg c1, if_neg c2] at he
              exact h3.1 _ _ _ _ s1 s2 he
        · rw [had]
          split
          · exact X.A _ h4.1
          · exact h3.2 _ _ s1
      have hrel : ab_rel (ab_mv (ab_cM x)) (ab_c0 x) ad' := ⟨fun o' => by rw [ha0]; exact h1.1 o', fun h => by rw [hmv] at h; cases h⟩
      have hS1 : va_S (ab_cA x) (ab_cs x).heap H1 locs := ⟨Nat.le_trans h4.1 (by omega), fun q g1 g2 => (o1 q (Nat.lt_of_lt_of_le g1 h4.1)).trans (h4.2.1 q g1 g2), h4.2.2⟩
      have kk := k ad' H2 (locs ++ [⟨ad o 0, ((ab_cE x).1.2 ci) f⟩]) ls hrel hW' hI' (hS1.put z2 o2 (h3.2 _ _ (ab_sl0 hG))) (ab_lc_na ha0 hnl h5) (ab_okt (ab_okt h6)) h7 h8 hr
      rw [ab_map_na ha0 hns] at kk
      rw [hsl]
      exact kk
    · exact k.elim
  · exact k.elim
theorem ab_sw_at {a hi : Int} : ∀ {ts : List Nat} {v : Int} {K : Nat → Prop} (i : Nat) {t : Nat}, ab_sw a hi v ts K → ts[i]? = some t → a = v + i → K t
  | [], _, _, _, _, _, h, _ => by simp at h
  | t0 :: ts, v, K, 0, t, hs, h, he => by
    simp only [List.getElem?_cons_zero, Option.some.injEq] at h
    subst h
    exact hs.1 (by simpa using he)
  | t0 :: ts, v, K, i + 1, t, hs, h, he => by
    simp only [List.getElem?_cons_succ] at h
    exact ab_sw_at (v := v + 1) i hs.2 h (by omega)
theorem ab_r_switch (X : ab_X x) {dflt lo hi a : Int} {offs : Array Int} {len t0 : Nat} {ts : List Nat} (hd : ab_dec x pc (.tableswitch dflt lo hi offs) len) (ht0 : (pc : Int) + dflt = (t0 : Int)) (hts : offs.toList.map (fun o => (pc : Int) + o) = ts.map (fun t : Nat => (t : Int))) (hln : hi = lo + (ts.length : Int) - 1)
    (k : (a < lo ∨ hi < a → ab_J x t0 lv st ws kc ks) ∧ ab_sw a hi lo ts (fun t => ab_J x t lv st ws kc ks)) : ab_J x pc lv (.inl a :: st) ws kc ks := by
  intro ad H locs ls h1 h2 h3 h4 h5 h6 h7 h8 h9
  have ha : ab_okk 0 a := h6 _ List.mem_cons_self
  have h6' := ab_okt h6
  by_cases hc : a < lo ∨ hi < a
  · exact lv_tableOut X.ex X.cd hd (by rw [ab_t32 ha]; exact hc) ht0 (k.1 hc ad H locs ls h1 h2 h3 h4 h5 h6' h7 h8 h9)
  · have hlt : (a - lo).toNat < ts.length := by omega
    have hlen : offs.toList.length = ts.length := by have := congrArg List.length hts; simpa using this
    obtain ⟨off, hoff⟩ : ∃ off, offs.toList[(a - lo).toNat]? = some off := ⟨offs.toList[(a - lo).toNat]'(by omega), by simp⟩
    obtain ⟨t, ht⟩ : ∃ t, ts[(a - lo).toNat]? = some t := ⟨ts[(a - lo).toNat], by simp [hlt]⟩
    have he : (pc : Int) + off = (t : Int) := by
      have := congrArg (fun l : List Int => l[(a - lo).toNat]?) hts
      simp only [List.getElem?_map, hoff, ht, Option.map_some, Option.some.injEq] at this
      exact this
    exact lv_tableIn X.ex X.cd hd (by rw [ab_t32 ha]; omega) (by rw [ab_t32 ha]; omega) (off := off) (by rw [ab_t32 ha, ← Array.getElem?_toList]; exact hoff) he (ab_sw_at _ k.2 ht (by omega) ad H locs ls h1 h2 h3 h4 h5 h6' h7 h8 h9)
end
end
section
/-! SOUNDNESS, seventh part: answers, Math -/
def ab_XQ (x : ab_Cx) (Post : Option ab_V → List ab_Ob → Prop) : Prop :=
  x.2.1.2.2.2 = MQ x.2.1.1 (ab_Q (ab_cE x) (ab_c0 x) (ab_cs x).heap.size (ab_cM x) Post) (ab_ca x) (ab_cs x) (ab_cc x) (ab_ck x) (ab_cA x) ∧ ab_cA x = ab_rg (ab_G (ab_cM x)) (ab_c0 x) (ab_cs x).heap.size
section
variable {x : ab_Cx} {pc : Nat} {lv : List (Option ab_V)} {st : List ab_V} {ws : List ab_Ob} {kc ks : Nat} {Post : Option ab_V → List ab_Ob → Prop}
theorem ab_ret {ad : Nat → Nat → Nat} {H : Heap} {locs : List Loc} {rv : Option ab_V} (XQ : ab_XQ x Post) (k : Post rv ws) (hr : ∀ v, rv = some v → ab_okv v) (h1 : ab_rel (ab_mv (ab_cM x)) (ab_c0 x) ad) (h2 : ab_W (ab_cE x) ad (ab_G (ab_cM x)) ws H) (h3 : ab_ia ad (ab_G (ab_cM x)) (ab_cA x)) (h4 : va_S (ab_cA x) (ab_cs x).heap H locs) (t : State) (ht : t.heap = H) :
    ab_Q (ab_cE x) (ab_c0 x) (ab_cs x).heap.size (ab_cM x) Post (ab_ca x) (ab_cs x) (.returned (rv.map (ab_cv ad (ab_cE x).2.2.1))) t := by
  rw [XQ.2] at h3 h4
  exact ⟨⟨rv, ws, ad, rfl, k, hr, by rw [ht]; exact h2, h1, h3⟩, h4.F ht⟩
theorem ab_r_iret (X : ab_X x) (XQ : ab_XQ x Post) {z : Int} (hrt : ab_rt (ab_cM x) = some .int) (hd : ab_dec x pc .ireturn 1) (k : Post (some (.inl z)) ws) : ab_J x pc lv [.inl z] ws kc ks := by
  intro ad H locs ls h1 h2 h3 h4 h5 h6 h7 h8 h9
  show W _ _ _ _ _ _ _ _ _ _ H locs kc ks x.2.1.2.2.2 _
  rw [XQ.1]
  refine W.widen h9.1 h9.2 ?_
  exact W.iret X.ex X.cd (X.rt.trans hrt) (fun t ht _ => ab_ret (rv := some (.inl z)) XQ k (fun v hv => by cases hv; exact h6 _ List.mem_cons_self) h1 h2 h3 h4 t ht) h4.2.2 hd X.lk
theorem ab_r_zret (X : ab_X x) (XQ : ab_XQ x Post) {z : Int} (hrt : ab_rt (ab_cM x) = some .boolean) (hz : z = 0 ∨ z = 1) (hd : ab_dec x pc .ireturn 1) (k : Post (some (.inl z)) ws) : ab_J x pc lv [.inl z] ws kc ks := by
  intro ad H locs ls h1 h2 h3 h4 h5 h6 h7 h8 h9
  show W _ _ _ _ _ _ _ _ _ _ H locs kc ks x.2.1.2.2.2 _
  rw [XQ.1]
  refine W.widen h9.1 h9.2 ?_
  exact W.zret X.ex X.cd (X.rt.trans hrt) (by
    rcases hz with rfl | rfl
    · exact (by decide : narrow .boolean (.int (Int32.ofInt 0)) = .int (Int32.ofInt 0))
    · exact (by decide : narrow .boolean (.int (Int32.ofInt 1)) = .int (Int32.ofInt 1))) (fun t ht _ => ab_ret (rv := some (.inl z)) XQ k (fun v hv => by cases hv; exact h6 _ List.mem_cons_self) h1 h2 h3 h4 t ht) h4.2.2 hd X.lk
theorem ab_r_lret (X : ab_X x) (XQ : ab_XQ x Post) {z : Int} (hrt : ab_rt (ab_cM x) = some .long) (hd : ab_dec x pc .lreturn 1) (k : Post (some (.inr (.inl z))) ws) : ab_J x pc lv [.inr (.inl z)] ws kc ks := by
  intro ad H locs ls h1 h2 h3 h4 h5 h6 h7 h8 h9
  show W _ _ _ _ _ _ _ _ _ _ H locs kc ks x.2.1.2.2.2 _
  rw [XQ.1]
  refine W.widen h9.1 h9.2 ?_
  exact W.lret X.ex X.cd (X.rt.trans hrt) (fun t ht _ => ab_ret (rv := some (.inr (.inl z))) XQ k (fun v hv => by cases hv; exact h6 _ List.mem_cons_self) h1 h2 h3 h4 t ht) h4.2.2 hd X.lk
theorem ab_r_aret (X : ab_X x) (XQ : ab_XQ x Post) {o : Nat} {nm : String} (hrt : ab_rt (ab_cM x) = some (.object nm)) (hd : ab_dec x pc .areturn 1) (k : Post (some (ab_O o)) ws) : ab_J x pc lv [ab_O o] ws kc ks := by
  intro ad H locs ls h1 h2 h3 h4 h5 h6 h7 h8 h9
  show W _ _ _ _ _ _ _ _ _ _ H locs kc ks x.2.1.2.2.2 _
  rw [XQ.1]
  refine W.widen h9.1 h9.2 ?_
  exact W.aret (v := .ref (ad o 0)) X.ex X.cd (X.rt.trans hrt) (Or.inl ⟨nm, rfl⟩) (Or.inr ⟨_, rfl⟩) (fun t ht _ => ab_ret (rv := some (ab_O o)) XQ k (fun v hv => by cases hv; trivial) h1 h2 h3 h4 t ht) h4.2.2 hd X.lk
theorem ab_r_vret (X : ab_X x) (XQ : ab_XQ x Post) (hrt : ab_rt (ab_cM x) = none) (hd : ab_dec x pc .return_ 1) (k : Post none ws) : ab_J x pc lv [] ws kc ks := by
  intro ad H locs ls h1 h2 h3 h4 h5 h6 h7 h8 h9
  show W _ _ _ _ _ _ _ _ _ _ H locs kc ks x.2.1.2.2.2 _
  rw [XQ.1]
  refine W.widen h9.1 h9.2 ?_
  exact W.vret X.ex X.cd (X.rt.trans hrt) (fun t ht _ => ab_ret (rv := none) XQ k (fun v hv => by cases hv) h1 h2 h3 h4 t ht) h4.2.2 hd X.lk
theorem ab_cats_map (ad : Nat → Nat → Nat) (ak : Nat → Nat) (l : List ab_V) : ((l.map (ab_cv ad ak)).map fun v => v.category).sum = ab_cats l := by
  induction l with
  | nil => rfl
  | cons v l ih => simp only [List.map_cons, List.sum_cons, ih, ab_cv_cat, ab_cats]
theorem ab_r_mmax (X : ab_X x) {i : Nat} {a b : Int} (hw : .methodLink (ab_nm (ab_cM x)).cls i Lib.Math.max.name ∈ ab_gw) (hs : .static Lib.Math.max.name ∈ ab_gw) (hn : .initialized "java/lang/Math" ∈ ab_gw) (hc : .code Lib.Math.max.name Lib.Math.max.code 2 (some .int) ∈ ab_gw) (hst : ab_cats st ≤ 8) (hd : ab_dec x pc (.invokestatic i) 3) (k : ab_J x (pc + 3) lv (.inl (if a < b then b else a) :: st) ws kc ks) : ab_J x pc lv (.inl b :: .inl a :: st) ws kc ks := by
  intro ad H locs ls h1 h2 h3 h4 h5 h6 h7 h8 h9
  have hb : ab_okk 0 b := h6 _ List.mem_cons_self
  have ha : ab_okk 0 a := h6 _ (List.mem_cons_of_mem _ List.mem_cons_self)
  refine va_mmax X.ex X.cd (X.ml.trans h5.1.symm) X.own (X.ts _ hw) (X.ts _ hs) (X.ts _ hn) (X.ts _ hc) (by rw [X.R]; exact Nat.le_add_left _ _) (by rw [ab_cats_map, X.R]; show ab_cats st + 13 ≤ 37 * (ab_cd' x + 1); omega) (by rw [X.R]; exact h9.1) (by rw [X.R]; exact h9.2) hd ?_
  have kk := k ad H locs ls h1 h2 h3 h4 h5 (ab_ok2 (v := .inl (if a < b then b else a)) (fun _ _ => by split; exact hb; exact ha) h6) h7 h8 h9
  have e : (if Int32.ofInt a < Int32.ofInt b then Int32.ofInt b else Int32.ofInt a) = Int32.ofInt (if a < b then b else a) := by
    by_cases h : a < b
    · rw [if_pos h, if_pos ((ab_lt32 ha hb).mpr h)]
    · rw [if_neg h, if_neg (fun q => h ((ab_lt32 ha hb).mp q))]
  rw [e]
  exact kk
theorem ab_r_mmin (X : ab_X x) {i : Nat} {a b : Int} (hw : .methodLink (ab_nm (ab_cM x)).cls i Lib.Math.min.name ∈ ab_gw) (hs : .static Lib.Math.min.name ∈ ab_gw) (hn : .initialized "java/lang/Math" ∈ ab_gw) (hc : .code Lib.Math.min.name Lib.Math.min.code 2 (some .int) ∈ ab_gw) (hst : ab_cats st ≤ 8) (hd : ab_dec x pc (.invokestatic i) 3) (k : ab_J x (pc + 3) lv (.inl (if b < a then b else a) :: st) ws kc ks) : ab_J x pc lv (.inl b :: .inl a :: st) ws kc ks := by
  intro ad H locs ls h1 h2 h3 h4 h5 h6 h7 h8 h9
  have hb : ab_okk 0 b := h6 _ List.mem_cons_self
  have ha : ab_okk 0 a := h6 _ (List.mem_cons_of_mem _ List.mem_cons_self)
  refine va_mmin X.ex X.cd (X.ml.trans h5.1.symm) X.own (X.ts _ hw) (X.ts _ hs) (X.ts _ hn) (X.ts _ hc) (by rw [X.R]; exact Nat.le_add_left _ _) (by rw [ab_cats_map, X.R]; show ab_cats st + 13 ≤ 37 * (ab_cd' x + 1); omega) (by rw [X.R]; exact h9.1) (by rw [X.R]; exact h9.2) hd ?_
  have kk := k ad H locs ls h1 h2 h3 h4 h5 (ab_ok2 (v := .inl (if b < a then b else a)) (fun _ _ => by split; exact hb; exact ha) h6) h7 h8 h9
  have e : (if Int32.ofInt b < Int32.ofInt a then Int32.ofInt b else Int32.ofInt a) = Int32.ofInt (if b < a then b else a) := by
    by_cases h : b < a
    · rw [if_pos h, if_pos ((ab_lt32 hb ha).mpr h)]
    · rw [if_neg h, if_neg (fun q => h ((ab_lt32 hb ha).mp q))]
  rw [e]
  exact kk
theorem ab_r_mabs (X : ab_X x) {i : Nat} {a : Int} (hw : .methodLink (ab_nm (ab_cM x)).cls i Lib.Math.abs.name ∈ ab_gw) (hs : .static Lib.Math.abs.name ∈ ab_gw) (hn : .initialized "java/lang/Math" ∈ ab_gw) (hc : .code Lib.Math.abs.name Lib.Math.abs.code 1 (some .int) ∈ ab_gw) (hst : ab_cats st ≤ 8) (hd : ab_dec x pc (.invokestatic i) 3) (k : ab_num (-a) (ab_J x (pc + 3) lv (.inl (if 0 ≤ a then a else 0 - a) :: st) ws kc ks)) : ab_J x pc lv (.inl a :: st) ws kc ks := by
  intro ad H locs ls h1 h2 h3 h4 h5 h6 h7 h8 h9
  have ha : ab_okk 0 a := h6 _ List.mem_cons_self
  refine va_mabs X.ex X.cd (X.ml.trans h5.1.symm) X.own (X.ts _ hw) (X.ts _ hs) (X.ts _ hn) (X.ts _ hc) (by rw [X.R]; exact Nat.le_add_left _ _) (by rw [ab_cats_map, X.R]; show ab_cats st + 13 ≤ 37 * (ab_cd' x + 1); omega) (by rw [X.R]; exact h9.1) (by rw [X.R]; exact h9.2) hd ?_
  have kk := k.2 ad H locs ls h1 h2 h3 h4 h5 (ab_ok1 (v := .inl (if 0 ≤ a then a else 0 - a)) (fun _ => by split; exact ha; have := k.1; exact ⟨by omega, by omega⟩) h6) h7 h8 h9
  have e : (if 0 ≤ Int32.ofInt a then Int32.ofInt a else 0 - Int32.ofInt a) = Int32.ofInt (if 0 ≤ a then a else 0 - a) := by
    by_cases h : 0 ≤ a
    · rw [if_pos h, if_pos (by rw [← ab_of0]; exact (ab_le32 ab_ok0 ha).mpr h)]
    · rw [if_neg h, if_neg (fun q => h (by rw [← ab_of0] at q; exact (ab_le32 ab_ok0 ha).mp q)), Int32.ofInt_sub]; rfl
  rw [e]
  exact kk
theorem ab_lt64 {a b : Int} (ha : ab_okk 2 a) (hb : ab_okk 2 b) : Int64.ofInt a < Int64.ofInt b ↔ a < b := by
  rw [Int64.lt_iff_toInt_lt, ab_t64 ha, ab_t64 hb]
theorem ab_r_mminl (X : ab_X x) {i : Nat} {a b : Int} (hw : .methodLink (ab_nm (ab_cM x)).cls i Lib.MathLoose.min_long.x ∈ ab_gw) (hs : .static Lib.MathLoose.min_long.x ∈ ab_gw) (hn : .initialized "java/lang/Math" ∈ ab_gw) (hc : .code Lib.MathLoose.min_long.x Lib.MathLoose.min_long.code 4 (some .long) ∈ ab_gw) (hst : ab_cats st ≤ 8) (hd : ab_dec x pc (.invokestatic i) 3) (k : ab_J x (pc + 3) lv (.inr (.inl (if b < a then b else a)) :: st) ws kc ks) : ab_J x pc lv (.inr (.inl b) :: .inr (.inl a) :: st) ws kc ks := by
  intro ad H locs ls h1 h2 h3 h4 h5 h6 h7 h8 h9
  have hb : ab_okk 2 b := h6 _ List.mem_cons_self
  have ha : ab_okk 2 a := h6 _ (List.mem_cons_of_mem _ List.mem_cons_self)
  refine va_mmin_long X.ex X.cd (X.ml.trans h5.1.symm) X.own (X.ts _ hw) (X.ts _ hs) (X.ts _ hn) (X.ts _ hc) (by rw [X.R]; exact Nat.le_add_left _ _) (by rw [ab_cats_map, X.R]; show ab_cats st + 15 ≤ 37 * (ab_cd' x + 1); omega) (by rw [X.R]; exact h9.1) (by rw [X.R]; exact h9.2) hd ?_
  have kk := k ad H locs ls h1 h2 h3 h4 h5 (ab_ok2 (v := .inr (.inl (if b < a then b else a))) (fun _ _ => by split; exact hb; exact ha) h6) h7 h8 h9
  have e : (if Int64.ofInt b < Int64.ofInt a then Int64.ofInt b else Int64.ofInt a) = Int64.ofInt (if b < a then b else a) := by
    by_cases h : b < a
    · rw [if_pos h, if_pos ((ab_lt64 hb ha).mpr h)]
    · rw [if_neg h, if_neg (fun q => h ((ab_lt64 hb ha).mp q))]
  rw [e]
  exact kk
end
end
section
/-! SOUNDNESS, eighth part: calls -/
theorem ab_alW_ok {bs : List Bool} {os : List ab_Ob} {k : List ab_Ob → Prop} (h : ab_alW bs os k) {l : List ab_Ob} (hl : ab_shw bs os l) : k l := by
  induction bs generalizing os k l with
  | nil => cases os with
    | nil => cases hl; exact h
    | cons o os => exact h.elim
  | cons b bs ih =>
    cases os with
    | nil => cases b <;> exact h.elim
    | cons o os =>
      cases b with
      | true =>
        obtain ⟨y, l', rfl, hl⟩ := hl
        exact ih (os := os) (k := fun l => k (y :: l)) (h y) hl
      | false =>
        obtain ⟨l', rfl, hl⟩ := hl
        exact ih (os := os) (k := fun l => k (o :: l)) h hl
theorem ab_alR_ok {rt : Option FieldType} {p : Nat} {k : Option ab_V → Prop} (h : ab_alR rt p k) {rv : Option ab_V} (hr : ab_shr rt p rv) : k rv := by
  unfold ab_alR at h
  unfold ab_shr at hr
  split at h
  · subst hr; exact h
  · obtain ⟨r, rfl⟩ := hr; exact h r
  · subst hr; exact h
  · rename_i ty p' h1 h2
    split at hr
    · rename_i he; cases he
    · rename_i he; cases he; exact absurd rfl h1
    · rename_i he; cases he; exact absurd rfl (h2 _)
    · obtain ⟨r, rfl⟩ := hr; exact h r
theorem ab_exA_ok {kc ks mc ms : Nat} {b : Bool} {k : Nat → Nat → Prop} (h : ab_exA kc ks mc ms b k) : ∃ mc' ms', (kc ≤ mc ∧ ks ≤ ms → kc + mc' ≤ mc ∧ ks + ms' ≤ ms) ∧ k mc' ms' := by
  cases b with
  | false => exact ⟨0, 0, fun h => h, h⟩
  | true =>
    obtain ⟨mc', ms', h1, h2⟩ := h
    exact ⟨mc', ms', fun _ => h1, h2⟩
theorem ab_sub_at {α : Type} {l : List α} {pl : List Nat} {r : List α} (h : ab_sub l pl = some r) : r.length = pl.length ∧ ∀ q y, ab_at r q = some y → ∃ p, ab_at pl q = some p ∧ ab_at l p = some y := by
  induction pl generalizing r with
  | nil =>
    simp only [ab_sub, Option.some.injEq] at h
    subst h
    exact ⟨rfl, fun q y hy => by simp [ab_at] at hy⟩
  | cons p ps ih =>
    simp only [ab_sub] at h
    split at h
    · rename_i x r' h1 h2
      cases h
      obtain ⟨i1, i2⟩ := ih h2
      refine ⟨by simp [i1], fun q y hy => ?_⟩
      cases q with
      | zero =>
        simp only [ab_at, Option.some.injEq] at hy
        subst hy
        exact ⟨p, rfl, h1⟩
      | succ q => exact i2 q y hy
    · cases h
theorem ab_eqs_eq {a b : List Nat} (h : ab_eqs a b = true) : a = b := by
  induction a generalizing b with
  | nil => cases b with
    | nil => rfl
    | cons y b => cases h
  | cons x a ih => cases b with
    | nil => cases h
    | cons y b =>
      simp only [ab_eqs, Bool.and_eq_true] at h
      rw [ab_beq h.1, ih h.2]
theorem ab_hasn_of {x : Nat} {l : List Nat} {i : Nat} (h : ab_at l i = some x) : ab_hasn x l = true := by
  induction l generalizing i with
  | nil => simp [ab_at] at h
  | cons y l ih =>
    cases i with
    | zero =>
      simp only [ab_at, Option.some.injEq] at h
      subst h
      simp [ab_hasn]
    | succ i => simp only [ab_hasn, ih h, Bool.or_true]
theorem ab_nd_inj {l : List Nat} (h : ab_nd l = true) {i j x : Nat} (hi : ab_at l i = some x) (hj : ab_at l j = some x) : i = j := by
  induction l generalizing i j with
  | nil => simp [ab_at] at hi
  | cons y l ih =>
    simp only [ab_nd, Bool.and_eq_true, Bool.not_eq_true'] at h
    cases i with
    | zero =>
      cases j with
      | zero => rfl
      | succ j =>
        simp only [ab_at, Option.some.injEq] at hi
        subst hi
        rw [ab_hasn_of (l := l) (i := j) hj] at h
        exact absurd h.1 (by decide)
    | succ i =>
      cases j with
      | zero =>
        simp only [ab_at, Option.some.injEq] at hj
        subst hj
        rw [ab_hasn_of (l := l) (i := i) hi] at h
        exact absurd h.1 (by decide)
      | succ j => rw [ih h.2 hi hj]
theorem ab_ix_at {o : Nat} {l : List Nat} {q : Nat} (h : ab_ix o l = some q) : ab_at l q = some o := by
  induction l generalizing q with
  | nil => cases h
  | cons y l ih =>
    simp only [ab_ix] at h
    split at h
    · rename_i hb
      cases h
      rw [ab_beq hb]; rfl
    · cases hx : ab_ix o l with
      | none => rw [hx] at h; cases h
      | some r =>
        rw [hx] at h
        cases h
        exact ih hx
theorem ab_ix_none {o : Nat} {l : List Nat} (h : ab_ix o l = none) {q : Nat} : ab_at l q ≠ some o := by
  induction l generalizing q with
  | nil => simp [ab_at]
  | cons y l ih =>
    simp only [ab_ix] at h
    split at h
    · cases h
    · rename_i hb
      cases hx : ab_ix o l with
      | some r => rw [hx] at h; cases h
      | none =>
        cases q with
        | zero =>
          intro he
          simp only [ab_at, Option.some.injEq] at he
          subst he
          simp at hb
        | succ q => exact ih hx
theorem ab_ix_of {l : List Nat} (h : ab_nd l = true) {q o : Nat} (hq : ab_at l q = some o) : ab_ix o l = some q := by
  cases hx : ab_ix o l with
  | none => exact absurd hq (ab_ix_none hx)
  | some r => rw [ab_nd_inj h (ab_ix_at hx) hq]
theorem ab_ck1_at {pl : List Nat} {q p : Nat} {l : List Nat} (h : ab_ck1 pl q p l = true) {f k : Nat} (hf : l.getD f 0 = k + 7) : ab_at pl (q + k) = some (p + k) := by
  induction l generalizing f with
  | nil => simp at hf
  | cons kd l ih =>
    simp only [ab_ck1, Bool.and_eq_true] at h
    cases f with
    | zero =>
      simp only [List.getD_cons_zero] at hf
      subst hf
      have h1 := h.1
      dsimp only at h1
      split at h1
      · rename_i p' hp'
        rw [hp', ab_beq h1]
      · cases h1
    | succ f => exact ih h.2 (by simpa using hf)
theorem ab_ck2_at {pl : List Nat} {q0 : Nat} {ps cs : List Nat} (h : ab_ck2 pl q0 ps cs = true) {i p c : Nat} (hp : ab_at ps i = some p) (hc : ab_at cs i = some c) {f k : Nat} (hf : ab_kd c f = k + 7) : ab_at pl (q0 + i + k) = some (p + k) := by
  induction ps generalizing q0 cs i with
  | nil => simp [ab_at] at hp
  | cons y ps ih =>
    cases cs with
    | nil => simp [ab_at] at hc
    | cons d cs =>
      simp only [ab_ck2, Bool.and_eq_true] at h
      cases i with
      | zero =>
        simp only [ab_at, Option.some.injEq] at hp hc
        subst hp; subst hc
        exact ab_ck1_at h.1 hf
      | succ i =>
        have := ih h.2 (i := i) hp hc
        rw [← this]; congr 1; omega
theorem ab_put_len {α : Type} {l : List α} {pl : List Nat} {xs : List α} : (ab_put l pl xs).length = l.length := by
  induction pl generalizing l xs with
  | nil => cases xs <;> rfl
  | cons p ps ih => cases xs with
    | nil => rfl
    | cons x xs => simp only [ab_put]; rw [ih, ab_set_len]
theorem ab_put_out {α : Type} {l : List α} {pl : List Nat} {xs : List α} {o : Nat} (h : ∀ q, ab_at pl q ≠ some o) : ab_at (ab_put l pl xs) o = ab_at l o := by
  induction pl generalizing l xs with
  | nil => cases xs <;> rfl
  | cons p ps ih => cases xs with
    | nil => rfl
    | cons x xs =>
      simp only [ab_put]
      rw [ih (fun q => h (q + 1)), ab_at_set_ne (fun e => h 0 (by rw [e]; rfl))]
theorem ab_put_in {α : Type} {l : List α} {pl : List Nat} {xs : List α} (hn : ab_nd pl = true) {q o : Nat} {y : α} (hq : ab_at pl q = some o) (hx : xs.length = pl.length) (h : ab_at (ab_put l pl xs) o = some y) : ab_at xs q = some y := by
  induction pl generalizing l xs q with
  | nil => simp [ab_at] at hq
  | cons p ps ih => cases xs with
    | nil => simp at hx
    | cons x xs =>
      simp only [ab_put] at h
      simp only [ab_nd, Bool.and_eq_true, Bool.not_eq_true'] at hn
      cases q with
      | zero =>
        simp only [ab_at, Option.some.injEq] at hq
        subst hq
        rw [ab_put_out (fun q hq => by rw [ab_hasn_of hq] at hn; exact absurd hn.1 (by decide))] at h
        rw [ab_at_set_eq (by have := ab_at_lt h; rw [ab_set_len] at this; exact this)] at h
        exact h
      | succ q => exact ih (xs := xs) (q := q) hn.2 hq (by simpa using hx) h
theorem ab_ren_cv {pl : List Nat} {v w : ab_V} (h : ab_ren pl v = some w) {ad ad' : Nat → Nat → Nat} {ak : Nat → Nat} (ha : ∀ q o, ab_at pl q = some o → ad' q 0 = ad o 0) : ab_cv ad' ak w = ab_cv ad ak v ∧ (ab_okv v → ab_okv w) := by
  rcases v with z | z | o | q | n
  · cases h; exact ⟨rfl, fun h => h⟩
  · cases h; exact ⟨rfl, fun h => h⟩
  · simp only [ab_ren] at h
    cases hx : ab_ix o pl with
    | none => rw [hx] at h; cases h
    | some r =>
      rw [hx] at h
      cases h
      refine ⟨?_, fun _ => trivial⟩
      simp only [ab_cv]
      rw [ha r o (ab_ix_at hx)]
  · cases h
  · cases h; exact ⟨rfl, fun h => h⟩
theorem ab_rens_cv {pl : List Nat} {as as' : List ab_V} (h : ab_rens pl as = some as') {ad ad' : Nat → Nat → Nat} {ak : Nat → Nat} (ha : ∀ q o, ab_at pl q = some o → ad' q 0 = ad o 0) : as'.map (ab_cv ad' ak) = as.map (ab_cv ad ak) ∧ ((∀ v ∈ as, ab_okv v) → ∀ v ∈ as', ab_okv v) := by
  induction as generalizing as' with
  | nil => cases h; exact ⟨rfl, fun h => h⟩
  | cons v as ih =>
    simp only [ab_rens] at h
    split at h
    · rename_i w r h1 h2
      cases h
      obtain ⟨i1, i2⟩ := ih h2
      obtain ⟨j1, j2⟩ := ab_ren_cv (ak := ak) h1 ha
      refine ⟨by rw [List.map_cons, List.map_cons, i1, j1], fun hok u hu => ?_⟩
      rcases List.mem_cons.mp hu with rfl | hu
      · exact j2 (hok _ List.mem_cons_self)
      · exact i2 (fun v hv => hok v (List.mem_cons_of_mem _ hv)) u hu
    · cases h
/-- an object in another world, at another place -/
theorem ab_ob_move {E : ab_E} {ad ad' : Nat → Nat → Nat} {o o' ci : Nat} {ob : ab_Ob} {H : Heap} (h : ab_ob E ad o ci ob H) (h0 : ad' o' 0 = ad o 0) (hf : ∀ f, ab_arr (ab_kd ci f) → ad' o' (f + 1) = ad o (f + 1)) (hs : ∀ f k, ab_kd ci f = k + 7 → ad' (o' + k) 0 = ad (o + k) 0) : ab_ob E ad' o' ci ob H := by
  obtain ⟨q1, q2, q3⟩ := h
  refine ⟨?_, fun f ha => by rw [hf f ha]; exact q2 f ha, q3⟩
  rw [h0]
  refine q1.to fun j _ => ?_
  have hs' := hs j
  have hf' := hf j
  revert hs' hf'
  generalize ab_kd ci j = kd
  intro hs' hf'
  match kd, hs', hf' with
  | 0, _, _ => rfl
  | 1, _, _ => rfl
  | 2, _, _ => rfl
  | 3, _, hf' => simp [ab_fv, hf' ⟨by omega, by omega⟩]
  | 4, _, hf' => simp [ab_fv, hf' ⟨by omega, by omega⟩]
  | 5, _, hf' => simp [ab_fv, hf' ⟨by omega, by omega⟩]
  | 6, _, hf' => simp [ab_fv, hf' ⟨by omega, by omega⟩]
  | k + 7, hs', _ => simp [ab_fv, hs' k rfl]
theorem ab_W_lt {E : ab_E} {ad : Nat → Nat → Nat} {G : List Nat} {ws : List ab_Ob} {H : Heap} (h2 : ab_W E ad G ws H) {o f : Nat} (hs : ab_sl G o f) : ad o f < H.size := by
  have hlt : ∀ q cl, H[q]? = some cl → q < H.size := fun q cl h => (Array.getElem?_eq_some_iff.mp h).1
  match f, hs with
  | 0, ⟨c1, hc1⟩ =>
    have hl1 := ab_at_lt hc1
    rw [← h2.1] at hl1
    obtain ⟨b1, hb1⟩ : ∃ b1, ab_at ws o = some b1 := ⟨ws[o], by rw [ab_at_eq]; simp [hl1]⟩
    obtain ⟨⟨cl1, g1, _⟩, _⟩ := h2.2 o c1 b1 hc1 hb1
    exact hlt _ _ g1
  | g + 1, ⟨c1, hc1, hg⟩ =>
    have hl1 := ab_at_lt hc1
    rw [← h2.1] at hl1
    obtain ⟨b1, hb1⟩ : ∃ b1, ab_at ws o = some b1 := ⟨ws[o], by rw [ab_at_eq]; simp [hl1]⟩
    exact hlt _ _ ((h2.2 o c1 b1 hc1 hb1).2.1 g hg)
theorem ab_K_at {E : ab_E} {A B : Nat → Prop} {s U : State} {H : Heap} {locs : List Loc} (h : ab_K E A s s.heap) (hS : va_S A s.heap H locs) (hU : U.heap = H) (hW : s.WarmedH U.vm) (hB : ∀ q, B q → A q) : ab_K E B U U.heap := by
  obtain ⟨k1, k2, k3, k4⟩ := h
  refine ⟨va_K.moved hW.alike k1, ?_, fun q hq => vk_R.warm hW (k3 q hq), ?_⟩
  · rw [hU]
    exact ((k2.kept hS.2.1).moved hW.alike).narrow hB
  · rw [hU]
    exact ((k4.kept hS.2.1).moved hW.alike).narrow hB
theorem ab_K_blind {E : ab_E} {A : Nat → Prop} {U U' : State} (h : ab_K E A U U.heap) (hh : U'.heap = U.heap) (hv : U'.vm = U.vm) : ab_K E A U' U'.heap := by
  obtain ⟨k1, k2, k3, k4⟩ := h
  have ha : U.vm.Alike U'.vm := by rw [hv]; exact Vm.Alike.refl _
  exact ⟨va_K.moved ha k1, by rw [hh]; exact k2.moved ha, fun q hq => vk_R.same hv (k3 q hq), by rw [hh]; exact k4.moved ha⟩
end
section
/-! SOUNDNESS, ninth part: the call -/
theorem ab_gw_good {w : Jvm.Cond} (h : w ∈ ab_gw) : (w.onTables && w.keeps) = true ∨ ∃ ty, w = .arrayClass ty := good_of_word (List.mem_filter.mp h).2
theorem ab_ws_in {M : ab_M} (h : ab_mok M) : ∀ w ∈ ab_ws M, w ∈ ab_gw := fun w hw => by
  rcases List.mem_cons.mp hw with rfl | hw
  · exact h.1
  · exact hw
section
variable {p : Program} {l : Launch} {e : Env} {R : Room} {s : State} {m : MethodId} {args : Array Value} {below : List Frame} {meth : Method} {c : Code} {H : Heap} {locs : List Loc} {cells slots : Nat} {Q : State → Prop}
variable {pc : Nat} {ls : Array Slot} {rest st0 : List Value} {a : Array Value} {A0 : Nat → Prop} {H0 : Heap} {mc ms : Nat} {free : Addr → Prop}
theorem ab_callg {E : ab_E} {ad0 : Nat → Nat → Nat} {sz : Nat} {M : ab_M} {Post : Option ab_V → List ab_Ob → Prop} (hr : va_Run p l e R s m args below meth c H locs cells slots mc ms (F0 m pc ls st0) rest (ab_Q E ad0 sz M Post a) free) (hS : va_S A0 H0 H locs) (hA : ∀ q, q < H.size → ab_rg (ab_G M) ad0 sz q → A0 q) (hf : ∀ q, free q → A0 q)
    (kk : ∀ (rv : Option ab_V) (ws : List ab_Ob) (ad : Nat → Nat → Nat) (H1 : Heap) (locs1 : List Loc), Post rv ws → (∀ v, rv = some v → ab_okv v) → ab_W E ad (ab_G M) ws H1 → ab_rel (ab_mv M) ad0 ad → ab_ia ad (ab_G M) (ab_rg (ab_G M) ad0 sz) → H.size ≤ H1.size → (∀ q : Nat, q < H.size → ¬ ab_rg (ab_G M) ad0 sz q → H1[q]? = H[q]?) → va_S A0 H0 H1 locs1 → W p l e R s m args below meth c H1 locs1 (cells + mc) (slots + ms) Q (F0 m (pc + 3) ls ((rv.map (ab_cv ad E.2.2.1)).toList ++ rest))) : W p l e R s m args below meth c H locs cells slots Q (F0 m pc ls st0) := by
  intro T hT X
  obtain ⟨v, st₀, t, T', L, h0, X', hL, e1, e2, ⟨⟨rv, ws, ad, hv, g1, g2, g3, g4, g5⟩, hz, hk⟩, st⟩ := hr T hT X
  cases hv
  rw [h0] at hz hk
  obtain ⟨t2, a1, b1⟩ := kk rv ws ad T'.heap (locs ++ L) g1 g2 (by rw [e1]; exact g3) g4 g5 (by rw [e1]; exact hz) (fun q h1 h2 => by rw [e1]; exact hk q h1 h2)
    ⟨Nat.le_trans hS.1 (by rw [e1]; exact hz), fun q h1 h2 => by rw [e1, hk q (Nat.lt_of_lt_of_le h1 hS.1) (fun z => h2 (hA q (Nat.lt_of_lt_of_le h1 hS.1) z))]; exact hS.2.1 q h1 h2, fun q hq => by
      rcases List.mem_append.mp hq with h | h
      · exact hS.2.2 q h
      · exact hf _ (hL q h)⟩ T' rfl X'
  exact ⟨t2, st t2 a1, b1⟩
end
section
variable {x : ab_Cx} {pc : Nat} {lv : List (Option ab_V)} {ws : List ab_Ob} {kc ks : Nat}
/-- what is given at a call, whichever way it is made -/
theorem ab_r_call (X : ab_X x) {M : ab_M} {mc ms : Nat} {as as' rest : List ab_V} {pl G' : List Nat} {ws' : List ab_Ob} {Q0 : Option ab_V → List ab_Ob → Prop} (hC : ab_WC (ab_cd' x) mc ms M as' ws' Q0) (hrens : ab_rens pl as = some as') (hsub : ab_sub ws pl = some ws') (hsG : ab_sub (ab_G (ab_cM x)) pl = some G') (hnd : ab_nd pl = true) (heq : ab_eqs G' (ab_G M) = true) (hck : ab_ck2 pl 0 pl G' = true) (hmv : ab_mv M = true → ab_mv (ab_cM x) = true ∧ ab_nas rest = true ∧ ab_nal lv = true)
    (hroom0 : kc ≤ ab_cc x ∧ ks ≤ ab_ck x → kc + mc ≤ ab_cc x ∧ ks + ms ≤ ab_ck x)
    (hrun : ∀ (ad : Nat → Nat → Nat) (H : Heap) (locs : List Loc) (ls : Array Slot) (adC : Nat → Nat → Nat), (∀ q o f, ab_at pl q = some o → adC q f = ad o f) → ab_W (ab_cE x) ad (ab_G (ab_cM x)) ws H → ab_ia ad (ab_G (ab_cM x)) (ab_cA x) → va_S (ab_cA x) (ab_cs x).heap H locs → lv_has ls (ab_ml (ab_cM x)) (ab_lc ad (ab_cE x).2.2.1 0 lv) → (∀ v ∈ as.reverse ++ rest, ab_okv v) → (kc + mc ≤ ab_cc x ∧ ks + ms ≤ ab_ck x) →
      Met x.1.2.1 (ab_nm M) (ab_ws M) (ab_rm (ab_cd' x) mc ms) (va_Pc (as.map (ab_cv ad (ab_cE x).2.2.1)) (fun U => U.heap.size = H.size ∧ ab_W (ab_cE x) adC (ab_G M) ws' U.heap ∧ ab_ia adC (ab_G M) (fun _ => True) ∧ ab_K (ab_cE x) (ab_rg (ab_G M) adC H.size) U U.heap)) (ab_Q (ab_cE x) adC H.size M Q0) mc ms (ab_rg (ab_G M) adC H.size) →
      PreS (ab_cs x) H (va_Pc (as.map (ab_cv ad (ab_cE x).2.2.1)) (fun U => U.heap.size = H.size ∧ ab_W (ab_cE x) adC (ab_G M) ws' U.heap ∧ ab_ia adC (ab_G M) (fun _ => True) ∧ ab_K (ab_cE x) (ab_rg (ab_G M) adC H.size) U U.heap)) (as.map (ab_cv ad (ab_cE x).2.2.1)) →
      va_Run x.1.1 x.1.2.1 x.1.2.2.1 (ab_cR x) (ab_cs x) (ab_cm x) (ab_ca x) x.2.1.1 x.2.1.2.1 x.2.1.2.2.1 H locs kc ks mc ms (F0 (ab_cm x) pc ls ((as.reverse ++ rest).map (ab_cv ad (ab_cE x).2.2.1))) (rest.map (ab_cv ad (ab_cE x).2.2.1)) (ab_Q (ab_cE x) adC H.size M Q0 (as.map (ab_cv ad (ab_cE x).2.2.1)).toArray) (ab_rg (ab_G M) adC H.size))
    (k0 : ∀ rv ws'', Q0 rv ws'' → ∃ st', ab_back pl rv rest = some st' ∧ ab_J x (pc + 3) lv st' (ab_put ws pl ws'') (kc + mc) (ks + ms)) : ab_J x pc lv (as.reverse ++ rest) ws kc ks := by
  intro ad H locs ls h1 h2 h3 h4 h5 h6 h7 h8 h9
  have hroom := hroom0 h9
  have eG := ab_eqs_eq heq
  subst eG
  obtain ⟨adC, hadC⟩ : ∃ adC : Nat → Nat → Nat, ∀ q f, adC q f = match ab_at pl q with | some o => ad o f | none => 0 := ⟨_, fun _ _ => rfl⟩
  have hC1 : ∀ q o f, ab_at pl q = some o → adC q f = ad o f := fun q o f h => by rw [hadC, h]
  obtain ⟨lG, hG⟩ := ab_sub_at hsG
  obtain ⟨lW, hW⟩ := ab_sub_at hsub
  have hrc := ab_rens_cv (ad := ad) (ad' := adC) (ak := (ab_cE x).2.2.1) hrens (fun q o h => hC1 q o 0 h)
  -- slots of the callee are slots of ours
  have hslC : ∀ q f, ab_sl (ab_G M) q f → ∃ o, ab_at pl q = some o ∧ ab_sl (ab_G (ab_cM x)) o f := by
    intro q f hs
    match f, hs with
    | 0, ⟨c1, hc1⟩ =>
      obtain ⟨o, ho, hc⟩ := hG q c1 hc1
      exact ⟨o, ho, c1, hc⟩
    | g + 1, ⟨c1, hc1, hg⟩ =>
      obtain ⟨o, ho, hc⟩ := hG q c1 hc1
      exact ⟨o, ho, c1, hc, hg⟩
  have hWC : ab_W (ab_cE x) adC (ab_G M) ws' H := by
    refine ⟨by rw [lW, lG], fun q ci ob g1 g2 => ?_⟩
    obtain ⟨o, ho, hc⟩ := hG q ci g1
    obtain ⟨o', ho', hb'⟩ := hW q ob g2
    cases ho.symm.trans ho'
    refine ab_ob_move (h2.2 o ci ob hc hb') (hC1 _ _ _ ho) (fun f _ => hC1 _ _ _ ho) (fun f k hf => ?_)
    have := ab_ck2_at hck ho g1 hf
    rw [Nat.zero_add] at this
    exact hC1 _ _ _ this
  have hIC : ab_ia adC (ab_G M) (fun _ => True) := by
    refine ⟨fun q f q' f' s1 s2 he => ?_, fun _ _ _ => trivial⟩
    obtain ⟨o, ho, hs1⟩ := hslC q f s1
    obtain ⟨o', ho', hs2⟩ := hslC q' f' s2
    rw [hC1 _ _ _ ho, hC1 _ _ _ ho'] at he
    obtain ⟨e1, e2⟩ := h3.1 _ _ _ _ hs1 hs2 he
    subst e1
    exact ⟨ab_nd_inj hnd ho ho', e2⟩
  have hrgA : ∀ q, ab_rg (ab_G M) adC H.size q → ab_cA x q := by
    rintro q (⟨q0, f, hs, rfl⟩ | hq)
    · obtain ⟨o, ho, hs1⟩ := hslC q0 f hs
      rw [hC1 _ _ _ ho]
      exact h3.2 _ _ hs1
    · exact X.A q (Nat.le_trans h4.1 hq)
  have hPre : PreS (ab_cs x) H (va_Pc (as.map (ab_cv ad (ab_cE x).2.2.1)) (fun U => U.heap.size = H.size ∧ ab_W (ab_cE x) adC (ab_G M) ws' U.heap ∧ ab_ia adC (ab_G M) (fun _ => True) ∧ ab_K (ab_cE x) (ab_rg (ab_G M) adC H.size) U U.heap)) (as.map (ab_cv ad (ab_cE x).2.2.1)) :=
    ⟨fun a U g mk q => ⟨q.1, q.2.1, q.2.2.1, q.2.2.2.1, ab_K_blind q.2.2.2.2 rfl rfl⟩, fun U hU hWm => ⟨rfl, by rw [hU], by rw [hU]; exact hWC, hIC, ab_K_at X.K h4 hU hWm hrgA⟩⟩
  have hMet := hC.2 x.1.2.1 (ab_cE x) adC H.size (hrc.2 (fun v hv => h6 v (List.mem_append_left _ (List.mem_reverse.mpr hv))))
  rw [hrc.1] at hMet
  refine ab_callg (hrun ad H locs ls adC hC1 h2 h3 h4 h5 h6 hroom hMet hPre) h4 (fun q _ h => hrgA q h) hrgA ?_
  intro rv1 ws1 ad1 H1 locs1 hQ0 hok1 hW1 hrel1 hI1 hz1 hk1 hS1
  obtain ⟨st', hb, k⟩ := k0 rv1 ws1 hQ0
  -- our addresses behind the call
  obtain ⟨ad2, had2⟩ : ∃ ad2 : Nat → Nat → Nat, ∀ o f, ad2 o f = match ab_ix o pl with | some q => ad1 q f | none => ad o f := ⟨_, fun _ _ => rfl⟩
  have hin2 : ∀ q o f, ab_at pl q = some o → ad2 o f = ad1 q f := fun q o f h => by rw [had2, ab_ix_of hnd h]
  have hout2 : ∀ o f, ab_ix o pl = none → ad2 o f = ad o f := fun o f h => by rw [had2, h]
  have ha0 : ∀ o, ad2 o 0 = ad o 0 := fun o => by
    cases hx : ab_ix o pl with
    | none => exact hout2 o 0 hx
    | some q => rw [hin2 q o 0 (ab_ix_at hx), hrel1.1 q, hC1 q o 0 (ab_ix_at hx)]
  have hsame : ab_mv M = false → ∀ o f, ad2 o f = ad o f := fun h o f => by
    cases hx : ab_ix o pl with
    | none => exact hout2 o f hx
    | some q => rw [hin2 q o f (ab_ix_at hx), hrel1.2 h q f, hC1 q o f (ab_ix_at hx)]
  have hnotrg : ∀ o f, ab_sl (ab_G (ab_cM x)) o f → ab_ix o pl = none → ¬ ab_rg (ab_G M) adC H.size (ad o f) := by
    rintro o f hs hx (⟨q0, f0, hs0, he⟩ | hq)
    · obtain ⟨o', ho', hs1⟩ := hslC q0 f0 hs0
      rw [hC1 _ _ _ ho'] at he
      obtain ⟨e1, _⟩ := h3.1 _ _ _ _ hs1 hs he
      subst e1
      exact ab_ix_none hx ho'
    · have := ab_W_lt h2 hs
      omega
  have hWn : ab_W (ab_cE x) ad2 (ab_G (ab_cM x)) (ab_put ws pl ws1) H1 := by
    refine ⟨by rw [ab_put_len]; exact h2.1, fun o ci ob g1 g2 => ?_⟩
    cases hx : ab_ix o pl with
    | none =>
      rw [ab_put_out (fun q => ab_ix_none hx)] at g2
      have h0 := h2.2 o ci ob g1 g2
      have hk : ∀ f, ab_sl (ab_G (ab_cM x)) o f → H1[ad o f]? = H[ad o f]? := fun f hs => hk1 _ (ab_W_lt h2 hs) (hnotrg o f hs hx)
      have h0' : ab_ob (ab_cE x) ad o ci ob H1 := ⟨h0.1.kept (hk 0 (ab_sl0 g1)), fun f hf => by rw [hk _ (ab_slf g1 hf)]; exact h0.2.1 f hf, h0.2.2⟩
      exact ab_ob_move h0' (ha0 o) (fun f _ => hout2 o _ hx) (fun f k _ => ha0 _)
    | some q =>
      have hq := ab_ix_at hx
      have hb' := ab_put_in hnd hq (by rw [hW1.1, lG]) g2
      obtain ⟨c1, hc1⟩ : ∃ c1, ab_at (ab_G M) q = some c1 := ⟨(ab_G M)[q]'(by rw [← hW1.1]; exact ab_at_lt hb'), by rw [ab_at_eq]; simp⟩
      obtain ⟨o', ho', hcc⟩ := hG q c1 hc1
      cases hq.symm.trans ho'
      cases g1.symm.trans hcc
      refine ab_ob_move (hW1.2 q ci ob hc1 hb') (hin2 _ _ _ hq) (fun f _ => hin2 _ _ _ hq) (fun f k hf => ?_)
      have := ab_ck2_at hck hq hc1 hf
      rw [Nat.zero_add] at this
      exact hin2 _ _ _ this
  have hslI : ∀ o f q, ab_sl (ab_G (ab_cM x)) o f → ab_at pl q = some o → ab_sl (ab_G M) q f := by
    intro o f q hs hq
    have hql : q < (ab_G M).length := by rw [lG]; exact ab_at_lt hq
    obtain ⟨c1, hc1⟩ : ∃ c1, ab_at (ab_G M) q = some c1 := ⟨(ab_G M)[q], by rw [ab_at_eq]; simp [hql]⟩
    obtain ⟨o', ho', hcc⟩ := hG q c1 hc1
    cases hq.symm.trans ho'
    match f, hs with
    | 0, ⟨c2, _⟩ => exact ⟨c1, hc1⟩
    | g + 1, ⟨c2, hc2, hg⟩ =>
      cases hcc.symm.trans hc2
      exact ⟨c1, hc1, hg⟩
  have hIn : ab_ia ad2 (ab_G (ab_cM x)) (ab_cA x) := by
    refine ⟨fun o f o' f' s1 s2 he => ?_, fun o f s1 => ?_⟩
    · cases hx : ab_ix o pl with
      | none =>
        cases hx' : ab_ix o' pl with
        | none =>
          rw [hout2 _ _ hx, hout2 _ _ hx'] at he
          exact h3.1 _ _ _ _ s1 s2 he
        | some q' =>
          rw [hout2 _ _ hx, hin2 _ _ _ (ab_ix_at hx')] at he
          exact absurd (he ▸ hI1.2 _ _ (hslI _ _ _ s2 (ab_ix_at hx'))) (hnotrg o f s1 hx)
      | some q =>
        cases hx' : ab_ix o' pl with
        | none =>
          rw [hin2 _ _ _ (ab_ix_at hx), hout2 _ _ hx'] at he
          exact absurd (he ▸ hI1.2 _ _ (hslI _ _ _ s1 (ab_ix_at hx))) (hnotrg o' f' s2 hx')
        | some q' =>
          rw [hin2 _ _ _ (ab_ix_at hx), hin2 _ _ _ (ab_ix_at hx')] at he
          obtain ⟨e1, e2⟩ := hI1.1 _ _ _ _ (hslI _ _ _ s1 (ab_ix_at hx)) (hslI _ _ _ s2 (ab_ix_at hx')) he
          subst e1
          exact ⟨Option.some.inj ((ab_ix_at hx).symm.trans (ab_ix_at hx')), e2⟩
    · cases hx : ab_ix o pl with
      | none => rw [hout2 _ _ hx]; exact h3.2 _ _ s1
      | some q => rw [hin2 _ _ _ (ab_ix_at hx)]; exact hrgA _ (hI1.2 _ _ (hslI _ _ _ s1 (ab_ix_at hx)))
  have hreln : ab_rel (ab_mv (ab_cM x)) (ab_c0 x) ad2 := by
    refine ⟨fun o => by rw [ha0]; exact h1.1 o, fun hf o f => ?_⟩
    have hm : ab_mv M = false := by
      cases hm : ab_mv M with
      | false => rfl
      | true => rw [(hmv hm).1] at hf; cases hf
    rw [hsame hm]
    exact h1.2 hf o f
  have hrest : rest.map (ab_cv ad2 (ab_cE x).2.2.1) = rest.map (ab_cv ad (ab_cE x).2.2.1) := by
    cases hm : ab_mv M with
    | false => rw [show ad2 = ad from funext fun o => funext fun f => hsame hm o f]
    | true => exact ab_map_na ha0 (hmv hm).2.1
  have hlvn : lv_has ls (ab_ml (ab_cM x)) (ab_lc ad2 (ab_cE x).2.2.1 0 lv) := by
    cases hm : ab_mv M with
    | false => rw [show ad2 = ad from funext fun o => funext fun f => hsame hm o f]; exact h5
    | true => exact ab_lc_na ha0 (hmv hm).2.2 h5
  have hst : st'.map (ab_cv ad2 (ab_cE x).2.2.1) = (rv1.map (ab_cv ad1 (ab_cE x).2.2.1)).toList ++ rest.map (ab_cv ad (ab_cE x).2.2.1) ∧ ∀ v ∈ st', ab_okv v := by
    have hokr : ∀ v ∈ rest, ab_okv v := fun v hv => h6 v (List.mem_append_right _ hv)
    unfold ab_back at hb
    split at hb
    · cases hb
      exact ⟨hrest, hokr⟩
    · rename_i q
      cases hq : ab_at pl q with
      | none => rw [hq] at hb; cases hb
      | some o =>
        rw [hq] at hb
        cases hb
        refine ⟨?_, ab_okc trivial hokr⟩
        rw [List.map_cons, hrest]
        simp only [ab_cv, Option.map_some, Option.toList_some, List.cons_append, List.nil_append]
        rw [hin2 _ _ _ hq]
    · cases hb
    · rename_i v hn1 hn2
      cases hb
      refine ⟨?_, ab_okc (hok1 _ rfl) hokr⟩
      rw [List.map_cons, hrest]
      rcases v with z | z | o | q | n
      · rfl
      · rfl
      · exact absurd rfl (hn1 o)
      · exact absurd rfl (hn2 _)
      · exact absurd rfl (hn2 _)
  have kk := k ad2 H1 locs1 ls hreln hWn hIn hS1 hlvn hst.2 h7 h8 hroom
  rw [hst.1] at kk
  exact kk
end
end
section
/-! SOUNDNESS, tenth part: rows that are right, one step, many steps -/
def ab_lk (w : Jvm.Cond) (p : Nat) : Bool := decide (lw_tbl[p]? = some w) && goodWord w
theorem ab_lk_in {w : Jvm.Cond} {p : Nat} (h : ab_lk w p = true) : w ∈ ab_gw := by
  obtain ⟨h1, h2⟩ := (Bool.and_eq_true _ _).mp h
  exact List.mem_filter.mpr ⟨List.mem_of_getElem? (of_decide_eq_true h1), h2⟩
def ab_fl (own : String) (i a f p : Nat) : Bool := decide (a < 10) && (decide (f < (ab_lay a).length) && ab_lk (.fieldLink own i (ab_T a f).1 (ab_T a f).2.1 (ab_T a f).2.2.1) p)
def ab_tx (own : String) (i n : Nat) : Bool := ab_sts.any (fun q => decide (q.1 = own) && (decide (q.2.1 = i) && decide (q.2.2.2 = n)))
/-! row helpers -/
def ab_tg (pc : Nat) (off : Int) (ts : List Nat) : Bool := match ts with
  | [t] => decide ((pc : Int) + off = (t : Int))
  | _ => false
def ab_tsw (pc : Nat) (dflt lo hi : Int) (offs : List Int) (ts : List Nat) : Bool := match ts with
  | t :: ts => decide ((pc : Int) + dflt = (t : Int) ∧ offs.map (fun o => (pc : Int) + o) = ts.map (fun t : Nat => (t : Int)) ∧ hi = lo + (ts.length : Int) - 1)
  | _ => false
def ab_ldB (own : String) (i b c p : Nat) : Bool := match c with
  | 0 => decide (b ≤ 2147483647) && ab_lk (.constant own i (Int32.ofInt (b : Nat))) p
  | _ + 1 => ab_tx own i b
def ab_nfin (rs : List ab_R) : Bool := match rs with
  | r2 :: _ => !(ab_T r2.2.2.2.1 r2.2.2.2.2.1).2.2.2
  | [] => false
def ab_ml1 (own : String) (i : Nat) (Mo : Option ab_M) (p : Nat) : Bool := match Mo with
  | some M' => ab_lk (.methodLink own i (ab_nm M')) p
  | none => false
def ab_ml2 (own : String) (i : Nat) (c : Nat) (Mo : Option ab_M) (p : Nat) : Bool := match c with
  | 10 => ab_lk (.methodLink own i Lib.Math.max.name) p
  | 11 => ab_lk (.methodLink own i Lib.Math.min.name) p
  | 12 => ab_lk (.methodLink own i Lib.Math.abs.name) p
  | 13 => ab_lk (.methodLink own i Lib.MathLoose.min_long.x) p
  | _ => ab_ml1 own i Mo p
/-- is this row right? -/
def ab_rowC (M : ab_M) (r : ab_R) (p : Nat) (rs : List ab_R) : Bool := match r.2.1 with
  | .iconst z => decide (r.2.2.1 = 1 ∧ -1 ≤ z ∧ z ≤ 5)
  | .bipush z => decide (r.2.2.1 = 2 ∧ -128 ≤ z ∧ z ≤ 127)
  | .sipush z => decide (r.2.2.1 = 3 ∧ -32768 ≤ z ∧ z ≤ 32767)
  | .ldc i => decide (r.2.2.1 = 2) && ab_ldB (ab_nm M).cls i r.2.2.2.2.1 r.2.2.2.2.2.1 p
  | .ldc_w i => decide (r.2.2.1 = 3) && (decide (r.2.2.2.2.1 ≤ 2147483647) && ab_lk (.constant (ab_nm M).cls i (Int32.ofInt (r.2.2.2.2.1 : Nat))) p)
  | .ldc2_w i => decide (r.2.2.1 = 3) && (decide (r.2.2.2.2.1 ≤ 9223372036854775807) && ab_lk (.constantLong (ab_nm M).cls i (Int64.ofInt (r.2.2.2.2.1 : Nat))) p)
  | .lconst z => decide (r.2.2.1 = 1)
  | .iload i => decide (r.2.2.1 = 2)
  | .iload_n i => decide (r.2.2.1 = 1)
  | .lload i => decide (r.2.2.1 = 2)
  | .lload_n i => decide (r.2.2.1 = 1)
  | .aload i => decide (r.2.2.1 = 2)
  | .aload_n i => decide (r.2.2.1 = 1)
  | .istore i => decide (r.2.2.1 = 2 ∧ i < ab_ml M)
  | .istore_n i => decide (r.2.2.1 = 1 ∧ (i : Nat) < ab_ml M)
  | .lstore i => decide (r.2.2.1 = 2 ∧ i + 1 < ab_ml M)
  | .lstore_n i => decide (r.2.2.1 = 1 ∧ (i : Nat) + 1 < ab_ml M)
  | .astore i => decide (r.2.2.1 = 2 ∧ i < ab_ml M)
  | .astore_n i => decide (r.2.2.1 = 1 ∧ (i : Nat) < ab_ml M)
  | .iinc i n => decide (r.2.2.1 = 3 ∧ i < ab_ml M)
  | .iadd => decide (r.2.2.1 = 1)
  | .isub => decide (r.2.2.1 = 1)
  | .imul => decide (r.2.2.1 = 1)
  | .ineg => decide (r.2.2.1 = 1)
  | .idiv => decide (r.2.2.1 = 1)
  | .irem => decide (r.2.2.1 = 1)
  | .iand => decide (r.2.2.1 = 1)
  | .ior => decide (r.2.2.1 = 1)
  | .ixor => decide (r.2.2.1 = 1)
  | .ishl => decide (r.2.2.1 = 1)
  | .ishr => decide (r.2.2.1 = 1)
  | .i2b => decide (r.2.2.1 = 1)
  | .i2l => decide (r.2.2.1 = 1)
  | .ladd => decide (r.2.2.1 = 1)
  | .lmul => decide (r.2.2.1 = 1)
  | .ldiv => decide (r.2.2.1 = 1)
  | .lor => decide (r.2.2.1 = 1)
  | .lshl => decide (r.2.2.1 = 1)
  | .lcmp => decide (r.2.2.1 = 1)
  | .dup => decide (r.2.2.1 = 1)
  | .pop => decide (r.2.2.1 = 1)
  | .dup2 => decide (r.2.2.1 = 1)
  | .ifCond cn off => decide (r.2.2.1 = 3) && ab_tg r.1 off r.2.2.2.2.2.2.1
  | .if_icmp cn off => decide (r.2.2.1 = 3) && ab_tg r.1 off r.2.2.2.2.2.2.1
  | .goto off => decide (r.2.2.1 = 3) && ab_tg r.1 off r.2.2.2.2.2.2.1
  | .tableswitch dflt lo hi offs => ab_tsw r.1 dflt lo hi offs.toList r.2.2.2.2.2.2.1
  | .getfield i => decide (r.2.2.1 = 3) && ab_fl (ab_nm M).cls i r.2.2.2.1 r.2.2.2.2.1 p
  | .putfield i => decide (r.2.2.1 = 3) && ab_fl (ab_nm M).cls i r.2.2.2.1 r.2.2.2.2.1 p
  | .newarray ty => decide (r.2.2.1 = 2) && (decide (newarray.typeOf ty = ab_kt (ab_atk ty) ∧ (ab_atk ty = 3 ∨ ab_atk ty = 5 ∨ ab_atk ty = 6)) && (ab_lk (.arrayClass (newarray.typeOf ty)) p && ab_nfin rs))
  | .iaload => decide (r.2.2.1 = 1)
  | .baload => decide (r.2.2.1 = 1)
  | .laload => decide (r.2.2.1 = 1)
  | .iastore => decide (r.2.2.1 = 1)
  | .lastore => decide (r.2.2.1 = 1)
  | .bastore => decide (r.2.2.1 = 1)
  | .arraylength => decide (r.2.2.1 = 1)
  | .ireturn => decide (r.2.2.1 = 1)
  | .lreturn => decide (r.2.2.1 = 1)
  | .areturn => decide (r.2.2.1 = 1)
  | .return_ => decide (r.2.2.1 = 1)
  | .invokevirtual i => decide (r.2.2.1 = 3) && ab_ml1 (ab_nm M).cls i r.2.2.2.2.2.2.2 p
  | .invokestatic i => decide (r.2.2.1 = 3) && ab_ml2 (ab_nm M).cls i r.2.2.2.2.2.1 r.2.2.2.2.2.2.2 p
  | _ => false
def ab_rowB (M : ab_M) (r : ab_R) (p : Nat) (rs : List ab_R) : Bool := decide (decode (ab_cd M) r.1 = .ok (r.2.1, r.2.2.1)) && ab_rowC M r p rs
def ab_okR (M : ab_M) : List ab_R → List Nat → Bool
  | [], _ => true
  | r :: rs, p :: ps => ab_rowB M r p rs && ((match rs with
    | [] => true
    | r2 :: _ => Nat.beq r2.1 (r.1 + r.2.2.1)) && ab_okR M rs ps)
  | _ :: _, [] => false
def ab_okS (M : ab_M) (rs : List ab_R) : Prop := ∃ ps, ab_okR M rs ps = true
theorem ab_okS_tl {M : ab_M} {r : ab_R} {rs : List ab_R} (h : ab_okS M (r :: rs)) : (∃ p, ab_rowB M r p rs = true) ∧ (∀ r2 rs2, rs = r2 :: rs2 → r2.1 = r.1 + r.2.2.1) ∧ ab_okS M rs := by
  obtain ⟨ps, h⟩ := h
  cases ps with
  | nil => cases h
  | cons p ps =>
    simp only [ab_okR, Bool.and_eq_true] at h
    refine ⟨⟨p, h.1⟩, fun r2 rs2 e => ?_, ps, h.2.2⟩
    subst e
    exact ab_beq h.2.1
theorem ab_okS_seek {M : ab_M} {rows : List ab_R} (h : ab_okS M rows) (t : Nat) : ab_okS M (ab_seek rows t) ∧ ∀ r2 rs2, ab_seek rows t = r2 :: rs2 → r2.1 = t := by
  induction rows with
  | nil => exact ⟨h, fun r2 rs2 e => by cases e⟩
  | cons r rs ih =>
    simp only [ab_seek]
    split
    · rename_i hb
      exact ⟨h, fun r2 rs2 e => by cases e; exact ab_beq hb⟩
    · exact ih (ab_okS_tl h).2.2
theorem ab_take_ok {n : Nat} {acc l a r : List ab_V} (h : ab_take n acc l = some (a, r)) : acc.reverse ++ l = a.reverse ++ r ∧ a.length = acc.length + n := by
  induction n generalizing acc l with
  | zero =>
    simp only [ab_take, Option.some.injEq, Prod.mk.injEq] at h
    obtain ⟨rfl, rfl⟩ := h
    exact ⟨rfl, by simp⟩
  | succ n ih =>
    cases l with
    | nil => cases h
    | cons v l =>
      obtain ⟨h1, h2⟩ := ih (acc := v :: acc) (l := l) h
      refine ⟨by rw [← h1]; simp, by rw [h2]; simp; omega⟩
theorem ab_good_all {M : ab_M} (hm : ab_mok M) {ws0 : List Jvm.Cond} (h : ∀ w ∈ ws0, w ∈ ab_gw) : GoodIn ab_gw (ws0 ++ ab_ws M) := fun w hw => by
  have : w ∈ ab_gw := by
    rcases List.mem_append.mp hw with h1 | h1
    · exact h w h1
    · exact ab_ws_in hm w h1
  exact ⟨this, ab_gw_good this⟩
section
variable {x : ab_Cx} {pc : Nat} {lv : List (Option ab_V)} {ws : List ab_Ob} {kc ks : Nat}
theorem ab_hW {ad : Nat → Nat → Nat} {ak : Nat → Nat} {m : MethodId} {ls : Array Slot} {st : List Value} {rest : List ab_V} (h : ab_cats rest ≤ 8) : 2 * (F0 m pc ls st).monitorRoom + ((rest.map (ab_cv ad ak)).map fun v => v.category).sum ≤ 8 := lv_room (by rw [ab_cats_map]; exact h)
/-- a call of a method of an object -/
theorem ab_r_inv {K : ab_KT} {rs : List ab_R} (X : ab_X x) {M : ab_M} {i : Nat} {as rest : List ab_V} (hw : .methodLink (ab_nm (ab_cM x)).cls i (ab_nm M) ∈ ab_gw) (hna : as.length = if ab_st M = true then ab_na M else ab_na M + 1)
    (hd : if ab_st M = true then ab_dec x pc (.invokestatic i) 3 else ab_dec x pc (.invokevirtual i) 3)
    (hrec : ab_st M = true ∨ (∃ o ci as0, as = ab_O o :: as0 ∧ ab_at (ab_G (ab_cM x)) o = some ci ∧ ci = ab_ci M ∧ ci < 10) ∨ ∃ n as0, as = ab_S n :: as0 ∧ ab_ci M = 100 ∧ n < 12)
    (hK : ∀ lv st ws kc ks, K rs lv st ws kc ks → ab_J x (pc + 3) lv st ws kc ks)
    (k : ab_inv (ab_G (ab_cM x)) (ab_cd' x) (ab_cc x) (ab_ck x) (ab_mv (ab_cM x)) K M rs lv as rest ws kc ks) : ab_J x pc lv (as.reverse ++ rest) ws kc ks := by
  unfold ab_inv at k
  simp only [ab_frc_eq] at k
  split at k
  · exact k.elim
  · rename_i pl hpl
    split at k
    · rename_i as' ws' G' h1 h2 h3
      split at k
      · rename_i hc
        simp only [Bool.and_eq_true] at hc
        obtain ⟨c1, c2, c3, c4, c5⟩ := hc
        have c4 := Nat.le_of_ble_eq_true c4
        obtain ⟨mc, ms, hroom0, k⟩ := ab_exA_ok k
        obtain ⟨Q, hC, k⟩ := k
        · have hm := hC.1
          refine ab_r_call X hC h1 h2 h3 c1 c2 c3 (fun hmv => ?_) hroom0 ?_ (fun rv ws'' hq => ?_)
          · rw [hmv] at c5
            simp only [Bool.not_true, Bool.false_or, Bool.and_eq_true] at c5
            exact ⟨c5.1, c5.2.1, c5.2.2⟩
          · intro ad H locs ls adC hadC hW hI hS hl hok hroom hMet hPre
            have hR : (ab_rm (ab_cd' x) mc ms).frames + 1 ≤ (ab_cR x).frames ∧ 8 + (ab_ml M + 11) + (ab_rm (ab_cd' x) mc ms).locals ≤ (ab_cR x).locals := by
              rw [X.R]
              refine ⟨Nat.le_refl _, ?_⟩
              show 8 + (ab_ml M + 11) + 37 * ab_cd' x ≤ 37 * (ab_cd' x + 1)
              have := hm.2.2.2.1
              omega
            have hf : kc + mc ≤ (ab_cR x).cells ∧ ks + ms ≤ (ab_cR x).slots := by rw [X.R]; exact hroom
            have hfix : CallFix x.1.1 (ab_cm x) x.2.1.2.2.1 (ab_cd (ab_cM x)) (ab_ml (ab_cM x)) (ab_cs x) (ab_ca x) ab_gw (ab_nm (ab_cM x)).cls := ⟨X.ex, X.cd, X.ml, X.own, X.ts⟩
            by_cases hs : ab_st M = true
            · have hm5 := hm.2.2.2.2
              rw [if_pos hs] at hm5 hd hna
              have cb := callB_of (own := (ab_nm (ab_cM x)).cls) (index := i) (ab_na M) X.ts (fun w h => ⟨ab_ws_in hm w h, ab_gw_good (ab_ws_in hm w h)⟩) rfl rfl rfl (X.ts _ hm.2.1) (X.ts _ hw) hm.2.2.1 hR
              refine va_runS hfix hMet ⟨cb, X.ts _ hm5⟩ hPre rfl (by rw [List.length_map]; exact hna) hl.1 ?_ (ab_hW c4) hd hf
              show (as.reverse ++ rest).map _ = _
              rw [List.map_append, List.map_reverse]
            · have hm5 := hm.2.2.2.2
              rw [if_neg hs] at hm5 hd hna
              have cw := cwV (own := (ab_nm (ab_cM x)).cls) (index := i) (C := (ab_nm M).cls) (ab_na M) X.ts (ab_good_all hm (ws0 := [.methodLink (ab_nm (ab_cM x)).cls i (ab_nm M), .instanceMethod (ab_nm M), .selects (ab_nm M).cls (ab_nm M) (ab_nm M), .initialized (ab_nm M).cls]) (fun w h => by
                simp only [List.mem_cons, List.not_mem_nil, or_false] at h
                rcases h with rfl | rfl | rfl | rfl
                · exact hw
                · exact hm5.1
                · exact hm5.2.1
                · exact hm.2.1)) rfl rfl rfl ⟨rfl, hm.2.2.1⟩ hR
              rcases hrec with h | ⟨o, ci, as0, rfl, hGo, hci, hlt⟩ | ⟨n, as0, rfl, hci, hlt⟩
              · exact absurd h hs
              · have hrcv : ∃ cell : Cell, H[ad o 0]? = some cell ∧ cell.vm.isStatics = false ∧ (ab_cs x).vm.findClass (ab_nm M).cls = some cell.cls := by
                  have hol := ab_at_lt hGo
                  rw [← hW.1] at hol
                  obtain ⟨ob, hob⟩ : ∃ ob, ab_at ws o = some ob := ⟨ws[o], by rw [ab_at_eq]; simp [hol]⟩
                  obtain ⟨⟨cell, q1, q2, q3, q4⟩, _⟩ := hW.2 o ci ob hGo hob
                  rcases hm5.2.2 with ⟨T, N, hcl⟩ | ⟨h100, _⟩
                  · rw [← hci] at hcl
                    exact ⟨cell, q1, by rw [q3]; rfl, by rw [q2]; exact (X.K.1.1 ci _ hcl).2.1⟩
                  · omega
                refine va_runV (As := as0.map (ab_cv ad (ab_cE x).2.2.1)) (b := ad o 0) hfix hMet cw ⟨hPre.1, hrcv, hPre.2⟩ rfl (by rw [List.length_map]; simpa using hna) hl.1 ?_ (ab_hW c4) hd hf
                show ((ab_O o :: as0).reverse ++ rest).map _ = _
                simp [List.map_append, List.map_reverse, ab_cv]
              · have hrcv := vk_recv X.K.2.1 hlt hS
                have hcls : (ab_nm M).cls = "java/lang/String" := by
                  rcases hm5.2.2 with ⟨T, N, hcl⟩ | ⟨_, h⟩
                  · rw [hci] at hcl; simp [vwCl] at hcl
                  · exact h
                refine va_runV (As := as0.map (ab_cv ad (ab_cE x).2.2.1)) (b := (ab_cE x).2.2.1 n) hfix hMet cw ⟨hPre.1, by rw [hcls]; exact hrcv, hPre.2⟩ rfl (by rw [List.length_map]; simpa using hna) hl.1 ?_ (ab_hW c4) hd hf
                show ((ab_S n :: as0).reverse ++ rest).map _ = _
                simp [List.map_append, List.map_reverse, ab_cv]
          · have kk := ab_alW_ok (ab_alR_ok k hq.1.1) hq.1.2 hq.2
            split at kk
            · rename_i st' hst'
              exact ⟨st', hst', hK _ _ _ _ _ kk⟩
            · exact kk.elim
      · exact k.elim
    · exact k.elim
end
end
section
/-! SOUNDNESS, last part: one step -/
theorem ab_mi : .initialized "java/lang/Math" ∈ ab_gw := ab_lk_in (p := 111) (by decide +kernel)
theorem ab_ms_max : .static Lib.Math.max.name ∈ ab_gw := ab_lk_in (p := 873) (by decide +kernel)
theorem ab_mc_max : .code Lib.Math.max.name Lib.Math.max.code 2 (some .int) ∈ ab_gw := ab_lk_in (p := 874) (by decide +kernel)
theorem ab_ms_min : .static Lib.Math.min.name ∈ ab_gw := ab_lk_in (p := 464) (by decide +kernel)
theorem ab_mc_min : .code Lib.Math.min.name Lib.Math.min.code 2 (some .int) ∈ ab_gw := ab_lk_in (p := 465) (by decide +kernel)
theorem ab_ms_abs : .static Lib.Math.abs.name ∈ ab_gw := ab_lk_in (p := 680) (by decide +kernel)
theorem ab_mc_abs : .code Lib.Math.abs.name Lib.Math.abs.code 1 (some .int) ∈ ab_gw := ab_lk_in (p := 681) (by decide +kernel)
theorem ab_ms_minl : .static Lib.MathLoose.min_long.x ∈ ab_gw := ab_lk_in (p := 806) (by decide +kernel)
theorem ab_mc_minl : .code Lib.MathLoose.min_long.x Lib.MathLoose.min_long.code 4 (some .long) ∈ ab_gw := ab_lk_in (p := 807) (by decide +kernel)
theorem ab_tx_in {own : String} {i n : Nat} (h : ab_tx own i n = true) : ∃ tx, (own, i, tx, n) ∈ ab_sts := by
  unfold ab_tx at h
  obtain ⟨q, hq, h⟩ := List.any_eq_true.mp h
  simp only [Bool.and_eq_true, decide_eq_true_eq] at h
  obtain ⟨rfl, rfl, rfl⟩ := h
  exact ⟨q.2.2.1, hq⟩
theorem ab_fl_ok {own : String} {i a f p : Nat} (h : ab_fl own i a f p = true) : a < 10 ∧ f < (ab_lay a).length ∧ .fieldLink own i (ab_T a f).1 (ab_T a f).2.1 (ab_T a f).2.2.1 ∈ ab_gw := by
  unfold ab_fl at h
  simp only [Bool.and_eq_true, decide_eq_true_eq] at h
  exact ⟨h.1, h.2.1, ab_lk_in h.2.2⟩
theorem ab_if_mono {cn : Jvm.ClassFile.Cond} {a b : Int} {kt kf kt' kf' : Prop} (h : ab_if cn a b kt kf) (h1 : kt → kt') (h2 : kf → kf') : ab_if cn a b kt' kf' := by
  cases cn <;> exact ⟨fun e => h1 (h.1 e), fun e => h2 (h.2 e)⟩
theorem ab_sw_mono {a hi : Int} : ∀ {ts : List Nat} {v : Int} {k k' : Nat → Prop}, ab_sw a hi v ts k → (∀ t, k t → k' t) → ab_sw a hi v ts k'
  | [], _, _, _, _, _ => trivial
  | t :: ts, v, k, k', h, hk => ⟨fun e => hk t (h.1 e), ab_sw_mono (ts := ts) (v := v + 1) h.2 hk⟩
theorem ab_getf_mono {G : List Nat} {ws : List ab_Ob} {o a f : Nat} {k k' : ab_V → Prop} (h : ab_getf G ws o a f k) (hk : ∀ v, k v → k' v) : ab_getf G ws o a f k' := by
  unfold ab_getf at h ⊢
  split at h
  · split at h
    · split at h <;> exact hk _ h
    · exact h.elim
  · exact h.elim
theorem ab_putf_mono {G : List Nat} {ws : List ab_Ob} {o a f : Nat} {v : ab_V} {k k' : List ab_Ob → Prop} (h : ab_putf G ws o a f v k) (hk : ∀ v, k v → k' v) : ab_putf G ws o a f v k' := by
  unfold ab_putf at h ⊢
  simp only [ab_frc_eq] at h ⊢
  split at h
  · split at h
    · split at h
      · exact hk _ h
      · exact ⟨h.1, hk _ h.2⟩
      · exact hk _ h
      · exact h.elim
    · exact h.elim
  · exact h.elim
theorem ab_newf_mono {G : List Nat} {ws : List ab_Ob} {o a f : Nat} {n : Int} {q : Nat → Bool} {k k' : List ab_Ob → Prop} (h : ab_newf G ws o a f n q k) (hk : ∀ v, k v → k' v) : ab_newf G ws o a f n q k' := by
  unfold ab_newf at h ⊢
  simp only [ab_frc_eq] at h ⊢
  split at h
  · split at h
    · exact hk _ h
    · exact h.elim
  · exact h.elim
theorem ab_ald_mono {G : List Nat} {ws : List ab_Ob} {o f : Nat} {i : Int} {q : Nat → Bool} {k k' : Nat → Int → Prop} (h : ab_ald G ws o f i q k) (hk : ∀ a b, k a b → k' a b) : ab_ald G ws o f i q k' := by
  unfold ab_ald at h ⊢
  split at h
  · split at h
    · exact ⟨h.1, hk _ _ h.2⟩
    · exact h.elim
  · exact h.elim
theorem ab_ast_mono {G : List Nat} {ws : List ab_Ob} {o f : Nat} {i : Int} {q : Nat → Bool} {k k' : Nat → (Int → List ab_Ob) → Prop} (h : ab_ast G ws o f i q k) (hk : ∀ a b, k a b → k' a b) : ab_ast G ws o f i q k' := by
  unfold ab_ast at h ⊢
  split at h
  · split at h
    · exact ⟨h.1, hk _ _ h.2⟩
    · exact h.elim
  · exact h.elim
theorem ab_ld_mono {lv : List (Option ab_V)} {i : Nat} {k k' : ab_V → Prop} (hk : ∀ v, k v → k' v) : (ab_ldI lv i k → ab_ldI lv i k') ∧ (ab_ldL lv i k → ab_ldL lv i k') ∧ (ab_ldA lv i k → ab_ldA lv i k') := by
  refine ⟨fun h => ?_, fun h => ?_, fun h => ?_⟩
  · unfold ab_ldI at h ⊢
    split at h
    · exact hk _ h
    · exact h.elim
  · unfold ab_ldL at h ⊢
    split at h
    · exact hk _ h
    · exact h.elim
  · unfold ab_ldA at h ⊢
    split at h
    · exact hk _ h
    · exact h.elim
theorem ab_pI_ok {st : List ab_V} {k : Int → List ab_V → Prop} (h : ab_pI st k) : ∃ z st', st = .inl z :: st' ∧ k z st' := by
  unfold ab_pI at h
  split at h
  · exact ⟨_, _, rfl, h⟩
  · exact h.elim
theorem ab_pL_ok {st : List ab_V} {k : Int → List ab_V → Prop} (h : ab_pL st k) : ∃ z st', st = .inr (.inl z) :: st' ∧ k z st' := by
  unfold ab_pL at h
  split at h
  · exact ⟨_, _, rfl, h⟩
  · exact h.elim
theorem ab_pR_ok {st : List ab_V} {k : Nat ⊕ ((Nat × Nat) ⊕ Nat) → List ab_V → Prop} (h : ab_pR st k) : ∃ z st', st = .inr (.inr z) :: st' ∧ k z st' := by
  unfold ab_pR at h
  split at h
  · exact ⟨_, _, rfl, h⟩
  · exact h.elim
theorem ab_pO_ok {st : List ab_V} {k : Nat → List ab_V → Prop} (h : ab_pO st k) : ∃ o st', st = ab_O o :: st' ∧ k o st' := by
  unfold ab_pO at h
  split at h
  · exact ⟨_, _, rfl, h⟩
  · exact h.elim
theorem ab_pA_ok {st : List ab_V} {k : Nat → Nat → List ab_V → Prop} (h : ab_pA st k) : ∃ o f st', st = .inr (.inr (.inr (.inl (o, f)))) :: st' ∧ k o f st' := by
  unfold ab_pA at h
  split at h
  · exact ⟨_, _, _, rfl, h⟩
  · exact h.elim
theorem ab_pY_ok {st : List ab_V} {k : ab_V → List ab_V → Prop} (h : ab_pY st k) : ∃ v st', st = v :: st' ∧ k v st' := by
  unfold ab_pY at h
  split at h
  · exact ⟨_, _, rfl, h⟩
  · exact h.elim
theorem ab_pV_ok {st : List ab_V} {k : ab_V → List ab_V → Prop} (h : ab_pV st k) : ∃ v st', st = v :: st' ∧ ab_cat v = 1 ∧ k v st' := by
  unfold ab_pV at h
  split at h
  · split at h
    · rename_i hv
      exact ⟨_, _, rfl, hv, h⟩
    · exact h.elim
  · exact h.elim
theorem ab_nil_ok {st : List ab_V} {k : Prop} (h : ab_nil st k) : st = [] ∧ k := by
  unfold ab_nil at h
  split at h
  · exact ⟨rfl, h⟩
  · exact h.elim
theorem ab_one_ok {ts : List Nat} {k : Nat → Prop} (h : ab_one ts k) : ∃ t, ts = [t] ∧ k t := by
  unfold ab_one at h
  split at h
  · exact ⟨_, rfl, h⟩
  · exact h.elim
theorem ab_hd_ok {ts : List Nat} {k : Nat → List Nat → Prop} (h : ab_hd ts k) : ∃ t l, ts = t :: l ∧ k t l := by
  unfold ab_hd at h
  split at h
  · exact ⟨_, _, rfl, h⟩
  · exact h.elim
theorem ab_iinc_ok {lv : List (Option ab_V)} {i : Nat} {k : Int → Prop} (h : ab_iinc lv i k) : ∃ z, ab_at lv i = some (some (.inl z)) ∧ k z := by
  unfold ab_iinc at h
  split at h
  · rename_i z hz
    exact ⟨z, hz, h⟩
  · exact h.elim
theorem ab_pnx_ok {b : Bool} {rs : List ab_R} {k : Nat → Nat → List ab_R → Prop} (h : ab_pnx b rs k) : b = true ∧ ∃ pc i len a f c t M rs2, rs = (pc, .putfield i, len, a, f, c, t, M) :: rs2 ∧ k a f rs2 := by
  unfold ab_pnx at h
  split at h
  · exact ⟨rfl, _, _, _, _, _, _, _, _, _, rfl, h⟩
  · exact h.elim
theorem ab_aln_ok {G : List Nat} {ws : List ab_Ob} {o f : Nat} {k : Int → Prop} (h : ab_aln G ws o f k) : ∃ ci ob, ab_at G o = some ci ∧ ab_at ws o = some ob ∧ ab_arr (ab_kd ci f) ∧ k (ob.2 f).1 := by
  unfold ab_aln at h
  split at h
  · rename_i ci ob hG hob
    split at h
    · rename_i hb
      simp only [Bool.and_eq_true] at hb
      exact ⟨ci, ob, hG, hob, ⟨Nat.le_of_ble_eq_true hb.1, Nat.le_of_ble_eq_true hb.2⟩, h⟩
    · exact h.elim
  · exact h.elim
theorem ab_le8_ok {st : List ab_V} {k : Prop} (h : ab_le8 st k) : ab_cats st ≤ 8 ∧ k := by
  unfold ab_le8 at h
  split at h
  · rename_i hb
    exact ⟨Nat.le_of_ble_eq_true hb, h⟩
  · exact h.elim
theorem ab_vir_ok {G : List Nat} {Mo : Option ab_M} {st : List ab_V} {k : ab_M → List ab_V → List ab_V → Prop} (h : ab_vir G Mo st k) : ∃ M as rest, Mo = some M ∧ st = as.reverse ++ rest ∧ ab_st M = false ∧ as.length = ab_na M + 1 ∧ ((∃ o ci as0, as = ab_O o :: as0 ∧ ab_at G o = some ci ∧ ci = ab_ci M ∧ ci < 10) ∨ ∃ n as0, as = ab_S n :: as0 ∧ ab_ci M = 100 ∧ n < 12) ∧ k M as rest := by
  unfold ab_vir at h
  split at h
  · rename_i M
    split at h
    · rename_i o as rest hs htk
      obtain ⟨t1, t2⟩ := ab_take_ok htk
      split at h
      · rename_i ci hG
        split at h
        · rename_i hb
          simp only [Bool.and_eq_true] at hb
          exact ⟨M, _, rest, rfl, t1, hs, by simpa using t2, Or.inl ⟨o, ci, as, rfl, hG, ab_beq hb.1, Nat.le_of_ble_eq_true hb.2⟩, h⟩
        · exact h.elim
      · exact h.elim
    · rename_i n as rest hs htk
      obtain ⟨t1, t2⟩ := ab_take_ok htk
      split at h
      · rename_i hb
        exact ⟨M, _, rest, rfl, t1, hs, by simpa using t2, Or.inr ⟨n, as, rfl, ab_beq hb, h.1⟩, h.2⟩
      · exact h.elim
    · exact h.elim
  · exact h.elim
theorem ab_sta_ok {Mo : Option ab_M} {st : List ab_V} {k : ab_M → List ab_V → List ab_V → Prop} (h : ab_sta Mo st k) : ∃ M as rest, Mo = some M ∧ st = as.reverse ++ rest ∧ ab_st M = true ∧ as.length = ab_na M ∧ k M as rest := by
  unfold ab_sta at h
  split at h
  · rename_i M
    split at h
    · rename_i as rest hs htk
      obtain ⟨t1, t2⟩ := ab_take_ok htk
      exact ⟨M, as, rest, rfl, t1, hs, by simpa using t2, h⟩
    · exact h.elim
  · exact h.elim
/-- ONE STEP -/
theorem ab_step_ok {x0 : ab_Cx} {Post : Option ab_V → List ab_Ob → Prop} {K : ab_KT} {rows : List ab_R} {r : ab_R} {rs : List ab_R} {lv : List (Option ab_V)} {st : List ab_V} {ws : List ab_Ob} {kc ks : Nat} (X : ab_X x0) (XQ : ab_XQ x0 Post) (hrows : ab_okS (ab_cM x0) rows) (hr : ab_okS (ab_cM x0) (r :: rs))
    (hK : ∀ rs' lv st ws kc ks, ab_okS (ab_cM x0) rs' → K rs' lv st ws kc ks → ∃ r' rs'', rs' = r' :: rs'' ∧ ab_J x0 r'.1 lv st ws kc ks)
    (k : ab_step (ab_G (ab_cM x0)) rows (ab_cd' x0) (ab_cc x0) (ab_ck x0) (ab_mv (ab_cM x0)) (ab_rt (ab_cM x0)) Post K r rs lv st ws kc ks) : ab_J x0 r.1 lv st ws kc ks := by
  obtain ⟨⟨pp, hB⟩, hnx, hrs⟩ := ab_okS_tl hr
  obtain ⟨pc, ins, len, ra, rb, rc, ts, Mo⟩ := r
  have nx : ∀ lv st ws kc ks, K rs lv st ws kc ks → ab_J x0 (pc + len) lv st ws kc ks := fun lv st ws kc ks h => by
    obtain ⟨r', rs'', e, hj⟩ := hK _ _ _ _ _ _ hrs h
    have := hnx r' rs'' e
    rw [this] at hj
    exact hj
  have jp : ∀ t lv st ws kc ks, K (ab_seek rows t) lv st ws kc ks → ab_J x0 t lv st ws kc ks := fun t lv st ws kc ks h => by
    obtain ⟨h1, h2⟩ := ab_okS_seek hrows t
    obtain ⟨r', rs'', e, hj⟩ := hK _ _ _ _ _ _ h1 h
    rw [h2 r' rs'' e] at hj
    exact hj
  obtain ⟨hd0, hB0⟩ := (Bool.and_eq_true _ _).mp hB
  clear hB
  have hd : ab_dec x0 pc ins len := of_decide_eq_true hd0
  clear hd0
  show ab_J x0 pc lv st ws kc ks
  cases ins
  case iconst z =>
    have hB : (decide (len = 1 ∧ -1 ≤ z ∧ z ≤ 5)) = true := hB0
    have k0 : K rs lv (.inl z :: st) ws kc ks := k
    clear k
    obtain ⟨hl, hz⟩ := of_decide_eq_true hB
    subst hl
    exact ab_r_iconst X hz hd (nx _ _ _ _ _ k0)
  case bipush z =>
    have hB : (decide (len = 2 ∧ -128 ≤ z ∧ z ≤ 127)) = true := hB0
    have k0 : K rs lv (.inl z :: st) ws kc ks := k
    clear k
    obtain ⟨hl, hz⟩ := of_decide_eq_true hB
    subst hl
    exact ab_r_bipush X hz hd (nx _ _ _ _ _ k0)
  case sipush z =>
    have hB : (decide (len = 3 ∧ -32768 ≤ z ∧ z ≤ 32767)) = true := hB0
    have k0 : K rs lv (.inl z :: st) ws kc ks := k
    clear k
    obtain ⟨hl, hz⟩ := of_decide_eq_true hB
    subst hl
    exact ab_r_sipush X hz hd (nx _ _ _ _ _ k0)
  case ldc i =>
    have hB : (decide (len = 2) && ab_ldB (ab_nm (ab_cM x0)).cls i rb rc pp) = true := hB0
    have k0 : ab_sel rc (K rs lv (.inl (rb : Nat) :: st) ws kc ks) (K rs lv (ab_S rb :: st) ws kc ks) := k
    clear k
    obtain ⟨hl, hB1⟩ := (Bool.and_eq_true _ _).mp hB
    have hl := of_decide_eq_true hl
    clear hB hB0
    subst hl
    cases rc with
    | zero =>
      obtain ⟨h1, h2⟩ := (Bool.and_eq_true _ _).mp hB1
      exact ab_r_ldc X (of_decide_eq_true h1) (ab_lk_in h2) hd (nx _ _ _ _ _ k0)
    | succ rc =>
      obtain ⟨tx, htx⟩ := ab_tx_in hB1
      exact ab_r_ldcS X htx hd (nx _ _ _ _ _ k0)
  case ldc_w i =>
    have hB : (decide (len = 3) && (decide (rb ≤ 2147483647) && ab_lk (.constant (ab_nm (ab_cM x0)).cls i (Int32.ofInt (rb : Nat))) pp)) = true := hB0
    have k0 : K rs lv (.inl (rb : Nat) :: st) ws kc ks := k
    clear k
    obtain ⟨hl, hB1⟩ := (Bool.and_eq_true _ _).mp hB
    have hl := of_decide_eq_true hl
    clear hB hB0
    subst hl
    obtain ⟨h1, h2⟩ := (Bool.and_eq_true _ _).mp hB1
    exact ab_r_ldcw X (of_decide_eq_true h1) (ab_lk_in h2) hd (nx _ _ _ _ _ k0)
  case ldc2_w i =>
    have hB : (decide (len = 3) && (decide (rb ≤ 9223372036854775807) && ab_lk (.constantLong (ab_nm (ab_cM x0)).cls i (Int64.ofInt (rb : Nat))) pp)) = true := hB0
    have k0 : K rs lv (.inr (.inl (rb : Nat)) :: st) ws kc ks := k
    clear k
    obtain ⟨hl, hB1⟩ := (Bool.and_eq_true _ _).mp hB
    have hl := of_decide_eq_true hl
    clear hB hB0
    subst hl
    obtain ⟨h1, h2⟩ := (Bool.and_eq_true _ _).mp hB1
    exact ab_r_ldc2 X (of_decide_eq_true h1) (ab_lk_in h2) hd (nx _ _ _ _ _ k0)
  case lconst z =>
    have hB : (decide (len = 1)) = true := hB0
    have k0 : K rs lv (.inr (.inl (z : Nat)) :: st) ws kc ks := k
    clear k
    have hl := of_decide_eq_true hB
    subst hl
    exact ab_r_lconst X hd (nx _ _ _ _ _ k0)
  case iload i =>
    have hB : (decide (len = 2)) = true := hB0
    have k0 : ab_ldI lv i fun v => K rs lv (v :: st) ws kc ks := k
    clear k
    have hl := of_decide_eq_true hB
    subst hl
    exact ab_r_iload X hd ((ab_ld_mono (fun v h => nx _ _ _ _ _ h)).1 k0)
  case iload_n i =>
    have hB : (decide (len = 1)) = true := hB0
    have k0 : ab_ldI lv i fun v => K rs lv (v :: st) ws kc ks := k
    clear k
    have hl := of_decide_eq_true hB
    subst hl
    exact ab_r_iload_n X hd ((ab_ld_mono (fun v h => nx _ _ _ _ _ h)).1 k0)
  case lload i =>
    have hB : (decide (len = 2)) = true := hB0
    have k0 : ab_ldL lv i fun v => K rs lv (v :: st) ws kc ks := k
    clear k
    have hl := of_decide_eq_true hB
    subst hl
    exact ab_r_lload X hd ((ab_ld_mono (fun v h => nx _ _ _ _ _ h)).2.1 k0)
  case lload_n i =>
    have hB : (decide (len = 1)) = true := hB0
    have k0 : ab_ldL lv i fun v => K rs lv (v :: st) ws kc ks := k
    clear k
    have hl := of_decide_eq_true hB
    subst hl
    exact ab_r_lload_n X hd ((ab_ld_mono (fun v h => nx _ _ _ _ _ h)).2.1 k0)
  case aload i =>
    have hB : (decide (len = 2)) = true := hB0
    have k0 : ab_ldA lv i fun v => K rs lv (v :: st) ws kc ks := k
    clear k
    have hl := of_decide_eq_true hB
    subst hl
    exact ab_r_aload X hd ((ab_ld_mono (fun v h => nx _ _ _ _ _ h)).2.2 k0)
  case aload_n i =>
    have hB : (decide (len = 1)) = true := hB0
    have k0 : ab_ldA lv i fun v => K rs lv (v :: st) ws kc ks := k
    clear k
    have hl := of_decide_eq_true hB
    subst hl
    exact ab_r_aload_n X hd ((ab_ld_mono (fun v h => nx _ _ _ _ _ h)).2.2 k0)
  case istore i =>
    have hB : (decide (len = 2 ∧ i < ab_ml (ab_cM x0))) = true := hB0
    have k0 : ab_pI st fun z st => ab_frc (ab_s1 lv i (.inl z)) fun lv1 => K rs lv1 st ws kc ks := k
    clear k
    obtain ⟨hl, hz⟩ := of_decide_eq_true hB
    subst hl
    obtain ⟨z, st, e1_2, k1⟩ := ab_pI_ok k0
    clear k0
    subst e1_2
    rw [ab_frc_eq] at k1
    exact ab_r_istore X hz hd (nx _ _ _ _ _ k1)
  case istore_n i =>
    have hB : (decide (len = 1 ∧ (i : Nat) < ab_ml (ab_cM x0))) = true := hB0
    have k0 : ab_pI st fun z st => ab_frc (ab_s1 lv i (.inl z)) fun lv1 => K rs lv1 st ws kc ks := k
    clear k
    obtain ⟨hl, hz⟩ := of_decide_eq_true hB
    subst hl
    obtain ⟨z, st, e1_2, k1⟩ := ab_pI_ok k0
    clear k0
    subst e1_2
    rw [ab_frc_eq] at k1
    exact ab_r_istore_n X hz hd (nx _ _ _ _ _ k1)
  case lstore i =>
    have hB : (decide (len = 2 ∧ i + 1 < ab_ml (ab_cM x0))) = true := hB0
    have k0 : ab_pL st fun z st => ab_frc (ab_s2 lv i (.inr (.inl z))) fun lv1 => K rs lv1 st ws kc ks := k
    clear k
    obtain ⟨hl, hz⟩ := of_decide_eq_true hB
    subst hl
    obtain ⟨z, st, e1_2, k1⟩ := ab_pL_ok k0
    clear k0
    subst e1_2
    rw [ab_frc_eq] at k1
    exact ab_r_lstore X hz hd (nx _ _ _ _ _ k1)
  case lstore_n i =>
    have hB : (decide (len = 1 ∧ (i : Nat) + 1 < ab_ml (ab_cM x0))) = true := hB0
    have k0 : ab_pL st fun z st => ab_frc (ab_s2 lv i (.inr (.inl z))) fun lv1 => K rs lv1 st ws kc ks := k
    clear k
    obtain ⟨hl, hz⟩ := of_decide_eq_true hB
    subst hl
    obtain ⟨z, st, e1_2, k1⟩ := ab_pL_ok k0
    clear k0
    subst e1_2
    rw [ab_frc_eq] at k1
    exact ab_r_lstore_n X hz hd (nx _ _ _ _ _ k1)
  case astore i =>
    have hB : (decide (len = 2 ∧ i < ab_ml (ab_cM x0))) = true := hB0
    have k0 : ab_pR st fun z st => ab_frc (ab_s1 lv i (.inr (.inr z))) fun lv1 => K rs lv1 st ws kc ks := k
    clear k
    obtain ⟨hl, hz⟩ := of_decide_eq_true hB
    subst hl
    obtain ⟨z, st, e1_2, k1⟩ := ab_pR_ok k0
    clear k0
    subst e1_2
    rw [ab_frc_eq] at k1
    exact ab_r_astore X hz hd (nx _ _ _ _ _ k1)
  case astore_n i =>
    have hB : (decide (len = 1 ∧ (i : Nat) < ab_ml (ab_cM x0))) = true := hB0
    have k0 : ab_pR st fun z st => ab_frc (ab_s1 lv i (.inr (.inr z))) fun lv1 => K rs lv1 st ws kc ks := k
    clear k
    obtain ⟨hl, hz⟩ := of_decide_eq_true hB
    subst hl
    obtain ⟨z, st, e1_2, k1⟩ := ab_pR_ok k0
    clear k0
    subst e1_2
    rw [ab_frc_eq] at k1
    exact ab_r_astore_n X hz hd (nx _ _ _ _ _ k1)
  case iinc i n =>
    have hB : (decide (len = 3 ∧ i < ab_ml (ab_cM x0))) = true := hB0
    have k0 : ab_iinc lv i fun z => ab_num (z + n) (ab_frc (ab_s1 lv i (.inl (z + n))) fun lv1 => K rs lv1 st ws kc ks) := k
    clear k
    obtain ⟨hl, hz⟩ := of_decide_eq_true hB
    subst hl
    obtain ⟨z, hz2, k1⟩ := ab_iinc_ok k0
    clear k0
    rw [ab_frc_eq] at k1
    exact ab_r_iinc X hz hz2 hd ⟨k1.1, nx _ _ _ _ _ k1.2⟩
  case iadd =>
    have hB : (decide (len = 1)) = true := hB0
    have k0 : ab_pI st fun y st => ab_pI st fun x st => ab_num (x + y) (K rs lv (.inl (x + y) :: st) ws kc ks) := k
    clear k
    have hl := of_decide_eq_true hB
    subst hl
    obtain ⟨y, st, e1_2, k1⟩ := ab_pI_ok k0
    clear k0
    subst e1_2
    obtain ⟨x, st, e2_2, k2⟩ := ab_pI_ok k1
    clear k1
    subst e2_2
    exact ab_r_iadd X hd ⟨k2.1, nx _ _ _ _ _ k2.2⟩
  case isub =>
    have hB : (decide (len = 1)) = true := hB0
    have k0 : ab_pI st fun y st => ab_pI st fun x st => ab_num (x - y) (K rs lv (.inl (x - y) :: st) ws kc ks) := k
    clear k
    have hl := of_decide_eq_true hB
    subst hl
    obtain ⟨y, st, e1_2, k1⟩ := ab_pI_ok k0
    clear k0
    subst e1_2
    obtain ⟨x, st, e2_2, k2⟩ := ab_pI_ok k1
    clear k1
    subst e2_2
    exact ab_r_isub X hd ⟨k2.1, nx _ _ _ _ _ k2.2⟩
  case imul =>
    have hB : (decide (len = 1)) = true := hB0
    have k0 : ab_pI st fun y st => ab_pI st fun x st => ab_num (x * y) (K rs lv (.inl (x * y) :: st) ws kc ks) := k
    clear k
    have hl := of_decide_eq_true hB
    subst hl
    obtain ⟨y, st, e1_2, k1⟩ := ab_pI_ok k0
    clear k0
    subst e1_2
    obtain ⟨x, st, e2_2, k2⟩ := ab_pI_ok k1
    clear k1
    subst e2_2
    exact ab_r_imul X hd ⟨k2.1, nx _ _ _ _ _ k2.2⟩
  case ineg =>
    have hB : (decide (len = 1)) = true := hB0
    have k0 : ab_pI st fun x st => ab_num (-x) (K rs lv (.inl (-x) :: st) ws kc ks) := k
    clear k
    have hl := of_decide_eq_true hB
    subst hl
    obtain ⟨x, st, e1_2, k1⟩ := ab_pI_ok k0
    clear k0
    subst e1_2
    exact ab_r_ineg X hd ⟨k1.1, nx _ _ _ _ _ k1.2⟩
  case idiv =>
    have hB : (decide (len = 1)) = true := hB0
    have k0 : ab_pI st fun y st => ab_pI st fun x st => (¬ y = 0) ∧ ab_num (x.tdiv y) (K rs lv (.inl (x.tdiv y) :: st) ws kc ks) := k
    clear k
    have hl := of_decide_eq_true hB
    subst hl
    obtain ⟨y, st, e1_2, k1⟩ := ab_pI_ok k0
    clear k0
    subst e1_2
    obtain ⟨x, st, e2_2, k2⟩ := ab_pI_ok k1
    clear k1
    subst e2_2
    exact ab_r_idiv X hd ⟨k2.1, k2.2.1, nx _ _ _ _ _ k2.2.2⟩
  case irem =>
    have hB : (decide (len = 1)) = true := hB0
    have k0 : ab_pI st fun y st => ab_pI st fun x st => (¬ y = 0) ∧ ab_num (x.tmod y) (K rs lv (.inl (x.tmod y) :: st) ws kc ks) := k
    clear k
    have hl := of_decide_eq_true hB
    subst hl
    obtain ⟨y, st, e1_2, k1⟩ := ab_pI_ok k0
    clear k0
    subst e1_2
    obtain ⟨x, st, e2_2, k2⟩ := ab_pI_ok k1
    clear k1
    subst e2_2
    exact ab_r_irem X hd ⟨k2.1, k2.2.1, nx _ _ _ _ _ k2.2.2⟩
  case iand =>
    have hB : (decide (len = 1)) = true := hB0
    have k0 : ab_pI st fun y st => ab_pI st fun x st => K rs lv (.inl (Int32.ofInt x &&& Int32.ofInt y).toInt :: st) ws kc ks := k
    clear k
    have hl := of_decide_eq_true hB
    subst hl
    obtain ⟨y, st, e1_2, k1⟩ := ab_pI_ok k0
    clear k0
    subst e1_2
    obtain ⟨x, st, e2_2, k2⟩ := ab_pI_ok k1
    clear k1
    subst e2_2
    exact ab_r_iand X hd (nx _ _ _ _ _ k2)
  case ior =>
    have hB : (decide (len = 1)) = true := hB0
    have k0 : ab_pI st fun y st => ab_pI st fun x st => K rs lv (.inl (Int32.ofInt x ||| Int32.ofInt y).toInt :: st) ws kc ks := k
    clear k
    have hl := of_decide_eq_true hB
    subst hl
    obtain ⟨y, st, e1_2, k1⟩ := ab_pI_ok k0
    clear k0
    subst e1_2
    obtain ⟨x, st, e2_2, k2⟩ := ab_pI_ok k1
    clear k1
    subst e2_2
    exact ab_r_ior X hd (nx _ _ _ _ _ k2)
  case ixor =>
    have hB : (decide (len = 1)) = true := hB0
    have k0 : ab_pI st fun y st => ab_pI st fun x st => K rs lv (.inl (Int32.ofInt x ^^^ Int32.ofInt y).toInt :: st) ws kc ks := k
    clear k
    have hl := of_decide_eq_true hB
    subst hl
    obtain ⟨y, st, e1_2, k1⟩ := ab_pI_ok k0
    clear k0
    subst e1_2
    obtain ⟨x, st, e2_2, k2⟩ := ab_pI_ok k1
    clear k1
    subst e2_2
    exact ab_r_ixor X hd (nx _ _ _ _ _ k2)
  case ishl =>
    have hB : (decide (len = 1)) = true := hB0
    have k0 : ab_pI st fun y st => ab_pI st fun x st => K rs lv (.inl (Int32.ofInt x <<< (Int32.ofInt y &&& 31)).toInt :: st) ws kc ks := k
    clear k
    have hl := of_decide_eq_true hB
    subst hl
    obtain ⟨y, st, e1_2, k1⟩ := ab_pI_ok k0
    clear k0
    subst e1_2
    obtain ⟨x, st, e2_2, k2⟩ := ab_pI_ok k1
    clear k1
    subst e2_2
    exact ab_r_ishl X hd (nx _ _ _ _ _ k2)
  case ishr =>
    have hB : (decide (len = 1)) = true := hB0
    have k0 : ab_pI st fun y st => ab_pI st fun x st => K rs lv (.inl (Int32.ofInt x >>> (Int32.ofInt y &&& 31)).toInt :: st) ws kc ks := k
    clear k
    have hl := of_decide_eq_true hB
    subst hl
    obtain ⟨y, st, e1_2, k1⟩ := ab_pI_ok k0
    clear k0
    subst e1_2
    obtain ⟨x, st, e2_2, k2⟩ := ab_pI_ok k1
    clear k1
    subst e2_2
    exact ab_r_ishr X hd (nx _ _ _ _ _ k2)
  case i2b =>
    have hB : (decide (len = 1)) = true := hB0
    have k0 : ab_pI st fun x st => K rs lv (.inl (ab_i8 x) :: st) ws kc ks := k
    clear k
    have hl := of_decide_eq_true hB
    subst hl
    obtain ⟨x, st, e1_2, k1⟩ := ab_pI_ok k0
    clear k0
    subst e1_2
    exact ab_r_i2b X hd (nx _ _ _ _ _ k1)
  case i2l =>
    have hB : (decide (len = 1)) = true := hB0
    have k0 : ab_pI st fun x st => K rs lv (.inr (.inl x) :: st) ws kc ks := k
    clear k
    have hl := of_decide_eq_true hB
    subst hl
    obtain ⟨x, st, e1_2, k1⟩ := ab_pI_ok k0
    clear k0
    subst e1_2
    exact ab_r_i2l X hd (nx _ _ _ _ _ k1)
  case ladd =>
    have hB : (decide (len = 1)) = true := hB0
    have k0 : ab_pL st fun y st => ab_pL st fun x st => ab_lng (x + y) (K rs lv (.inr (.inl (x + y)) :: st) ws kc ks) := k
    clear k
    have hl := of_decide_eq_true hB
    subst hl
    obtain ⟨y, st, e1_2, k1⟩ := ab_pL_ok k0
    clear k0
    subst e1_2
    obtain ⟨x, st, e2_2, k2⟩ := ab_pL_ok k1
    clear k1
    subst e2_2
    exact ab_r_ladd X hd ⟨k2.1, nx _ _ _ _ _ k2.2⟩
  case lmul =>
    have hB : (decide (len = 1)) = true := hB0
    have k0 : ab_pL st fun y st => ab_pL st fun x st => ab_lng (x * y) (K rs lv (.inr (.inl (x * y)) :: st) ws kc ks) := k
    clear k
    have hl := of_decide_eq_true hB
    subst hl
    obtain ⟨y, st, e1_2, k1⟩ := ab_pL_ok k0
    clear k0
    subst e1_2
    obtain ⟨x, st, e2_2, k2⟩ := ab_pL_ok k1
    clear k1
    subst e2_2
    exact ab_r_lmul X hd ⟨k2.1, nx _ _ _ _ _ k2.2⟩
  case ldiv =>
    have hB : (decide (len = 1)) = true := hB0
    have k0 : ab_pL st fun y st => ab_pL st fun x st => (¬ y = 0) ∧ ab_lng (x.tdiv y) (K rs lv (.inr (.inl (x.tdiv y)) :: st) ws kc ks) := k
    clear k
    have hl := of_decide_eq_true hB
    subst hl
    obtain ⟨y, st, e1_2, k1⟩ := ab_pL_ok k0
    clear k0
    subst e1_2
    obtain ⟨x, st, e2_2, k2⟩ := ab_pL_ok k1
    clear k1
    subst e2_2
    exact ab_r_ldiv X hd ⟨k2.1, k2.2.1, nx _ _ _ _ _ k2.2.2⟩
  case lor =>
    have hB : (decide (len = 1)) = true := hB0
    have k0 : ab_pL st fun y st => ab_pL st fun x st => K rs lv (.inr (.inl (Int64.ofInt x ||| Int64.ofInt y).toInt) :: st) ws kc ks := k
    clear k
    have hl := of_decide_eq_true hB
    subst hl
    obtain ⟨y, st, e1_2, k1⟩ := ab_pL_ok k0
    clear k0
    subst e1_2
    obtain ⟨x, st, e2_2, k2⟩ := ab_pL_ok k1
    clear k1
    subst e2_2
    exact ab_r_lor X hd (nx _ _ _ _ _ k2)
  case lshl =>
    have hB : (decide (len = 1)) = true := hB0
    have k0 : ab_pI st fun y st => ab_pL st fun x st => K rs lv (.inr (.inl (Int64.ofInt x <<< ((Int32.ofInt y).toInt64 &&& 63)).toInt) :: st) ws kc ks := k
    clear k
    have hl := of_decide_eq_true hB
    subst hl
    obtain ⟨y, st, e1_2, k1⟩ := ab_pI_ok k0
    clear k0
    subst e1_2
    obtain ⟨x, st, e2_2, k2⟩ := ab_pL_ok k1
    clear k1
    subst e2_2
    exact ab_r_lshl X hd (nx _ _ _ _ _ k2)
  case lcmp =>
    have hB : (decide (len = 1)) = true := hB0
    have k0 : ab_pL st fun y st => ab_pL st fun x st => K rs lv (.inl (ab_cmp x y) :: st) ws kc ks := k
    clear k
    have hl := of_decide_eq_true hB
    subst hl
    obtain ⟨y, st, e1_2, k1⟩ := ab_pL_ok k0
    clear k0
    subst e1_2
    obtain ⟨x, st, e2_2, k2⟩ := ab_pL_ok k1
    clear k1
    subst e2_2
    exact ab_r_lcmp X hd (nx _ _ _ _ _ k2)
  case dup =>
    have hB : (decide (len = 1)) = true := hB0
    have k0 : ab_pV st fun v st => K rs lv (v :: v :: st) ws kc ks := k
    clear k
    have hl := of_decide_eq_true hB
    subst hl
    obtain ⟨v, st, e1_2, hv, k1⟩ := ab_pV_ok k0
    clear k0
    subst e1_2
    exact ab_r_dup X hv hd (nx _ _ _ _ _ k1)
  case pop =>
    have hB : (decide (len = 1)) = true := hB0
    have k0 : ab_pV st fun _ st => K rs lv st ws kc ks := k
    clear k
    have hl := of_decide_eq_true hB
    subst hl
    obtain ⟨v, st, e1_2, hv, k1⟩ := ab_pV_ok k0
    clear k0
    subst e1_2
    exact ab_r_pop X hv hd (nx _ _ _ _ _ k1)
  case dup2 =>
    have hB : (decide (len = 1)) = true := hB0
    have k0 : ab_pV st fun v st => ab_pV st fun w st => K rs lv (v :: w :: v :: w :: st) ws kc ks := k
    clear k
    have hl := of_decide_eq_true hB
    subst hl
    obtain ⟨v, st, e1_2, hv, k1⟩ := ab_pV_ok k0
    clear k0
    subst e1_2
    obtain ⟨w, st, e2_2, hw, k2⟩ := ab_pV_ok k1
    clear k1
    subst e2_2
    exact ab_r_dup2 X hv hw hd (nx _ _ _ _ _ k2)
  case ifCond cn off =>
    have hB : (decide (len = 3) && ab_tg pc off ts) = true := hB0
    have k0 : ab_pI st fun x st => ab_one ts fun t => ab_if cn x 0 (K (ab_seek rows t) lv st ws kc ks) (K rs lv st ws kc ks) := k
    clear k
    obtain ⟨hl, hB1⟩ := (Bool.and_eq_true _ _).mp hB
    have hl := of_decide_eq_true hl
    clear hB hB0
    subst hl
    obtain ⟨x, st, e1_2, k1⟩ := ab_pI_ok k0
    clear k0
    subst e1_2
    obtain ⟨t, e2_1, k2⟩ := ab_one_ok k1
    clear k1
    subst e2_1
    exact ab_r_if X (of_decide_eq_true hB1) hd (ab_if_mono k2 (jp _ _ _ _ _ _) (nx _ _ _ _ _))
  case if_icmp cn off =>
    have hB : (decide (len = 3) && ab_tg pc off ts) = true := hB0
    have k0 : ab_pI st fun y st => ab_pI st fun x st => ab_one ts fun t => ab_if cn x y (K (ab_seek rows t) lv st ws kc ks) (K rs lv st ws kc ks) := k
    clear k
    obtain ⟨hl, hB1⟩ := (Bool.and_eq_true _ _).mp hB
    have hl := of_decide_eq_true hl
    clear hB hB0
    subst hl
    obtain ⟨y, st, e1_2, k1⟩ := ab_pI_ok k0
    clear k0
    subst e1_2
    obtain ⟨x, st, e2_2, k2⟩ := ab_pI_ok k1
    clear k1
    subst e2_2
    obtain ⟨t, e3_1, k3⟩ := ab_one_ok k2
    clear k2
    subst e3_1
    exact ab_r_icmp X (of_decide_eq_true hB1) hd (ab_if_mono k3 (jp _ _ _ _ _ _) (nx _ _ _ _ _))
  case goto off =>
    have hB : (decide (len = 3) && ab_tg pc off ts) = true := hB0
    have k0 : ab_one ts fun t => K (ab_seek rows t) lv st ws kc ks := k
    clear k
    obtain ⟨hl, hB1⟩ := (Bool.and_eq_true _ _).mp hB
    have hl := of_decide_eq_true hl
    clear hB hB0
    subst hl
    obtain ⟨t, e1_1, k1⟩ := ab_one_ok k0
    clear k0
    subst e1_1
    exact ab_r_goto X (of_decide_eq_true hB1) hd (jp _ _ _ _ _ _ k1)
  case tableswitch dflt lo hi offs =>
    have hB : (ab_tsw pc dflt lo hi offs.toList ts) = true := hB0
    have k0 : ab_pI st fun x st => ab_hd ts fun t ts => (x < lo ∨ hi < x → K (ab_seek rows t) lv st ws kc ks) ∧ ab_sw x hi lo ts (fun t => K (ab_seek rows t) lv st ws kc ks) := k
    clear k
    obtain ⟨x, st, e1_2, k1⟩ := ab_pI_ok k0
    clear k0
    subst e1_2
    obtain ⟨t, ts, e2_2, k2⟩ := ab_hd_ok k1
    clear k1
    subst e2_2
    obtain ⟨b1, b2, b3⟩ := of_decide_eq_true hB
    exact ab_r_switch X hd b1 b2 b3 ⟨fun h => jp _ _ _ _ _ _ (k2.1 h), ab_sw_mono k2.2 (fun t h => jp _ _ _ _ _ _ h)⟩
  case getfield i =>
    have hB : (decide (len = 3) && ab_fl (ab_nm (ab_cM x0)).cls i ra rb pp) = true := hB0
    have k0 : ab_pO st fun o st => ab_getf (ab_G (ab_cM x0)) ws o ra rb fun v => K rs lv (v :: st) ws kc ks := k
    clear k
    obtain ⟨hl, hB1⟩ := (Bool.and_eq_true _ _).mp hB
    have hl := of_decide_eq_true hl
    clear hB hB0
    subst hl
    obtain ⟨b1, b2, b3⟩ := ab_fl_ok hB1
    obtain ⟨o, st, e1_2, k1⟩ := ab_pO_ok k0
    clear k0
    subst e1_2
    exact ab_r_getf X b1 b2 b3 hd (ab_getf_mono k1 (fun v h => nx _ _ _ _ _ h))
  case putfield i =>
    have hB : (decide (len = 3) && ab_fl (ab_nm (ab_cM x0)).cls i ra rb pp) = true := hB0
    have k0 : ab_pY st fun v st => ab_pO st fun o st => ab_putf (ab_G (ab_cM x0)) ws o ra rb v fun ws' => K rs lv st ws' kc ks := k
    clear k
    obtain ⟨hl, hB1⟩ := (Bool.and_eq_true _ _).mp hB
    have hl := of_decide_eq_true hl
    clear hB hB0
    subst hl
    obtain ⟨b1, b2, b3⟩ := ab_fl_ok hB1
    obtain ⟨v, st, e1_2, k1⟩ := ab_pY_ok k0
    clear k0
    subst e1_2
    obtain ⟨o, st, e2_2, k2⟩ := ab_pO_ok k1
    clear k1
    subst e2_2
    exact ab_r_putf X b1 b2 b3 hd (ab_putf_mono k2 (fun v h => nx _ _ _ _ _ h))
  case newarray ty =>
    have hB : (decide (len = 2) && (decide (newarray.typeOf ty = ab_kt (ab_atk ty) ∧ (ab_atk ty = 3 ∨ ab_atk ty = 5 ∨ ab_atk ty = 6)) && (ab_lk (.arrayClass (newarray.typeOf ty)) pp && ab_nfin rs))) = true := hB0
    have k0 : ab_pI st fun n st => ab_pO st fun o st => ab_pnx (ab_mv (ab_cM x0) && (ab_nas st && ab_nal lv)) rs fun a f rs2 => (0 ≤ n ∧ n ≤ 100000) ∧ (kc + 1 ≤ ab_cc x0 ∧ ks + n.toNat ≤ ab_ck x0) ∧ ab_newf (ab_G (ab_cM x0)) ws o a f n (ab_isN (ab_atk ty)) fun ws' => K rs2 lv st ws' (kc + 1) (ks + n.toNat) := k
    clear k
    obtain ⟨hl, hB1⟩ := (Bool.and_eq_true _ _).mp hB
    have hl := of_decide_eq_true hl
    clear hB hB0
    subst hl
    simp only [Bool.and_eq_true, decide_eq_true_eq] at hB1
    obtain ⟨⟨hty, htk⟩, hac, hfin⟩ := hB1
    obtain ⟨n, st, e1_2, k1⟩ := ab_pI_ok k0
    clear k0
    subst e1_2
    obtain ⟨o, st, e2_2, k2⟩ := ab_pO_ok k1
    clear k1
    subst e2_2
    obtain ⟨hmv, pc2, i2, len2, a2, f2, c2, t2, M2, rs2, e3_10, k3⟩ := ab_pnx_ok k2
    clear k2
    subst e3_10
    simp only [Bool.and_eq_true] at hmv
    obtain ⟨⟨pp2, hB2⟩, hnx2, hrs2⟩ := ab_okS_tl hrs
    have hpc2 : pc2 = pc + 2 := hnx _ _ rfl
    subst hpc2
    obtain ⟨hd2, hB2⟩ := (Bool.and_eq_true _ _).mp hB2
    have hd2 := of_decide_eq_true hd2
    obtain ⟨hl2, hB2⟩ := (Bool.and_eq_true _ _).mp (show (decide (len2 = 3) && ab_fl (ab_nm (ab_cM x0)).cls i2 a2 f2 pp2) = true from hB2)
    have hl2 := of_decide_eq_true hl2
    subst hl2
    obtain ⟨b1, b2, b3⟩ := ab_fl_ok hB2
    refine ab_r_newa X b1 b2 (by simpa [ab_nfin] using hfin) b3 hty htk (ab_lk_in hac) hd hd2 hmv.1 hmv.2.1 hmv.2.2 k3.1 k3.2.1 (ab_newf_mono k3.2.2 (fun v h => ?_))
    obtain ⟨r', rs'', e, hj⟩ := hK _ _ _ _ _ _ hrs2 h
    rw [hnx2 r' rs'' e] at hj
    exact hj
  case iaload =>
    have hB : (decide (len = 1)) = true := hB0
    have k0 : ab_pI st fun i st => ab_pA st fun o f st => ab_ald (ab_G (ab_cM x0)) ws o f i (ab_isN 3) fun _ z => K rs lv (.inl z :: st) ws kc ks := k
    clear k
    have hl := of_decide_eq_true hB
    subst hl
    obtain ⟨i, st, e1_2, k1⟩ := ab_pI_ok k0
    clear k0
    subst e1_2
    obtain ⟨o, f, st, e2_3, k2⟩ := ab_pA_ok k1
    clear k1
    subst e2_3
    exact ab_r_iald X hd (ab_ald_mono k2 (fun a b h => nx _ _ _ _ _ h))
  case baload =>
    have hB : (decide (len = 1)) = true := hB0
    have k0 : ab_pI st fun i st => ab_pA st fun o f st => ab_ald (ab_G (ab_cM x0)) ws o f i ab_isB fun _ z => K rs lv (.inl z :: st) ws kc ks := k
    clear k
    have hl := of_decide_eq_true hB
    subst hl
    obtain ⟨i, st, e1_2, k1⟩ := ab_pI_ok k0
    clear k0
    subst e1_2
    obtain ⟨o, f, st, e2_3, k2⟩ := ab_pA_ok k1
    clear k1
    subst e2_3
    exact ab_r_bald X hd (ab_ald_mono k2 (fun a b h => nx _ _ _ _ _ h))
  case laload =>
    have hB : (decide (len = 1)) = true := hB0
    have k0 : ab_pI st fun i st => ab_pA st fun o f st => ab_ald (ab_G (ab_cM x0)) ws o f i (ab_isN 5) fun _ z => K rs lv (.inr (.inl z) :: st) ws kc ks := k
    clear k
    have hl := of_decide_eq_true hB
    subst hl
    obtain ⟨i, st, e1_2, k1⟩ := ab_pI_ok k0
    clear k0
    subst e1_2
    obtain ⟨o, f, st, e2_3, k2⟩ := ab_pA_ok k1
    clear k1
    subst e2_3
    exact ab_r_lald X hd (ab_ald_mono k2 (fun a b h => nx _ _ _ _ _ h))
  case iastore =>
    have hB : (decide (len = 1)) = true := hB0
    have k0 : ab_pI st fun x st => ab_pI st fun i st => ab_pA st fun o f st => ab_ast (ab_G (ab_cM x0)) ws o f i (ab_isN 3) fun _ w => ab_frc (w x) fun ws1 => K rs lv st ws1 kc ks := k
    clear k
    have hl := of_decide_eq_true hB
    subst hl
    obtain ⟨z, st, e1_2, k1⟩ := ab_pI_ok k0
    clear k0
    subst e1_2
    obtain ⟨i, st, e2_2, k2⟩ := ab_pI_ok k1
    clear k1
    subst e2_2
    obtain ⟨o, f, st, e3_3, k3⟩ := ab_pA_ok k2
    clear k2
    subst e3_3
    exact ab_r_iast X hd (ab_ast_mono k3 (fun a b h => nx _ _ _ _ _ (by rw [ab_frc_eq] at h; exact h)))
  case lastore =>
    have hB : (decide (len = 1)) = true := hB0
    have k0 : ab_pL st fun x st => ab_pI st fun i st => ab_pA st fun o f st => ab_ast (ab_G (ab_cM x0)) ws o f i (ab_isN 5) fun _ w => ab_frc (w x) fun ws1 => K rs lv st ws1 kc ks := k
    clear k
    have hl := of_decide_eq_true hB
    subst hl
    obtain ⟨z, st, e1_2, k1⟩ := ab_pL_ok k0
    clear k0
    subst e1_2
    obtain ⟨i, st, e2_2, k2⟩ := ab_pI_ok k1
    clear k1
    subst e2_2
    obtain ⟨o, f, st, e3_3, k3⟩ := ab_pA_ok k2
    clear k2
    subst e3_3
    exact ab_r_last X hd (ab_ast_mono k3 (fun a b h => nx _ _ _ _ _ (by rw [ab_frc_eq] at h; exact h)))
  case bastore =>
    have hB : (decide (len = 1)) = true := hB0
    have k0 : ab_pI st fun x st => ab_pI st fun i st => ab_pA st fun o f st => ab_ast (ab_G (ab_cM x0)) ws o f i ab_isB fun k w => ab_bst k x fun z => ab_frc (w z) fun ws1 => K rs lv st ws1 kc ks := k
    clear k
    have hl := of_decide_eq_true hB
    subst hl
    obtain ⟨z, st, e1_2, k1⟩ := ab_pI_ok k0
    clear k0
    subst e1_2
    obtain ⟨i, st, e2_2, k2⟩ := ab_pI_ok k1
    clear k1
    subst e2_2
    obtain ⟨o, f, st, e3_3, k3⟩ := ab_pA_ok k2
    clear k2
    subst e3_3
    refine ab_r_bast X hd (ab_ast_mono k3 (fun a b h => ?_))
    unfold ab_bst at h
    simp only [ab_frc_eq] at h
    split at h
    · exact nx _ _ _ _ _ h
    · rename_i hne
      split
      · exact absurd rfl hne
      · exact ⟨h.1, nx _ _ _ _ _ h.2⟩
  case arraylength =>
    have hB : (decide (len = 1)) = true := hB0
    have k0 : ab_pA st fun o f st => ab_aln (ab_G (ab_cM x0)) ws o f fun n => K rs lv (.inl n :: st) ws kc ks := k
    clear k
    have hl := of_decide_eq_true hB
    subst hl
    obtain ⟨o, f, st, e1_3, k1⟩ := ab_pA_ok k0
    clear k0
    subst e1_3
    obtain ⟨ci, ob, hG, hob, ha, k2⟩ := ab_aln_ok k1
    clear k1
    exact ab_r_alen X hG hob ha hd (nx _ _ _ _ _ k2)
  case ireturn =>
    have hB : (decide (len = 1)) = true := hB0
    have k0 : ab_pI st fun z st => ab_nil st (ab_irt (ab_rt (ab_cM x0)) z (Post (some (.inl z)) ws)) := k
    clear k
    have hl := of_decide_eq_true hB
    subst hl
    obtain ⟨z, st, e1_2, k1⟩ := ab_pI_ok k0
    clear k0
    subst e1_2
    obtain ⟨e2_0, k2⟩ := ab_nil_ok k1
    clear k1
    subst e2_0
    unfold ab_irt at k2
    split at k2
    · rename_i hrt
      exact ab_r_iret X XQ hrt hd k2
    · rename_i hrt
      exact ab_r_zret X XQ hrt k2.1 hd k2.2
    · exact k2.elim
  case lreturn =>
    have hB : (decide (len = 1)) = true := hB0
    have k0 : ab_pL st fun z st => ab_nil st (ab_lrt (ab_rt (ab_cM x0)) (Post (some (.inr (.inl z))) ws)) := k
    clear k
    have hl := of_decide_eq_true hB
    subst hl
    obtain ⟨z, st, e1_2, k1⟩ := ab_pL_ok k0
    clear k0
    subst e1_2
    obtain ⟨e2_0, k2⟩ := ab_nil_ok k1
    clear k1
    subst e2_0
    unfold ab_lrt at k2
    split at k2
    · rename_i hrt
      exact ab_r_lret X XQ hrt hd k2
    · exact k2.elim
  case areturn =>
    have hB : (decide (len = 1)) = true := hB0
    have k0 : ab_pO st fun o st => ab_nil st (ab_art (ab_rt (ab_cM x0)) (Post (some (ab_O o)) ws)) := k
    clear k
    have hl := of_decide_eq_true hB
    subst hl
    obtain ⟨z, st, e1_2, k1⟩ := ab_pO_ok k0
    clear k0
    subst e1_2
    obtain ⟨e2_0, k2⟩ := ab_nil_ok k1
    clear k1
    subst e2_0
    unfold ab_art at k2
    split at k2
    · rename_i hrt
      exact ab_r_aret X XQ hrt hd k2
    · exact k2.elim
  case return_ =>
    have hB : (decide (len = 1)) = true := hB0
    have k0 : ab_nil st (ab_vrt (ab_rt (ab_cM x0)) (Post none ws)) := k
    clear k
    have hl := of_decide_eq_true hB
    subst hl
    obtain ⟨e1_0, k1⟩ := ab_nil_ok k0
    clear k0
    subst e1_0
    unfold ab_vrt at k1
    split at k1
    · rename_i hrt
      exact ab_r_vret X XQ hrt hd k1
    · exact k1.elim
  case invokevirtual i =>
    have hB : (decide (len = 3) && ab_ml1 (ab_nm (ab_cM x0)).cls i Mo pp) = true := hB0
    have k0 : ab_vir (ab_G (ab_cM x0)) Mo st fun M as rest => ab_inv (ab_G (ab_cM x0)) (ab_cd' x0) (ab_cc x0) (ab_ck x0) (ab_mv (ab_cM x0)) K M rs lv as rest ws kc ks := k
    clear k
    obtain ⟨hl, hB1⟩ := (Bool.and_eq_true _ _).mp hB
    have hl := of_decide_eq_true hl
    clear hB hB0
    subst hl
    obtain ⟨M, as, rest, e1_3, e1_4, hs, hna, hrec, k1⟩ := ab_vir_ok k0
    clear k0
    subst e1_3
    subst e1_4
    exact ab_r_inv X (ab_lk_in hB1) (by rw [hs]; simpa using hna) (by rw [hs]; exact hd) (Or.inr hrec) nx k1
  case invokestatic i =>
    have hB : (decide (len = 3) && ab_ml2 (ab_nm (ab_cM x0)).cls i rc Mo pp) = true := hB0
    have k0 : ab_imth rc (ab_pI st fun y st => ab_pI st fun x st => ab_le8 st (K rs lv (.inl (if x < y then y else x) :: st) ws kc ks)) (ab_pI st fun y st => ab_pI st fun x st => ab_le8 st (K rs lv (.inl (if y < x then y else x) :: st) ws kc ks)) (ab_pI st fun x st => ab_le8 st (ab_num (-x) (K rs lv (.inl (if 0 ≤ x then x else 0 - x) :: st) ws kc ks))) (ab_pL st fun y st => ab_pL st fun x st => ab_le8 st (K rs lv (.inr (.inl (if y < x then y else x)) :: st) ws kc ks)) (ab_sta Mo st fun M as rest => ab_inv (ab_G (ab_cM x0)) (ab_cd' x0) (ab_cc x0) (ab_ck x0) (ab_mv (ab_cM x0)) K M rs lv as rest ws kc ks) := k
    clear k
    obtain ⟨hl, hB1⟩ := (Bool.and_eq_true _ _).mp hB
    have hl := of_decide_eq_true hl
    clear hB hB0
    subst hl
    unfold ab_imth at k0
    split at k0
    · obtain ⟨y, st, e1_2, k1⟩ := ab_pI_ok k0
      clear k0
      subst e1_2
      obtain ⟨z, st, e2_2, k2⟩ := ab_pI_ok k1
      clear k1
      subst e2_2
      obtain ⟨h8, k3⟩ := ab_le8_ok k2
      clear k2
      exact ab_r_mmax X (ab_lk_in hB1) ab_ms_max ab_mi ab_mc_max h8 hd (nx _ _ _ _ _ k3)
    · obtain ⟨y, st, e4_2, k4⟩ := ab_pI_ok k0
      clear k0
      subst e4_2
      obtain ⟨z, st, e5_2, k5⟩ := ab_pI_ok k4
      clear k4
      subst e5_2
      obtain ⟨h8, k6⟩ := ab_le8_ok k5
      clear k5
      exact ab_r_mmin X (ab_lk_in hB1) ab_ms_min ab_mi ab_mc_min h8 hd (nx _ _ _ _ _ k6)
    · obtain ⟨z, st, e7_2, k7⟩ := ab_pI_ok k0
      clear k0
      subst e7_2
      obtain ⟨h8, k8⟩ := ab_le8_ok k7
      clear k7
      exact ab_r_mabs X (ab_lk_in hB1) ab_ms_abs ab_mi ab_mc_abs h8 hd ⟨k8.1, nx _ _ _ _ _ k8.2⟩
    · obtain ⟨y, st, e9_2, k9⟩ := ab_pL_ok k0
      clear k0
      subst e9_2
      obtain ⟨z, st, e10_2, k10⟩ := ab_pL_ok k9
      clear k9
      subst e10_2
      obtain ⟨h8, k11⟩ := ab_le8_ok k10
      clear k10
      exact ab_r_mminl X (ab_lk_in hB1) ab_ms_minl ab_mi ab_mc_minl h8 hd (nx _ _ _ _ _ k11)
    · obtain ⟨M, as, rest, e12_3, e12_4, hs, hna, k12⟩ := ab_sta_ok k0
      clear k0
      subst e12_3
      subst e12_4
      exact ab_r_inv X (ab_lk_in hB1) (by rw [hs]; simpa using hna) (by rw [hs]; exact hd) (Or.inl hs) nx k12
    · exact k0.elim
  all_goals exact (k : False).elim
end
section
/-! SOUNDNESS: many steps, contracts -/
theorem ab_J_mask {x : ab_Cx} {pc : Nat} {bs : List Bool} {lv : List (Option ab_V)} {st : List ab_V} {ws : List ab_Ob} {kc ks : Nat} (k : ab_J x pc (ab_mask bs lv) st ws kc ks) : ab_J x pc lv st ws kc ks := by
  intro ad H locs ls h1 h2 h3 h4 h5 h6 h7 h8 h9
  refine k ad H locs ls h1 h2 h3 h4 (ab_lc_le h5 fun j v hj => ab_lc_mem.mpr ⟨j, v, ab_mask_at hj, by simp⟩) h6 (fun v hv => ?_) (by rw [ab_mask_len]; exact h8) h9
  obtain ⟨j, hj⟩ := ab_mem_at hv
  exact h7 v (ab_at_mem (ab_mask_at hj))
theorem ab_wp_ok {x : ab_Cx} {Post : Option ab_V → List ab_Ob → Prop} {rows : List ab_R} (X : ab_X x) (XQ : ab_XQ x Post) (hrows : ab_okS (ab_cM x) rows) (stops : List (Nat × List Bool)) :
    ∀ (n : Nat) (rs : List ab_R) (lv : List (Option ab_V)) (st : List ab_V) (ws : List ab_Ob) (kc ks : Nat), ab_okS (ab_cM x) rs → ab_wp (ab_G (ab_cM x)) rows stops (ab_cd' x) (ab_cc x) (ab_ck x) (ab_mv (ab_cM x)) (ab_rt (ab_cM x)) (ab_J x) Post n rs lv st ws kc ks → ∃ r' rs'', rs = r' :: rs'' ∧ ab_J x r'.1 lv st ws kc ks := by
  intro n
  induction n with
  | zero => intro rs lv st ws kc ks _ h; exact h.elim
  | succ n ih =>
    intro rs lv st ws kc ks hrs h
    cases rs with
    | nil => exact h.elim
    | cons r rs =>
      refine ⟨r, rs, rfl, ab_step_ok X XQ hrows hrs ?_ h⟩
      intro rs' lv st ws kc ks hrs' h
      unfold ab_nx at h
      cases rs' with
      | nil => exact h.elim
      | cons r' rs' =>
        dsimp only at h
        split at h
        · exact ⟨r', rs', rfl, ab_J_mask h⟩
        · exact ih _ _ _ _ _ _ hrs' h
/-- a running method: which, how deep, its room, what it promises -/
def ab_At (x : ab_Cx) (M : ab_M) (d mc ms : Nat) (Post : Option ab_V → List ab_Ob → Prop) : Prop :=
  (ab_cM x = M ∧ ab_cd' x = d ∧ ab_cc x = mc ∧ ab_ck x = ms) ∧ ab_X x ∧ ab_XQ x Post
/-- from the condition to the machine -/
theorem ab_go {x : ab_Cx} {M : ab_M} {d mc ms : Nat} {Post : Option ab_V → List ab_Ob → Prop} (hx : ab_At x M d mc ms Post) {rows : List ab_R} (hrows : ab_okS M rows) (n : Nat) (stops : List (Nat × List Bool)) (pc : Nat) {lv : List (Option ab_V)} {st : List ab_V} {ws : List ab_Ob} {kc ks : Nat}
    (h : ab_wp (ab_G M) rows stops d mc ms (ab_mv M) (ab_rt M) (ab_J x) Post n (ab_seek rows pc) lv st ws kc ks) : ab_J x pc lv st ws kc ks := by
  obtain ⟨⟨rfl, rfl, rfl, rfl⟩, X, XQ⟩ := hx
  obtain ⟨h1, h2⟩ := ab_okS_seek hrows pc
  obtain ⟨r, rs, e, hj⟩ := ab_wp_ok X XQ hrows stops n _ _ _ _ _ _ h1 h
  rw [h2 r rs e] at hj
  exact hj
/-- the locals at a method's entry -/
def ab_ent (as : List ab_V) (n : Nat) : List (Option ab_V) := as.map some ++ List.replicate (n - as.length) none
theorem ab_ent_at {as : List ab_V} {n j : Nat} {v : ab_V} (h : ab_at (ab_ent as n) j = some (some v)) : ab_at as j = some v := by
  rw [ab_at_eq] at h ⊢
  unfold ab_ent at h
  by_cases hj : j < as.length
  · rw [List.getElem?_append_left (by simpa using hj)] at h
    simpa using h
  · rw [List.getElem?_append_right (by simpa using hj)] at h
    simp [List.getElem?_replicate] at h
theorem ab_args_at {as : List ab_V} {ad : Nat → Nat → Nat} {ak : Nat → Nat} (h1 : ∀ v ∈ as, ab_cat v = 1) {j n : Nat} {v : ab_V} (hj : ab_at as j = some v) : (n + j, ab_cv ad ak v) ∈ lv_args n (as.map (ab_cv ad ak)) := by
  induction as generalizing j n with
  | nil => simp [ab_at] at hj
  | cons w as ih =>
    have hw : (ab_cv ad ak w).category = 1 := by rw [ab_cv_cat]; exact h1 w List.mem_cons_self
    cases j with
    | zero =>
      simp only [ab_at, Option.some.injEq] at hj
      subst hj
      simp [lv_args]
    | succ j =>
      simp only [List.map_cons, lv_args, hw]
      refine List.mem_cons_of_mem _ ?_
      have := ih (fun v hv => h1 v (List.mem_cons_of_mem _ hv)) (n := n + 1) (j := j) hj
      rw [show n + (j + 1) = n + 1 + j by omega]
      exact this
theorem ab_sl_len {as : List ab_V} {ad : Nat → Nat → Nat} {ak : Nat → Nat} (h1 : ∀ v ∈ as, ab_cat v = 1) : (lg_sl (as.map (ab_cv ad ak))).length = as.length := by
  induction as with
  | nil => rfl
  | cons w as ih =>
    have hw : (ab_cv ad ak w).category = 1 := by rw [ab_cv_cat]; exact h1 w List.mem_cons_self
    have := ih (fun v hv => h1 v (List.mem_cons_of_mem _ hv))
    simp [lg_sl, hw] at this ⊢
    first | exact this | omega
theorem ab_rg_in {G : List Nat} {ad : Nat → Nat → Nat} {sz o f : Nat} (h : ab_sl G o f) : ab_rg G ad sz (ad o f) := Or.inl ⟨o, f, h, rfl⟩
/-- A CONTRACT out of a walk -/
theorem ab_intro {M : ab_M} {d mc ms : Nat} {as : List ab_V} {ws : List ab_Ob} {Post : Option ab_V → List ab_Ob → Prop} (hm : ab_mok M) (hpl : plainName (ab_nm M).cls = true) (h1 : ∀ v ∈ as, ab_cat v = 1) (hl : as.length ≤ ab_ml M) (h : ∀ x : ab_Cx, ab_At x M d mc ms Post → ab_J x 0 (ab_ent as (ab_ml M)) [] ws 0 0) : ab_WC (d + 1) mc ms M as ws Post := by
  refine ⟨hm, fun l E ad sz hok => ?_⟩
  refine Met.ofW (cc := ab_cd M) (maxL := ab_ml M) (ret := ab_rt M) hpl rfl ?_
  intro p e s m args below meth c s₁ B hml hv
  obtain ⟨rfl, hsz, hW, hI, hK⟩ := hv
  subst hsz
  have hts : ∀ w ∈ ab_ws M, w.before (as.map (ab_cv ad E.2.2.1)).toArray s = true := atoms_spec (ws := ab_ws M) B.pre
  obtain ⟨x, hxe⟩ : ∃ x : ab_Cx, x = ((p, l, e, ab_rm (d + 1) mc ms, s, m, (as.map (ab_cv ad E.2.2.1)).toArray), (below, meth, c, MQ below (ab_Q E ad s.heap.size M Post) (as.map (ab_cv ad E.2.2.1)).toArray s mc ms (ab_rg (ab_G M) ad s.heap.size)), (E, ad, M, ab_rg (ab_G M) ad s.heap.size, d, mc, ms)) := ⟨_, rfl⟩
  have hx : ab_At x M d mc ms Post := by
    subst hxe
    refine ⟨⟨rfl, rfl, rfl, rfl⟩, ⟨B.exec, B.bytes, hml, findClass_of_methodNamed B.named, fun w hw => hts w (List.mem_cons_of_mem _ hw), B.returns, B.notSynchronized, hK, fun q hq => Or.inr hq, rfl⟩, rfl, rfl⟩
  have hj := h x hx
  subst hxe
  have hl0 := lv_entry (as.map (ab_cv ad E.2.2.1)) (n := ab_ml M) (by rw [ab_sl_len h1]; exact hl)
  rw [lg_entry_eq]
  generalize (lg_sl (as.map (ab_cv ad E.2.2.1)) ++ List.replicate (ab_ml M - (lg_sl (as.map (ab_cv ad E.2.2.1))).length) Slot.unset).toArray = ls at hl0 ⊢
  refine hj ad s.heap [] ls ⟨fun _ => rfl, fun _ _ _ => rfl⟩ hW ⟨hI.1, fun o f hs => ab_rg_in hs⟩ va_S.rf (ab_lc_le hl0 fun j v hj' => ?_) (fun v hv => by cases hv) (fun v hv => ?_) ?_ ⟨Nat.zero_le _, Nat.zero_le _⟩
  · have := ab_args_at (ad := ad) (ak := E.2.2.1) h1 (n := 0) (ab_ent_at hj')
    simpa using this
  · obtain ⟨j, hj'⟩ := ab_mem_at hv
    exact hok v (ab_at_mem (ab_ent_at hj'))
  · show (as.map some ++ List.replicate (ab_ml M - as.length) none).length = ab_ml M
    simp
    omega
def ab_mokB (M : ab_M) (p1 p2 p3 p4 : Nat) : Bool :=
  ab_lk (.code (ab_nm M) (ab_cd M) (ab_ml M) (ab_rt M)) p1 && (ab_lk (.initialized (ab_nm M).cls) p2 && (decide ((ab_nm M).cls ≠ "java/lang/invoke/MethodHandle" ∧ (ab_nm M).cls ≠ "java/lang/invoke/VarHandle" ∧ (parseMethodDescriptor (ab_nm M).desc).map (fun d => d.parameters.length) = some (ab_na M)) && (decide (ab_ml M ≤ 18) && (plainName (ab_nm M).cls &&
  (if ab_st M = true then ab_lk (.static (ab_nm M)) p3 else ab_lk (.instanceMethod (ab_nm M)) p3 && (ab_lk (.selects (ab_nm M).cls (ab_nm M) (ab_nm M)) p4 && (decide ((vwCl[ab_ci M]?).map (fun q => q.1) = some (ab_nm M).cls) || (decide (ab_ci M = 100) && decide ((ab_nm M).cls = "java/lang/String")))))))))
theorem ab_mok_of {M : ab_M} (p1 p2 p3 p4 : Nat) (h : ab_mokB M p1 p2 p3 p4 = true) : ab_mok M ∧ plainName (ab_nm M).cls = true := by
  unfold ab_mokB at h
  simp only [Bool.and_eq_true, decide_eq_true_eq] at h
  obtain ⟨h1, h2, h3, h4, h5, h6⟩ := h
  refine ⟨⟨ab_lk_in h1, ab_lk_in h2, h3, h4, ?_⟩, h5⟩
  by_cases hs : ab_st M = true
  · rw [if_pos hs] at h6 ⊢
    exact ab_lk_in h6
  · rw [if_neg hs] at h6 ⊢
    simp only [Bool.and_eq_true, Bool.or_eq_true, decide_eq_true_eq] at h6
    refine ⟨ab_lk_in h6.1, ab_lk_in h6.2.1, ?_⟩
    rcases h6.2.2 with h | h
    · left
      cases hv : vwCl[ab_ci M]? with
      | none => rw [hv] at h; cases h
      | some q =>
        rw [hv] at h
        simp only [Option.map_some, Option.some.injEq] at h
        exact ⟨q.2.1, q.2.2, by rw [← h]⟩
    · exact Or.inr h
/-- what a method is: its row of the table, its code -/
def ab_def_ok (M : ab_M) (rows : List ab_R) : Prop := (ab_mok M ∧ plainName (ab_nm M).cls = true) ∧ ab_okS M rows
/-- a contract out of a walk -/
theorem ab_ct {M : ab_M} {rows : List ab_R} (hD : ab_def_ok M rows) {d mc ms : Nat} {as : List ab_V} {ws : List ab_Ob} {Q : Option ab_V → List ab_Ob → Prop} (h1 : (as.all fun v => Nat.beq (ab_cat v) 1) = true) (hl : Nat.ble as.length (ab_ml M) = true) (h : ∀ x : ab_Cx, ab_At x M d mc ms (fun r w => (ab_shr (ab_rt M) (ab_rp M) r ∧ ab_shw (ab_wr M) ws w) ∧ Q r w) → ab_J x 0 (ab_ent as (ab_ml M)) [] ws 0 0) : ab_Ct (d + 1) mc ms M as ws Q :=
  ab_intro hD.1.1 hD.1.2 (fun v hv => ab_beq (List.all_eq_true.mp h1 v hv)) (Nat.le_of_ble_eq_true hl) h
/-- uses of contracts: an answer that is one number -/
theorem ab_x1 {d mc ms : Nat} {M : ab_M} {as : List ab_V} {ws W : List ab_Ob} {R : Int} {K : Int → Prop} (h : ab_Ct d mc ms M as ws (fun rv w => rv = some (ab_I R) ∧ w = W)) (k : K R) : ∃ Q : Option ab_V → List ab_Ob → Prop, ab_Ct d mc ms M as ws Q ∧ ∀ r : Int, Q (some (ab_I r)) W → K r :=
  ⟨_, h, fun r hr => by cases hr.1; exact k⟩
theorem ab_xl {d mc ms : Nat} {M : ab_M} {as : List ab_V} {ws W : List ab_Ob} {R : Int} {K : Int → Prop} (h : ab_Ct d mc ms M as ws (fun rv w => rv = some (ab_L R) ∧ w = W)) (k : K R) : ∃ Q : Option ab_V → List ab_Ob → Prop, ab_Ct d mc ms M as ws Q ∧ ∀ r : Int, Q (some (ab_L r)) W → K r :=
  ⟨_, h, fun r hr => by cases hr.1; exact k⟩
/-- an answer that is so -/
theorem ab_xq {d mc ms : Nat} {M : ab_M} {as : List ab_V} {ws : List ab_Ob} {Q : Option ab_V → List ab_Ob → Prop} {K : Prop} (h : ab_Ct d mc ms M as ws Q) (k : K) : ∃ Q : Option ab_V → List ab_Ob → Prop, ab_Ct d mc ms M as ws Q ∧ K := ⟨Q, h, k⟩
end
section
/-! methods of the JDK that are called -/
def mJ_floorMod : ab_M := ((yJ9_floorMod_7cf53, cJ9_floorMod_7cf53, 3, (some .int)), ([], [], [], false, false, 0), (true, 100, 2))
def mJ_length : ab_M := ((yJ0_length_8abf5, cJ0_length_8abf5, 1, (some .int)), ([], [], [], false, false, 0), (false, 100, 0))
def mJ_charAt : ab_M := ((yJ0_charAt_5068e, cJ0_charAt_5068e, 2, (some .char)), ([], [], [], false, false, 0), (false, 100, 1))
end
