section
-- ===== PART A: goes FIRST, ahead of the names: the tables' words, and 'selects' of the private methods out of them =====
/-- a private method of a class that the tables say can be made, by its rows of tables_1 -/
def lw_okq (q : MethodName × Nat) : Prop := (q.1.cls ≠ "java/lang/invoke/MethodHandle" ∧ q.1.cls ≠ "java/lang/invoke/VarHandle") ∧ Cond.instantiable q.1.cls q.2 ∈ tables_1 ∧ Cond.privateMethod q.1 ∈ tables_1 ∧ Cond.instanceMethod q.1 ∈ tables_1
theorem lw_p0 : lw_okq (⟨"CoverExtract", "putNumber", "(I)V"⟩, 12) := ⟨⟨by decide +kernel, by decide +kernel⟩, List.mem_of_getElem? (i := 22) (by decide +kernel), List.mem_of_getElem? (i := 324) (by decide +kernel), List.mem_of_getElem? (i := 325) (by decide +kernel)⟩
theorem lw_p1 : lw_okq (⟨"CoverExtract$Past", "giveBack", "(LCoverExtract$State;)V"⟩, 3) := ⟨⟨by decide +kernel, by decide +kernel⟩, List.mem_of_getElem? (i := 110) (by decide +kernel), List.mem_of_getElem? (i := 336) (by decide +kernel), List.mem_of_getElem? (i := 337) (by decide +kernel)⟩
theorem lw_p2 : lw_okq (⟨"CoverExtract$State", "copyFrom", "(LCoverExtract$State;)V"⟩, 12) := ⟨⟨by decide +kernel, by decide +kernel⟩, List.mem_of_getElem? (i := 30) (by decide +kernel), List.mem_of_getElem? (i := 340) (by decide +kernel), List.mem_of_getElem? (i := 341) (by decide +kernel)⟩
theorem lw_p3 : lw_okq (⟨"CoverExtract$State", "weightOf", "(J)I"⟩, 12) := ⟨⟨by decide +kernel, by decide +kernel⟩, List.mem_of_getElem? (i := 30) (by decide +kernel), List.mem_of_getElem? (i := 352) (by decide +kernel), List.mem_of_getElem? (i := 353) (by decide +kernel)⟩
theorem lw_p4 : lw_okq (⟨"CoverExtract$State", "gainOf", "(II)I"⟩, 12) := ⟨⟨by decide +kernel, by decide +kernel⟩, List.mem_of_getElem? (i := 30) (by decide +kernel), List.mem_of_getElem? (i := 363) (by decide +kernel), List.mem_of_getElem? (i := 364) (by decide +kernel)⟩
theorem lw_p5 : lw_okq (⟨"CoverExtract$State", "bagOf", "(I)J"⟩, 12) := ⟨⟨by decide +kernel, by decide +kernel⟩, List.mem_of_getElem? (i := 30) (by decide +kernel), List.mem_of_getElem? (i := 367) (by decide +kernel), List.mem_of_getElem? (i := 368) (by decide +kernel)⟩
theorem lw_p6 : lw_okq (⟨"CoverExtract", "needNumber", "(III)V"⟩, 12) := ⟨⟨by decide +kernel, by decide +kernel⟩, List.mem_of_getElem? (i := 22) (by decide +kernel), List.mem_of_getElem? (i := 388) (by decide +kernel), List.mem_of_getElem? (i := 389) (by decide +kernel)⟩
theorem lw_p7 : lw_okq (⟨"java/lang/Throwable", "fillInStackTrace", "(I)Ljava/lang/Throwable;"⟩, 6) := ⟨⟨by decide +kernel, by decide +kernel⟩, List.mem_of_getElem? (i := 430) (by decide +kernel), List.mem_of_getElem? (i := 428) (by decide +kernel), List.mem_of_getElem? (i := 429) (by decide +kernel)⟩
theorem lw_p8 : lw_okq (⟨"CoverExtract$Reader", "read", "([BI)I"⟩, 7) := ⟨⟨by decide +kernel, by decide +kernel⟩, List.mem_of_getElem? (i := 130) (by decide +kernel), List.mem_of_getElem? (i := 459) (by decide +kernel), List.mem_of_getElem? (i := 460) (by decide +kernel)⟩
theorem lw_p9 : lw_okq (⟨"CoverExtract$State", "clear", "()V"⟩, 12) := ⟨⟨by decide +kernel, by decide +kernel⟩, List.mem_of_getElem? (i := 30) (by decide +kernel), List.mem_of_getElem? (i := 463) (by decide +kernel), List.mem_of_getElem? (i := 464) (by decide +kernel)⟩
theorem lw_p10 : lw_okq (⟨"CoverExtract$Reader", "readLetter", "(II)V"⟩, 7) := ⟨⟨by decide +kernel, by decide +kernel⟩, List.mem_of_getElem? (i := 130) (by decide +kernel), List.mem_of_getElem? (i := 467) (by decide +kernel), List.mem_of_getElem? (i := 468) (by decide +kernel)⟩
theorem lw_p11 : lw_okq (⟨"CoverExtract$Reader", "endWord", "()V"⟩, 7) := ⟨⟨by decide +kernel, by decide +kernel⟩, List.mem_of_getElem? (i := 130) (by decide +kernel), List.mem_of_getElem? (i := 474) (by decide +kernel), List.mem_of_getElem? (i := 475) (by decide +kernel)⟩
theorem lw_p12 : lw_okq (⟨"CoverExtract$Reader", "refuse", "(II)V"⟩, 7) := ⟨⟨by decide +kernel, by decide +kernel⟩, List.mem_of_getElem? (i := 130) (by decide +kernel), List.mem_of_getElem? (i := 478) (by decide +kernel), List.mem_of_getElem? (i := 479) (by decide +kernel)⟩
theorem lw_p13 : lw_okq (⟨"CoverExtract$Reader", "addWord", "()V"⟩, 7) := ⟨⟨by decide +kernel, by decide +kernel⟩, List.mem_of_getElem? (i := 130) (by decide +kernel), List.mem_of_getElem? (i := 482) (by decide +kernel), List.mem_of_getElem? (i := 483) (by decide +kernel)⟩
theorem lw_p14 : lw_okq (⟨"CoverExtract$State", "wordSpelled", "(J)I"⟩, 12) := ⟨⟨by decide +kernel, by decide +kernel⟩, List.mem_of_getElem? (i := 30) (by decide +kernel), List.mem_of_getElem? (i := 486) (by decide +kernel), List.mem_of_getElem? (i := 487) (by decide +kernel)⟩
theorem lw_p15 : lw_okq (⟨"CoverExtract$Reader", "addToOpen", "(I)V"⟩, 7) := ⟨⟨by decide +kernel, by decide +kernel⟩, List.mem_of_getElem? (i := 130) (by decide +kernel), List.mem_of_getElem? (i := 490) (by decide +kernel), List.mem_of_getElem? (i := 491) (by decide +kernel)⟩
def lw_privs_1 : List (MethodName × Nat) := [(⟨"CoverExtract", "putNumber", "(I)V"⟩, 12), (⟨"CoverExtract$Past", "giveBack", "(LCoverExtract$State;)V"⟩, 3), (⟨"CoverExtract$State", "copyFrom", "(LCoverExtract$State;)V"⟩, 12), (⟨"CoverExtract$State", "weightOf", "(J)I"⟩, 12), (⟨"CoverExtract$State", "gainOf", "(II)I"⟩, 12), (⟨"CoverExtract$State", "bagOf", "(I)J"⟩, 12), (⟨"CoverExtract", "needNumber", "(III)V"⟩, 12), (⟨"java/lang/Throwable", "fillInStackTrace", "(I)Ljava/lang/Throwable;"⟩, 6), (⟨"CoverExtract$Reader", "read", "([BI)I"⟩, 7), (⟨"CoverExtract$State", "clear", "()V"⟩, 12), (⟨"CoverExtract$Reader", "readLetter", "(II)V"⟩, 7), (⟨"CoverExtract$Reader", "endWord", "()V"⟩, 7), (⟨"CoverExtract$Reader", "refuse", "(II)V"⟩, 7), (⟨"CoverExtract$Reader", "addWord", "()V"⟩, 7), (⟨"CoverExtract$State", "wordSpelled", "(J)I"⟩, 12), (⟨"CoverExtract$Reader", "addToOpen", "(I)V"⟩, 7)]
theorem lw_r1 : ∀ q ∈ lw_privs_1, lw_okq q := List.forall_mem_cons.mpr ⟨lw_p0, List.forall_mem_cons.mpr ⟨lw_p1, List.forall_mem_cons.mpr ⟨lw_p2, List.forall_mem_cons.mpr ⟨lw_p3, List.forall_mem_cons.mpr ⟨lw_p4, List.forall_mem_cons.mpr ⟨lw_p5, List.forall_mem_cons.mpr ⟨lw_p6, List.forall_mem_cons.mpr ⟨lw_p7, List.forall_mem_cons.mpr ⟨lw_p8, List.forall_mem_cons.mpr ⟨lw_p9, List.forall_mem_cons.mpr ⟨lw_p10, List.forall_mem_cons.mpr ⟨lw_p11, List.forall_mem_cons.mpr ⟨lw_p12, List.forall_mem_cons.mpr ⟨lw_p13, List.forall_mem_cons.mpr ⟨lw_p14, List.forall_mem_cons.mpr ⟨lw_p15, fun _ h => absurd h List.not_mem_nil⟩⟩⟩⟩⟩⟩⟩⟩⟩⟩⟩⟩⟩⟩⟩⟩
theorem lw_p16 : lw_okq (⟨"CoverExtract$Reader", "readSign", "(II)V"⟩, 7) := ⟨⟨by decide +kernel, by decide +kernel⟩, List.mem_of_getElem? (i := 130) (by decide +kernel), List.mem_of_getElem? (i := 494) (by decide +kernel), List.mem_of_getElem? (i := 495) (by decide +kernel)⟩
theorem lw_p17 : lw_okq (⟨"CoverExtract$Past", "keep", "(LCoverExtract$State;)V"⟩, 3) := ⟨⟨by decide +kernel, by decide +kernel⟩, List.mem_of_getElem? (i := 110) (by decide +kernel), List.mem_of_getElem? (i := 498) (by decide +kernel), List.mem_of_getElem? (i := 499) (by decide +kernel)⟩
theorem lw_p18 : lw_okq (⟨"CoverExtract$State", "linkChains", "()V"⟩, 12) := ⟨⟨by decide +kernel, by decide +kernel⟩, List.mem_of_getElem? (i := 30) (by decide +kernel), List.mem_of_getElem? (i := 503) (by decide +kernel), List.mem_of_getElem? (i := 504) (by decide +kernel)⟩
theorem lw_p19 : lw_okq (⟨"CoverExtract$State", "leans", "(I)Z"⟩, 12) := ⟨⟨by decide +kernel, by decide +kernel⟩, List.mem_of_getElem? (i := 30) (by decide +kernel), List.mem_of_getElem? (i := 507) (by decide +kernel), List.mem_of_getElem? (i := 508) (by decide +kernel)⟩
theorem lw_p20 : lw_okq (⟨"CoverExtract", "needWord", "(I)V"⟩, 12) := ⟨⟨by decide +kernel, by decide +kernel⟩, List.mem_of_getElem? (i := 22) (by decide +kernel), List.mem_of_getElem? (i := 519) (by decide +kernel), List.mem_of_getElem? (i := 520) (by decide +kernel)⟩
theorem lw_p21 : lw_okq (⟨"CoverExtract", "needElement", "(Z)V"⟩, 12) := ⟨⟨by decide +kernel, by decide +kernel⟩, List.mem_of_getElem? (i := 22) (by decide +kernel), List.mem_of_getElem? (i := 523) (by decide +kernel), List.mem_of_getElem? (i := 524) (by decide +kernel)⟩
theorem lw_p22 : lw_okq (⟨"CoverExtract", "needSentence", "(I)V"⟩, 12) := ⟨⟨by decide +kernel, by decide +kernel⟩, List.mem_of_getElem? (i := 22) (by decide +kernel), List.mem_of_getElem? (i := 567) (by decide +kernel), List.mem_of_getElem? (i := 568) (by decide +kernel)⟩
theorem lw_p23 : lw_okq (⟨"CoverExtract$State", "fitsInto", "(II)Z"⟩, 12) := ⟨⟨by decide +kernel, by decide +kernel⟩, List.mem_of_getElem? (i := 30) (by decide +kernel), List.mem_of_getElem? (i := 571) (by decide +kernel), List.mem_of_getElem? (i := 572) (by decide +kernel)⟩
theorem lw_p24 : lw_okq (⟨"CoverExtract$State", "lengthOf", "(I)I"⟩, 12) := ⟨⟨by decide +kernel, by decide +kernel⟩, List.mem_of_getElem? (i := 30) (by decide +kernel), List.mem_of_getElem? (i := 575) (by decide +kernel), List.mem_of_getElem? (i := 576) (by decide +kernel)⟩
theorem lw_p25 : lw_okq (⟨"CoverExtract", "needState", "(Z)V"⟩, 12) := ⟨⟨by decide +kernel, by decide +kernel⟩, List.mem_of_getElem? (i := 22) (by decide +kernel), List.mem_of_getElem? (i := 579) (by decide +kernel), List.mem_of_getElem? (i := 580) (by decide +kernel)⟩
theorem lw_p26 : lw_okq (⟨"CoverExtract$State", "coveredBy", "(I)I"⟩, 12) := ⟨⟨by decide +kernel, by decide +kernel⟩, List.mem_of_getElem? (i := 30) (by decide +kernel), List.mem_of_getElem? (i := 607) (by decide +kernel), List.mem_of_getElem? (i := 608) (by decide +kernel)⟩
theorem lw_p27 : lw_okq (⟨"CoverExtract$State", "allThatNeed", "(I)I"⟩, 12) := ⟨⟨by decide +kernel, by decide +kernel⟩, List.mem_of_getElem? (i := 30) (by decide +kernel), List.mem_of_getElem? (i := 611) (by decide +kernel), List.mem_of_getElem? (i := 612) (by decide +kernel)⟩
theorem lw_p28 : lw_okq (⟨"CoverExtract$State", "everySentence", "()I"⟩, 12) := ⟨⟨by decide +kernel, by decide +kernel⟩, List.mem_of_getElem? (i := 30) (by decide +kernel), List.mem_of_getElem? (i := 622) (by decide +kernel), List.mem_of_getElem? (i := 623) (by decide +kernel)⟩
theorem lw_p29 : lw_okq (⟨"CoverExtract$State", "costOf", "(II)I"⟩, 12) := ⟨⟨by decide +kernel, by decide +kernel⟩, List.mem_of_getElem? (i := 30) (by decide +kernel), List.mem_of_getElem? (i := 640) (by decide +kernel), List.mem_of_getElem? (i := 641) (by decide +kernel)⟩
theorem lw_p30 : lw_okq (⟨"CoverExtract$State", "lettersOf", "(I)I"⟩, 12) := ⟨⟨by decide +kernel, by decide +kernel⟩, List.mem_of_getElem? (i := 30) (by decide +kernel), List.mem_of_getElem? (i := 658) (by decide +kernel), List.mem_of_getElem? (i := 659) (by decide +kernel)⟩
theorem lw_p31 : lw_okq (⟨"CoverExtract$State", "codeAt", "(II)I"⟩, 12) := ⟨⟨by decide +kernel, by decide +kernel⟩, List.mem_of_getElem? (i := 30) (by decide +kernel), List.mem_of_getElem? (i := 662) (by decide +kernel), List.mem_of_getElem? (i := 663) (by decide +kernel)⟩
def lw_privs_2 : List (MethodName × Nat) := [(⟨"CoverExtract$Reader", "readSign", "(II)V"⟩, 7), (⟨"CoverExtract$Past", "keep", "(LCoverExtract$State;)V"⟩, 3), (⟨"CoverExtract$State", "linkChains", "()V"⟩, 12), (⟨"CoverExtract$State", "leans", "(I)Z"⟩, 12), (⟨"CoverExtract", "needWord", "(I)V"⟩, 12), (⟨"CoverExtract", "needElement", "(Z)V"⟩, 12), (⟨"CoverExtract", "needSentence", "(I)V"⟩, 12), (⟨"CoverExtract$State", "fitsInto", "(II)Z"⟩, 12), (⟨"CoverExtract$State", "lengthOf", "(I)I"⟩, 12), (⟨"CoverExtract", "needState", "(Z)V"⟩, 12), (⟨"CoverExtract$State", "coveredBy", "(I)I"⟩, 12), (⟨"CoverExtract$State", "allThatNeed", "(I)I"⟩, 12), (⟨"CoverExtract$State", "everySentence", "()I"⟩, 12), (⟨"CoverExtract$State", "costOf", "(II)I"⟩, 12), (⟨"CoverExtract$State", "lettersOf", "(I)I"⟩, 12), (⟨"CoverExtract$State", "codeAt", "(II)I"⟩, 12)]
theorem lw_r2 : ∀ q ∈ lw_privs_2, lw_okq q := List.forall_mem_cons.mpr ⟨lw_p16, List.forall_mem_cons.mpr ⟨lw_p17, List.forall_mem_cons.mpr ⟨lw_p18, List.forall_mem_cons.mpr ⟨lw_p19, List.forall_mem_cons.mpr ⟨lw_p20, List.forall_mem_cons.mpr ⟨lw_p21, List.forall_mem_cons.mpr ⟨lw_p22, List.forall_mem_cons.mpr ⟨lw_p23, List.forall_mem_cons.mpr ⟨lw_p24, List.forall_mem_cons.mpr ⟨lw_p25, List.forall_mem_cons.mpr ⟨lw_p26, List.forall_mem_cons.mpr ⟨lw_p27, List.forall_mem_cons.mpr ⟨lw_p28, List.forall_mem_cons.mpr ⟨lw_p29, List.forall_mem_cons.mpr ⟨lw_p30, List.forall_mem_cons.mpr ⟨lw_p31, fun _ h => absurd h List.not_mem_nil⟩⟩⟩⟩⟩⟩⟩⟩⟩⟩⟩⟩⟩⟩⟩⟩
theorem lw_p32 : lw_okq (⟨"CoverExtract$State", "sentencesWith", "(I)I"⟩, 12) := ⟨⟨by decide +kernel, by decide +kernel⟩, List.mem_of_getElem? (i := 30) (by decide +kernel), List.mem_of_getElem? (i := 666) (by decide +kernel), List.mem_of_getElem? (i := 667) (by decide +kernel)⟩
theorem lw_p33 : lw_okq (⟨"CoverExtract$State", "letterAt", "(II)I"⟩, 12) := ⟨⟨by decide +kernel, by decide +kernel⟩, List.mem_of_getElem? (i := 30) (by decide +kernel), List.mem_of_getElem? (i := 677) (by decide +kernel), List.mem_of_getElem? (i := 678) (by decide +kernel)⟩
theorem lw_p34 : lw_okq (⟨"CoverExtract$Climb", "run", "(LCoverExtract$State;I)V"⟩, 4) := ⟨⟨by decide +kernel, by decide +kernel⟩, List.mem_of_getElem? (i := 162) (by decide +kernel), List.mem_of_getElem? (i := 688) (by decide +kernel), List.mem_of_getElem? (i := 689) (by decide +kernel)⟩
theorem lw_p35 : lw_okq (⟨"CoverExtract$Climb", "fitting", "(LCoverExtract$State;)I"⟩, 4) := ⟨⟨by decide +kernel, by decide +kernel⟩, List.mem_of_getElem? (i := 162) (by decide +kernel), List.mem_of_getElem? (i := 692) (by decide +kernel), List.mem_of_getElem? (i := 693) (by decide +kernel)⟩
theorem lw_p36 : lw_okq (⟨"CoverExtract$Climb", "compareWithSingle", "(LCoverExtract$State;)V"⟩, 4) := ⟨⟨by decide +kernel, by decide +kernel⟩, List.mem_of_getElem? (i := 162) (by decide +kernel), List.mem_of_getElem? (i := 705) (by decide +kernel), List.mem_of_getElem? (i := 706) (by decide +kernel)⟩
theorem lw_p37 : lw_okq (⟨"CoverExtract$Queue", "run", "(LCoverExtract$State;)V"⟩, 5) := ⟨⟨by decide +kernel, by decide +kernel⟩, List.mem_of_getElem? (i := 187) (by decide +kernel), List.mem_of_getElem? (i := 724) (by decide +kernel), List.mem_of_getElem? (i := 725) (by decide +kernel)⟩
theorem lw_p38 : lw_okq (⟨"CoverExtract$Queue", "ask", "(LCoverExtract$State;I)V"⟩, 5) := ⟨⟨by decide +kernel, by decide +kernel⟩, List.mem_of_getElem? (i := 187) (by decide +kernel), List.mem_of_getElem? (i := 728) (by decide +kernel), List.mem_of_getElem? (i := 729) (by decide +kernel)⟩
theorem lw_p39 : lw_okq (⟨"CoverExtract$Queue", "foremost", "()I"⟩, 5) := ⟨⟨by decide +kernel, by decide +kernel⟩, List.mem_of_getElem? (i := 187) (by decide +kernel), List.mem_of_getElem? (i := 734) (by decide +kernel), List.mem_of_getElem? (i := 735) (by decide +kernel)⟩
theorem lw_p40 : lw_okq (⟨"CoverExtract$Queue", "lookAt", "(LCoverExtract$State;I)V"⟩, 5) := ⟨⟨by decide +kernel, by decide +kernel⟩, List.mem_of_getElem? (i := 187) (by decide +kernel), List.mem_of_getElem? (i := 740) (by decide +kernel), List.mem_of_getElem? (i := 741) (by decide +kernel)⟩
theorem lw_p41 : lw_okq (⟨"CoverExtract$Ceiling", "run", "(LCoverExtract$State;LCoverExtract$Climb;)V"⟩, 2) := ⟨⟨by decide +kernel, by decide +kernel⟩, List.mem_of_getElem? (i := 211) (by decide +kernel), List.mem_of_getElem? (i := 753) (by decide +kernel), List.mem_of_getElem? (i := 754) (by decide +kernel)⟩
theorem lw_p42 : lw_okq (⟨"CoverExtract$Search", "findMost", "(LCoverExtract$State;II)V"⟩, 9) := ⟨⟨by decide +kernel, by decide +kernel⟩, List.mem_of_getElem? (i := 226) (by decide +kernel), List.mem_of_getElem? (i := 776) (by decide +kernel), List.mem_of_getElem? (i := 777) (by decide +kernel)⟩
theorem lw_p43 : lw_okq (⟨"CoverExtract$Search", "visitAll", "(LCoverExtract$State;)V"⟩, 9) := ⟨⟨by decide +kernel, by decide +kernel⟩, List.mem_of_getElem? (i := 226) (by decide +kernel), List.mem_of_getElem? (i := 780) (by decide +kernel), List.mem_of_getElem? (i := 781) (by decide +kernel)⟩
theorem lw_p44 : lw_okq (⟨"CoverExtract$Search", "visit", "(LCoverExtract$State;IIJIII)V"⟩, 9) := ⟨⟨by decide +kernel, by decide +kernel⟩, List.mem_of_getElem? (i := 226) (by decide +kernel), List.mem_of_getElem? (i := 785) (by decide +kernel), List.mem_of_getElem? (i := 786) (by decide +kernel)⟩
theorem lw_p45 : lw_okq (⟨"CoverExtract$Search", "ranked", "(III)I"⟩, 9) := ⟨⟨by decide +kernel, by decide +kernel⟩, List.mem_of_getElem? (i := 226) (by decide +kernel), List.mem_of_getElem? (i := 789) (by decide +kernel), List.mem_of_getElem? (i := 790) (by decide +kernel)⟩
theorem lw_p46 : lw_okq (⟨"CoverExtract$Search", "isEnough", "(II)Z"⟩, 9) := ⟨⟨by decide +kernel, by decide +kernel⟩, List.mem_of_getElem? (i := 226) (by decide +kernel), List.mem_of_getElem? (i := 802) (by decide +kernel), List.mem_of_getElem? (i := 803) (by decide +kernel)⟩
theorem lw_p47 : lw_okq (⟨"CoverExtract$Search", "offer", "(III)V"⟩, 9) := ⟨⟨by decide +kernel, by decide +kernel⟩, List.mem_of_getElem? (i := 226) (by decide +kernel), List.mem_of_getElem? (i := 806) (by decide +kernel), List.mem_of_getElem? (i := 807) (by decide +kernel)⟩
def lw_privs_3 : List (MethodName × Nat) := [(⟨"CoverExtract$State", "sentencesWith", "(I)I"⟩, 12), (⟨"CoverExtract$State", "letterAt", "(II)I"⟩, 12), (⟨"CoverExtract$Climb", "run", "(LCoverExtract$State;I)V"⟩, 4), (⟨"CoverExtract$Climb", "fitting", "(LCoverExtract$State;)I"⟩, 4), (⟨"CoverExtract$Climb", "compareWithSingle", "(LCoverExtract$State;)V"⟩, 4), (⟨"CoverExtract$Queue", "run", "(LCoverExtract$State;)V"⟩, 5), (⟨"CoverExtract$Queue", "ask", "(LCoverExtract$State;I)V"⟩, 5), (⟨"CoverExtract$Queue", "foremost", "()I"⟩, 5), (⟨"CoverExtract$Queue", "lookAt", "(LCoverExtract$State;I)V"⟩, 5), (⟨"CoverExtract$Ceiling", "run", "(LCoverExtract$State;LCoverExtract$Climb;)V"⟩, 2), (⟨"CoverExtract$Search", "findMost", "(LCoverExtract$State;II)V"⟩, 9), (⟨"CoverExtract$Search", "visitAll", "(LCoverExtract$State;)V"⟩, 9), (⟨"CoverExtract$Search", "visit", "(LCoverExtract$State;IIJIII)V"⟩, 9), (⟨"CoverExtract$Search", "ranked", "(III)I"⟩, 9), (⟨"CoverExtract$Search", "isEnough", "(II)Z"⟩, 9), (⟨"CoverExtract$Search", "offer", "(III)V"⟩, 9)]
theorem lw_r3 : ∀ q ∈ lw_privs_3, lw_okq q := List.forall_mem_cons.mpr ⟨lw_p32, List.forall_mem_cons.mpr ⟨lw_p33, List.forall_mem_cons.mpr ⟨lw_p34, List.forall_mem_cons.mpr ⟨lw_p35, List.forall_mem_cons.mpr ⟨lw_p36, List.forall_mem_cons.mpr ⟨lw_p37, List.forall_mem_cons.mpr ⟨lw_p38, List.forall_mem_cons.mpr ⟨lw_p39, List.forall_mem_cons.mpr ⟨lw_p40, List.forall_mem_cons.mpr ⟨lw_p41, List.forall_mem_cons.mpr ⟨lw_p42, List.forall_mem_cons.mpr ⟨lw_p43, List.forall_mem_cons.mpr ⟨lw_p44, List.forall_mem_cons.mpr ⟨lw_p45, List.forall_mem_cons.mpr ⟨lw_p46, List.forall_mem_cons.mpr ⟨lw_p47, fun _ h => absurd h List.not_mem_nil⟩⟩⟩⟩⟩⟩⟩⟩⟩⟩⟩⟩⟩⟩⟩⟩
theorem lw_p48 : lw_okq (⟨"CoverExtract$Search", "mayHave", "(LCoverExtract$State;II)Z"⟩, 9) := ⟨⟨by decide +kernel, by decide +kernel⟩, List.mem_of_getElem? (i := 226) (by decide +kernel), List.mem_of_getElem? (i := 810) (by decide +kernel), List.mem_of_getElem? (i := 811) (by decide +kernel)⟩
theorem lw_p49 : lw_okq (⟨"CoverExtract$Search", "findFewest", "(LCoverExtract$State;)V"⟩, 9) := ⟨⟨by decide +kernel, by decide +kernel⟩, List.mem_of_getElem? (i := 226) (by decide +kernel), List.mem_of_getElem? (i := 822) (by decide +kernel), List.mem_of_getElem? (i := 823) (by decide +kernel)⟩
theorem lw_p50 : lw_okq (⟨"CoverExtract$Search", "findShortest", "(LCoverExtract$State;I)V"⟩, 9) := ⟨⟨by decide +kernel, by decide +kernel⟩, List.mem_of_getElem? (i := 226) (by decide +kernel), List.mem_of_getElem? (i := 837) (by decide +kernel), List.mem_of_getElem? (i := 838) (by decide +kernel)⟩
theorem lw_p51 : lw_okq (⟨"CoverExtract$Swap", "run", "(LCoverExtract$State;)V"⟩, 3) := ⟨⟨by decide +kernel, by decide +kernel⟩, List.mem_of_getElem? (i := 264) (by decide +kernel), List.mem_of_getElem? (i := 855) (by decide +kernel), List.mem_of_getElem? (i := 856) (by decide +kernel)⟩
theorem lw_p52 : lw_okq (⟨"CoverExtract$Swap", "offer", "(LCoverExtract$State;II)V"⟩, 3) := ⟨⟨by decide +kernel, by decide +kernel⟩, List.mem_of_getElem? (i := 264) (by decide +kernel), List.mem_of_getElem? (i := 861) (by decide +kernel), List.mem_of_getElem? (i := 862) (by decide +kernel)⟩
theorem lw_p53 : lw_okq (⟨"CoverExtract$State", "isWhole", "(I)Z"⟩, 12) := ⟨⟨by decide +kernel, by decide +kernel⟩, List.mem_of_getElem? (i := 30) (by decide +kernel), List.mem_of_getElem? (i := 866) (by decide +kernel), List.mem_of_getElem? (i := 867) (by decide +kernel)⟩
theorem lw_p54 : lw_okq (⟨"CoverExtractModel", "bad", "(ZII)Z"⟩, 27) := ⟨⟨by decide +kernel, by decide +kernel⟩, List.mem_of_getElem? (i := 887) (by decide +kernel), List.mem_of_getElem? (i := 995) (by decide +kernel), List.mem_of_getElem? (i := 996) (by decide +kernel)⟩
theorem lw_p55 : lw_okq (⟨"CoverExtractModel", "fine", "()Z"⟩, 27) := ⟨⟨by decide +kernel, by decide +kernel⟩, List.mem_of_getElem? (i := 887) (by decide +kernel), List.mem_of_getElem? (i := 999) (by decide +kernel), List.mem_of_getElem? (i := 1000) (by decide +kernel)⟩
theorem lw_p56 : lw_okq (⟨"CoverExtractModel", "here", "()I"⟩, 27) := ⟨⟨by decide +kernel, by decide +kernel⟩, List.mem_of_getElem? (i := 887) (by decide +kernel), List.mem_of_getElem? (i := 1003) (by decide +kernel), List.mem_of_getElem? (i := 1004) (by decide +kernel)⟩
theorem lw_p57 : lw_okq (⟨"CoverExtractModel", "byteAt", "(I)I"⟩, 27) := ⟨⟨by decide +kernel, by decide +kernel⟩, List.mem_of_getElem? (i := 887) (by decide +kernel), List.mem_of_getElem? (i := 1007) (by decide +kernel), List.mem_of_getElem? (i := 1008) (by decide +kernel)⟩
theorem lw_p58 : lw_okq (⟨"CoverExtractModel", "readsSentence", "()V"⟩, 27) := ⟨⟨by decide +kernel, by decide +kernel⟩, List.mem_of_getElem? (i := 887) (by decide +kernel), List.mem_of_getElem? (i := 1011) (by decide +kernel), List.mem_of_getElem? (i := 1012) (by decide +kernel)⟩
theorem lw_p59 : lw_okq (⟨"CoverExtractModel", "wrong", "(II)V"⟩, 27) := ⟨⟨by decide +kernel, by decide +kernel⟩, List.mem_of_getElem? (i := 887) (by decide +kernel), List.mem_of_getElem? (i := 1018) (by decide +kernel), List.mem_of_getElem? (i := 1019) (by decide +kernel)⟩
theorem lw_p60 : lw_okq (⟨"CoverExtractModel", "readsWord", "(I)V"⟩, 27) := ⟨⟨by decide +kernel, by decide +kernel⟩, List.mem_of_getElem? (i := 887) (by decide +kernel), List.mem_of_getElem? (i := 1025) (by decide +kernel), List.mem_of_getElem? (i := 1026) (by decide +kernel)⟩
theorem lw_p61 : lw_okq (⟨"CoverExtractModel", "isWord", "(III)Z"⟩, 27) := ⟨⟨by decide +kernel, by decide +kernel⟩, List.mem_of_getElem? (i := 887) (by decide +kernel), List.mem_of_getElem? (i := 1030) (by decide +kernel), List.mem_of_getElem? (i := 1031) (by decide +kernel)⟩
theorem lw_p62 : lw_okq (⟨"CoverExtractModel", "remembers", "()V"⟩, 27) := ⟨⟨by decide +kernel, by decide +kernel⟩, List.mem_of_getElem? (i := 887) (by decide +kernel), List.mem_of_getElem? (i := 1038) (by decide +kernel), List.mem_of_getElem? (i := 1039) (by decide +kernel)⟩
theorem lw_p63 : lw_okq (⟨"CoverExtractModel", "many", "()I"⟩, 27) := ⟨⟨by decide +kernel, by decide +kernel⟩, List.mem_of_getElem? (i := 887) (by decide +kernel), List.mem_of_getElem? (i := 1045) (by decide +kernel), List.mem_of_getElem? (i := 1046) (by decide +kernel)⟩
def lw_privs_4 : List (MethodName × Nat) := [(⟨"CoverExtract$Search", "mayHave", "(LCoverExtract$State;II)Z"⟩, 9), (⟨"CoverExtract$Search", "findFewest", "(LCoverExtract$State;)V"⟩, 9), (⟨"CoverExtract$Search", "findShortest", "(LCoverExtract$State;I)V"⟩, 9), (⟨"CoverExtract$Swap", "run", "(LCoverExtract$State;)V"⟩, 3), (⟨"CoverExtract$Swap", "offer", "(LCoverExtract$State;II)V"⟩, 3), (⟨"CoverExtract$State", "isWhole", "(I)Z"⟩, 12), (⟨"CoverExtractModel", "bad", "(ZII)Z"⟩, 27), (⟨"CoverExtractModel", "fine", "()Z"⟩, 27), (⟨"CoverExtractModel", "here", "()I"⟩, 27), (⟨"CoverExtractModel", "byteAt", "(I)I"⟩, 27), (⟨"CoverExtractModel", "readsSentence", "()V"⟩, 27), (⟨"CoverExtractModel", "wrong", "(II)V"⟩, 27), (⟨"CoverExtractModel", "readsWord", "(I)V"⟩, 27), (⟨"CoverExtractModel", "isWord", "(III)Z"⟩, 27), (⟨"CoverExtractModel", "remembers", "()V"⟩, 27), (⟨"CoverExtractModel", "many", "()I"⟩, 27)]
theorem lw_r4 : ∀ q ∈ lw_privs_4, lw_okq q := List.forall_mem_cons.mpr ⟨lw_p48, List.forall_mem_cons.mpr ⟨lw_p49, List.forall_mem_cons.mpr ⟨lw_p50, List.forall_mem_cons.mpr ⟨lw_p51, List.forall_mem_cons.mpr ⟨lw_p52, List.forall_mem_cons.mpr ⟨lw_p53, List.forall_mem_cons.mpr ⟨lw_p54, List.forall_mem_cons.mpr ⟨lw_p55, List.forall_mem_cons.mpr ⟨lw_p56, List.forall_mem_cons.mpr ⟨lw_p57, List.forall_mem_cons.mpr ⟨lw_p58, List.forall_mem_cons.mpr ⟨lw_p59, List.forall_mem_cons.mpr ⟨lw_p60, List.forall_mem_cons.mpr ⟨lw_p61, List.forall_mem_cons.mpr ⟨lw_p62, List.forall_mem_cons.mpr ⟨lw_p63, fun _ h => absurd h List.not_mem_nil⟩⟩⟩⟩⟩⟩⟩⟩⟩⟩⟩⟩⟩⟩⟩⟩
theorem lw_p64 : lw_okq (⟨"CoverExtractModel", "isThere", "(I)Z"⟩, 27) := ⟨⟨by decide +kernel, by decide +kernel⟩, List.mem_of_getElem? (i := 887) (by decide +kernel), List.mem_of_getElem? (i := 1061) (by decide +kernel), List.mem_of_getElem? (i := 1062) (by decide +kernel)⟩
theorem lw_p65 : lw_okq (⟨"CoverExtractModel", "wordMany", "()I"⟩, 27) := ⟨⟨by decide +kernel, by decide +kernel⟩, List.mem_of_getElem? (i := 887) (by decide +kernel), List.mem_of_getElem? (i := 1065) (by decide +kernel), List.mem_of_getElem? (i := 1066) (by decide +kernel)⟩
theorem lw_p66 : lw_okq (⟨"CoverExtractModel", "weightOf", "(I)I"⟩, 27) := ⟨⟨by decide +kernel, by decide +kernel⟩, List.mem_of_getElem? (i := 887) (by decide +kernel), List.mem_of_getElem? (i := 1069) (by decide +kernel), List.mem_of_getElem? (i := 1070) (by decide +kernel)⟩
theorem lw_p67 : lw_okq (⟨"CoverExtractModel", "standsIn", "(I)I"⟩, 27) := ⟨⟨by decide +kernel, by decide +kernel⟩, List.mem_of_getElem? (i := 887) (by decide +kernel), List.mem_of_getElem? (i := 1073) (by decide +kernel), List.mem_of_getElem? (i := 1074) (by decide +kernel)⟩
theorem lw_p68 : lw_okq (⟨"CoverExtractModel", "wordsOf", "(I)J"⟩, 27) := ⟨⟨by decide +kernel, by decide +kernel⟩, List.mem_of_getElem? (i := 887) (by decide +kernel), List.mem_of_getElem? (i := 1077) (by decide +kernel), List.mem_of_getElem? (i := 1078) (by decide +kernel)⟩
theorem lw_p69 : lw_okq (⟨"CoverExtractModel", "isSentence", "(I)Z"⟩, 27) := ⟨⟨by decide +kernel, by decide +kernel⟩, List.mem_of_getElem? (i := 887) (by decide +kernel), List.mem_of_getElem? (i := 1096) (by decide +kernel), List.mem_of_getElem? (i := 1097) (by decide +kernel)⟩
theorem lw_p70 : lw_okq (⟨"CoverExtractModel", "takenNow", "()I"⟩, 27) := ⟨⟨by decide +kernel, by decide +kernel⟩, List.mem_of_getElem? (i := 887) (by decide +kernel), List.mem_of_getElem? (i := 1100) (by decide +kernel), List.mem_of_getElem? (i := 1101) (by decide +kernel)⟩
theorem lw_p71 : lw_okq (⟨"CoverExtractModel", "fits", "(II)Z"⟩, 27) := ⟨⟨by decide +kernel, by decide +kernel⟩, List.mem_of_getElem? (i := 887) (by decide +kernel), List.mem_of_getElem? (i := 1104) (by decide +kernel), List.mem_of_getElem? (i := 1105) (by decide +kernel)⟩
theorem lw_p72 : lw_okq (⟨"CoverExtractModel", "length", "(I)I"⟩, 27) := ⟨⟨by decide +kernel, by decide +kernel⟩, List.mem_of_getElem? (i := 887) (by decide +kernel), List.mem_of_getElem? (i := 1108) (by decide +kernel), List.mem_of_getElem? (i := 1109) (by decide +kernel)⟩
theorem lw_p73 : lw_okq (⟨"CoverExtractModel", "lengthOf", "(I)I"⟩, 27) := ⟨⟨by decide +kernel, by decide +kernel⟩, List.mem_of_getElem? (i := 887) (by decide +kernel), List.mem_of_getElem? (i := 1112) (by decide +kernel), List.mem_of_getElem? (i := 1113) (by decide +kernel)⟩
theorem lw_p74 : lw_okq (⟨"CoverExtractModel", "cost", "(II)I"⟩, 27) := ⟨⟨by decide +kernel, by decide +kernel⟩, List.mem_of_getElem? (i := 887) (by decide +kernel), List.mem_of_getElem? (i := 1116) (by decide +kernel), List.mem_of_getElem? (i := 1117) (by decide +kernel)⟩
theorem lw_p75 : lw_okq (⟨"CoverExtractModel", "chain", "(I)I"⟩, 27) := ⟨⟨by decide +kernel, by decide +kernel⟩, List.mem_of_getElem? (i := 887) (by decide +kernel), List.mem_of_getElem? (i := 1120) (by decide +kernel), List.mem_of_getElem? (i := 1121) (by decide +kernel)⟩
theorem lw_p76 : lw_okq (⟨"CoverExtractModel", "gain", "(II)I"⟩, 27) := ⟨⟨by decide +kernel, by decide +kernel⟩, List.mem_of_getElem? (i := 887) (by decide +kernel), List.mem_of_getElem? (i := 1124) (by decide +kernel), List.mem_of_getElem? (i := 1125) (by decide +kernel)⟩
theorem lw_p77 : lw_okq (⟨"CoverExtractModel", "wordsIn", "(I)J"⟩, 27) := ⟨⟨by decide +kernel, by decide +kernel⟩, List.mem_of_getElem? (i := 887) (by decide +kernel), List.mem_of_getElem? (i := 1128) (by decide +kernel), List.mem_of_getElem? (i := 1129) (by decide +kernel)⟩
theorem lw_p78 : lw_okq (⟨"CoverExtractModel", "weightsOf", "(J)I"⟩, 27) := ⟨⟨by decide +kernel, by decide +kernel⟩, List.mem_of_getElem? (i := 887) (by decide +kernel), List.mem_of_getElem? (i := 1132) (by decide +kernel), List.mem_of_getElem? (i := 1133) (by decide +kernel)⟩
theorem lw_p79 : lw_okq (⟨"CoverExtractModel", "covered", "(I)I"⟩, 27) := ⟨⟨by decide +kernel, by decide +kernel⟩, List.mem_of_getElem? (i := 887) (by decide +kernel), List.mem_of_getElem? (i := 1140) (by decide +kernel), List.mem_of_getElem? (i := 1141) (by decide +kernel)⟩
def lw_privs_5 : List (MethodName × Nat) := [(⟨"CoverExtractModel", "isThere", "(I)Z"⟩, 27), (⟨"CoverExtractModel", "wordMany", "()I"⟩, 27), (⟨"CoverExtractModel", "weightOf", "(I)I"⟩, 27), (⟨"CoverExtractModel", "standsIn", "(I)I"⟩, 27), (⟨"CoverExtractModel", "wordsOf", "(I)J"⟩, 27), (⟨"CoverExtractModel", "isSentence", "(I)Z"⟩, 27), (⟨"CoverExtractModel", "takenNow", "()I"⟩, 27), (⟨"CoverExtractModel", "fits", "(II)Z"⟩, 27), (⟨"CoverExtractModel", "length", "(I)I"⟩, 27), (⟨"CoverExtractModel", "lengthOf", "(I)I"⟩, 27), (⟨"CoverExtractModel", "cost", "(II)I"⟩, 27), (⟨"CoverExtractModel", "chain", "(I)I"⟩, 27), (⟨"CoverExtractModel", "gain", "(II)I"⟩, 27), (⟨"CoverExtractModel", "wordsIn", "(I)J"⟩, 27), (⟨"CoverExtractModel", "weightsOf", "(J)I"⟩, 27), (⟨"CoverExtractModel", "covered", "(I)I"⟩, 27)]
theorem lw_r5 : ∀ q ∈ lw_privs_5, lw_okq q := List.forall_mem_cons.mpr ⟨lw_p64, List.forall_mem_cons.mpr ⟨lw_p65, List.forall_mem_cons.mpr ⟨lw_p66, List.forall_mem_cons.mpr ⟨lw_p67, List.forall_mem_cons.mpr ⟨lw_p68, List.forall_mem_cons.mpr ⟨lw_p69, List.forall_mem_cons.mpr ⟨lw_p70, List.forall_mem_cons.mpr ⟨lw_p71, List.forall_mem_cons.mpr ⟨lw_p72, List.forall_mem_cons.mpr ⟨lw_p73, List.forall_mem_cons.mpr ⟨lw_p74, List.forall_mem_cons.mpr ⟨lw_p75, List.forall_mem_cons.mpr ⟨lw_p76, List.forall_mem_cons.mpr ⟨lw_p77, List.forall_mem_cons.mpr ⟨lw_p78, List.forall_mem_cons.mpr ⟨lw_p79, fun _ h => absurd h List.not_mem_nil⟩⟩⟩⟩⟩⟩⟩⟩⟩⟩⟩⟩⟩⟩⟩⟩
theorem lw_p80 : lw_okq (⟨"CoverExtractModel", "lays", "(I)V"⟩, 27) := ⟨⟨by decide +kernel, by decide +kernel⟩, List.mem_of_getElem? (i := 887) (by decide +kernel), List.mem_of_getElem? (i := 1171) (by decide +kernel), List.mem_of_getElem? (i := 1172) (by decide +kernel)⟩
theorem lw_p81 : lw_okq (⟨"CoverExtractModel", "goes", "(I)V"⟩, 27) := ⟨⟨by decide +kernel, by decide +kernel⟩, List.mem_of_getElem? (i := 887) (by decide +kernel), List.mem_of_getElem? (i := 1175) (by decide +kernel), List.mem_of_getElem? (i := 1176) (by decide +kernel)⟩
theorem lw_p82 : lw_okq (⟨"CoverExtractModel", "chosen", "(II)I"⟩, 27) := ⟨⟨by decide +kernel, by decide +kernel⟩, List.mem_of_getElem? (i := 887) (by decide +kernel), List.mem_of_getElem? (i := 1179) (by decide +kernel), List.mem_of_getElem? (i := 1180) (by decide +kernel)⟩
theorem lw_p83 : lw_okq (⟨"CoverExtractModel", "single", "()I"⟩, 27) := ⟨⟨by decide +kernel, by decide +kernel⟩, List.mem_of_getElem? (i := 887) (by decide +kernel), List.mem_of_getElem? (i := 1186) (by decide +kernel), List.mem_of_getElem? (i := 1187) (by decide +kernel)⟩
theorem lw_p84 : lw_okq (⟨"CoverExtractModel", "laysLazy", "()V"⟩, 27) := ⟨⟨by decide +kernel, by decide +kernel⟩, List.mem_of_getElem? (i := 887) (by decide +kernel), List.mem_of_getElem? (i := 1198) (by decide +kernel), List.mem_of_getElem? (i := 1199) (by decide +kernel)⟩
theorem lw_p85 : lw_okq (⟨"CoverExtractModel", "asks", "(I)V"⟩, 27) := ⟨⟨by decide +kernel, by decide +kernel⟩, List.mem_of_getElem? (i := 887) (by decide +kernel), List.mem_of_getElem? (i := 1202) (by decide +kernel), List.mem_of_getElem? (i := 1203) (by decide +kernel)⟩
theorem lw_p86 : lw_okq (⟨"CoverExtractModel", "first", "()I"⟩, 27) := ⟨⟨by decide +kernel, by decide +kernel⟩, List.mem_of_getElem? (i := 887) (by decide +kernel), List.mem_of_getElem? (i := 1206) (by decide +kernel), List.mem_of_getElem? (i := 1207) (by decide +kernel)⟩
theorem lw_p87 : lw_okq (⟨"CoverExtractModel", "boundBy", "(I)I"⟩, 27) := ⟨⟨by decide +kernel, by decide +kernel⟩, List.mem_of_getElem? (i := 887) (by decide +kernel), List.mem_of_getElem? (i := 1214) (by decide +kernel), List.mem_of_getElem? (i := 1215) (by decide +kernel)⟩
theorem lw_p88 : lw_okq (⟨"CoverExtractModel", "laysSets", "()V"⟩, 27) := ⟨⟨by decide +kernel, by decide +kernel⟩, List.mem_of_getElem? (i := 887) (by decide +kernel), List.mem_of_getElem? (i := 1222) (by decide +kernel), List.mem_of_getElem? (i := 1223) (by decide +kernel)⟩
theorem lw_p89 : lw_okq (⟨"CoverExtractModel", "bestWithin", "(II)I"⟩, 27) := ⟨⟨by decide +kernel, by decide +kernel⟩, List.mem_of_getElem? (i := 887) (by decide +kernel), List.mem_of_getElem? (i := 1226) (by decide +kernel), List.mem_of_getElem? (i := 1227) (by decide +kernel)⟩
def lw_privs_6 : List (MethodName × Nat) := [(⟨"CoverExtractModel", "lays", "(I)V"⟩, 27), (⟨"CoverExtractModel", "goes", "(I)V"⟩, 27), (⟨"CoverExtractModel", "chosen", "(II)I"⟩, 27), (⟨"CoverExtractModel", "single", "()I"⟩, 27), (⟨"CoverExtractModel", "laysLazy", "()V"⟩, 27), (⟨"CoverExtractModel", "asks", "(I)V"⟩, 27), (⟨"CoverExtractModel", "first", "()I"⟩, 27), (⟨"CoverExtractModel", "boundBy", "(I)I"⟩, 27), (⟨"CoverExtractModel", "laysSets", "()V"⟩, 27), (⟨"CoverExtractModel", "bestWithin", "(II)I"⟩, 27)]
theorem lw_r6 : ∀ q ∈ lw_privs_6, lw_okq q := List.forall_mem_cons.mpr ⟨lw_p80, List.forall_mem_cons.mpr ⟨lw_p81, List.forall_mem_cons.mpr ⟨lw_p82, List.forall_mem_cons.mpr ⟨lw_p83, List.forall_mem_cons.mpr ⟨lw_p84, List.forall_mem_cons.mpr ⟨lw_p85, List.forall_mem_cons.mpr ⟨lw_p86, List.forall_mem_cons.mpr ⟨lw_p87, List.forall_mem_cons.mpr ⟨lw_p88, List.forall_mem_cons.mpr ⟨lw_p89, fun _ h => absurd h List.not_mem_nil⟩⟩⟩⟩⟩⟩⟩⟩⟩⟩
def lw_privs : List (MethodName × Nat) := lw_privs_1 ++ (lw_privs_2 ++ (lw_privs_3 ++ (lw_privs_4 ++ (lw_privs_5 ++ (lw_privs_6)))))
def lw_tbl : List Cond := k2_sels lw_privs ++ tables_1
theorem lw_privs_ok : ∀ q ∈ lw_privs, lw_okq q := by
  show ∀ q ∈ lw_privs_1 ++ (lw_privs_2 ++ (lw_privs_3 ++ (lw_privs_4 ++ (lw_privs_5 ++ (lw_privs_6))))), lw_okq q
  exact List.forall_mem_append.mpr ⟨lw_r1, List.forall_mem_append.mpr ⟨lw_r2, List.forall_mem_append.mpr ⟨lw_r3, List.forall_mem_append.mpr ⟨lw_r4, List.forall_mem_append.mpr ⟨lw_r5, lw_r6⟩⟩⟩⟩⟩
end
section
/-! ===== BEGIN words of one list among another's, by their places ===== -/
theorem goodIn_r {big : List Cond} (ws : List Cond) (ps : List Nat) (hp : ws = ps.filterMap (fun i => big[i]?)) (h : ws.all goodWord = true) : GoodIn big ws := by
  intro w hw
  have h1 := List.all_eq_true.mp h w hw
  rw [hp] at hw
  obtain ⟨i, -, hi⟩ := List.mem_filterMap.mp hw
  have hm : w ∈ big := by first | exact List.mem_of_getElem? hi | exact List.getElem?_mem hi
  exact ⟨hm, good_of_word h1⟩
theorem goodIn_app {big a b : List Cond} (ha : GoodIn big a) (hb : GoodIn big b) : GoodIn big (a ++ b) := fun w h => (List.mem_append.mp h).elim (ha w) (hb w)
theorem goodIn_ca {big a b : List Cond} {c : Cond} (ha : GoodIn big (c :: a)) (hb : GoodIn big b) : GoodIn big (c :: (a ++ b)) := fun w h => (List.mem_cons.mp h).elim (fun e => ha w (List.mem_cons.mpr (Or.inl e))) (fun h => (List.mem_append.mp h).elim (fun h => ha w (List.mem_cons.mpr (Or.inr h))) (hb w))
theorem goodIn_sub {big ws : List Cond} (hm : ∀ w ∈ ws, w ∈ big) (h : ws.all goodWord = true) : GoodIn big ws := fun w hw => ⟨hm w hw, good_of_word (List.all_eq_true.mp h w hw)⟩
/-! ===== END ===== -/


/-! ===== BEGIN exceptions that leave a method, and their catching by the caller (launches without stack traces) ===== -/
section VXA
/-! The laws vx_back, vx_callV, vx_callS, vx_callSW, vx_throw0, vx_throwS follow proofs of the library, with one case more: JvmDerived/Free/Laws.lean (Back.of_free), Shelf42/LK1.lean (callV, callS), Shelf/KitTraced.lean (throwNew0V, throwNewS). -/
/-- where a method has thrown q: the class by its name, the cell, what was written, the world -/
def vx_T (XC : String → State → State → Prop) (st : State) (q : Addr) (t : State) (mc ms : Nat) (free : Addr → Prop) : Prop :=
  ∃ (E : String) (ce : Cell) (L : List Loc), XC E st t ∧ t.heap[q]? = some ce ∧ ce.vm = .none ∧ st.vm.findClass E = some ce.cls ∧ st.WarmedH t.vm ∧ st.sameButNew ({ t with vm := st.vm } : State) L mc ms ∧ ∀ z ∈ L, free z.base
def vx_Q (Qc : Array Value → State → Outcome → State → Prop) (XC : String → State → State → Prop) (mc ms : Nat) (free : Addr → Prop) : Array Value → State → Outcome → State → Prop := fun a st o t =>
  (Qc a st o t ∧ ∃ L, FrameEnd st o t L mc ms ∧ ∀ q ∈ L, free q.base) ∨ ∃ q, o = .threw q ∧ vx_T XC st q t mc ms free
/-- a callee that returns or throws -/
def vx_Met (l : Launch) (y : MethodName) (ws : List Cond) (rm : Room) (Pc : Array Value → State → Prop) (Qc : Array Value → State → Outcome → State → Prop) (XC : String → State → State → Prop) (mc ms : Nat) (free : Addr → Prop) : Prop :=
  MetFree l y (headSpec ws rm) Pc (fun _ _ _ _ _ => True) (vx_Q Qc XC mc ms free)
def vx_Post (XC : String → State → State → Prop) (mc ms : Nat) (free : Addr → Prop) : Pt → Array Value → Addr → Pt → Prop := fun A a q B =>
  ∃ (g : JFrame) (mk : MethodId) (t : State) (L : List Loc) (E : String) (ce : Cell), B.U.heap = t.heap ∧ B.U.vm = t.vm ∧ XC E (A.U.calling g mk a) t ∧ t.heap[q]? = some ce ∧ ce.vm = .none ∧ A.U.vm.findClass E = some ce.cls ∧ B.locs = A.locs ++ L ∧ (∀ z ∈ L, free z.base) ∧ B.cells = A.cells + mc ∧ B.slots = A.slots + ms
def vx_Back (l : Launch) (R : Room) (p : Program) (e : Env) (below : List Frame) (s : State) (sargs : Array Value) (y : MethodName) (len W9 : Nat)
    (Pre : Pt → Array Value → Prop) (Post : Pt → Array Value → Option Value → Pt → Prop) (PostX : Pt → Array Value → Addr → Pt → Prop) : Prop :=
  ∀ (m : MethodId) (meth : Method) (c : Code) (A : Pt) (g : JFrame) (ig : Instr) (mk : MethodId) (a : Array Value),
    Stand p l e R s m sargs below meth c A.U A.locs A.cells A.slots → g.method = m → g.locals.size = c.maxLocals → decode c.code g.pc = .ok (ig, len) →
    2 * g.monitorRoom + (g.stack.map fun v => v.category).sum ≤ W9 → A.U.methodNamed? y = some mk → Pre A a →
    (∃ (v : Option Value) (B : Pt), Stand p l e R s m sargs below meth c B.U B.locs B.cells B.slots ∧ Post A a v B ∧
      Steps p.tables e below (doInvoke e (A.U.setTop g) [] mk a).1 (B.U.setTop { g with pc := g.pc + len, stack := v.toList ++ g.stack })) ∨
    (∃ (q : Addr) (B : Pt), Stand p l e R s m sargs below meth c B.U B.locs B.cells B.slots ∧ PostX A a q B ∧
      Steps p.tables e below (doInvoke e (A.U.setTop g) [] mk a).1 ((B.U.setTop g).pushFrame (.throwing q)))
section Payer
variable {l : Launch} {R : Room} {p : Program} {e : Env} {below : List Frame} {s : State} {sargs : Array Value} {y : MethodName} {len W9 : Nat}
theorem vx_back {ws : List Cond} {rm : Room} {Pc : Array Value → State → Prop} {Qc : Array Value → State → Outcome → State → Prop} {XC : String → State → State → Prop} {mc ms : Nat} {free : Addr → Prop} {bytes : ByteArray} {maxL : Nat} {ret : Option FieldType}
    (hM : vx_Met l y ws rm Pc Qc XC mc ms free) (hblind : FrameBlind Pc) (hrc : rm.cells = mc) (hrs : rm.slots = ms)
    (hframes : rm.frames + 1 ≤ R.frames) (hlocals : W9 + (maxL + 11) + rm.locals ≤ R.locals)
    (hws : ∀ w ∈ ws, ∀ a' U, s.WarmedH U.vm → w.before a' U = true) (hcode : Cond.code y bytes maxL ret ∈ ws) (hinit : ∀ a' U, s.WarmedH U.vm → (Cond.initialized y.cls).before a' U = true) :
    vx_Back l R p e below s sargs y len W9 (PreOf R mc ms Pc) (PostOf Qc mc ms free) (vx_Post XC mc ms free) := by
  intro m meth c A g ig mk a X hg hsize hdg hW hn hp
  have h1 : (headSpec ws rm).pre.before a A.U = true := atoms_intro fun w hw => hws w hw _ _ X.warmed
  have h2 : (Cond.code y bytes maxL ret).before a A.U = true := hws _ hcode _ _ X.warmed
  have h3 : (Cond.initialized y.cls).before a A.U = true := hinit _ _ X.warmed
  have h4 : A.cells + (headSpec ws rm).room.cells ≤ R.cells := by rw [show (headSpec ws rm).room.cells = mc from hrc]; exact hp.1
  have h5 : A.slots + (headSpec ws rm).room.slots ≤ R.slots := by rw [show (headSpec ws rm).room.slots = ms from hrs]; exact hp.2.1
  have hPc : Pc a (A.U.calling g mk a) := hblind _ _ _ _ hp.2.2
  obtain ⟨U, Ls, c0, s0⟩ := A
  dsimp only [Pt.U, Pt.locs, Pt.cells, Pt.slots] at h1 h2 h3 h4 h5 X hn hPc ⊢
  obtain ⟨methY, cY, hmY, hcY, -, hlY, -, -, -, -⟩ := Cond.code_spec hn h2
  obtain ⟨kY, hkY, -⟩ := className_of_methodNamed hn
  have hinitY : kY.init = .initialized := Cond.initialized_spec (findClass_of_methodNamed hn) hkY h3
  have h : At U g.method c below := by rw [hg]; exact X.here
  have hlocals9 : W9 + (maxL + 11) + (headSpec ws rm).room.locals ≤ R.locals := hlocals
  have happ : (headSpec ws rm).appliesLoose y e.platform (U.calling g mk a) = true :=
    Spec.appliesLoose_calling (g := g) h hdg hn hkY hinitY
      (X.room_calling (g := g) (R' := (headSpec ws rm).room) hsize hmY hcY hframes (by rw [hlY]; omega) h4 h5) h1
  obtain ⟨mid, hmid⟩ := h.above
  have hfr : (U.setTop g).frames = (.java g :: mid) ++ below := by rw [State.frames_setTop' g h.top, hmid]; rfl
  obtain ⟨o, s₂, hsteps, -, hend, hq⟩ := Steps.callFree hM p X.admits X.cas X.clock (acts := []) hfr happ hPc trivial
  have hq' : vx_Q Qc XC mc ms free a (U.calling g mk a) o s₂ := hq
  rw [State.frames_setTop' g h.top] at hend
  obtain ⟨g₀, hg0⟩ := Option.isSome_iff_exists.mp h.top
  obtain ⟨r, hr⟩ := State.topJava?_eq_some.mp hg0
  have hr' : (({ U with heap := s₂.heap, slotsUsed := s₂.slotsUsed } : State).setVm s₂.vm).frames = .java g₀ :: r := hr
  rcases hq' with ⟨hqc, L, hfe, hL⟩ | ⟨q, rfl, E, ce, L, hx, hce, hcv, hcl, hW₂, hsm, hL⟩
  · obtain ⟨⟨v, rfl⟩, hW₂, e2, q2, q3, q4, q5, q6⟩ := id hfe
    have e3 : s₂ = ({ (U.calling g mk a).setFrames s₂.frames with heap := s₂.heap, slotsUsed := s₂.slotsUsed } : State).setVm s₂.vm := by
      have : s₂ = ({ s₂ with vm := (U.calling g mk a).vm } : State).setVm s₂.vm := rfl
      rw [e2] at this
      exact this
    obtain ⟨c₂, i₂, len₂, hc₂, hd₂, hf₂⟩ := hend
    have hW' : U.WarmedH s₂.vm := hW₂
    have hcc : c₂ = c := by
      have h1 : s₂.code? g.method = U.code? g.method := by
        rw [State.code?_eq, State.code?_eq, hW'.alike.method?]
      exact Option.some.inj (hc₂.symm.trans (h1.trans h.code))
    subst hcc
    have hlen : len₂ = len := by rw [hdg] at hd₂; cases hd₂; rfl
    subst hlen
    have hs₂ : s₂ = (({ U with heap := s₂.heap, slotsUsed := s₂.slotsUsed } : State).setVm s₂.vm).setTop { g with pc := g.pc + len₂, stack := v.toList ++ g.stack } := by
      refine e3.trans ?_
      rw [hf₂, State.calling_eq h.top, State.setFrames_setFrames, State.setTop_of_frames _ hr', hr]
      rfl
    have hsame : U.sameButNew ({ U with heap := s₂.heap, slotsUsed := s₂.slotsUsed } : State) L mc ms := by
      refine ⟨?_, q2, q3, q4, q5, q6⟩
      obtain ⟨t, ht, -⟩ := State.frames_cons hr
      show ({ U with heap := s₂.heap, slotsUsed := s₂.slotsUsed } : State) = { U.setFrames U.frames with heap := s₂.heap, slotsUsed := s₂.slotsUsed }
      rw [State.setFrames_self ht]
    subst hg
    refine Or.inl ⟨v, ⟨(({ U with heap := s₂.heap, slotsUsed := s₂.slotsUsed } : State).setVm s₂.vm), Ls ++ L, c0 + mc, s0 + ms⟩,
      ⟨X.admits, X.cas, X.clock, X.frames, X.room, X.hears, X.method, X.code, (X.here.setHeapUsed s₂.heap s₂.slotsUsed).setVm hW'.alike, X.tail, State.WarmedH.trans X.warmed hW', X.limits, X.bytes, X.same.trans (hsame.setVm s.vm)⟩,
      ⟨g, mk, s₂, L, rfl, rfl, hqc, rfl, hL, rfl, rfl⟩, ?_⟩
    show Steps p.tables e below _ ((({ U with heap := s₂.heap, slotsUsed := s₂.slotsUsed } : State).setVm s₂.vm).setTop { g with pc := g.pc + len₂, stack := v.toList ++ g.stack })
    rw [← hs₂]
    exact hsteps
  · obtain ⟨e2, q2, q3, q4, q5, q6⟩ := id hsm
    have e3 : s₂ = ({ (U.calling g mk a).setFrames s₂.frames with heap := s₂.heap, slotsUsed := s₂.slotsUsed } : State).setVm s₂.vm := by
      have : s₂ = ({ s₂ with vm := (U.calling g mk a).vm } : State).setVm s₂.vm := rfl
      rw [e2] at this
      exact this
    have hf₂ : s₂.frames = .throwing q :: .java g :: U.frames.tail := hend
    have hW' : U.WarmedH s₂.vm := hW₂
    have hs₂ : s₂ = ((({ U with heap := s₂.heap, slotsUsed := s₂.slotsUsed } : State).setVm s₂.vm).setTop g).pushFrame (.throwing q) := by
      refine e3.trans ?_
      rw [hf₂, State.calling_eq h.top, State.setFrames_setFrames, State.pushFrame, State.frames_setTop _ hr', State.setTop_of_frames _ hr', State.setFrames_setFrames, hr]
      rfl
    have hsame : U.sameButNew ({ U with heap := s₂.heap, slotsUsed := s₂.slotsUsed } : State) L mc ms := by
      refine ⟨?_, q2, q3, q4, q5, q6⟩
      obtain ⟨t, ht, -⟩ := State.frames_cons hr
      show ({ U with heap := s₂.heap, slotsUsed := s₂.slotsUsed } : State) = { U.setFrames U.frames with heap := s₂.heap, slotsUsed := s₂.slotsUsed }
      rw [State.setFrames_self ht]
    subst hg
    refine Or.inr ⟨q, ⟨(({ U with heap := s₂.heap, slotsUsed := s₂.slotsUsed } : State).setVm s₂.vm), Ls ++ L, c0 + mc, s0 + ms⟩,
      ⟨X.admits, X.cas, X.clock, X.frames, X.room, X.hears, X.method, X.code, (X.here.setHeapUsed s₂.heap s₂.slotsUsed).setVm hW'.alike, X.tail, State.WarmedH.trans X.warmed hW', X.limits, X.bytes, X.same.trans (hsame.setVm s.vm)⟩,
      ⟨g, mk, s₂, L, E, ce, rfl, rfl, hx, hce, hcv, hcl, rfl, hL, rfl, rfl⟩, ?_⟩
    show Steps p.tables e below _ (((({ U with heap := s₂.heap, slotsUsed := s₂.slotsUsed } : State).setVm s₂.vm).setTop g).pushFrame (.throwing q))
    rw [← hs₂]
    exact hsteps
end Payer
section Calls
variable {p : Program} {l : Launch} {e : Env} {R : Room} {s : State} {m : MethodId} {args : Array Value} {below : List Frame} {meth : Method} {c : Code} {T : State} {locs : List Loc} {cells slots : Nat}
theorem vx_callV (X : Stand p l e R s m args below meth c T locs cells slots) (hexec : p.tables.exec = Jvm.exec) {own C : String} {index : Nat} {y : MethodName} {bytes : ByteArray} {maxL : Nat} {ret : Option FieldType}
    (hown : s.vm.findClass own = some m.cls) (hlink : (Cond.methodLink own index y).before args s = true) (hinst : (Cond.instanceMethod y).before args s = true) (hsel : (Cond.selects C y y).before args s = true)
    (hcode : (Cond.code y bytes maxL ret).before args s = true) (hy : y.cls ≠ "java/lang/invoke/MethodHandle" ∧ y.cls ≠ "java/lang/invoke/VarHandle")
    {W9 : Nat} {Pre : Pt → Array Value → Prop} {Post : Pt → Array Value → Option Value → Pt → Prop} {PostX : Pt → Array Value → Addr → Pt → Prop} (hK : vx_Back l R p e below s args y 3 W9 Pre Post PostX)
    {b : Addr} {cellB : Cell} (hcell : T.heap[b]? = some cellB) (hobj : cellB.vm.isStatics = false) (hcls : s.vm.findClass C = some cellB.cls)
    {g : JFrame} (hg : g.method = m) (hsize : g.locals.size = c.maxLocals) {argsL rest : List Value} (hlen : ∀ sig, parseMethodDescriptor y.desc = some sig → argsL.length = sig.parameters.length)
    (hstack : g.stack = argsL.reverse ++ .ref b :: rest) (hW : 2 * g.monitorRoom + (rest.map fun v => v.category).sum ≤ W9) (hdg : decode c.code g.pc = .ok (.invokevirtual index, 3))
    (hpre : ∀ vm₁, s.WarmedH vm₁ → Pre ⟨T.setVm vm₁, locs, cells, slots⟩ (Value.ref b :: argsL).toArray) :
    (∃ (v : Option Value) (vm₁ : Vm) (B : Pt), s.WarmedH vm₁ ∧ Stand p l e R s m args below meth c B.U B.locs B.cells B.slots ∧ Post ⟨T.setVm vm₁, locs, cells, slots⟩ (Value.ref b :: argsL).toArray v B ∧
      ∀ target, Steps p.tables e below (B.U.setTop { g with pc := g.pc + 3, stack := v.toList ++ rest }) target → Steps p.tables e below (T.setTop g) target) ∨
    (∃ (q : Addr) (vm₁ : Vm) (B : Pt), s.WarmedH vm₁ ∧ Stand p l e R s m args below meth c B.U B.locs B.cells B.slots ∧ PostX ⟨T.setVm vm₁, locs, cells, slots⟩ (Value.ref b :: argsL).toArray q B ∧
      Steps p.tables e below (T.setTop g) ((B.U.setTop { g with stack := rest }).pushFrame (.throwing q))) := by
  obtain ⟨mk, methM, hnamed, hmethM, hstM, habM⟩ := Cond.instanceMethod_spec hinst
  obtain ⟨methM', cM, hmethM', -, -, -, -, -, -, hsigM⟩ := Cond.code_spec hnamed hcode
  cases hmethM.symm.trans hmethM'
  obtain ⟨c2, r2, m2, q1, q2, q3, q4, kP, hkP, hkPi⟩ := Cond.selects_spec hsel
  cases hcls.symm.trans q1
  cases (State.methodFound?_of_named hnamed hy).symm.trans q2
  cases hnamed.symm.trans q3
  have hselP : selectMethod e.platform s.vm cellB.cls mk = .method mk := by rw [Launch.admits_selectMethod X.admits]; exact q4
  obtain ⟨vm₁, X₁, hstep₁⟩ := X.invokevirtual hexec hown hlink hnamed hmethM hstM hkP hkPi hy (a := b) (cell := cellB) hcell
    (fun z h => by rw [h] at hobj; cases hobj) hselP hmethM habM hkP hkPi (g := g) hg (argsL := argsL) (rest := rest) (hlen _ hsigM) hstack hdg
  rcases hK m meth c ⟨T.setVm vm₁, locs, cells, slots⟩ { g with stack := rest } (.invokevirtual index) mk (Value.ref b :: argsL).toArray X₁ hg hsize hdg hW (X₁.named hnamed) (hpre vm₁ X₁.warmed) with ⟨v, B, X', hpost, hsteps⟩ | ⟨q, B, X', hpost, hsteps⟩
  · exact Or.inl ⟨v, vm₁, B, X₁.warmed, X', hpost, fun target h => hstep₁ _ fun acts => by rw [doInvoke_state]; exact hsteps.trans h⟩
  · exact Or.inr ⟨q, vm₁, B, X₁.warmed, X', hpost, hstep₁ _ fun acts => by rw [doInvoke_state]; exact hsteps⟩
theorem vx_callS (X : Stand p l e R s m args below meth c T locs cells slots) (hexec : p.tables.exec = Jvm.exec) {own : String} {index : Nat} {y : MethodName} {bytes : ByteArray} {maxL : Nat} {ret : Option FieldType}
    (hown : s.vm.findClass own = some m.cls) (hlink : (Cond.methodLink own index y).before args s = true) (hstat : (Cond.static y).before args s = true) (hinit : (Cond.initialized y.cls).before args s = true)
    (hcode : (Cond.code y bytes maxL ret).before args s = true) (hy : y.cls ≠ "java/lang/invoke/MethodHandle" ∧ y.cls ≠ "java/lang/invoke/VarHandle")
    {W9 : Nat} {Pre : Pt → Array Value → Prop} {Post : Pt → Array Value → Option Value → Pt → Prop} {PostX : Pt → Array Value → Addr → Pt → Prop} (hK : vx_Back l R p e below s args y 3 W9 Pre Post PostX)
    {g : JFrame} (hg : g.method = m) (hsize : g.locals.size = c.maxLocals) {argsL rest : List Value} (hlen : ∀ sig, parseMethodDescriptor y.desc = some sig → argsL.length = sig.parameters.length)
    (hstack : g.stack = argsL.reverse ++ rest) (hW : 2 * g.monitorRoom + (rest.map fun v => v.category).sum ≤ W9) (hdg : decode c.code g.pc = .ok (.invokestatic index, 3))
    (hpre : ∀ vm₁, s.WarmedH vm₁ → Pre ⟨T.setVm vm₁, locs, cells, slots⟩ argsL.toArray) :
    (∃ (v : Option Value) (vm₁ : Vm) (B : Pt), s.WarmedH vm₁ ∧ Stand p l e R s m args below meth c B.U B.locs B.cells B.slots ∧ Post ⟨T.setVm vm₁, locs, cells, slots⟩ argsL.toArray v B ∧
      ∀ target, Steps p.tables e below (B.U.setTop { g with pc := g.pc + 3, stack := v.toList ++ rest }) target → Steps p.tables e below (T.setTop g) target) ∨
    (∃ (q : Addr) (vm₁ : Vm) (B : Pt), s.WarmedH vm₁ ∧ Stand p l e R s m args below meth c B.U B.locs B.cells B.slots ∧ PostX ⟨T.setVm vm₁, locs, cells, slots⟩ argsL.toArray q B ∧
      Steps p.tables e below (T.setTop g) ((B.U.setTop { g with stack := rest }).pushFrame (.throwing q))) := by
  obtain ⟨mk, hnamed⟩ := Cond.code_named hcode
  obtain ⟨methM, cM, hmethM, -, -, -, -, -, -, hsigM⟩ := Cond.code_spec hnamed hcode
  have hstatic : methM.isStatic = true := Cond.static_spec hnamed hmethM hstat
  obtain ⟨kP, hkP, -⟩ := className_of_methodNamed hnamed
  have hinitP : kP.init = .initialized := Cond.initialized_spec (findClass_of_methodNamed hnamed) hkP hinit
  obtain ⟨vm₁, X₁, hstep₁⟩ := X.invokestatic hexec hown hlink hnamed hmethM hstatic hkP hinitP hy (g := g) hg (argsL := argsL) (rest := rest) (hlen _ hsigM) hstack hdg
  rcases hK m meth c ⟨T.setVm vm₁, locs, cells, slots⟩ { g with stack := rest } (.invokestatic index) mk argsL.toArray X₁ hg hsize hdg hW (X₁.named hnamed) (hpre vm₁ X₁.warmed) with ⟨v, B, X', hpost, hsteps⟩ | ⟨q, B, X', hpost, hsteps⟩
  · exact Or.inl ⟨v, vm₁, B, X₁.warmed, X', hpost, fun target h => hstep₁ _ fun acts => by rw [doInvoke_state]; exact hsteps.trans h⟩
  · exact Or.inr ⟨q, vm₁, B, X₁.warmed, X', hpost, hstep₁ _ fun acts => by rw [doInvoke_state]; exact hsteps⟩
end Calls
theorem vx_cls {s : State} {T : State} {vm₁ : Vm} {E : String} {k : ClassId} (hW : s.WarmedH vm₁) (h : (T.setVm vm₁).vm.findClass E = some k) : s.vm.findClass E = some k := by
  have h1 : vm₁.findClass E = some k := h
  rw [hW.alike.findClass] at h1
  exact h1
/-- the method's frame g, with q thrown over it -/
def vx_W (p : Program) (l : Launch) (e : Env) (R : Room) (s : State) (m : MethodId) (args : Array Value) (below : List Frame) (meth : Method) (c : Code) (H : Heap) (locs : List Loc) (cells slots : Nat) (Q : State → Prop) (g : JFrame) (q : Addr) : Prop :=
  ∀ T : State, T.heap = H → Stand p l e R s m args below meth c T locs cells slots → ∃ t, Steps p.tables e below ((T.setTop g).pushFrame (.throwing q)) t ∧ Q t
def vx_Run (p : Program) (l : Launch) (e : Env) (R : Room) (s : State) (m : MethodId) (args : Array Value) (below : List Frame) (meth : Method) (c : Code) (H : Heap) (locs : List Loc) (cells slots mc ms : Nat) (g : JFrame) (rest : List Value) (Qa : State → Outcome → State → Prop) (XC : String → State → State → Prop) (free : Addr → Prop) : Prop :=
  ∀ T : State, T.heap = H → Stand p l e R s m args below meth c T locs cells slots →
    (∃ (v : Option Value) (st₀ t T' : State) (L : List Loc), st₀.heap = H ∧ Stand p l e R s m args below meth c T' (locs ++ L) (cells + mc) (slots + ms) ∧ (∀ q ∈ L, free q.base) ∧ T'.heap = t.heap ∧ T'.vm = t.vm ∧ Qa st₀ (.returned v) t ∧
      Goes p e below T g T' { g with pc := g.pc + 3, stack := v.toList ++ rest }) ∨
    (∃ (q : Addr) (st₀ t T' : State) (L : List Loc) (E : String) (ce : Cell), st₀.heap = H ∧ Stand p l e R s m args below meth c T' (locs ++ L) (cells + mc) (slots + ms) ∧ (∀ z ∈ L, free z.base) ∧ T'.heap = t.heap ∧ T'.vm = t.vm ∧ XC E st₀ t ∧ t.heap[q]? = some ce ∧ ce.vm = .none ∧ s.vm.findClass E = some ce.cls ∧
      Steps p.tables e below (T.setTop g) ((T'.setTop { g with stack := rest }).pushFrame (.throwing q)))
def vx_X {S : Type} (px : S → Prop) (B : String → S → State → Prop) (A : Nat → Prop) : String → State → State → Prop := fun E st t => ∃ u : S, px u ∧ B E u t ∧ va_F A st t
section Runs
variable {p : Program} {l : Launch} {e : Env} {R : Room} {s : State} {m : MethodId} {args : Array Value} {below : List Frame} {meth : Method} {c : Code} {H : Heap} {locs : List Loc} {cells slots : Nat}
variable {y : MethodName} {bytes cc : ByteArray} {maxL nL mc ms n index : Nat} {ret : Option FieldType} {ws : List Cond} {rm : Room} {Pc : Array Value → State → Prop} {Qc : Array Value → State → Outcome → State → Prop} {XC : String → State → State → Prop} {free : Addr → Prop} {Ts : List Cond} {own C : String} {b : Addr} {As rest : List Value} {g : JFrame}
theorem vx_callBack (cb : CallB R s args own index y bytes maxL ret ws rm mc ms n) (hM : vx_Met l y ws rm Pc Qc XC mc ms free) (hbl : FrameBlind Pc) : vx_Back l R p e below s args y 3 8 (PreOf R mc ms Pc) (PostOf Qc mc ms free) (vx_Post XC mc ms free) := by
  obtain ⟨hrc, hrs, hfr, hlo, hws, hcw, -, hini, -⟩ := cb
  exact vx_back (bytes := bytes) (maxL := maxL) (ret := ret) hM hbl hrc hrs hfr hlo hws hcw (fun a' U hW => word_at hW (Or.inl (by first | rfl | simp [Cond.onTables, Cond.keeps, Cond.steady])) hini)
theorem vx_runV (S : CallFix p m c cc nL s args Ts own) (hM : vx_Met l y ws rm Pc Qc XC mc ms free) (cw : CallW R s args own C index y bytes maxL ret ws rm mc ms n) (hp : PreV s H C b Pc As)
    (hg : g.method = m) (hn : As.length = n) (hsize : g.locals.size = nL) (hstack : g.stack = As.reverse ++ .ref b :: rest) (hW : 2 * g.monitorRoom + (rest.map fun v => v.category).sum ≤ 8) (hdg : decode cc g.pc = .ok (.invokevirtual index, 3)) (hf : cells + mc ≤ R.cells ∧ slots + ms ≤ R.slots) :
    vx_Run p l e R s m args below meth c H locs cells slots mc ms g rest (Qc (Value.ref b :: As).toArray) XC free := by
  have hK : vx_Back l R p e below s args y 3 8 (PreOf R mc ms Pc) (PostOf Qc mc ms free) (vx_Post XC mc ms free) := vx_callBack cw.1 hM hp.1
  obtain ⟨⟨-, -, -, -, -, -, hcode, -, hy, hlen, hl⟩, hin, hse⟩ := cw
  obtain ⟨hx, hb, hml, ho, -⟩ := S
  obtain ⟨-, ⟨cellB, hcB, hoB, hclB⟩, hPc⟩ := hp
  intro T hT X
  rcases vx_callV X hx (C := C) (bytes := bytes) (maxL := maxL) (ret := ret) ho hl hin hse hcode hy hK (by rw [hT]; exact hcB) hoB hclB hg (hsize.trans hml.symm) (argsL := As) (rest := rest) (fun sig h => hn.trans (hlen sig h)) hstack hW (by rw [hb]; exact hdg)
    (fun vm₁ hW₁ => ⟨hf.1, hf.2, hPc (T.setVm vm₁) hT hW₁⟩) with ⟨v, vm₁, ⟨U', l2, c2, s2⟩, hW₁, X', ⟨g', mk, t, L, e1, e2, hq, h1, hL, h2, h3⟩, st⟩ | ⟨q, vm₁, ⟨U', l2, c2, s2⟩, hW₁, X', ⟨g', mk, t, L, E, ce, e1, e2, hq, hce, hcv, hcl, h1, hL, h2, h3⟩, st⟩
  · dsimp only [Pt.U, Pt.locs, Pt.cells, Pt.slots] at X' e1 e2 h1 h2 h3 st
    subst h1; subst h2; subst h3
    exact Or.inl ⟨v, (T.setVm vm₁).calling g' mk (Value.ref b :: As).toArray, t, U', L, hT, X', hL, e1, e2, hq, st⟩
  · dsimp only [Pt.U, Pt.locs, Pt.cells, Pt.slots] at X' e1 e2 h1 h2 h3 st hcl
    subst h1; subst h2; subst h3
    exact Or.inr ⟨q, (T.setVm vm₁).calling g' mk (Value.ref b :: As).toArray, t, U', L, E, ce, hT, X', hL, e1, e2, hq, hce, hcv, vx_cls hW₁ hcl, st⟩
theorem vx_runS (S : CallFix p m c cc nL s args Ts own) (hM : vx_Met l y ws rm Pc Qc XC mc ms free) (cw : CallB R s args own index y bytes maxL ret ws rm mc ms n ∧ (Cond.static y).before args s = true) (hp : PreS s H Pc As)
    (hg : g.method = m) (hn : As.length = n) (hsize : g.locals.size = nL) (hstack : g.stack = As.reverse ++ rest) (hW : 2 * g.monitorRoom + (rest.map fun v => v.category).sum ≤ 8) (hdg : decode cc g.pc = .ok (.invokestatic index, 3)) (hf : cells + mc ≤ R.cells ∧ slots + ms ≤ R.slots) :
    vx_Run p l e R s m args below meth c H locs cells slots mc ms g rest (Qc As.toArray) XC free := by
  have hK : vx_Back l R p e below s args y 3 8 (PreOf R mc ms Pc) (PostOf Qc mc ms free) (vx_Post XC mc ms free) := vx_callBack cw.1 hM hp.1
  obtain ⟨⟨-, -, -, -, -, -, hcode, hini, hy, hlen, hl⟩, hstt⟩ := cw
  obtain ⟨hx, hb, hml, ho, -⟩ := S
  intro T hT X
  rcases vx_callS X hx (bytes := bytes) (maxL := maxL) (ret := ret) ho hl hstt hini hcode hy hK hg (hsize.trans hml.symm) (argsL := As) (rest := rest) (fun sig h => hn.trans (hlen sig h)) hstack hW (by rw [hb]; exact hdg)
    (fun vm₁ hW₁ => ⟨hf.1, hf.2, hp.2 (T.setVm vm₁) hT hW₁⟩) with ⟨v, vm₁, ⟨U', l2, c2, s2⟩, hW₁, X', ⟨g', mk, t, L, e1, e2, hq, h1, hL, h2, h3⟩, st⟩ | ⟨q, vm₁, ⟨U', l2, c2, s2⟩, hW₁, X', ⟨g', mk, t, L, E, ce, e1, e2, hq, hce, hcv, hcl, h1, hL, h2, h3⟩, st⟩
  · dsimp only [Pt.U, Pt.locs, Pt.cells, Pt.slots] at X' e1 e2 h1 h2 h3 st
    subst h1; subst h2; subst h3
    exact Or.inl ⟨v, (T.setVm vm₁).calling g' mk As.toArray, t, U', L, hT, X', hL, e1, e2, hq, st⟩
  · dsimp only [Pt.U, Pt.locs, Pt.cells, Pt.slots] at X' e1 e2 h1 h2 h3 st hcl
    subst h1; subst h2; subst h3
    exact Or.inr ⟨q, (T.setVm vm₁).calling g' mk As.toArray, t, U', L, E, ce, hT, X', hL, e1, e2, hq, hce, hcv, vx_cls hW₁ hcl, st⟩
end Runs
section Rows
variable {p : Program} {l : Launch} {e : Env} {R : Room} {s : State} {m : MethodId} {args : Array Value} {below : List Frame} {meth : Method} {c : Code} {H : Heap} {locs : List Loc} {cells slots : Nat} {Q : State → Prop}
variable {mc ms : Nat} {free : Addr → Prop} {A0 A1 : Nat → Prop} {H0 : Heap} {a : Array Value} {pc : Nat} {ls : Array Slot} {st0 rest : List Value}
theorem vx_keep {st₀ t T' : State} {L : List Loc} (h0 : st₀.heap = H) (e1 : T'.heap = t.heap) (hS : va_S A0 H0 H locs) (hA : ∀ q, q < H.size → A1 q → A0 q) (hf : ∀ q, free q → A0 q) (hL : ∀ q ∈ L, free q.base) (hF : va_F A1 st₀ t) :
    H.size ≤ T'.heap.size ∧ (∀ q : Nat, q < H.size → ¬ A1 q → T'.heap[q]? = H[q]?) ∧ va_S A0 H0 T'.heap (locs ++ L) := by
  obtain ⟨hz, hk⟩ := hF
  rw [h0] at hz hk
  exact ⟨by rw [e1]; exact hz, fun q h1 h2 => by rw [e1]; exact hk q h1 h2,
    ⟨Nat.le_trans hS.1 (by rw [e1]; exact hz), fun q h1 h2 => by rw [e1, hk q (Nat.lt_of_lt_of_le h1 hS.1) (fun z => h2 (hA q (Nat.lt_of_lt_of_le h1 hS.1) z))]; exact hS.2.1 q h1 h2, fun q hq => by
      rcases List.mem_append.mp hq with h | h
      · exact hS.2.2 q h
      · exact hf _ (hL q h)⟩⟩
theorem vx_calli {S SX : Type} {post : Int32 → S → Prop} {px : SX → Prop} {B : S → State → Prop} {BX : String → SX → State → Prop} {AX : Nat → Prop} (hr : vx_Run p l e R s m args below meth c H locs cells slots mc ms (F0 m pc ls st0) rest (va_Qi post B A1 a) (vx_X px BX AX) free) (hS : va_S A0 H0 H locs) (hA : ∀ q, q < H.size → A1 q → A0 q) (hf : ∀ q, free q → A0 q) (hAX : ∀ q, q < H.size → AX q → A0 q)
    (kx : ∀ (E : String) (ce : Cell) (q9 : Addr) (u : SX) (t : State) (H1 : Heap) (locs1 : List Loc), t.heap = H1 → s.vm.Alike t.vm → px u → BX E u t → H.size ≤ H1.size → (∀ q : Nat, q < H.size → ¬ AX q → H1[q]? = H[q]?) → va_S A0 H0 H1 locs1 → H1[q9]? = some ce → ce.vm = .none → s.vm.findClass E = some ce.cls → vx_W p l e R s m args below meth c H1 locs1 (cells + mc) (slots + ms) Q (F0 m pc ls rest) q9)
    (kk : ∀ (r : Int32) (u : S) (t : State) (H1 : Heap) (locs1 : List Loc), t.heap = H1 → s.vm.Alike t.vm → post r u → B u t → H.size ≤ H1.size → (∀ q : Nat, q < H.size → ¬ A1 q → H1[q]? = H[q]?) → va_S A0 H0 H1 locs1 → W p l e R s m args below meth c H1 locs1 (cells + mc) (slots + ms) Q (F0 m (pc + 3) ls (.int r :: rest))) : W p l e R s m args below meth c H locs cells slots Q (F0 m pc ls st0) := by
  intro T hT X
  rcases hr T hT X with ⟨v, st₀, t, T', L, h0, X', hL, e1, e2, ⟨⟨r, u, hv, hp, hb⟩, hF⟩, st⟩ | ⟨q, st₀, t, T', L, E, ce, h0, X', hL, e1, e2, ⟨u, hp, hb, hF⟩, hce, hcv, hcl, st⟩
  · cases hv
    obtain ⟨k1, k2, k3⟩ := vx_keep h0 e1 hS hA hf hL hF
    obtain ⟨t2, a1, b1⟩ := kk r u t T'.heap (locs ++ L) e1.symm (by rw [← e2]; exact X'.warmed.alike) hp hb k1 k2 k3 T' rfl X'
    exact ⟨t2, st t2 a1, b1⟩
  · obtain ⟨k1, k2, k3⟩ := vx_keep h0 e1 hS hAX hf hL hF
    obtain ⟨t2, a1, b1⟩ := kx E ce q u t T'.heap (locs ++ L) e1.symm (by rw [← e2]; exact X'.warmed.alike) hp hb k1 k2 k3 (by rw [e1]; exact hce) hcv hcl T' rfl X'
    exact ⟨t2, st.trans a1, b1⟩
theorem vx_calll {S SX : Type} {post : Int64 → S → Prop} {px : SX → Prop} {B : S → State → Prop} {BX : String → SX → State → Prop} {AX : Nat → Prop} (hr : vx_Run p l e R s m args below meth c H locs cells slots mc ms (F0 m pc ls st0) rest (va_Ql post B A1 a) (vx_X px BX AX) free) (hS : va_S A0 H0 H locs) (hA : ∀ q, q < H.size → A1 q → A0 q) (hf : ∀ q, free q → A0 q) (hAX : ∀ q, q < H.size → AX q → A0 q)
    (kx : ∀ (E : String) (ce : Cell) (q9 : Addr) (u : SX) (t : State) (H1 : Heap) (locs1 : List Loc), t.heap = H1 → s.vm.Alike t.vm → px u → BX E u t → H.size ≤ H1.size → (∀ q : Nat, q < H.size → ¬ AX q → H1[q]? = H[q]?) → va_S A0 H0 H1 locs1 → H1[q9]? = some ce → ce.vm = .none → s.vm.findClass E = some ce.cls → vx_W p l e R s m args below meth c H1 locs1 (cells + mc) (slots + ms) Q (F0 m pc ls rest) q9)
    (kk : ∀ (r : Int64) (u : S) (t : State) (H1 : Heap) (locs1 : List Loc), t.heap = H1 → s.vm.Alike t.vm → post r u → B u t → H.size ≤ H1.size → (∀ q : Nat, q < H.size → ¬ A1 q → H1[q]? = H[q]?) → va_S A0 H0 H1 locs1 → W p l e R s m args below meth c H1 locs1 (cells + mc) (slots + ms) Q (F0 m (pc + 3) ls (.long r :: rest))) : W p l e R s m args below meth c H locs cells slots Q (F0 m pc ls st0) := by
  intro T hT X
  rcases hr T hT X with ⟨v, st₀, t, T', L, h0, X', hL, e1, e2, ⟨⟨r, u, hv, hp, hb⟩, hF⟩, st⟩ | ⟨q, st₀, t, T', L, E, ce, h0, X', hL, e1, e2, ⟨u, hp, hb, hF⟩, hce, hcv, hcl, st⟩
  · cases hv
    obtain ⟨k1, k2, k3⟩ := vx_keep h0 e1 hS hA hf hL hF
    obtain ⟨t2, a1, b1⟩ := kk r u t T'.heap (locs ++ L) e1.symm (by rw [← e2]; exact X'.warmed.alike) hp hb k1 k2 k3 T' rfl X'
    exact ⟨t2, st t2 a1, b1⟩
  · obtain ⟨k1, k2, k3⟩ := vx_keep h0 e1 hS hAX hf hL hF
    obtain ⟨t2, a1, b1⟩ := kx E ce q u t T'.heap (locs ++ L) e1.symm (by rw [← e2]; exact X'.warmed.alike) hp hb k1 k2 k3 (by rw [e1]; exact hce) hcv hcl T' rfl X'
    exact ⟨t2, st.trans a1, b1⟩
theorem vx_callf {S SX : Type} {post : UInt32 → S → Prop} {px : SX → Prop} {B : S → State → Prop} {BX : String → SX → State → Prop} {AX : Nat → Prop} (hr : vx_Run p l e R s m args below meth c H locs cells slots mc ms (F0 m pc ls st0) rest (va_Qf post B A1 a) (vx_X px BX AX) free) (hS : va_S A0 H0 H locs) (hA : ∀ q, q < H.size → A1 q → A0 q) (hf : ∀ q, free q → A0 q) (hAX : ∀ q, q < H.size → AX q → A0 q)
    (kx : ∀ (E : String) (ce : Cell) (q9 : Addr) (u : SX) (t : State) (H1 : Heap) (locs1 : List Loc), t.heap = H1 → s.vm.Alike t.vm → px u → BX E u t → H.size ≤ H1.size → (∀ q : Nat, q < H.size → ¬ AX q → H1[q]? = H[q]?) → va_S A0 H0 H1 locs1 → H1[q9]? = some ce → ce.vm = .none → s.vm.findClass E = some ce.cls → vx_W p l e R s m args below meth c H1 locs1 (cells + mc) (slots + ms) Q (F0 m pc ls rest) q9)
    (kk : ∀ (r : UInt32) (u : S) (t : State) (H1 : Heap) (locs1 : List Loc), t.heap = H1 → s.vm.Alike t.vm → post r u → B u t → H.size ≤ H1.size → (∀ q : Nat, q < H.size → ¬ A1 q → H1[q]? = H[q]?) → va_S A0 H0 H1 locs1 → W p l e R s m args below meth c H1 locs1 (cells + mc) (slots + ms) Q (F0 m (pc + 3) ls (.float r :: rest))) : W p l e R s m args below meth c H locs cells slots Q (F0 m pc ls st0) := by
  intro T hT X
  rcases hr T hT X with ⟨v, st₀, t, T', L, h0, X', hL, e1, e2, ⟨⟨r, u, hv, hp, hb⟩, hF⟩, st⟩ | ⟨q, st₀, t, T', L, E, ce, h0, X', hL, e1, e2, ⟨u, hp, hb, hF⟩, hce, hcv, hcl, st⟩
  · cases hv
    obtain ⟨k1, k2, k3⟩ := vx_keep h0 e1 hS hA hf hL hF
    obtain ⟨t2, a1, b1⟩ := kk r u t T'.heap (locs ++ L) e1.symm (by rw [← e2]; exact X'.warmed.alike) hp hb k1 k2 k3 T' rfl X'
    exact ⟨t2, st t2 a1, b1⟩
  · obtain ⟨k1, k2, k3⟩ := vx_keep h0 e1 hS hAX hf hL hF
    obtain ⟨t2, a1, b1⟩ := kx E ce q u t T'.heap (locs ++ L) e1.symm (by rw [← e2]; exact X'.warmed.alike) hp hb k1 k2 k3 (by rw [e1]; exact hce) hcv hcl T' rfl X'
    exact ⟨t2, st.trans a1, b1⟩
theorem vx_calld {S SX : Type} {post : UInt64 → S → Prop} {px : SX → Prop} {B : S → State → Prop} {BX : String → SX → State → Prop} {AX : Nat → Prop} (hr : vx_Run p l e R s m args below meth c H locs cells slots mc ms (F0 m pc ls st0) rest (va_Qd post B A1 a) (vx_X px BX AX) free) (hS : va_S A0 H0 H locs) (hA : ∀ q, q < H.size → A1 q → A0 q) (hf : ∀ q, free q → A0 q) (hAX : ∀ q, q < H.size → AX q → A0 q)
    (kx : ∀ (E : String) (ce : Cell) (q9 : Addr) (u : SX) (t : State) (H1 : Heap) (locs1 : List Loc), t.heap = H1 → s.vm.Alike t.vm → px u → BX E u t → H.size ≤ H1.size → (∀ q : Nat, q < H.size → ¬ AX q → H1[q]? = H[q]?) → va_S A0 H0 H1 locs1 → H1[q9]? = some ce → ce.vm = .none → s.vm.findClass E = some ce.cls → vx_W p l e R s m args below meth c H1 locs1 (cells + mc) (slots + ms) Q (F0 m pc ls rest) q9)
    (kk : ∀ (r : UInt64) (u : S) (t : State) (H1 : Heap) (locs1 : List Loc), t.heap = H1 → s.vm.Alike t.vm → post r u → B u t → H.size ≤ H1.size → (∀ q : Nat, q < H.size → ¬ A1 q → H1[q]? = H[q]?) → va_S A0 H0 H1 locs1 → W p l e R s m args below meth c H1 locs1 (cells + mc) (slots + ms) Q (F0 m (pc + 3) ls (.double r :: rest))) : W p l e R s m args below meth c H locs cells slots Q (F0 m pc ls st0) := by
  intro T hT X
  rcases hr T hT X with ⟨v, st₀, t, T', L, h0, X', hL, e1, e2, ⟨⟨r, u, hv, hp, hb⟩, hF⟩, st⟩ | ⟨q, st₀, t, T', L, E, ce, h0, X', hL, e1, e2, ⟨u, hp, hb, hF⟩, hce, hcv, hcl, st⟩
  · cases hv
    obtain ⟨k1, k2, k3⟩ := vx_keep h0 e1 hS hA hf hL hF
    obtain ⟨t2, a1, b1⟩ := kk r u t T'.heap (locs ++ L) e1.symm (by rw [← e2]; exact X'.warmed.alike) hp hb k1 k2 k3 T' rfl X'
    exact ⟨t2, st t2 a1, b1⟩
  · obtain ⟨k1, k2, k3⟩ := vx_keep h0 e1 hS hAX hf hL hF
    obtain ⟨t2, a1, b1⟩ := kx E ce q u t T'.heap (locs ++ L) e1.symm (by rw [← e2]; exact X'.warmed.alike) hp hb k1 k2 k3 (by rw [e1]; exact hce) hcv hcl T' rfl X'
    exact ⟨t2, st.trans a1, b1⟩
theorem vx_callv {S SX : Type} {post : S → Prop} {px : SX → Prop} {B : S → State → Prop} {BX : String → SX → State → Prop} {AX : Nat → Prop} (hr : vx_Run p l e R s m args below meth c H locs cells slots mc ms (F0 m pc ls st0) rest (va_Qv post B A1 a) (vx_X px BX AX) free) (hS : va_S A0 H0 H locs) (hA : ∀ q, q < H.size → A1 q → A0 q) (hf : ∀ q, free q → A0 q) (hAX : ∀ q, q < H.size → AX q → A0 q)
    (kx : ∀ (E : String) (ce : Cell) (q9 : Addr) (u : SX) (t : State) (H1 : Heap) (locs1 : List Loc), t.heap = H1 → s.vm.Alike t.vm → px u → BX E u t → H.size ≤ H1.size → (∀ q : Nat, q < H.size → ¬ AX q → H1[q]? = H[q]?) → va_S A0 H0 H1 locs1 → H1[q9]? = some ce → ce.vm = .none → s.vm.findClass E = some ce.cls → vx_W p l e R s m args below meth c H1 locs1 (cells + mc) (slots + ms) Q (F0 m pc ls rest) q9)
    (kk : ∀ (u : S) (t : State) (H1 : Heap) (locs1 : List Loc), t.heap = H1 → s.vm.Alike t.vm → post u → B u t → H.size ≤ H1.size → (∀ q : Nat, q < H.size → ¬ A1 q → H1[q]? = H[q]?) → va_S A0 H0 H1 locs1 → W p l e R s m args below meth c H1 locs1 (cells + mc) (slots + ms) Q (F0 m (pc + 3) ls (rest))) : W p l e R s m args below meth c H locs cells slots Q (F0 m pc ls st0) := by
  intro T hT X
  rcases hr T hT X with ⟨v, st₀, t, T', L, h0, X', hL, e1, e2, ⟨⟨u, hv, hp, hb⟩, hF⟩, st⟩ | ⟨q, st₀, t, T', L, E, ce, h0, X', hL, e1, e2, ⟨u, hp, hb, hF⟩, hce, hcv, hcl, st⟩
  · cases hv
    obtain ⟨k1, k2, k3⟩ := vx_keep h0 e1 hS hA hf hL hF
    obtain ⟨t2, a1, b1⟩ := kk u t T'.heap (locs ++ L) e1.symm (by rw [← e2]; exact X'.warmed.alike) hp hb k1 k2 k3 T' rfl X'
    exact ⟨t2, st t2 a1, b1⟩
  · obtain ⟨k1, k2, k3⟩ := vx_keep h0 e1 hS hAX hf hL hF
    obtain ⟨t2, a1, b1⟩ := kx E ce q u t T'.heap (locs ++ L) e1.symm (by rw [← e2]; exact X'.warmed.alike) hp hb k1 k2 k3 (by rw [e1]; exact hce) hcv hcl T' rfl X'
    exact ⟨t2, st.trans a1, b1⟩
/-- caught by the row x of this method's table; the rows ahead don't take it -/
theorem vx_catch {own name : String} {E : String} {ce : Cell} {q : Addr} (hown : s.vm.findClass own = some m.cls) (pre : List ExceptionTableEntry) (x : ExceptionTableEntry) (suf : List ExceptionTableEntry) (hsplit : c.exceptionTable.toList = pre ++ x :: suf)
    (hpass : ∀ z ∈ pre, covers z pc = false ∨ (z.catchType ≠ 0 ∧ ∃ nm : String, (Cond.classLink own z.catchType nm).before args s = true ∧ va_Nc E nm s)) (hx : covers x pc = true) (h0 : x.catchType ≠ 0)
    (hlink : (Cond.classLink own x.catchType name).before args s = true) (hcast : (Cond.castable E name).before args s = true) (hcell : H[q]? = some ce) (hv : ce.vm = .none) (hcl : s.vm.findClass E = some ce.cls)
    (kk : W p l e R s m args below meth c H locs cells slots Q (F0 m x.handlerPc ls [.ref q])) : vx_W p l e R s m args below meth c H locs cells slots Q (F0 m pc ls rest) q := by
  intro T hT X
  have hpl : e.platform.magicAccessors = ({} : Platform).magicAccessors := by rw [X.admits.platform]
  obtain ⟨c3, c4, hc3, hc4, hasg⟩ := Cond.castable_spec hcast
  cases Option.some.inj (hc3.symm.trans hcl)
  obtain ⟨c5, hc5, hcl5⟩ := Cond.classLink_spec hown hlink e.platform hpl
  cases Option.some.inj (hc4.symm.trans hc5)
  obtain ⟨vm', X', st⟩ := X.thenCaughtThrough q (g := F0 m pc ls rest) rfl (Steps.refl _) (by rw [hT]; exact hcell) (by rw [hv]; rfl) (by obtain ⟨k9, h9, -⟩ := Vm.findClass_spec hcl; exact ⟨k9, h9⟩) pre x suf hsplit
    (fun z hz => by
      rcases hpass z hz with h | ⟨hz0, nm, hl1, hn1⟩
      · exact Or.inl h
      · obtain ⟨c6, hc6, hcl6⟩ := Cond.classLink_spec hown hl1 e.platform hpl
        obtain ⟨a8, b8, h1, h2, h3⟩ := hn1
        cases Option.some.inj (h1.symm.trans hcl)
        cases Option.some.inj (h2.symm.trans hc6)
        exact Or.inr ⟨hz0, _, hcl6, h3⟩) hx (Or.inr ⟨h0, c4, hcl5, hasg⟩)
  obtain ⟨t, a1, b1⟩ := kk (T.setVm vm') hT X'
  exact ⟨t, st.trans a1, b1⟩
end Rows
section Ends
variable {p : Program} {l : Launch} {e : Env} {R : Room} {s : State} {m : MethodId} {args : Array Value} {below : List Frame} {meth : Method} {c : Code} {H : Heap} {locs : List Loc} {cells slots : Nat} {Q : State → Prop}
variable {mc ms : Nat} {free : Addr → Prop} {A0 A1 : Nat → Prop} {H0 : Heap} {a : Array Value} {ls : Array Slot} {st0 rest : List Value}
variable {Qc : Array Value → State → Outcome → State → Prop} {XC : String → State → State → Prop}
/-- what a body that may throw owes at its end -/
def vx_MQ (below : List Frame) (Qc : Array Value → State → Outcome → State → Prop) (XC : String → State → State → Prop) (a : Array Value) (s : State) (mc ms : Nat) (free : Addr → Prop) : State → Prop := fun t =>
  ∃ o, t.status = .running ∧ Ended t below o ∧ vx_Q Qc XC mc ms free a s o t
theorem vx_ret {g : JFrame} {mc ms : Nat} (k : W p l e R s m args below meth c H locs cells slots (MQ below Qc args s mc ms free) g) : W p l e R s m args below meth c H locs cells slots (vx_MQ below Qc XC args s mc ms free) g := by
  intro T hT X
  obtain ⟨t, a1, o, b1, b2, b3, b4⟩ := k T hT X
  exact ⟨t, a1, o, b1, b2, Or.inl ⟨b3, b4⟩⟩
/-- not caught here: it goes on to the caller -/
theorem vx_widen {g : JFrame} {q : Addr} {k n : Nat} (h1 : cells ≤ k) (h2 : slots ≤ n) (kk : vx_W p l e R s m args below meth c H locs k n Q g q) : vx_W p l e R s m args below meth c H locs cells slots Q g q := fun T hT X => kk T hT (stand_widen X h1 h2)
theorem vx_out {pc : Nat} {E : String} {ce : Cell} {q : Addr} {mc ms : Nat} (hout : ∀ x ∈ c.exceptionTable.toList, covers x pc = false) (hlocks : meth.locks = false) (hcell : H[q]? = some ce) (hv : ce.vm = .none) (hcl : s.vm.findClass E = some ce.cls)
    (hx : ∀ t : State, t.heap = H → s.vm.Alike t.vm → XC E s t) (hf : ∀ z ∈ locs, free z.base) (hc : cells ≤ mc) (hs : slots ≤ ms) :
    vx_W p l e R s m args below meth c H locs cells slots (vx_MQ below Qc XC args s mc ms free) (F0 m pc ls rest) q := by
  intro T hT X
  obtain ⟨st1, hrun, hend, hW, hsm⟩ := X.leaveThrown q (g := F0 m pc ls rest) rfl rfl rfl hout hlocks
  have hcell9 : (T.setFrames (.throwing q :: below)).heap[q]? = some ce := by
    show T.heap[q]? = some ce
    rw [hT]; exact hcell
  exact ⟨_, st1, .threw q, hrun, hend, Or.inr ⟨q, rfl, E, ce, locs, hx _ hT hW.alike, hcell9, hv, hcl, hW, hsm.mono hc hs, hf⟩⟩
theorem vx_frame {U : State} {k n : Nat} (h : s.sameButNew ({ U with vm := s.vm } : State) locs k n) : s.heap.size ≤ U.heap.size ∧ ∀ q : Nat, q < s.heap.size → (∀ z ∈ locs, z.base ≠ q) → U.heap[q]? = s.heap[q]? := by
  obtain ⟨-, h2, -, -, -, h6⟩ := h
  refine ⟨h2, fun q hq hz => ?_⟩
  obtain ⟨c9, e1, e2, e3, e4⟩ := h6 q _ (Array.getElem?_eq_getElem hq)
  have hs : c9.slots = (s.heap[q]).slots := Array.ext_getElem? fun i => e4 i fun hm => hz _ hm rfl
  have h9 : c9 = s.heap[q] := by
    rw [hs] at e2
    exact e2
  have e5 : U.heap[q]? = some c9 := e1
  rw [e5, h9, Array.getElem?_eq_getElem hq]
/-- the words of a throw but the four that speak of the heap -/
def vx_no (w : Cond) : Bool := decide (w ≠ .isRef (.static Bundle.tN "UNASSIGNED_STACK" Bundle.steD)) && decide (w ≠ .isRef (.static Bundle.tN "SUPPRESSED_SENTINEL" Bundle.listD)) && decide (w ≠ .laysStatic Bundle.tN "UNASSIGNED_STACK" Bundle.steD) && decide (w ≠ .laysStatic Bundle.tN "SUPPRESSED_SENTINEL" Bundle.listD)
def vx_at0 (own : String) (ic : Nat) (X : String) (names : List String) : List Cond := (Bundle.ownAtoms0 own ic X names).filter vx_no
def vx_atS (own : String) (ic : Nat) (X : String) (names : List String) : List Cond := (Bundle.ownAtoms own ic X names).filter vx_no
/-- a word that the tables alone decide, or a good one -/
def vx_ot (w : Cond) : Bool := w.onTables || goodWord w
theorem vx_ot_at {args a' : Array Value} {s U : State} {w : Cond} (hW : s.WarmedH U.vm) (hvm : s.vm = U.vm) (hg : vx_ot w = true) (h : w.before args s = true) : w.before a' U = true := by
  simp only [vx_ot, Bool.or_eq_true] at hg
  rcases hg with hg | hg
  · exact va_tabs hg hvm h
  · exact word_at hW (good_of_word hg) h
/-- a list's words: the good ones out of the method's own list, the others by premises of their own -/
theorem vx_hat {args : Array Value} {s : State} {L B : List Cond} (h1 : ∀ w ∈ L.filter goodWord, w.before args s = true) (h2 : ∀ w ∈ L.filter (fun w => !goodWord w), w ∈ B) (h3 : ∀ w ∈ B, w.before args s = true) : ∀ w ∈ L, w.before args s = true := by
  intro w hw
  by_cases g : goodWord w = true
  · exact h1 w (List.mem_filter.mpr ⟨hw, g⟩)
  · refine h3 w (h2 w (List.mem_filter.mpr ⟨hw, ?_⟩))
    show (!goodWord w) = true
    cases hgw : goodWord w
    · rfl
    · exact absurd hgw g
theorem vx_c {args : Array Value} {s : State} {w : Cond} {B : List Cond} (h : w.before args s = true) (t : ∀ w ∈ B, w.before args s = true) : ∀ w' ∈ w :: B, w'.before args s = true := fun w' h' => (List.mem_cons.mp h').elim (fun e => by rw [e]; exact h) (t w')
theorem vx_n {args : Array Value} {s : State} : ∀ w ∈ ([] : List Cond), w.before args s = true := fun _ h => nomatch h
theorem vx_own {args : Array Value} {s : State} {L : List Cond} (h1 : ∀ w ∈ L.filter vx_no, w.before args s = true)
    (hU : (Cond.isRef (.static Bundle.tN "UNASSIGNED_STACK" Bundle.steD)).before args s = true) (hN : (Cond.isRef (.static Bundle.tN "SUPPRESSED_SENTINEL" Bundle.listD)).before args s = true)
    (lU : (Cond.laysStatic Bundle.tN "UNASSIGNED_STACK" Bundle.steD).before args s = true) (lN : (Cond.laysStatic Bundle.tN "SUPPRESSED_SENTINEL" Bundle.listD).before args s = true) : ∀ w ∈ L, w.before args s = true := by
  intro w hw
  by_cases e1 : w = .isRef (.static Bundle.tN "UNASSIGNED_STACK" Bundle.steD)
  · rw [e1]; exact hU
  · by_cases e2 : w = .isRef (.static Bundle.tN "SUPPRESSED_SENTINEL" Bundle.listD)
    · rw [e2]; exact hN
    · by_cases e3 : w = .laysStatic Bundle.tN "UNASSIGNED_STACK" Bundle.steD
      · rw [e3]; exact lU
      · by_cases e4 : w = .laysStatic Bundle.tN "SUPPRESSED_SENTINEL" Bundle.listD
        · rw [e4]; exact lN
        · exact h1 w (List.mem_filter.mpr ⟨hw, by unfold vx_no; rw [decide_eq_true e1, decide_eq_true e2, decide_eq_true e3, decide_eq_true e4]; rfl⟩)
/-- where a static field lies, its class's statics cell in H -/
def vx_L (C n d : String) (A : Nat → Prop) (U : State) (H : Heap) : Prop := ∃ (c : ClassId) (k : Class) (i : Nat) (f : Field) (a : Nat) (cell : Cell), U.vm.findClass C = some c ∧ U.fieldFound? C n d = some (c, k, i, f) ∧ f.isStatic = true ∧ k.statics = some a ∧ H[a]? = some cell ∧ cell.vm.isStatics = true ∧ cell.cls = c ∧ f.slot < cell.slots.size ∧ k.staticTypes[f.slot]? = some f.type ∧ ¬ A a
theorem vx_L.moved {C n d : String} {A : Nat → Prop} {u U : State} {H : Heap} (hvm : u.vm.Alike U.vm) (h : vx_L C n d A u H) : vx_L C n d A U H := by
  obtain ⟨c, k, i, f, a, cell, h1, h2, h3, h4, h5, h6, h7, h8, h9, h10⟩ := h
  obtain ⟨k', hi', he⟩ := State.fieldFound?_setVm hvm h2
  exact ⟨c, k', i, f, a, cell, by rw [hvm.findClass]; exact h1, hi', h3, by rw [he]; exact h4, h5, h6, h7, h8, by rw [he]; exact h9, h10⟩
theorem vx_L.kept {C n d : String} {A : Nat → Prop} {U : State} {H H1 : Heap} (h : vx_L C n d A U H) (hq : ∀ a : Nat, a < H.size → ¬ A a → H1[a]? = H[a]?) : vx_L C n d A U H1 := by
  obtain ⟨c, k, i, f, a, cell, h1, h2, h3, h4, h5, h6, h7, h8, h9, h10⟩ := h
  exact ⟨c, k, i, f, a, cell, h1, h2, h3, h4, by rw [hq a (Array.getElem?_eq_some_iff.mp h5).1 h10]; exact h5, h6, h7, h8, h9, h10⟩
theorem vx_L.narrow {C n d : String} {A B : Nat → Prop} {U : State} {H : Heap} (h : vx_L C n d A U H) (hAB : ∀ q, B q → A q) : vx_L C n d B U H := by
  obtain ⟨c, k, i, f, a, cell, h1, h2, h3, h4, h5, h6, h7, h8, h9, h10⟩ := h
  exact ⟨c, k, i, f, a, cell, h1, h2, h3, h4, h5, h6, h7, h8, h9, fun z => h10 (hAB _ z)⟩
theorem vx_L.word {C n d : String} {A : Nat → Prop} {s : State} {args : Array Value} (h : vx_L C n d A s s.heap) : (Cond.laysStatic C n d).before args s = true := by
  obtain ⟨c, k, i, f, a, cell, h1, h2, h3, h4, h5, h6, h7, h8, h9, -⟩ := h
  show (Cond.laysStatic C n d).holds args s none s [] = true
  exact Cond.laysStatic_of h1 h2 h3 h4 h5 h6 h7 h8 h9
/-- .. and what it holds: null or some reference -/
def vx_Zq (C n d : String) (A : Nat → Prop) (U : State) (H : Heap) : Prop := va_Zq C n d A U H ∧ vx_L C n d A U H
theorem vx_Zq.moved {C n d : String} {A : Nat → Prop} {u U : State} {H : Heap} (hvm : u.vm.Alike U.vm) (h : vx_Zq C n d A u H) : vx_Zq C n d A U H := ⟨va_Zq.moved hvm h.1, vx_L.moved hvm h.2⟩
theorem vx_Zq.kept {C n d : String} {A : Nat → Prop} {U : State} {H H1 : Heap} (h : vx_Zq C n d A U H) (hq : ∀ a : Nat, a < H.size → ¬ A a → H1[a]? = H[a]?) : vx_Zq C n d A U H1 := ⟨va_Zq.kept h.1 hq, vx_L.kept h.2 hq⟩
theorem vx_Zq.narrow {C n d : String} {A B : Nat → Prop} {U : State} {H : Heap} (h : vx_Zq C n d A U H) (hAB : ∀ q, B q → A q) : vx_Zq C n d B U H := ⟨va_Zq.narrow h.1 hAB, vx_L.narrow h.2 hAB⟩
theorem vx_Zqof {args : Array Value} {s : State} {C n d : String} {A : Nat → Prop} (hl : (Cond.laysStatic C n d).before args s = true) (hini : (Cond.initialized C).before args s = true) (h : (Cond.isRef (.static C n d)).before args s = true) (hA : ∀ a : Nat, a < s.heap.size → ¬ A a) : vx_Zq C n d A s s.heap := by
  refine ⟨va_Zqof hl hini h hA, ?_⟩
  obtain ⟨c, k, i, f, a, cell, h1, h2, h3, h4, h5, h6, h7, h8, h9⟩ := Cond.laysStatic_spec hl
  exact ⟨c, k, i, f, a, cell, h1, h2, h3, h4, h5, h6, h7, h8, h9, hA a (Array.getElem?_eq_some_iff.mp h5).1⟩
theorem vx_isRef {C n d : String} {v : Value} {A : Nat → Prop} {s : State} {args : Array Value} (h : va_Z C n d v A s s.heap) (hv : v.isRef = true) : (Cond.isRef (.static C n d)).before args s = true := by
  obtain ⟨cf, kf, fi, f, a, cell, h1, h2, h3, h4, h5, h6, h7, -⟩ := h
  have he : (Term.static C n d).eval args s none [] s = some v := by
    simp [Term.eval, State.fieldNamed?, h1, h2, h4, h5, h6, h7]
  simp only [Cond.before, Cond.holds, Cond.value, he]
  cases v <;> simp_all [Value.isRef]
theorem vx_isRefq {C n d : String} {A : Nat → Prop} {s : State} {args : Array Value} (h : va_Zq C n d A s s.heap) : (Cond.isRef (.static C n d)).before args s = true := by
  rcases h with h | ⟨t, h⟩
  · exact vx_isRef h rfl
  · exact vx_isRef h rfl
/-- the same frame, seen from here: as if the method were called anew in this heap -/
theorem vx_rebase {T : State} (X : Stand p l e R s m args below meth c T locs cells slots) {R' : Room} (hf : R'.frames ≤ R.frames) (hl : R'.locals ≤ R.locals) (hc : cells + R'.cells ≤ R.cells) (hs : slots + R'.slots ≤ R.slots) :
    Stand p l e R' ((T.setVm s.vm).setFrames (.invoking m args :: below)) m args below meth c T [] 0 0 := by
  have htop : (T.setVm s.vm).topJava?.isSome := X.here.top
  have hF : ((T.setVm s.vm).setFrames (.invoking m args :: below)).frames = .invoking m args :: below := State.frames_setFrames _ (State.cur_lt_of_top htop)
  obtain ⟨g₀, hg0⟩ := Option.isSome_iff_exists.mp htop
  obtain ⟨r, hr⟩ := State.topJava?_eq_some.mp hg0
  have hl9 : e.platform.stackLimits (T.setVm s.vm).me = e.platform.stackLimits s.me := X.limits
  have hb9 : (T.setVm s.vm).me.stackBytes = s.me.stackBytes := X.bytes
  refine ⟨X.admits, X.cas, X.clock, hF, ?_, X.hears, X.method, X.code, X.here, X.tail, X.warmed, ?_, ?_, ?_⟩
  · have h := X.room
    have hU : ((T.setVm s.vm).setFrames (.invoking m args :: below)).localsInUse = s.localsInUse := by
      rw [State.localsInUse_invoking hF (meth := meth) (c := c) X.method X.code, State.localsInUse_invoking X.frames X.method X.code]
    simp only [State.hasRoom, Bool.and_eq_true, decide_eq_true_eq] at h ⊢
    obtain ⟨⟨⟨⟨h1, h2, h3, h4, h5, h6⟩, h7⟩, h8⟩, h9⟩ := h
    rw [X.frames, List.length_cons] at h2 h3
    have q1 := X.heapSize
    have q2 := X.used
    simp only [hF, hU, List.length_cons, State.stackLimits_setFrames, State.stackBytes_setFrames, hl9, hb9]
    refine ⟨⟨⟨⟨by omega, by omega, by omega, by omega, by omega, h6⟩, ?_⟩, ?_⟩, X.book⟩
    · show T.heap.size + R'.cells ≤ e.platform.maxCells
      omega
    · show T.slotsUsed + R'.slots ≤ e.platform.maxSlots
      omega
  · rw [State.stackLimits_setFrames]; rfl
  · rw [State.stackBytes_setFrames]; rfl
  · refine ⟨?_, Nat.le_refl _, Nat.le_refl _, ?_, ?_, fun a c9 h9 => ⟨c9, h9, rfl, rfl, fun _ _ => rfl⟩⟩
    · obtain ⟨t, ht, -⟩ := State.frames_cons hr
      show T.setVm s.vm = { ((T.setVm s.vm).setFrames (.invoking m args :: below)).setFrames (T.setVm s.vm).frames with heap := T.heap, slotsUsed := T.slotsUsed }
      rw [State.setFrames_setFrames, State.setFrames_self ht]
      rfl
    · show T.slotsUsed = T.slotsUsed + ((T.heap.toList.drop T.heap.size).map (·.slots.size)).sum
      rw [List.drop_eq_nil_of_le (Nat.le_of_eq Array.length_toList)]
      rfl
    · show ((T.heap.toList.drop T.heap.size).map (·.slots.size)).sum ≤ 0
      rw [List.drop_eq_nil_of_le (Nat.le_of_eq Array.length_toList)]
      exact Nat.le_refl _
/-- 'throw new E()': new; dup; invokespecial; athrow -/
theorem vx_throw0 {cc : ByteArray} {pc : Nat} (hexec : p.tables.exec = Jvm.exec) (hb : c.code = cc) (hl : l.stackTraces = false) {own cls : String} {names : List String} {ik ic mc ms : Nat} {A : Nat → Prop}
    (hown : s.vm.findClass own = some m.cls) (hcls : Bundle.fit cls = true) (hnames : ∀ n ∈ names, Bundle.fit n = true)
    (hk : (Cond.classLink own ik cls).before args s = true) (hini : (Cond.initialized cls).before args s = true) (hat : ∀ w ∈ vx_at0 own ic cls names, w.before args s = true)
    (hgood : ∀ w ∈ Cond.classLink own ik cls :: Cond.initialized cls :: vx_at0 own ic cls names, vx_ot w = true)
    (hU : vx_Zq Bundle.tN "UNASSIGNED_STACK" Bundle.steD A s s.heap) (hN : vx_Zq Bundle.tN "SUPPRESSED_SENTINEL" Bundle.listD A s s.heap) (hS : va_S A s.heap H locs) (hsize : ls.size = c.maxLocals)
    (d0 : decode cc pc = .ok (.new ik, 3)) (d3 : decode cc (pc + 3) = .ok (.dup, 1)) (d4 : decode cc (pc + 4) = .ok (.invokespecial ic, 3)) (d7 : decode cc (pc + 7) = .ok (.athrow, 1))
    (hout : ∀ x ∈ c.exceptionTable.toList, covers x (pc + 7) = false)
    (hRframes : names.length + 3 < R.frames) (hRlocals : (rest.map fun v => v.category).sum + (13 * (names.length + 1) + 42) ≤ R.locals) (hRcells : cells + 1 ≤ R.cells) (hRslots : slots + 6 ≤ R.slots) (hlocks : meth.locks = false)
    (hx : ∀ t : State, s.vm.Alike t.vm → H.size ≤ t.heap.size → (∀ q : Nat, q < H.size → t.heap[q]? = H[q]?) → XC cls s t)
    (hf : ∀ z ∈ locs, free z.base) (hc : cells + 1 ≤ mc) (hs : slots + 6 ≤ ms) :
    W p l e R s m args below meth c H locs cells slots (vx_MQ below Qc XC args s mc ms free) (F0 m pc ls rest) := by
  intro T hT X
  have htr : e.platform.stackTraces = false := (show e.platform.stackTraces = l.stackTraces by rw [X.admits.platform]).trans hl
  have Y := vx_rebase X (R' := { frames := R.frames, locals := R.locals, cells := 1, slots := 6 }) (Nat.le_refl _) (Nat.le_refl _) hRcells hRslots
  obtain ⟨s', hA⟩ : ∃ z, z = (T.setVm s.vm).setFrames (.invoking m args :: below) := ⟨_, rfl⟩
  rw [← hA] at Y
  have hvm : s'.vm = s.vm := by rw [hA]; rfl
  have hhp : s'.heap = H := by rw [hA]; exact hT
  have hW0 : s.WarmedH s'.vm := by rw [hvm]; exact State.WarmedH.refl s
  have hat' : ∀ w ∈ vx_at0 own ic cls names, w.before args s' = true := fun w hw => vx_ot_at hW0 hvm.symm (hgood w (List.mem_cons_of_mem _ (List.mem_cons_of_mem _ hw))) (hat w hw)
  have hk' : (Cond.classLink own ik cls).before args s' = true := vx_ot_at hW0 hvm.symm (hgood _ List.mem_cons_self) hk
  have hini' : (Cond.initialized cls).before args s' = true := vx_ot_at hW0 hvm.symm (hgood _ (List.mem_cons_of_mem _ List.mem_cons_self)) hini
  have hU' : vx_Zq Bundle.tN "UNASSIGNED_STACK" Bundle.steD A s' s'.heap := by rw [hhp]; exact vx_Zq.moved hW0.alike (hU.kept hS.2.1)
  have hN' : vx_Zq Bundle.tN "SUPPRESSED_SENTINEL" Bundle.listD A s' s'.heap := by rw [hhp]; exact vx_Zq.moved hW0.alike (hN.kept hS.2.1)
  have h : ∀ w ∈ Bundle.ownAtoms0 own ic cls names, w.before args s' = true := vx_own hat' (vx_isRefq hU'.1) (vx_isRefq hN'.1) hU'.2.word hN'.2.word
  have hown' : s'.vm.findClass own = some m.cls := by rw [hvm]; exact hown
  have hins : (Cond.instantiable cls 6).before args s' = true := h _ (by simp [Bundle.ownAtoms0])
  obtain ⟨vm₁, cX, kX, hfX, hkX, -, -, X₁, st1⟩ := Y.newCold hexec (own := own) (C := cls) (index := ik) (n := 6) hown' hk' hins hini'
    (g := F0 m pc ls rest) rfl (by rw [hb]; exact d0) (Nat.le_refl _) (Nat.le_refl _)
  generalize hT1 : (T.setVm vm₁).pushCell { cls := cX, slots := kX.instanceTypes.map defaultValue, vm := .none } = T1 at X₁ st1
  have hcat : (Value.ref T.heap.size).category = 1 := rfl
  have hcellA : T1.heap[T.heap.size]? = some (freshCell cX kX) := by rw [← hT1]; exact State.heap_pushCell_size _ _
  have d3' : decode c.code (pc + 3) = .ok (.dup, 1) := by rw [hb]; exact d3
  obtain ⟨U, hsteps, hrun, hend, hW, hsame, ce, hce, hO⟩ := X₁.ctorThrow0 hexec htr (own := own) (cls := cls) (names := names) (ic := ic) hown' hcls hnames h (fun x hx => nomatch hx) hfX hkX hcellA (by rw [hhp, hT]; exact Nat.le_refl _)
    (g := { method := m, pc := pc + 4, locals := ls, stack := .ref T.heap.size :: .ref T.heap.size :: rest, locked := none }) rfl hsize rfl rfl (rest := rest) rfl
    (by rw [hb]; exact d4) (by rw [hb]; exact d7) hout hRframes (by simp only [List.map_cons, List.sum_cons, hcat]; omega) hlocks
  obtain ⟨f1, f2⟩ := vx_frame hsame
  rw [hhp] at f1 f2
  have hWs : s.WarmedH U.vm := State.WarmedH.trans hW0 hW
  have hcl : s.vm.findClass cls = some ce.cls := by
    have h9 := hO.cls
    rw [hvm] at h9
    exact h9
  have hall : s.sameButNew ({ U with vm := s.vm } : State) locs mc ms := by
    subst hA
    obtain ⟨e1, e2⟩ := hsame
    rw [State.setFrames_setFrames] at e1
    have h2 : (T.setVm s.vm).sameButNew ({ U with vm := s.vm } : State) [] (0 + 1) (0 + 6) := ⟨e1, e2⟩
    have h3 := X.same.trans h2
    rw [List.append_nil] at h3
    exact h3.mono hc hs
  refine ⟨U, ?_, .threw T.heap.size, hrun, hend, Or.inr ⟨T.heap.size, rfl, cls, ce, locs, hx U hWs.alike f1 (fun q hq => f2 q hq (fun z hz => nomatch hz)), hce, hO.vm, hcl, hWs, hall, hf⟩⟩
  refine st1 _ ?_
  show Steps p.tables e below (T1.setTop { method := m, pc := pc + 3, locals := ls, stack := .ref T.heap.size :: rest, locked := none }) _
  jvm_step X₁.here [X₁.here.top, hexec, d3', Value.category]
  exact hsteps
/-- 'throw new E("text")': new; dup; ldc; invokespecial; athrow -/
theorem vx_throwS {cc : ByteArray} {pc : Nat} (hexec : p.tables.exec = Jvm.exec) (hb : c.code = cc) (hl : l.stackTraces = false) {own cls text : String} {names : List String} {ik is ic mc ms sa : Nat} {A : Nat → Prop}
    (hown : s.vm.findClass own = some m.cls) (hcls : Bundle.fit cls = true) (hnames : ∀ n ∈ names, Bundle.fit n = true)
    (hk : (Cond.classLink own ik cls).before args s = true) (hini : (Cond.initialized cls).before args s = true) (hstr : vk_R own is text sa s) (hat : ∀ w ∈ vx_atS own ic cls names, w.before args s = true)
    (hgood : ∀ w ∈ Cond.classLink own ik cls :: Cond.initialized cls :: vx_atS own ic cls names, vx_ot w = true)
    (hU : vx_Zq Bundle.tN "UNASSIGNED_STACK" Bundle.steD A s s.heap) (hN : vx_Zq Bundle.tN "SUPPRESSED_SENTINEL" Bundle.listD A s s.heap) (hS : va_S A s.heap H locs) (hsize : ls.size = c.maxLocals)
    (d0 : decode cc pc = .ok (.new ik, 3)) (d3 : decode cc (pc + 3) = .ok (.dup, 1)) (d4 : decode cc (pc + 4) = .ok (.ldc is, 2)) (d6 : decode cc (pc + 6) = .ok (.invokespecial ic, 3)) (d9 : decode cc (pc + 9) = .ok (.athrow, 1))
    (hout : ∀ x ∈ c.exceptionTable.toList, covers x (pc + 9) = false)
    (hRframes : names.length + 3 < R.frames) (hRlocals : (rest.map fun v => v.category).sum + (13 * (names.length + 1) + 43) ≤ R.locals) (hRcells : cells + 1 ≤ R.cells) (hRslots : slots + 6 ≤ R.slots) (hlocks : meth.locks = false)
    (hx : ∀ t : State, s.vm.Alike t.vm → H.size ≤ t.heap.size → (∀ q : Nat, q < H.size → t.heap[q]? = H[q]?) → XC cls s t)
    (hf : ∀ z ∈ locs, free z.base) (hc : cells + 1 ≤ mc) (hs : slots + 6 ≤ ms) :
    W p l e R s m args below meth c H locs cells slots (vx_MQ below Qc XC args s mc ms free) (F0 m pc ls rest) := by
  intro T hT X
  have htr : e.platform.stackTraces = false := (show e.platform.stackTraces = l.stackTraces by rw [X.admits.platform]).trans hl
  have Y := vx_rebase X (R' := { frames := R.frames, locals := R.locals, cells := 1, slots := 6 }) (Nat.le_refl _) (Nat.le_refl _) hRcells hRslots
  obtain ⟨s', hA⟩ : ∃ z, z = (T.setVm s.vm).setFrames (.invoking m args :: below) := ⟨_, rfl⟩
  rw [← hA] at Y
  have hvm : s'.vm = s.vm := by rw [hA]; rfl
  have hhp : s'.heap = H := by rw [hA]; exact hT
  have hW0 : s.WarmedH s'.vm := by rw [hvm]; exact State.WarmedH.refl s
  have hat' : ∀ w ∈ vx_atS own ic cls names, w.before args s' = true := fun w hw => vx_ot_at hW0 hvm.symm (hgood w (List.mem_cons_of_mem _ (List.mem_cons_of_mem _ hw))) (hat w hw)
  have hk' : (Cond.classLink own ik cls).before args s' = true := vx_ot_at hW0 hvm.symm (hgood _ List.mem_cons_self) hk
  have hini' : (Cond.initialized cls).before args s' = true := vx_ot_at hW0 hvm.symm (hgood _ (List.mem_cons_of_mem _ List.mem_cons_self)) hini
  have hU' : vx_Zq Bundle.tN "UNASSIGNED_STACK" Bundle.steD A s' s'.heap := by rw [hhp]; exact vx_Zq.moved hW0.alike (hU.kept hS.2.1)
  have hN' : vx_Zq Bundle.tN "SUPPRESSED_SENTINEL" Bundle.listD A s' s'.heap := by rw [hhp]; exact vx_Zq.moved hW0.alike (hN.kept hS.2.1)
  have h : ∀ w ∈ Bundle.ownAtoms own ic cls names, w.before args s' = true := vx_own hat' (vx_isRefq hU'.1) (vx_isRefq hN'.1) hU'.2.word hN'.2.word
  have hown' : s'.vm.findClass own = some m.cls := by rw [hvm]; exact hown
  have hins : (Cond.instantiable cls 6).before args s' = true := h _ (by simp [Bundle.ownAtoms])
  obtain ⟨vm₁, cX, kX, hfX, hkX, -, -, X₁, st1⟩ := Y.newCold hexec (own := own) (C := cls) (index := ik) (n := 6) hown' hk' hins hini'
    (g := F0 m pc ls rest) rfl (by rw [hb]; exact d0) (Nat.le_refl _) (Nat.le_refl _)
  generalize hT1 : (T.setVm vm₁).pushCell { cls := cX, slots := kX.instanceTypes.map defaultValue, vm := .none } = T1 at X₁ st1
  have hcat : (Value.ref T.heap.size).category = 1 := rfl
  have hcellA : T1.heap[T.heap.size]? = some (freshCell cX kX) := by rw [← hT1]; exact State.heap_pushCell_size _ _
  have d3' : decode c.code (pc + 3) = .ok (.dup, 1) := by rw [hb]; exact d3
  have d4' : decode c.code (pc + 4) = .ok (.ldc is, 2) := by rw [hb]; exact d4
  have hstr' : vk_R own is text sa s' := vk_R.warm hW0 hstr
  obtain ⟨U, hsteps, hrun, hend, hW, hsame, ce, hce, hO⟩ := X₁.ctorThrowS hexec htr (own := own) (cls := cls) (names := names) (ic := ic) hown' hcls hnames h (fun x hx => nomatch hx) hfX hkX hcellA (by rw [hhp, hT]; exact Nat.le_refl _) (msg := .ref sa) rfl
    (g := { method := m, pc := pc + 6, locals := ls, stack := .ref sa :: .ref T.heap.size :: .ref T.heap.size :: rest, locked := none }) rfl hsize rfl rfl (rest := rest) rfl
    (by rw [hb]; exact d6) (by rw [hb]; exact d9) hout hRframes (by simp only [List.map_cons, List.sum_cons, hcat]; omega) hlocks
  obtain ⟨f1, f2⟩ := vx_frame hsame
  rw [hhp] at f1 f2
  have hWs : s.WarmedH U.vm := State.WarmedH.trans hW0 hW
  have hcl : s.vm.findClass cls = some ce.cls := by
    have h9 := hO.cls
    rw [hvm] at h9
    exact h9
  have hall : s.sameButNew ({ U with vm := s.vm } : State) locs mc ms := by
    subst hA
    obtain ⟨e1, e2⟩ := hsame
    rw [State.setFrames_setFrames] at e1
    have h2 : (T.setVm s.vm).sameButNew ({ U with vm := s.vm } : State) [] (0 + 1) (0 + 6) := ⟨e1, e2⟩
    have h3 := X.same.trans h2
    rw [List.append_nil] at h3
    exact h3.mono hc hs
  refine ⟨U, ?_, .threw T.heap.size, hrun, hend, Or.inr ⟨T.heap.size, rfl, cls, ce, locs, hx U hWs.alike f1 (fun q hq => f2 q hq (fun z hz => nomatch hz)), hce, hO.vm, hcl, hWs, hall, hf⟩⟩
  refine st1 _ ?_
  show Steps p.tables e below (T1.setTop { method := m, pc := pc + 3, locals := ls, stack := .ref T.heap.size :: rest, locked := none }) _
  jvm_step X₁.here [X₁.here.top, hexec, d3', Value.category]
  exact X₁.ldcString hexec (own := own) (text := text) (index := is) (a := sa) hown' hstr'.1 hstr'.2
    (g := { method := m, pc := pc + 4, locals := ls, stack := .ref T.heap.size :: .ref T.heap.size :: rest, locked := none }) rfl d4' _ hsteps
/-- 'throw new E("text")', the text by a wide index -/
theorem vx_throwSW {cc : ByteArray} {pc : Nat} (hexec : p.tables.exec = Jvm.exec) (hb : c.code = cc) (hl : l.stackTraces = false) {own cls text : String} {names : List String} {ik is ic mc ms sa : Nat} {A : Nat → Prop}
    (hown : s.vm.findClass own = some m.cls) (hcls : Bundle.fit cls = true) (hnames : ∀ n ∈ names, Bundle.fit n = true)
    (hk : (Cond.classLink own ik cls).before args s = true) (hini : (Cond.initialized cls).before args s = true) (hstr : vk_R own is text sa s) (hat : ∀ w ∈ vx_atS own ic cls names, w.before args s = true)
    (hgood : ∀ w ∈ Cond.classLink own ik cls :: Cond.initialized cls :: vx_atS own ic cls names, vx_ot w = true)
    (hU : vx_Zq Bundle.tN "UNASSIGNED_STACK" Bundle.steD A s s.heap) (hN : vx_Zq Bundle.tN "SUPPRESSED_SENTINEL" Bundle.listD A s s.heap) (hS : va_S A s.heap H locs) (hsize : ls.size = c.maxLocals)
    (d0 : decode cc pc = .ok (.new ik, 3)) (d3 : decode cc (pc + 3) = .ok (.dup, 1)) (d4 : decode cc (pc + 4) = .ok (.ldc_w is, 3)) (d7 : decode cc (pc + 7) = .ok (.invokespecial ic, 3)) (d10 : decode cc (pc + 10) = .ok (.athrow, 1))
    (hout : ∀ x ∈ c.exceptionTable.toList, covers x (pc + 10) = false)
    (hRframes : names.length + 3 < R.frames) (hRlocals : (rest.map fun v => v.category).sum + (13 * (names.length + 1) + 43) ≤ R.locals) (hRcells : cells + 1 ≤ R.cells) (hRslots : slots + 6 ≤ R.slots) (hlocks : meth.locks = false)
    (hx : ∀ t : State, s.vm.Alike t.vm → H.size ≤ t.heap.size → (∀ q : Nat, q < H.size → t.heap[q]? = H[q]?) → XC cls s t)
    (hf : ∀ z ∈ locs, free z.base) (hc : cells + 1 ≤ mc) (hs : slots + 6 ≤ ms) :
    W p l e R s m args below meth c H locs cells slots (vx_MQ below Qc XC args s mc ms free) (F0 m pc ls rest) := by
  intro T hT X
  have htr : e.platform.stackTraces = false := (show e.platform.stackTraces = l.stackTraces by rw [X.admits.platform]).trans hl
  have Y := vx_rebase X (R' := { frames := R.frames, locals := R.locals, cells := 1, slots := 6 }) (Nat.le_refl _) (Nat.le_refl _) hRcells hRslots
  obtain ⟨s', hA⟩ : ∃ z, z = (T.setVm s.vm).setFrames (.invoking m args :: below) := ⟨_, rfl⟩
  rw [← hA] at Y
  have hvm : s'.vm = s.vm := by rw [hA]; rfl
  have hhp : s'.heap = H := by rw [hA]; exact hT
  have hW0 : s.WarmedH s'.vm := by rw [hvm]; exact State.WarmedH.refl s
  have hat' : ∀ w ∈ vx_atS own ic cls names, w.before args s' = true := fun w hw => vx_ot_at hW0 hvm.symm (hgood w (List.mem_cons_of_mem _ (List.mem_cons_of_mem _ hw))) (hat w hw)
  have hk' : (Cond.classLink own ik cls).before args s' = true := vx_ot_at hW0 hvm.symm (hgood _ List.mem_cons_self) hk
  have hini' : (Cond.initialized cls).before args s' = true := vx_ot_at hW0 hvm.symm (hgood _ (List.mem_cons_of_mem _ List.mem_cons_self)) hini
  have hU' : vx_Zq Bundle.tN "UNASSIGNED_STACK" Bundle.steD A s' s'.heap := by rw [hhp]; exact vx_Zq.moved hW0.alike (hU.kept hS.2.1)
  have hN' : vx_Zq Bundle.tN "SUPPRESSED_SENTINEL" Bundle.listD A s' s'.heap := by rw [hhp]; exact vx_Zq.moved hW0.alike (hN.kept hS.2.1)
  have h : ∀ w ∈ Bundle.ownAtoms own ic cls names, w.before args s' = true := vx_own hat' (vx_isRefq hU'.1) (vx_isRefq hN'.1) hU'.2.word hN'.2.word
  have hown' : s'.vm.findClass own = some m.cls := by rw [hvm]; exact hown
  have hins : (Cond.instantiable cls 6).before args s' = true := h _ (by simp [Bundle.ownAtoms])
  obtain ⟨vm₁, cX, kX, hfX, hkX, -, -, X₁, st1⟩ := Y.newCold hexec (own := own) (C := cls) (index := ik) (n := 6) hown' hk' hins hini'
    (g := F0 m pc ls rest) rfl (by rw [hb]; exact d0) (Nat.le_refl _) (Nat.le_refl _)
  generalize hT1 : (T.setVm vm₁).pushCell { cls := cX, slots := kX.instanceTypes.map defaultValue, vm := .none } = T1 at X₁ st1
  have hcat : (Value.ref T.heap.size).category = 1 := rfl
  have hcellA : T1.heap[T.heap.size]? = some (freshCell cX kX) := by rw [← hT1]; exact State.heap_pushCell_size _ _
  have d3' : decode c.code (pc + 3) = .ok (.dup, 1) := by rw [hb]; exact d3
  have d4' : decode c.code (pc + 4) = .ok (.ldc_w is, 3) := by rw [hb]; exact d4
  have hstr' : vk_R own is text sa s' := vk_R.warm hW0 hstr
  obtain ⟨U, hsteps, hrun, hend, hW, hsame, ce, hce, hO⟩ := X₁.ctorThrowS hexec htr (own := own) (cls := cls) (names := names) (ic := ic) hown' hcls hnames h (fun x hx => nomatch hx) hfX hkX hcellA (by rw [hhp, hT]; exact Nat.le_refl _) (msg := .ref sa) rfl
    (g := { method := m, pc := pc + 7, locals := ls, stack := .ref sa :: .ref T.heap.size :: .ref T.heap.size :: rest, locked := none }) rfl hsize rfl rfl (rest := rest) rfl
    (by rw [hb]; exact d7) (by rw [hb]; exact d10) hout hRframes (by simp only [List.map_cons, List.sum_cons, hcat]; omega) hlocks
  obtain ⟨f1, f2⟩ := vx_frame hsame
  rw [hhp] at f1 f2
  have hWs : s.WarmedH U.vm := State.WarmedH.trans hW0 hW
  have hcl : s.vm.findClass cls = some ce.cls := by
    have h9 := hO.cls
    rw [hvm] at h9
    exact h9
  have hall : s.sameButNew ({ U with vm := s.vm } : State) locs mc ms := by
    subst hA
    obtain ⟨e1, e2⟩ := hsame
    rw [State.setFrames_setFrames] at e1
    have h2 : (T.setVm s.vm).sameButNew ({ U with vm := s.vm } : State) [] (0 + 1) (0 + 6) := ⟨e1, e2⟩
    have h3 := X.same.trans h2
    rw [List.append_nil] at h3
    exact h3.mono hc hs
  refine ⟨U, ?_, .threw T.heap.size, hrun, hend, Or.inr ⟨T.heap.size, rfl, cls, ce, locs, hx U hWs.alike f1 (fun q hq => f2 q hq (fun z hz => nomatch hz)), hce, hO.vm, hcl, hWs, hall, hf⟩⟩
  refine st1 _ ?_
  show Steps p.tables e below (T1.setTop { method := m, pc := pc + 3, locals := ls, stack := .ref T.heap.size :: rest, locked := none }) _
  jvm_step X₁.here [X₁.here.top, hexec, d3', Value.category]
  exact X₁.ldcStringW hexec (own := own) (text := text) (index := is) (a := sa) hown' hstr'.1 hstr'.2
    (g := { method := m, pc := pc + 4, locals := ls, stack := .ref T.heap.size :: .ref T.heap.size :: rest, locked := none }) rfl d4' _ hsteps
end Ends
section Bodies
variable {l : Launch}
theorem vx_ofW {y : MethodName} {ws ws' : List Cond} {rm : Room} {Pc : Array Value → State → Prop} {Qc : Array Value → State → Outcome → State → Prop} {XC : String → State → State → Prop} {mc ms : Nat} {free : Addr → Prop} {cc : ByteArray} {maxL : Nat} {ret : Option FieldType}
    (hy : plainName y.cls = true) (hw : ws = Cond.code y cc maxL ret :: ws')
    (body : ∀ p e s m args below meth c s₁, BodyLoose p l y (headSpec ws rm) cc maxL ret e s m args below meth c s₁ → c.maxLocals = maxL → (∀ x ∈ c.exceptionTable.toList, False) → Pc args s →
      W p l e (headSpec ws rm).room s m args below meth c s.heap [] 0 0 (vx_MQ below Qc XC args s mc ms free) (entryFrame m args maxL)) : vx_Met l y ws rm Pc Qc XC mc ms free := by
  refine MetFree.of_bodyS (code := cc) (maxLocals := maxL) (ret := ret) hy ?_ ?_
  · intro args s m h hn
    obtain ⟨meth, c, h1, h2, h3, h4, h5, h6, -, -⟩ := Cond.code_spec hn (atoms_spec (ws := ws) h _ (by rw [hw]; exact List.mem_cons_self))
    exact ⟨meth, c, h1, h2, h3, h4, h5, h6⟩
  · intro p e s m args below meth c s₁ B hml hP _
    have hh0 : s₁.heap = s.heap := by rw [B.state]; rfl
    have ht : ∀ x ∈ c.exceptionTable.toList, False := by
      obtain ⟨meth9, c9, h1, h2, -, -, -, -, h7, -⟩ := Cond.code_spec B.named (atoms_spec (ws := ws) B.pre _ (by rw [hw]; exact List.mem_cons_self))
      cases Option.some.inj (h1.symm.trans B.method)
      cases Option.some.inj (h2.symm.trans (Stand.of_body B).code)
      intro x hx
      rw [Array.isEmpty_iff.mp h7] at hx
      cases hx
    obtain ⟨t, a1, o, b1, b2, b3⟩ := body p e s m args below meth c s₁ B hml ht hP s₁ hh0 (Stand.of_body B)
    exact ⟨t, o, a1, b1, b2, b3⟩
/-- the table of a body with handlers -/
theorem vx_table {p : Program} {x y : MethodName} {S : Spec} {cc bytes : ByteArray} {maxL maxL' : Nat} {ret ret' : Option FieldType} {e : Env} {s s₁ : State} {m : MethodId} {args : Array Value} {below : List Frame} {meth : Method} {c : Code} {hh : List (Nat × Nat × Nat × Nat)}
    (B : BodyLoose p l y S cc maxL ret e s m args below meth c s₁) (h : (Cond.codeWith y bytes maxL' ret' hh).before args s = true) : c.exceptionTable.toList = tableOf hh := by
  obtain ⟨m9, meth9, c9, hn9, h1, h2, -, -, h6, -⟩ := Cond.codeWith_spec h
  cases Option.some.inj (hn9.symm.trans B.named)
  cases Option.some.inj (h1.symm.trans B.method)
  cases Option.some.inj (h2.symm.trans (Stand.of_body B).code)
  rw [← h6, table_eq]
end Bodies
end VXA
/-! ===== END ===== -/
/-! ===== BEGIN a static call of a method with an exception table ===== -/
section VXS
variable {p : Program} {l : Launch} {e : Env} {R : Room} {s : State} {m : MethodId} {args : Array Value} {below : List Frame} {meth : Method} {c : Code} {T : State} {H : Heap} {locs : List Loc} {cells slots : Nat}
abbrev vx_CSW (R : Room) (s : State) (args : Array Value) (own : String) (index : Nat) (y : MethodName) (bytes : ByteArray) (maxL : Nat) (ret : Option FieldType) (hh : List (Nat × Nat × Nat × Nat)) (ws : List Cond) (rm : Room) (mc ms n : Nat) : Prop :=
  (rm.cells = mc ∧ rm.slots = ms ∧ rm.frames + 1 ≤ R.frames ∧ 8 + (maxL + 11) + rm.locals ≤ R.locals ∧ (∀ w ∈ ws, ∀ (a' : Array Value) (U : State), s.WarmedH U.vm → w.before a' U = true) ∧ Cond.codeWith y bytes maxL ret hh ∈ ws) ∧
  (Cond.codeWith y bytes maxL ret hh).before args s = true ∧ (Cond.initialized y.cls).before args s = true ∧ (y.cls ≠ "java/lang/invoke/MethodHandle" ∧ y.cls ≠ "java/lang/invoke/VarHandle") ∧
  (∀ sig, parseMethodDescriptor y.desc = some sig → n = sig.parameters.length) ∧ (Cond.methodLink own index y).before args s = true ∧ (Cond.static y).before args s = true
theorem vx_cwSW {own : String} {index maxL mc ms : Nat} {y : MethodName} {bytes : ByteArray} {ret : Option FieldType} {hh : List (Nat × Nat × Nat × Nat)} {Ts ws ws' : List Cond} {rm : Room} (n : Nat) (ht : ∀ w ∈ Ts, w.before args s = true) (hT : GoodIn Ts (va_wsS own index y ws)) (hw : ws = Cond.codeWith y bytes maxL ret hh :: ws') (hrc : rm.cells = mc) (hrs : rm.slots = ms)
    (hd : y.cls ≠ "java/lang/invoke/MethodHandle" ∧ y.cls ≠ "java/lang/invoke/VarHandle" ∧ (parseMethodDescriptor y.desc).map (fun d => d.parameters.length) = some n) (hR : rm.frames + 1 ≤ R.frames ∧ 8 + (maxL + 11) + rm.locals ≤ R.locals) :
    vx_CSW R s args own index y bytes maxL ret hh ws rm mc ms n := by
  have ok : ∀ w ∈ va_wsS own index y ws, w.before args s = true := fun w h => ht w (hT w h).1
  have hG : GoodIn Ts ws := fun w h => hT w (by unfold va_wsS; exact List.mem_append_right _ h)
  have hc : Cond.codeWith y bytes maxL ret hh ∈ ws := by rw [hw]; exact List.mem_cons_self
  refine ⟨⟨hrc, hrs, hR.1, hR.2, pay_in ht hG, hc⟩, ht _ (hG _ hc).1, ok _ (by simp [va_wsS]), ⟨hd.1, hd.2.1⟩, fun sig h => ?_, ok _ (by simp [va_wsS]), ok _ (by simp [va_wsS])⟩
  have h2 := hd.2.2
  rw [h] at h2
  exact (Option.some.inj h2).symm
theorem vx_callSW (X : Stand p l e R s m args below meth c T locs cells slots) (hexec : p.tables.exec = Jvm.exec) {own : String} {index : Nat} {y : MethodName} {bytes : ByteArray} {maxL : Nat} {ret : Option FieldType} {hh : List (Nat × Nat × Nat × Nat)}
    (hown : s.vm.findClass own = some m.cls) (hlink : (Cond.methodLink own index y).before args s = true) (hstat : (Cond.static y).before args s = true) (hinit : (Cond.initialized y.cls).before args s = true)
    (hcode : (Cond.codeWith y bytes maxL ret hh).before args s = true) (hy : y.cls ≠ "java/lang/invoke/MethodHandle" ∧ y.cls ≠ "java/lang/invoke/VarHandle")
    {W9 : Nat} {Pre : Pt → Array Value → Prop} {Post : Pt → Array Value → Option Value → Pt → Prop} (hK : Back l R p e below s args y 3 W9 Pre Post)
    {g : JFrame} (hg : g.method = m) (hsize : g.locals.size = c.maxLocals) {argsL rest : List Value} (hlen : ∀ sig, parseMethodDescriptor y.desc = some sig → argsL.length = sig.parameters.length)
    (hstack : g.stack = argsL.reverse ++ rest) (hW : 2 * g.monitorRoom + (rest.map fun v => v.category).sum ≤ W9) (hdg : decode c.code g.pc = .ok (.invokestatic index, 3))
    (hpre : ∀ vm₁, s.WarmedH vm₁ → Pre ⟨T.setVm vm₁, locs, cells, slots⟩ argsL.toArray) :
    ∃ (v : Option Value) (vm₁ : Vm) (B : Pt), s.WarmedH vm₁ ∧ Stand p l e R s m args below meth c B.U B.locs B.cells B.slots ∧ Post ⟨T.setVm vm₁, locs, cells, slots⟩ argsL.toArray v B ∧
      ∀ target, Steps p.tables e below (B.U.setTop { g with pc := g.pc + 3, stack := v.toList ++ rest }) target → Steps p.tables e below (T.setTop g) target := by
  obtain ⟨mk, methM, cM, hnamed, hmethM, -, -, -, -, -, -, hsigM⟩ := Cond.codeWith_spec hcode
  have hstatic : methM.isStatic = true := Cond.static_spec hnamed hmethM hstat
  obtain ⟨kP, hkP, -⟩ := className_of_methodNamed hnamed
  have hinitP : kP.init = .initialized := Cond.initialized_spec (findClass_of_methodNamed hnamed) hkP hinit
  obtain ⟨vm₁, X₁, hstep₁⟩ := X.invokestatic hexec hown hlink hnamed hmethM hstatic hkP hinitP hy (g := g) hg (argsL := argsL) (rest := rest) (hlen _ hsigM) hstack hdg
  obtain ⟨v, B, X', hpost, hsteps⟩ := hK m meth c ⟨T.setVm vm₁, locs, cells, slots⟩ { g with stack := rest } (.invokestatic index) mk argsL.toArray X₁ hg hsize hdg hW (X₁.named hnamed) (hpre vm₁ X₁.warmed)
  exact ⟨v, vm₁, B, X₁.warmed, X', hpost, fun target h => hstep₁ _ fun acts => by rw [doInvoke_state]; exact hsteps.trans h⟩
theorem vx_runSW {y : MethodName} {bytes cc : ByteArray} {maxL nL mc ms n index : Nat} {ret : Option FieldType} {hh : List (Nat × Nat × Nat × Nat)} {ws : List Cond} {rm : Room} {Pc : Array Value → State → Prop} {Qc : Array Value → State → Outcome → State → Prop} {free : Addr → Prop} {Ts : List Cond} {own : String} {As rest : List Value} {g : JFrame}
    (S : CallFix p m c cc nL s args Ts own) (hM : Met l y ws rm Pc Qc mc ms free) (cw : vx_CSW R s args own index y bytes maxL ret hh ws rm mc ms n) (hp : PreS s H Pc As)
    (hg : g.method = m) (hn : As.length = n) (hsize : g.locals.size = nL) (hstack : g.stack = As.reverse ++ rest) (hW : 2 * g.monitorRoom + (rest.map fun v => v.category).sum ≤ 8) (hdg : decode cc g.pc = .ok (.invokestatic index, 3)) (hf : cells + mc ≤ R.cells ∧ slots + ms ≤ R.slots) :
    va_Run p l e R s m args below meth c H locs cells slots mc ms g rest (Qc As.toArray) (free) := by
  obtain ⟨⟨hrc, hrs, hfr, hlo, hws, hcw⟩, hcode, hini, hy, hlen, hl, hstt⟩ := cw
  have hK : Back l R p e below s args y 3 8 (PreOf R mc ms Pc) (PostOf Qc mc ms free) := va_backW (hh := hh) (bytes := bytes) (maxL := maxL) (ret := ret) hM hp.1 hrc hrs hfr hlo hws hcw (fun a' U hW => word_at hW (Or.inl (by first | rfl | simp [Cond.onTables, Cond.keeps, Cond.steady])) hini)
  obtain ⟨hx, hb, hml, ho, -⟩ := S
  intro T hT X
  obtain ⟨v, vm₁, ⟨U', l2, c2, s2⟩, hW₁, X', ⟨g', mk, t, L, e1, e2, hq, h1, hL, h2, h3⟩, st⟩ := vx_callSW X hx (hh := hh) (bytes := bytes) (maxL := maxL) (ret := ret) ho hl hstt hini hcode hy hK hg (hsize.trans hml.symm) (argsL := As) (rest := rest) (fun sig h => hn.trans (hlen sig h)) hstack hW (by rw [hb]; exact hdg)
    (fun vm₁ hW₁ => ⟨hf.1, hf.2, hp.2 (T.setVm vm₁) hT hW₁⟩)
  dsimp only [Pt.U, Pt.locs, Pt.cells, Pt.slots] at X' e1 e2 h1 h2 h3 st
  subst h1; subst h2; subst h3
  exact ⟨v, (T.setVm vm₁).calling g' mk As.toArray, t, U', L, hT, X', hL, e1, e2, hq, st⟩
/-- not caught here, past rows that name other classes: it goes on to the caller -/
theorem vx_outP {p : Program} {l : Launch} {e : Env} {R : Room} {s : State} {m : MethodId} {args : Array Value} {below : List Frame} {meth : Method} {c : Code} {H : Heap} {locs : List Loc} {cells slots : Nat} {free : Addr → Prop} {ls : Array Slot} {rest : List Value} {Qc : Array Value → State → Outcome → State → Prop} {XC : String → State → State → Prop}
    {pc : Nat} {own E : String} {ce : Cell} {q : Addr} {mc ms : Nat} (hown : s.vm.findClass own = some m.cls) (hlocks : meth.locks = false)
    (hpass : ∀ z ∈ c.exceptionTable.toList, covers z pc = false ∨ (z.catchType ≠ 0 ∧ ∃ nm : String, (Cond.classLink own z.catchType nm).before args s = true ∧ va_Nc E nm s)) (hcell : H[q]? = some ce) (hv : ce.vm = .none) (hcl : s.vm.findClass E = some ce.cls)
    (hx : ∀ t : State, t.heap = H → s.vm.Alike t.vm → XC E s t) (hf : ∀ z ∈ locs, free z.base) (hc : cells ≤ mc) (hs : slots ≤ ms) :
    vx_W p l e R s m args below meth c H locs cells slots (vx_MQ below Qc XC args s mc ms free) (F0 m pc ls rest) q := by
  intro T hT X
  have hpl : e.platform.magicAccessors = ({} : Platform).magicAccessors := by rw [X.admits.platform]
  obtain ⟨vm', hW', X', st⟩ := X.outThrough hlocks q (g := F0 m pc ls rest) rfl rfl rfl (cell := ce) (by rw [hT]; exact hcell) (by rw [hv]; rfl)
    (by obtain ⟨k9, h9, -⟩ := Vm.findClass_spec hcl; exact ⟨k9, h9⟩) (fun z hz => by
      rcases hpass z hz with h | ⟨hz0, nm, hl1, hn1⟩
      · exact Or.inl h
      · obtain ⟨c6, hc6, hcl6⟩ := Cond.classLink_spec hown hl1 e.platform hpl
        obtain ⟨a8, b8, h1, h2, h3⟩ := hn1
        cases Option.some.inj (h1.symm.trans hcl)
        cases Option.some.inj (h2.symm.trans hc6)
        exact Or.inr ⟨hz0, _, hcl6, h3⟩)
  obtain ⟨g₀, hfr⟩ := X'.frames_eq
  have hcell9 : ((T.setVm vm').setFrames (.throwing q :: below)).heap[q]? = some ce := by
    show T.heap[q]? = some ce
    rw [hT]; exact hcell
  have hend : Ended ((T.setVm vm').setFrames (.throwing q :: below)) below (.threw q) := State.frames_setFrames _ (State.cur_lt_of_frames hfr)
  refine ⟨(T.setVm vm').setFrames (.throwing q :: below), ?_, .threw q, X'.here.running, hend, Or.inr ⟨q, rfl, E, ce, locs, hx _ hT (X'.ends _).1.alike, hcell9, hv, hcl, (X'.ends _).1, (X'.ends _).2.mono hc hs, hf⟩⟩
  rw [X.pushThrowing_eq]
  exact st
/-- a thing of a world lies in the heap -/
theorem vx_lt {D : va_G} {cl : List vw_C} {ws : va_W} {H1 : Heap} (h : va_P D cl ws H1) {k : Nat} {q : Nat × va_E} (hk : ws[k]? = some q) : q.1 < H1.size := (h k q hk).lt
end VXS
/-! ===== END ===== -/
/-! ===== BEGIN methods with a table of their own: called by a name, returning or throwing ===== -/
section VXH
/-! vx_backW, vx_callVX, vx_callSX, vx_callVW, vx_runVW, vx_runVX, vx_runSX, vx_ofWH follow the same proofs as their sisters above (Free/Laws.lean, Shelf42/LK1.lean); vx_outP calls Shelf42/NT130.lean (outThrough). -/
section
variable {l : Launch} {R : Room} {p : Program} {e : Env} {below : List Frame} {s : State} {sargs : Array Value} {y : MethodName} {len W9 : Nat}
theorem vx_backW {ws : List Cond} {rm : Room} {Pc : Array Value → State → Prop} {Qc : Array Value → State → Outcome → State → Prop} {XC : String → State → State → Prop} {mc ms : Nat} {free : Addr → Prop} {bytes : ByteArray} {maxL : Nat} {ret : Option FieldType} {hh : List (Nat × Nat × Nat × Nat)}
    (hM : vx_Met l y ws rm Pc Qc XC mc ms free) (hblind : FrameBlind Pc) (hrc : rm.cells = mc) (hrs : rm.slots = ms)
    (hframes : rm.frames + 1 ≤ R.frames) (hlocals : W9 + (maxL + 11) + rm.locals ≤ R.locals)
    (hws : ∀ w ∈ ws, ∀ a' U, s.WarmedH U.vm → w.before a' U = true) (hcode : Cond.codeWith y bytes maxL ret hh ∈ ws) (hinit : ∀ a' U, s.WarmedH U.vm → (Cond.initialized y.cls).before a' U = true) :
    vx_Back l R p e below s sargs y len W9 (PreOf R mc ms Pc) (PostOf Qc mc ms free) (vx_Post XC mc ms free) := by
  intro m meth c A g ig mk a X hg hsize hdg hW hn hp
  have h1 : (headSpec ws rm).pre.before a A.U = true := atoms_intro fun w hw => hws w hw _ _ X.warmed
  have h2 : (Cond.codeWith y bytes maxL ret hh).before a A.U = true := hws _ hcode _ _ X.warmed
  have h3 : (Cond.initialized y.cls).before a A.U = true := hinit _ _ X.warmed
  have h4 : A.cells + (headSpec ws rm).room.cells ≤ R.cells := by rw [show (headSpec ws rm).room.cells = mc from hrc]; exact hp.1
  have h5 : A.slots + (headSpec ws rm).room.slots ≤ R.slots := by rw [show (headSpec ws rm).room.slots = ms from hrs]; exact hp.2.1
  have hPc : Pc a (A.U.calling g mk a) := hblind _ _ _ _ hp.2.2
  obtain ⟨U, Ls, c0, s0⟩ := A
  dsimp only [Pt.U, Pt.locs, Pt.cells, Pt.slots] at h1 h2 h3 h4 h5 X hn hPc ⊢
  obtain ⟨m9, methY, cY, hn9, hmY, hcY, -, hlY, -⟩ := Cond.codeWith_spec h2
  cases Option.some.inj (hn9.symm.trans hn)
  obtain ⟨kY, hkY, -⟩ := className_of_methodNamed hn
  have hinitY : kY.init = .initialized := Cond.initialized_spec (findClass_of_methodNamed hn) hkY h3
  have h : At U g.method c below := by rw [hg]; exact X.here
  have hlocals9 : W9 + (maxL + 11) + (headSpec ws rm).room.locals ≤ R.locals := hlocals
  have happ : (headSpec ws rm).appliesLoose y e.platform (U.calling g mk a) = true :=
    Spec.appliesLoose_calling (g := g) h hdg hn hkY hinitY
      (X.room_calling (g := g) (R' := (headSpec ws rm).room) hsize hmY hcY hframes (by rw [hlY]; omega) h4 h5) h1
  obtain ⟨mid, hmid⟩ := h.above
  have hfr : (U.setTop g).frames = (.java g :: mid) ++ below := by rw [State.frames_setTop' g h.top, hmid]; rfl
  obtain ⟨o, s₂, hsteps, -, hend, hq⟩ := Steps.callFree hM p X.admits X.cas X.clock (acts := []) hfr happ hPc trivial
  have hq' : vx_Q Qc XC mc ms free a (U.calling g mk a) o s₂ := hq
  rw [State.frames_setTop' g h.top] at hend
  obtain ⟨g₀, hg0⟩ := Option.isSome_iff_exists.mp h.top
  obtain ⟨r, hr⟩ := State.topJava?_eq_some.mp hg0
  have hr' : (({ U with heap := s₂.heap, slotsUsed := s₂.slotsUsed } : State).setVm s₂.vm).frames = .java g₀ :: r := hr
  rcases hq' with ⟨hqc, L, hfe, hL⟩ | ⟨q, rfl, E, ce, L, hx, hce, hcv, hcl, hW₂, hsm, hL⟩
  · obtain ⟨⟨v, rfl⟩, hW₂, e2, q2, q3, q4, q5, q6⟩ := id hfe
    have e3 : s₂ = ({ (U.calling g mk a).setFrames s₂.frames with heap := s₂.heap, slotsUsed := s₂.slotsUsed } : State).setVm s₂.vm := by
      have : s₂ = ({ s₂ with vm := (U.calling g mk a).vm } : State).setVm s₂.vm := rfl
      rw [e2] at this
      exact this
    obtain ⟨c₂, i₂, len₂, hc₂, hd₂, hf₂⟩ := hend
    have hW' : U.WarmedH s₂.vm := hW₂
    have hcc : c₂ = c := by
      have h1 : s₂.code? g.method = U.code? g.method := by
        rw [State.code?_eq, State.code?_eq, hW'.alike.method?]
      exact Option.some.inj (hc₂.symm.trans (h1.trans h.code))
    subst hcc
    have hlen : len₂ = len := by rw [hdg] at hd₂; cases hd₂; rfl
    subst hlen
    have hs₂ : s₂ = (({ U with heap := s₂.heap, slotsUsed := s₂.slotsUsed } : State).setVm s₂.vm).setTop { g with pc := g.pc + len₂, stack := v.toList ++ g.stack } := by
      refine e3.trans ?_
      rw [hf₂, State.calling_eq h.top, State.setFrames_setFrames, State.setTop_of_frames _ hr', hr]
      rfl
    have hsame : U.sameButNew ({ U with heap := s₂.heap, slotsUsed := s₂.slotsUsed } : State) L mc ms := by
      refine ⟨?_, q2, q3, q4, q5, q6⟩
      obtain ⟨t, ht, -⟩ := State.frames_cons hr
      show ({ U with heap := s₂.heap, slotsUsed := s₂.slotsUsed } : State) = { U.setFrames U.frames with heap := s₂.heap, slotsUsed := s₂.slotsUsed }
      rw [State.setFrames_self ht]
    subst hg
    refine Or.inl ⟨v, ⟨(({ U with heap := s₂.heap, slotsUsed := s₂.slotsUsed } : State).setVm s₂.vm), Ls ++ L, c0 + mc, s0 + ms⟩,
      ⟨X.admits, X.cas, X.clock, X.frames, X.room, X.hears, X.method, X.code, (X.here.setHeapUsed s₂.heap s₂.slotsUsed).setVm hW'.alike, X.tail, State.WarmedH.trans X.warmed hW', X.limits, X.bytes, X.same.trans (hsame.setVm s.vm)⟩,
      ⟨g, mk, s₂, L, rfl, rfl, hqc, rfl, hL, rfl, rfl⟩, ?_⟩
    show Steps p.tables e below _ ((({ U with heap := s₂.heap, slotsUsed := s₂.slotsUsed } : State).setVm s₂.vm).setTop { g with pc := g.pc + len₂, stack := v.toList ++ g.stack })
    rw [← hs₂]
    exact hsteps
  · obtain ⟨e2, q2, q3, q4, q5, q6⟩ := id hsm
    have e3 : s₂ = ({ (U.calling g mk a).setFrames s₂.frames with heap := s₂.heap, slotsUsed := s₂.slotsUsed } : State).setVm s₂.vm := by
      have : s₂ = ({ s₂ with vm := (U.calling g mk a).vm } : State).setVm s₂.vm := rfl
      rw [e2] at this
      exact this
    have hf₂ : s₂.frames = .throwing q :: .java g :: U.frames.tail := hend
    have hW' : U.WarmedH s₂.vm := hW₂
    have hs₂ : s₂ = ((({ U with heap := s₂.heap, slotsUsed := s₂.slotsUsed } : State).setVm s₂.vm).setTop g).pushFrame (.throwing q) := by
      refine e3.trans ?_
      rw [hf₂, State.calling_eq h.top, State.setFrames_setFrames, State.pushFrame, State.frames_setTop _ hr', State.setTop_of_frames _ hr', State.setFrames_setFrames, hr]
      rfl
    have hsame : U.sameButNew ({ U with heap := s₂.heap, slotsUsed := s₂.slotsUsed } : State) L mc ms := by
      refine ⟨?_, q2, q3, q4, q5, q6⟩
      obtain ⟨t, ht, -⟩ := State.frames_cons hr
      show ({ U with heap := s₂.heap, slotsUsed := s₂.slotsUsed } : State) = { U.setFrames U.frames with heap := s₂.heap, slotsUsed := s₂.slotsUsed }
      rw [State.setFrames_self ht]
    subst hg
    refine Or.inr ⟨q, ⟨(({ U with heap := s₂.heap, slotsUsed := s₂.slotsUsed } : State).setVm s₂.vm), Ls ++ L, c0 + mc, s0 + ms⟩,
      ⟨X.admits, X.cas, X.clock, X.frames, X.room, X.hears, X.method, X.code, (X.here.setHeapUsed s₂.heap s₂.slotsUsed).setVm hW'.alike, X.tail, State.WarmedH.trans X.warmed hW', X.limits, X.bytes, X.same.trans (hsame.setVm s.vm)⟩,
      ⟨g, mk, s₂, L, E, ce, rfl, rfl, hx, hce, hcv, hcl, rfl, hL, rfl, rfl⟩, ?_⟩
    show Steps p.tables e below _ (((({ U with heap := s₂.heap, slotsUsed := s₂.slotsUsed } : State).setVm s₂.vm).setTop g).pushFrame (.throwing q))
    rw [← hs₂]
    exact hsteps
end
variable {p : Program} {l : Launch} {e : Env} {R : Room} {s : State} {m : MethodId} {args : Array Value} {below : List Frame} {meth : Method} {c : Code} {T : State} {H : Heap} {locs : List Loc} {cells slots : Nat}
theorem vx_callVX (X : Stand p l e R s m args below meth c T locs cells slots) (hexec : p.tables.exec = Jvm.exec) {own C : String} {index : Nat} {y : MethodName} {bytes : ByteArray} {maxL : Nat} {ret : Option FieldType} {hh : List (Nat × Nat × Nat × Nat)}
    (hown : s.vm.findClass own = some m.cls) (hlink : (Cond.methodLink own index y).before args s = true) (hinst : (Cond.instanceMethod y).before args s = true) (hsel : (Cond.selects C y y).before args s = true)
    (hcode : (Cond.codeWith y bytes maxL ret hh).before args s = true) (hy : y.cls ≠ "java/lang/invoke/MethodHandle" ∧ y.cls ≠ "java/lang/invoke/VarHandle")
    {W9 : Nat} {Pre : Pt → Array Value → Prop} {Post : Pt → Array Value → Option Value → Pt → Prop} {PostX : Pt → Array Value → Addr → Pt → Prop} (hK : vx_Back l R p e below s args y 3 W9 Pre Post PostX)
    {b : Addr} {cellB : Cell} (hcell : T.heap[b]? = some cellB) (hobj : cellB.vm.isStatics = false) (hcls : s.vm.findClass C = some cellB.cls)
    {g : JFrame} (hg : g.method = m) (hsize : g.locals.size = c.maxLocals) {argsL rest : List Value} (hlen : ∀ sig, parseMethodDescriptor y.desc = some sig → argsL.length = sig.parameters.length)
    (hstack : g.stack = argsL.reverse ++ .ref b :: rest) (hW : 2 * g.monitorRoom + (rest.map fun v => v.category).sum ≤ W9) (hdg : decode c.code g.pc = .ok (.invokevirtual index, 3))
    (hpre : ∀ vm₁, s.WarmedH vm₁ → Pre ⟨T.setVm vm₁, locs, cells, slots⟩ (Value.ref b :: argsL).toArray) :
    (∃ (v : Option Value) (vm₁ : Vm) (B : Pt), s.WarmedH vm₁ ∧ Stand p l e R s m args below meth c B.U B.locs B.cells B.slots ∧ Post ⟨T.setVm vm₁, locs, cells, slots⟩ (Value.ref b :: argsL).toArray v B ∧
      ∀ target, Steps p.tables e below (B.U.setTop { g with pc := g.pc + 3, stack := v.toList ++ rest }) target → Steps p.tables e below (T.setTop g) target) ∨
    (∃ (q : Addr) (vm₁ : Vm) (B : Pt), s.WarmedH vm₁ ∧ Stand p l e R s m args below meth c B.U B.locs B.cells B.slots ∧ PostX ⟨T.setVm vm₁, locs, cells, slots⟩ (Value.ref b :: argsL).toArray q B ∧
      Steps p.tables e below (T.setTop g) ((B.U.setTop { g with stack := rest }).pushFrame (.throwing q))) := by
  obtain ⟨mk, methM, hnamed, hmethM, hstM, habM⟩ := Cond.instanceMethod_spec hinst
  obtain ⟨m8, methM', cM, hn8, hmethM', -, -, -, -, -, -, hsigM⟩ := Cond.codeWith_spec hcode
  cases Option.some.inj (hn8.symm.trans hnamed)
  cases hmethM.symm.trans hmethM'
  obtain ⟨c2, r2, m2, q1, q2, q3, q4, kP, hkP, hkPi⟩ := Cond.selects_spec hsel
  cases hcls.symm.trans q1
  cases (State.methodFound?_of_named hnamed hy).symm.trans q2
  cases hnamed.symm.trans q3
  have hselP : selectMethod e.platform s.vm cellB.cls mk = .method mk := by rw [Launch.admits_selectMethod X.admits]; exact q4
  obtain ⟨vm₁, X₁, hstep₁⟩ := X.invokevirtual hexec hown hlink hnamed hmethM hstM hkP hkPi hy (a := b) (cell := cellB) hcell
    (fun z h => by rw [h] at hobj; cases hobj) hselP hmethM habM hkP hkPi (g := g) hg (argsL := argsL) (rest := rest) (hlen _ hsigM) hstack hdg
  rcases hK m meth c ⟨T.setVm vm₁, locs, cells, slots⟩ { g with stack := rest } (.invokevirtual index) mk (Value.ref b :: argsL).toArray X₁ hg hsize hdg hW (X₁.named hnamed) (hpre vm₁ X₁.warmed) with ⟨v, B, X', hpost, hsteps⟩ | ⟨q, B, X', hpost, hsteps⟩
  · exact Or.inl ⟨v, vm₁, B, X₁.warmed, X', hpost, fun target h => hstep₁ _ fun acts => by rw [doInvoke_state]; exact hsteps.trans h⟩
  · exact Or.inr ⟨q, vm₁, B, X₁.warmed, X', hpost, hstep₁ _ fun acts => by rw [doInvoke_state]; exact hsteps⟩
theorem vx_callSX (X : Stand p l e R s m args below meth c T locs cells slots) (hexec : p.tables.exec = Jvm.exec) {own : String} {index : Nat} {y : MethodName} {bytes : ByteArray} {maxL : Nat} {ret : Option FieldType} {hh : List (Nat × Nat × Nat × Nat)}
    (hown : s.vm.findClass own = some m.cls) (hlink : (Cond.methodLink own index y).before args s = true) (hstat : (Cond.static y).before args s = true) (hinit : (Cond.initialized y.cls).before args s = true)
    (hcode : (Cond.codeWith y bytes maxL ret hh).before args s = true) (hy : y.cls ≠ "java/lang/invoke/MethodHandle" ∧ y.cls ≠ "java/lang/invoke/VarHandle")
    {W9 : Nat} {Pre : Pt → Array Value → Prop} {Post : Pt → Array Value → Option Value → Pt → Prop} {PostX : Pt → Array Value → Addr → Pt → Prop} (hK : vx_Back l R p e below s args y 3 W9 Pre Post PostX)
    {g : JFrame} (hg : g.method = m) (hsize : g.locals.size = c.maxLocals) {argsL rest : List Value} (hlen : ∀ sig, parseMethodDescriptor y.desc = some sig → argsL.length = sig.parameters.length)
    (hstack : g.stack = argsL.reverse ++ rest) (hW : 2 * g.monitorRoom + (rest.map fun v => v.category).sum ≤ W9) (hdg : decode c.code g.pc = .ok (.invokestatic index, 3))
    (hpre : ∀ vm₁, s.WarmedH vm₁ → Pre ⟨T.setVm vm₁, locs, cells, slots⟩ argsL.toArray) :
    (∃ (v : Option Value) (vm₁ : Vm) (B : Pt), s.WarmedH vm₁ ∧ Stand p l e R s m args below meth c B.U B.locs B.cells B.slots ∧ Post ⟨T.setVm vm₁, locs, cells, slots⟩ argsL.toArray v B ∧
      ∀ target, Steps p.tables e below (B.U.setTop { g with pc := g.pc + 3, stack := v.toList ++ rest }) target → Steps p.tables e below (T.setTop g) target) ∨
    (∃ (q : Addr) (vm₁ : Vm) (B : Pt), s.WarmedH vm₁ ∧ Stand p l e R s m args below meth c B.U B.locs B.cells B.slots ∧ PostX ⟨T.setVm vm₁, locs, cells, slots⟩ argsL.toArray q B ∧
      Steps p.tables e below (T.setTop g) ((B.U.setTop { g with stack := rest }).pushFrame (.throwing q))) := by
  obtain ⟨mk, methM, cM, hnamed, hmethM, -, -, -, -, -, -, hsigM⟩ := Cond.codeWith_spec hcode
  have hstatic : methM.isStatic = true := Cond.static_spec hnamed hmethM hstat
  obtain ⟨kP, hkP, -⟩ := className_of_methodNamed hnamed
  have hinitP : kP.init = .initialized := Cond.initialized_spec (findClass_of_methodNamed hnamed) hkP hinit
  obtain ⟨vm₁, X₁, hstep₁⟩ := X.invokestatic hexec hown hlink hnamed hmethM hstatic hkP hinitP hy (g := g) hg (argsL := argsL) (rest := rest) (hlen _ hsigM) hstack hdg
  rcases hK m meth c ⟨T.setVm vm₁, locs, cells, slots⟩ { g with stack := rest } (.invokestatic index) mk argsL.toArray X₁ hg hsize hdg hW (X₁.named hnamed) (hpre vm₁ X₁.warmed) with ⟨v, B, X', hpost, hsteps⟩ | ⟨q, B, X', hpost, hsteps⟩
  · exact Or.inl ⟨v, vm₁, B, X₁.warmed, X', hpost, fun target h => hstep₁ _ fun acts => by rw [doInvoke_state]; exact hsteps.trans h⟩
  · exact Or.inr ⟨q, vm₁, B, X₁.warmed, X', hpost, hstep₁ _ fun acts => by rw [doInvoke_state]; exact hsteps⟩
theorem vx_callVW (X : Stand p l e R s m args below meth c T locs cells slots) (hexec : p.tables.exec = Jvm.exec) {own C : String} {index : Nat} {y : MethodName} {bytes : ByteArray} {maxL : Nat} {ret : Option FieldType} {hh : List (Nat × Nat × Nat × Nat)}
    (hown : s.vm.findClass own = some m.cls) (hlink : (Cond.methodLink own index y).before args s = true) (hinst : (Cond.instanceMethod y).before args s = true) (hsel : (Cond.selects C y y).before args s = true)
    (hcode : (Cond.codeWith y bytes maxL ret hh).before args s = true) (hy : y.cls ≠ "java/lang/invoke/MethodHandle" ∧ y.cls ≠ "java/lang/invoke/VarHandle")
    {W9 : Nat} {Pre : Pt → Array Value → Prop} {Post : Pt → Array Value → Option Value → Pt → Prop} (hK : Back l R p e below s args y 3 W9 Pre Post)
    {b : Addr} {cellB : Cell} (hcell : T.heap[b]? = some cellB) (hobj : cellB.vm.isStatics = false) (hcls : s.vm.findClass C = some cellB.cls)
    {g : JFrame} (hg : g.method = m) (hsize : g.locals.size = c.maxLocals) {argsL rest : List Value} (hlen : ∀ sig, parseMethodDescriptor y.desc = some sig → argsL.length = sig.parameters.length)
    (hstack : g.stack = argsL.reverse ++ .ref b :: rest) (hW : 2 * g.monitorRoom + (rest.map fun v => v.category).sum ≤ W9) (hdg : decode c.code g.pc = .ok (.invokevirtual index, 3))
    (hpre : ∀ vm₁, s.WarmedH vm₁ → Pre ⟨T.setVm vm₁, locs, cells, slots⟩ (Value.ref b :: argsL).toArray) :
    ∃ (v : Option Value) (vm₁ : Vm) (B : Pt), s.WarmedH vm₁ ∧ Stand p l e R s m args below meth c B.U B.locs B.cells B.slots ∧ Post ⟨T.setVm vm₁, locs, cells, slots⟩ (Value.ref b :: argsL).toArray v B ∧
      ∀ target, Steps p.tables e below (B.U.setTop { g with pc := g.pc + 3, stack := v.toList ++ rest }) target → Steps p.tables e below (T.setTop g) target := by
  obtain ⟨mk, methM, hnamed, hmethM, hstM, habM⟩ := Cond.instanceMethod_spec hinst
  obtain ⟨m8, methM', cM, hn8, hmethM', -, -, -, -, -, -, hsigM⟩ := Cond.codeWith_spec hcode
  cases Option.some.inj (hn8.symm.trans hnamed)
  cases hmethM.symm.trans hmethM'
  obtain ⟨c2, r2, m2, q1, q2, q3, q4, kP, hkP, hkPi⟩ := Cond.selects_spec hsel
  cases hcls.symm.trans q1
  cases (State.methodFound?_of_named hnamed hy).symm.trans q2
  cases hnamed.symm.trans q3
  have hselP : selectMethod e.platform s.vm cellB.cls mk = .method mk := by rw [Launch.admits_selectMethod X.admits]; exact q4
  obtain ⟨vm₁, X₁, hstep₁⟩ := X.invokevirtual hexec hown hlink hnamed hmethM hstM hkP hkPi hy (a := b) (cell := cellB) hcell
    (fun z h => by rw [h] at hobj; cases hobj) hselP hmethM habM hkP hkPi (g := g) hg (argsL := argsL) (rest := rest) (hlen _ hsigM) hstack hdg
  obtain ⟨v, B, X', hpost, hsteps⟩ := hK m meth c ⟨T.setVm vm₁, locs, cells, slots⟩ { g with stack := rest } (.invokevirtual index) mk (Value.ref b :: argsL).toArray X₁ hg hsize hdg hW (X₁.named hnamed) (hpre vm₁ X₁.warmed)
  exact ⟨v, vm₁, B, X₁.warmed, X', hpost, fun target h => hstep₁ _ fun acts => by rw [doInvoke_state]; exact hsteps.trans h⟩
abbrev vx_CVW (R : Room) (s : State) (args : Array Value) (own C : String) (index : Nat) (y : MethodName) (bytes : ByteArray) (maxL : Nat) (ret : Option FieldType) (hh : List (Nat × Nat × Nat × Nat)) (ws : List Cond) (rm : Room) (mc ms n : Nat) : Prop :=
  (rm.cells = mc ∧ rm.slots = ms ∧ rm.frames + 1 ≤ R.frames ∧ 8 + (maxL + 11) + rm.locals ≤ R.locals ∧ (∀ w ∈ ws, ∀ (a' : Array Value) (U : State), s.WarmedH U.vm → w.before a' U = true) ∧ Cond.codeWith y bytes maxL ret hh ∈ ws) ∧
  (Cond.codeWith y bytes maxL ret hh).before args s = true ∧ (Cond.initialized y.cls).before args s = true ∧ (y.cls ≠ "java/lang/invoke/MethodHandle" ∧ y.cls ≠ "java/lang/invoke/VarHandle") ∧
  (∀ sig, parseMethodDescriptor y.desc = some sig → n = sig.parameters.length) ∧ (Cond.methodLink own index y).before args s = true ∧ (Cond.instanceMethod y).before args s = true ∧ (Cond.selects C y y).before args s = true
theorem vx_cwVW {own C : String} {index maxL mc ms : Nat} {y : MethodName} {bytes : ByteArray} {ret : Option FieldType} {hh : List (Nat × Nat × Nat × Nat)} {Ts ws ws' : List Cond} {rm : Room} (n : Nat) (ht : ∀ w ∈ Ts, w.before args s = true) (hT : GoodIn Ts (wsV own index C y ws)) (hw : ws = Cond.codeWith y bytes maxL ret hh :: ws') (hrc : rm.cells = mc) (hrs : rm.slots = ms)
    (hd : y.cls = C ∧ y.cls ≠ "java/lang/invoke/MethodHandle" ∧ y.cls ≠ "java/lang/invoke/VarHandle" ∧ (parseMethodDescriptor y.desc).map (fun d => d.parameters.length) = some n) (hR : rm.frames + 1 ≤ R.frames ∧ 8 + (maxL + 11) + rm.locals ≤ R.locals) :
    vx_CVW R s args own C index y bytes maxL ret hh ws rm mc ms n := by
  obtain ⟨hC, hd⟩ := hd
  subst hC
  have ok : ∀ w ∈ wsV own index y.cls y ws, w.before args s = true := fun w h => ht w (hT w h).1
  have hG : GoodIn Ts ws := fun w h => hT w (by unfold wsV; exact List.mem_append_right _ h)
  have hc : Cond.codeWith y bytes maxL ret hh ∈ ws := by rw [hw]; exact List.mem_cons_self
  refine ⟨⟨hrc, hrs, hR.1, hR.2, pay_in ht hG, hc⟩, ht _ (hG _ hc).1, ok _ (by simp [wsV]), ⟨hd.1, hd.2.1⟩, fun sig h => ?_, ok _ (by simp [wsV]), ok _ (by simp [wsV]), ok _ (by simp [wsV])⟩
  have h2 := hd.2.2
  rw [h] at h2
  exact (Option.some.inj h2).symm
theorem vx_runVW {y : MethodName} {bytes cc : ByteArray} {maxL nL mc ms n index : Nat} {ret : Option FieldType} {hh : List (Nat × Nat × Nat × Nat)} {ws : List Cond} {rm : Room} {Pc : Array Value → State → Prop} {Qc : Array Value → State → Outcome → State → Prop} {free : Addr → Prop} {Ts : List Cond} {own C : String} {b : Addr} {As rest : List Value} {g : JFrame}
    (S : CallFix p m c cc nL s args Ts own) (hM : Met l y ws rm Pc Qc mc ms free) (cw : vx_CVW R s args own C index y bytes maxL ret hh ws rm mc ms n) (hp : PreV s H C b Pc As)
    (hg : g.method = m) (hn : As.length = n) (hsize : g.locals.size = nL) (hstack : g.stack = As.reverse ++ .ref b :: rest) (hW : 2 * g.monitorRoom + (rest.map fun v => v.category).sum ≤ 8) (hdg : decode cc g.pc = .ok (.invokevirtual index, 3)) (hf : cells + mc ≤ R.cells ∧ slots + ms ≤ R.slots) :
    va_Run p l e R s m args below meth c H locs cells slots mc ms g rest (Qc (Value.ref b :: As).toArray) free := by
  obtain ⟨⟨hrc, hrs, hfr, hlo, hws, hcw⟩, hcode, hini, hy, hlen, hl, hin, hse⟩ := cw
  have hK : Back l R p e below s args y 3 8 (PreOf R mc ms Pc) (PostOf Qc mc ms free) := va_backW (hh := hh) (bytes := bytes) (maxL := maxL) (ret := ret) hM hp.1 hrc hrs hfr hlo hws hcw (fun a' U hW => word_at hW (Or.inl (by first | rfl | simp [Cond.onTables, Cond.keeps, Cond.steady])) hini)
  obtain ⟨hx, hb, hml, ho, -⟩ := S
  obtain ⟨-, ⟨cellB, hcB, hoB, hclB⟩, hPc⟩ := hp
  intro T hT X
  obtain ⟨v, vm₁, ⟨U', l2, c2, s2⟩, hW₁, X', ⟨g', mk, t, L, e1, e2, hq, h1, hL, h2, h3⟩, st⟩ := vx_callVW X hx (C := C) (hh := hh) (bytes := bytes) (maxL := maxL) (ret := ret) ho hl hin hse hcode hy hK (by rw [hT]; exact hcB) hoB hclB hg (hsize.trans hml.symm) (argsL := As) (rest := rest) (fun sig h => hn.trans (hlen sig h)) hstack hW (by rw [hb]; exact hdg)
    (fun vm₁ hW₁ => ⟨hf.1, hf.2, hPc (T.setVm vm₁) hT hW₁⟩)
  dsimp only [Pt.U, Pt.locs, Pt.cells, Pt.slots] at X' e1 e2 h1 h2 h3 st
  subst h1; subst h2; subst h3
  exact ⟨v, (T.setVm vm₁).calling g' mk (Value.ref b :: As).toArray, t, U', L, hT, X', hL, e1, e2, hq, st⟩
section
variable {y : MethodName} {bytes cc : ByteArray} {maxL nL mc ms n index : Nat} {ret : Option FieldType} {ws : List Cond} {rm : Room} {Pc : Array Value → State → Prop} {Qc : Array Value → State → Outcome → State → Prop} {XC : String → State → State → Prop} {free : Addr → Prop} {Ts : List Cond} {own C : String} {b : Addr} {As rest : List Value} {g : JFrame}
theorem vx_runVX {hh : List (Nat × Nat × Nat × Nat)} (S : CallFix p m c cc nL s args Ts own) (hM : vx_Met l y ws rm Pc Qc XC mc ms free) (cw : vx_CVW R s args own C index y bytes maxL ret hh ws rm mc ms n) (hp : PreV s H C b Pc As)
    (hg : g.method = m) (hn : As.length = n) (hsize : g.locals.size = nL) (hstack : g.stack = As.reverse ++ .ref b :: rest) (hW : 2 * g.monitorRoom + (rest.map fun v => v.category).sum ≤ 8) (hdg : decode cc g.pc = .ok (.invokevirtual index, 3)) (hf : cells + mc ≤ R.cells ∧ slots + ms ≤ R.slots) :
    vx_Run p l e R s m args below meth c H locs cells slots mc ms g rest (Qc (Value.ref b :: As).toArray) XC free := by
  obtain ⟨⟨hrc, hrs, hfr, hlo, hws, hcw⟩, hcode, hini, hy, hlen, hl, hin, hse⟩ := cw
  have hK : vx_Back l R p e below s args y 3 8 (PreOf R mc ms Pc) (PostOf Qc mc ms free) (vx_Post XC mc ms free) := vx_backW (hh := hh) (bytes := bytes) (maxL := maxL) (ret := ret) hM hp.1 hrc hrs hfr hlo hws hcw (fun a' U hW => word_at hW (Or.inl (by first | rfl | simp [Cond.onTables, Cond.keeps, Cond.steady])) hini)
  obtain ⟨hx, hb, hml, ho, -⟩ := S
  obtain ⟨-, ⟨cellB, hcB, hoB, hclB⟩, hPc⟩ := hp
  intro T hT X
  rcases vx_callVX X hx (C := C) (hh := hh) (bytes := bytes) (maxL := maxL) (ret := ret) ho hl hin hse hcode hy hK (by rw [hT]; exact hcB) hoB hclB hg (hsize.trans hml.symm) (argsL := As) (rest := rest) (fun sig h => hn.trans (hlen sig h)) hstack hW (by rw [hb]; exact hdg)
    (fun vm₁ hW₁ => ⟨hf.1, hf.2, hPc (T.setVm vm₁) hT hW₁⟩) with ⟨v, vm₁, ⟨U', l2, c2, s2⟩, hW₁, X', ⟨g', mk, t, L, e1, e2, hq, h1, hL, h2, h3⟩, st⟩ | ⟨q, vm₁, ⟨U', l2, c2, s2⟩, hW₁, X', ⟨g', mk, t, L, E, ce, e1, e2, hq, hce, hcv, hcl, h1, hL, h2, h3⟩, st⟩
  · dsimp only [Pt.U, Pt.locs, Pt.cells, Pt.slots] at X' e1 e2 h1 h2 h3 st
    subst h1; subst h2; subst h3
    exact Or.inl ⟨v, (T.setVm vm₁).calling g' mk (Value.ref b :: As).toArray, t, U', L, hT, X', hL, e1, e2, hq, st⟩
  · dsimp only [Pt.U, Pt.locs, Pt.cells, Pt.slots] at X' e1 e2 h1 h2 h3 st hcl
    subst h1; subst h2; subst h3
    exact Or.inr ⟨q, (T.setVm vm₁).calling g' mk (Value.ref b :: As).toArray, t, U', L, E, ce, hT, X', hL, e1, e2, hq, hce, hcv, vx_cls hW₁ hcl, st⟩
theorem vx_runSX {hh : List (Nat × Nat × Nat × Nat)} (S : CallFix p m c cc nL s args Ts own) (hM : vx_Met l y ws rm Pc Qc XC mc ms free) (cw : vx_CSW R s args own index y bytes maxL ret hh ws rm mc ms n) (hp : PreS s H Pc As)
    (hg : g.method = m) (hn : As.length = n) (hsize : g.locals.size = nL) (hstack : g.stack = As.reverse ++ rest) (hW : 2 * g.monitorRoom + (rest.map fun v => v.category).sum ≤ 8) (hdg : decode cc g.pc = .ok (.invokestatic index, 3)) (hf : cells + mc ≤ R.cells ∧ slots + ms ≤ R.slots) :
    vx_Run p l e R s m args below meth c H locs cells slots mc ms g rest (Qc As.toArray) XC free := by
  obtain ⟨⟨hrc, hrs, hfr, hlo, hws, hcw⟩, hcode, hini, hy, hlen, hl, hstt⟩ := cw
  have hK : vx_Back l R p e below s args y 3 8 (PreOf R mc ms Pc) (PostOf Qc mc ms free) (vx_Post XC mc ms free) := vx_backW (hh := hh) (bytes := bytes) (maxL := maxL) (ret := ret) hM hp.1 hrc hrs hfr hlo hws hcw (fun a' U hW => word_at hW (Or.inl (by first | rfl | simp [Cond.onTables, Cond.keeps, Cond.steady])) hini)
  obtain ⟨hx, hb, hml, ho, -⟩ := S
  intro T hT X
  rcases vx_callSX X hx (hh := hh) (bytes := bytes) (maxL := maxL) (ret := ret) ho hl hstt hini hcode hy hK hg (hsize.trans hml.symm) (argsL := As) (rest := rest) (fun sig h => hn.trans (hlen sig h)) hstack hW (by rw [hb]; exact hdg)
    (fun vm₁ hW₁ => ⟨hf.1, hf.2, hp.2 (T.setVm vm₁) hT hW₁⟩) with ⟨v, vm₁, ⟨U', l2, c2, s2⟩, hW₁, X', ⟨g', mk, t, L, e1, e2, hq, h1, hL, h2, h3⟩, st⟩ | ⟨q, vm₁, ⟨U', l2, c2, s2⟩, hW₁, X', ⟨g', mk, t, L, E, ce, e1, e2, hq, hce, hcv, hcl, h1, hL, h2, h3⟩, st⟩
  · dsimp only [Pt.U, Pt.locs, Pt.cells, Pt.slots] at X' e1 e2 h1 h2 h3 st
    subst h1; subst h2; subst h3
    exact Or.inl ⟨v, (T.setVm vm₁).calling g' mk As.toArray, t, U', L, hT, X', hL, e1, e2, hq, st⟩
  · dsimp only [Pt.U, Pt.locs, Pt.cells, Pt.slots] at X' e1 e2 h1 h2 h3 st hcl
    subst h1; subst h2; subst h3
    exact Or.inr ⟨q, (T.setVm vm₁).calling g' mk As.toArray, t, U', L, E, ce, hT, X', hL, e1, e2, hq, hce, hcv, vx_cls hW₁ hcl, st⟩
end
end VXH
theorem vx_ofWH {l : Launch} {y : MethodName} {ws ws' : List Cond} {rm : Room} {Pc : Array Value → State → Prop} {Qc : Array Value → State → Outcome → State → Prop} {XC : String → State → State → Prop} {mc ms : Nat} {free : Addr → Prop} {cc : ByteArray} {maxL : Nat} {ret : Option FieldType} {hh : List (Nat × Nat × Nat × Nat)}
    (hy : plainName y.cls = true) (hw : ws = Cond.codeWith y cc maxL ret hh :: ws')
    (body : ∀ p e s m args below meth c s₁, BodyLoose p l y (headSpec ws rm) cc maxL ret e s m args below meth c s₁ → c.maxLocals = maxL → Pc args s →
      W p l e (headSpec ws rm).room s m args below meth c s.heap [] 0 0 (vx_MQ below Qc XC args s mc ms free) (entryFrame m args maxL)) : vx_Met l y ws rm Pc Qc XC mc ms free := by
  refine MetFree.of_bodyS (code := cc) (maxLocals := maxL) (ret := ret) hy ?_ ?_
  · intro args s m h hn
    obtain ⟨m9, meth, c, hn9, h1, h2, h3, h4, -, h5, h6, -⟩ := Cond.codeWith_spec (atoms_spec (ws := ws) h _ (by rw [hw]; exact List.mem_cons_self))
    cases hn.symm.trans hn9
    exact ⟨meth, c, h1, h2, h3, h4, h5, h6⟩
  · intro p e s m args below meth c s₁ B hml hP _
    have hh0 : s₁.heap = s.heap := by rw [B.state]; rfl
    obtain ⟨t, a1, o, b1, b2, b3⟩ := body p e s m args below meth c s₁ B hml hP s₁ hh0 (Stand.of_body B)
    exact ⟨t, o, a1, b1, b2, b3⟩
/-! ===== END ===== -/
end
section
/-! ===== BEGIN printed: names, fields, word lists, decode rows ===== -/
def RX0 : String := "CoverExtract$Ceiling"
def TX0 : u_T := fun k => match k with
  | 0 => ("CoverExtract$Ceiling", "least", "I", false)
  | _ => ("CoverExtract$Ceiling", "behind", "I", false)
def tyX0 : Nat → FieldType := fun k => match k with
  | 0 => .int
  | _ => .int
abbrev wsX00 : List Cond := u_ws RX0 TX0 2
theorem nmX0 : ∀ a, a < 2 → ∀ b, b < 2 → a ≠ b → (TX0 a).2.1 ≠ (TX0 b).2.1 := by decide +kernel
theorem tyX0_ok : ∀ k, k < 2 → parseFieldDescriptor (TX0 k).2.2.1 = some (tyX0 k) := by decide +kernel
abbrev cX0_init : ByteArray := prog_2_method_1_code
def yX0_init : MethodName := ⟨RX0, "<init>", "()V"⟩
abbrev cX0_run : ByteArray := prog_2_method_2_code
def yX0_run : MethodName := ⟨RX0, "run", "(LCoverExtract$State;LCoverExtract$Climb;)V"⟩
abbrev cX0_ceilingBy : ByteArray := prog_2_method_3_code
def yX0_ceilingBy : MethodName := ⟨RX0, "ceilingBy", "(LCoverExtract$State;I)I"⟩
abbrev cX0_densest : ByteArray := prog_2_method_4_code
def yX0_densest : MethodName := ⟨RX0, "densest", "(LCoverExtract$State;IJ)I"⟩
def RX1 : String := "CoverExtract$Climb"
def TX1 : u_T := fun k => match k with
  | 0 => ("CoverExtract$Climb", "steps", "[I", true)
  | 1 => ("CoverExtract$Climb", "count", "I", false)
  | 2 => ("CoverExtract$Climb", "set", "I", false)
  | _ => ("CoverExtract$Climb", "asked", "I", false)
def tyX1 : Nat → FieldType := fun k => match k with
  | 0 => .array .int
  | 1 => .int
  | 2 => .int
  | _ => .int
abbrev wsX10 : List Cond := u_ws RX1 TX1 4
theorem nmX1 : ∀ a, a < 4 → ∀ b, b < 4 → a ≠ b → (TX1 a).2.1 ≠ (TX1 b).2.1 := by decide +kernel
theorem tyX1_ok : ∀ k, k < 4 → parseFieldDescriptor (TX1 k).2.2.1 = some (tyX1 k) := by decide +kernel
abbrev cX1_init : ByteArray := prog_3_method_1_code
def yX1_init : MethodName := ⟨RX1, "<init>", "()V"⟩
abbrev cX1_run : ByteArray := prog_3_method_2_code
def yX1_run : MethodName := ⟨RX1, "run", "(LCoverExtract$State;I)V"⟩
abbrev cX1_compareWithSingle : ByteArray := prog_3_method_3_code
def yX1_compareWithSingle : MethodName := ⟨RX1, "compareWithSingle", "(LCoverExtract$State;)V"⟩
abbrev cX1_fitting : ByteArray := prog_3_method_4_code
def yX1_fitting : MethodName := ⟨RX1, "fitting", "(LCoverExtract$State;)I"⟩
abbrev cX1_pickFor : ByteArray := prog_3_method_5_code
def yX1_pickFor : MethodName := ⟨RX1, "pickFor", "(LCoverExtract$State;IZ)I"⟩
def RX2 : String := "CoverExtract$Past"
def TX2 : u_T := fun k => match k with
  | 0 => ("CoverExtract$Past", "states", "[LCoverExtract$State;", true)
  | 1 => ("CoverExtract$Past", "oldest", "I", false)
  | _ => ("CoverExtract$Past", "kept", "I", false)
def tyX2 : Nat → FieldType := fun k => match k with
  | 0 => .array (.object "CoverExtract$State")
  | 1 => .int
  | _ => .int
abbrev wsX20 : List Cond := u_ws RX2 TX2 3
theorem nmX2 : ∀ a, a < 3 → ∀ b, b < 3 → a ≠ b → (TX2 a).2.1 ≠ (TX2 b).2.1 := by decide +kernel
theorem tyX2_ok : ∀ k, k < 3 → parseFieldDescriptor (TX2 k).2.2.1 = some (tyX2 k) := by decide +kernel
abbrev cX2_init : ByteArray := prog_4_method_1_code
def yX2_init : MethodName := ⟨RX2, "<init>", "()V"⟩
abbrev cX2_keep : ByteArray := prog_4_method_2_code
def yX2_keep : MethodName := ⟨RX2, "keep", "(LCoverExtract$State;)V"⟩
abbrev cX2_giveBack : ByteArray := prog_4_method_3_code
def yX2_giveBack : MethodName := ⟨RX2, "giveBack", "(LCoverExtract$State;)V"⟩
def RX3 : String := "CoverExtract$Queue"
def TX3 : u_T := fun k => match k with
  | 0 => ("CoverExtract$Queue", "gains", "[I", true)
  | 1 => ("CoverExtract$Queue", "costs", "[I", true)
  | 2 => ("CoverExtract$Queue", "waiting", "I", false)
  | 3 => ("CoverExtract$Queue", "set", "I", false)
  | _ => ("CoverExtract$Queue", "asked", "I", false)
def tyX3 : Nat → FieldType := fun k => match k with
  | 0 => .array .int
  | 1 => .array .int
  | 2 => .int
  | 3 => .int
  | _ => .int
abbrev wsX30 : List Cond := u_ws RX3 TX3 5
theorem nmX3 : ∀ a, a < 5 → ∀ b, b < 5 → a ≠ b → (TX3 a).2.1 ≠ (TX3 b).2.1 := by decide +kernel
theorem tyX3_ok : ∀ k, k < 5 → parseFieldDescriptor (TX3 k).2.2.1 = some (tyX3 k) := by decide +kernel
abbrev cX3_init : ByteArray := prog_5_method_1_code
def yX3_init : MethodName := ⟨RX3, "<init>", "()V"⟩
abbrev cX3_run : ByteArray := prog_5_method_2_code
def yX3_run : MethodName := ⟨RX3, "run", "(LCoverExtract$State;)V"⟩
abbrev cX3_ask : ByteArray := prog_5_method_3_code
def yX3_ask : MethodName := ⟨RX3, "ask", "(LCoverExtract$State;I)V"⟩
abbrev cX3_foremost : ByteArray := prog_5_method_4_code
def yX3_foremost : MethodName := ⟨RX3, "foremost", "()I"⟩
abbrev cX3_lookAt : ByteArray := prog_5_method_5_code
def yX3_lookAt : MethodName := ⟨RX3, "lookAt", "(LCoverExtract$State;I)V"⟩
def RX4 : String := "CoverExtract$Reader"
def TX4 : u_T := fun k => match k with
  | 0 => ("CoverExtract$Reader", "draft", "LCoverExtract$State;", true)
  | 1 => ("CoverExtract$Reader", "fault", "I", false)
  | 2 => ("CoverExtract$Reader", "place", "I", false)
  | 3 => ("CoverExtract$Reader", "wordsInOpen", "I", false)
  | 4 => ("CoverExtract$Reader", "letters", "I", false)
  | 5 => ("CoverExtract$Reader", "start", "I", false)
  | _ => ("CoverExtract$Reader", "spelling", "J", false)
def tyX4 : Nat → FieldType := fun k => match k with
  | 0 => .object "CoverExtract$State"
  | 1 => .int
  | 2 => .int
  | 3 => .int
  | 4 => .int
  | 5 => .int
  | _ => .long
abbrev wsX40 : List Cond := u_ws RX4 TX4 7
theorem nmX4 : ∀ a, a < 7 → ∀ b, b < 7 → a ≠ b → (TX4 a).2.1 ≠ (TX4 b).2.1 := by decide +kernel
theorem tyX4_ok : ∀ k, k < 7 → parseFieldDescriptor (TX4 k).2.2.1 = some (tyX4 k) := by decide +kernel
abbrev cX4_init : ByteArray := prog_6_method_1_code
def yX4_init : MethodName := ⟨RX4, "<init>", "()V"⟩
abbrev cX4_read : ByteArray := prog_6_method_2_code
def yX4_read : MethodName := ⟨RX4, "read", "([BI)I"⟩
abbrev cX4_readLetter : ByteArray := prog_6_method_3_code
def yX4_readLetter : MethodName := ⟨RX4, "readLetter", "(II)V"⟩
abbrev cX4_readSign : ByteArray := prog_6_method_4_code
def yX4_readSign : MethodName := ⟨RX4, "readSign", "(II)V"⟩
abbrev cX4_endWord : ByteArray := prog_6_method_5_code
def yX4_endWord : MethodName := ⟨RX4, "endWord", "()V"⟩
abbrev cX4_addWord : ByteArray := prog_6_method_6_code
def yX4_addWord : MethodName := ⟨RX4, "addWord", "()V"⟩
abbrev cX4_addToOpen : ByteArray := prog_6_method_7_code
def yX4_addToOpen : MethodName := ⟨RX4, "addToOpen", "(I)V"⟩
abbrev cX4_refuse : ByteArray := prog_6_method_8_code
def yX4_refuse : MethodName := ⟨RX4, "refuse", "(II)V"⟩
def RX5 : String := "CoverExtract$Search"
def TX5 : u_T := fun k => match k with
  | 0 => ("CoverExtract$Search", "order", "I", false)
  | 1 => ("CoverExtract$Search", "barred", "I", false)
  | 2 => ("CoverExtract$Search", "mostLength", "I", false)
  | 3 => ("CoverExtract$Search", "leastCovered", "I", false)
  | 4 => ("CoverExtract$Search", "bagsFrom", "[J", true)
  | 5 => ("CoverExtract$Search", "found", "Z", false)
  | 6 => ("CoverExtract$Search", "set", "I", false)
  | 7 => ("CoverExtract$Search", "covered", "I", false)
  | _ => ("CoverExtract$Search", "length", "I", false)
def tyX5 : Nat → FieldType := fun k => match k with
  | 0 => .int
  | 1 => .int
  | 2 => .int
  | 3 => .int
  | 4 => .array .long
  | 5 => .boolean
  | 6 => .int
  | 7 => .int
  | _ => .int
abbrev wsX50 : List Cond := u_ws RX5 TX5 9
theorem nmX5 : ∀ a, a < 9 → ∀ b, b < 9 → a ≠ b → (TX5 a).2.1 ≠ (TX5 b).2.1 := by decide +kernel
theorem tyX5_ok : ∀ k, k < 9 → parseFieldDescriptor (TX5 k).2.2.1 = some (tyX5 k) := by decide +kernel
abbrev cX5_init : ByteArray := prog_7_method_1_code
def yX5_init : MethodName := ⟨RX5, "<init>", "()V"⟩
abbrev cX5_findMost : ByteArray := prog_7_method_2_code
def yX5_findMost : MethodName := ⟨RX5, "findMost", "(LCoverExtract$State;II)V"⟩
abbrev cX5_findFewest : ByteArray := prog_7_method_3_code
def yX5_findFewest : MethodName := ⟨RX5, "findFewest", "(LCoverExtract$State;)V"⟩
abbrev cX5_findShortest : ByteArray := prog_7_method_4_code
def yX5_findShortest : MethodName := ⟨RX5, "findShortest", "(LCoverExtract$State;I)V"⟩
abbrev cX5_visitAll : ByteArray := prog_7_method_5_code
def yX5_visitAll : MethodName := ⟨RX5, "visitAll", "(LCoverExtract$State;)V"⟩
abbrev cX5_visit : ByteArray := prog_7_method_6_code
def yX5_visit : MethodName := ⟨RX5, "visit", "(LCoverExtract$State;IIJIII)V"⟩
abbrev cX5_isEnough : ByteArray := prog_7_method_7_code
def yX5_isEnough : MethodName := ⟨RX5, "isEnough", "(II)Z"⟩
abbrev cX5_mayHave : ByteArray := prog_7_method_8_code
def yX5_mayHave : MethodName := ⟨RX5, "mayHave", "(LCoverExtract$State;II)Z"⟩
abbrev cX5_offer : ByteArray := prog_7_method_9_code
def yX5_offer : MethodName := ⟨RX5, "offer", "(III)V"⟩
abbrev cX5_ranked : ByteArray := prog_7_method_10_code
def yX5_ranked : MethodName := ⟨RX5, "ranked", "(III)I"⟩
def RX6 : String := "CoverExtract$State"
def TX6 : u_T := fun k => match k with
  | 0 => ("CoverExtract$State", "sentences", "I", false)
  | 1 => ("CoverExtract$State", "unlike", "I", false)
  | 2 => ("CoverExtract$State", "budget", "I", false)
  | 3 => ("CoverExtract$State", "taken", "I", false)
  | 4 => ("CoverExtract$State", "leaning", "J", false)
  | 5 => ("CoverExtract$State", "lengths", "[I", true)
  | 6 => ("CoverExtract$State", "counts", "[I", true)
  | 7 => ("CoverExtract$State", "firsts", "[I", true)
  | 8 => ("CoverExtract$State", "chains", "[I", true)
  | 9 => ("CoverExtract$State", "bags", "[J", true)
  | 10 => ("CoverExtract$State", "spellings", "[J", true)
  | _ => ("CoverExtract$State", "weights", "[I", true)
def tyX6 : Nat → FieldType := fun k => match k with
  | 0 => .int
  | 1 => .int
  | 2 => .int
  | 3 => .int
  | 4 => .long
  | 5 => .array .int
  | 6 => .array .int
  | 7 => .array .int
  | 8 => .array .int
  | 9 => .array .long
  | 10 => .array .long
  | _ => .array .int
abbrev wsX60 : List Cond := u_ws RX6 TX6 12
theorem nmX6 : ∀ a, a < 12 → ∀ b, b < 12 → a ≠ b → (TX6 a).2.1 ≠ (TX6 b).2.1 := by decide +kernel
theorem tyX6_ok : ∀ k, k < 12 → parseFieldDescriptor (TX6 k).2.2.1 = some (tyX6 k) := by decide +kernel
abbrev cX6_init : ByteArray := prog_8_method_1_code
def yX6_init : MethodName := ⟨RX6, "<init>", "()V"⟩
abbrev cX6_copyFrom : ByteArray := prog_8_method_2_code
def yX6_copyFrom : MethodName := ⟨RX6, "copyFrom", "(LCoverExtract$State;)V"⟩
abbrev cX6_clear : ByteArray := prog_8_method_3_code
def yX6_clear : MethodName := ⟨RX6, "clear", "()V"⟩
abbrev cX6_spelledWith : ByteArray := prog_8_method_4_code
def yX6_spelledWith : MethodName := ⟨RX6, "spelledWith", "(JII)J"⟩
abbrev cX6_letterAt : ByteArray := prog_8_method_5_code
def yX6_letterAt : MethodName := ⟨RX6, "letterAt", "(II)I"⟩
abbrev cX6_codeAt : ByteArray := prog_8_method_6_code
def yX6_codeAt : MethodName := ⟨RX6, "codeAt", "(II)I"⟩
abbrev cX6_lettersOf : ByteArray := prog_8_method_7_code
def yX6_lettersOf : MethodName := ⟨RX6, "lettersOf", "(I)I"⟩
abbrev cX6_wordSpelled : ByteArray := prog_8_method_8_code
def yX6_wordSpelled : MethodName := ⟨RX6, "wordSpelled", "(J)I"⟩
abbrev cX6_leans : ByteArray := prog_8_method_9_code
def yX6_leans : MethodName := ⟨RX6, "leans", "(I)Z"⟩
abbrev cX6_sentencesWith : ByteArray := prog_8_method_10_code
def yX6_sentencesWith : MethodName := ⟨RX6, "sentencesWith", "(I)I"⟩
abbrev cX6_everySentence : ByteArray := prog_8_method_11_code
def yX6_everySentence : MethodName := ⟨RX6, "everySentence", "()I"⟩
abbrev cX6_linkChains : ByteArray := prog_8_method_12_code
def yX6_linkChains : MethodName := ⟨RX6, "linkChains", "()V"⟩
abbrev cX6_allThatNeed : ByteArray := prog_8_method_13_code
def yX6_allThatNeed : MethodName := ⟨RX6, "allThatNeed", "(I)I"⟩
abbrev cX6_isWhole : ByteArray := prog_8_method_14_code
def yX6_isWhole : MethodName := ⟨RX6, "isWhole", "(I)Z"⟩
abbrev cX6_bagOf : ByteArray := prog_8_method_15_code
def yX6_bagOf : MethodName := ⟨RX6, "bagOf", "(I)J"⟩
abbrev cX6_weightOf : ByteArray := prog_8_method_16_code
def yX6_weightOf : MethodName := ⟨RX6, "weightOf", "(J)I"⟩
abbrev cX6_coveredBy : ByteArray := prog_8_method_17_code
def yX6_coveredBy : MethodName := ⟨RX6, "coveredBy", "(I)I"⟩
abbrev cX6_lengthOf : ByteArray := prog_8_method_18_code
def yX6_lengthOf : MethodName := ⟨RX6, "lengthOf", "(I)I"⟩
abbrev cX6_gainOf : ByteArray := prog_8_method_19_code
def yX6_gainOf : MethodName := ⟨RX6, "gainOf", "(II)I"⟩
abbrev cX6_costOf : ByteArray := prog_8_method_20_code
def yX6_costOf : MethodName := ⟨RX6, "costOf", "(II)I"⟩
abbrev cX6_fitsInto : ByteArray := prog_8_method_21_code
def yX6_fitsInto : MethodName := ⟨RX6, "fitsInto", "(II)Z"⟩
def RX7 : String := "CoverExtract$Swap"
def TX7 : u_T := fun k => match k with
  | 0 => ("CoverExtract$Swap", "goes", "I", false)
  | 1 => ("CoverExtract$Swap", "comes", "I", false)
  | _ => ("CoverExtract$Swap", "covered", "I", false)
def tyX7 : Nat → FieldType := fun k => match k with
  | 0 => .int
  | 1 => .int
  | _ => .int
abbrev wsX70 : List Cond := u_ws RX7 TX7 3
theorem nmX7 : ∀ a, a < 3 → ∀ b, b < 3 → a ≠ b → (TX7 a).2.1 ≠ (TX7 b).2.1 := by decide +kernel
theorem tyX7_ok : ∀ k, k < 3 → parseFieldDescriptor (TX7 k).2.2.1 = some (tyX7 k) := by decide +kernel
abbrev cX7_init : ByteArray := prog_9_method_1_code
def yX7_init : MethodName := ⟨RX7, "<init>", "()V"⟩
abbrev cX7_run : ByteArray := prog_9_method_2_code
def yX7_run : MethodName := ⟨RX7, "run", "(LCoverExtract$State;)V"⟩
abbrev cX7_offer : ByteArray := prog_9_method_3_code
def yX7_offer : MethodName := ⟨RX7, "offer", "(LCoverExtract$State;II)V"⟩
def RX8 : String := "CoverExtract"
def TX8 : u_T := fun k => match k with
  | 0 => ("CoverExtract", "tape", "[B", true)
  | 1 => ("CoverExtract", "tapeBytes", "I", false)
  | 2 => ("CoverExtract", "faultPlace", "I", false)
  | 3 => ("CoverExtract", "refused", "[I", true)
  | 4 => ("CoverExtract", "now", "LCoverExtract$State;", true)
  | 5 => ("CoverExtract", "past", "LCoverExtract$Past;", true)
  | 6 => ("CoverExtract", "reader", "LCoverExtract$Reader;", true)
  | 7 => ("CoverExtract", "climb", "LCoverExtract$Climb;", true)
  | 8 => ("CoverExtract", "queue", "LCoverExtract$Queue;", true)
  | 9 => ("CoverExtract", "ceiling", "LCoverExtract$Ceiling;", true)
  | 10 => ("CoverExtract", "search", "LCoverExtract$Search;", true)
  | _ => ("CoverExtract", "swap", "LCoverExtract$Swap;", true)
def tyX8 : Nat → FieldType := fun k => match k with
  | 0 => .array .byte
  | 1 => .int
  | 2 => .int
  | 3 => .array .int
  | 4 => .object "CoverExtract$State"
  | 5 => .object "CoverExtract$Past"
  | 6 => .object "CoverExtract$Reader"
  | 7 => .object "CoverExtract$Climb"
  | 8 => .object "CoverExtract$Queue"
  | 9 => .object "CoverExtract$Ceiling"
  | 10 => .object "CoverExtract$Search"
  | _ => .object "CoverExtract$Swap"
abbrev wsX80 : List Cond := u_ws RX8 TX8 12
theorem nmX8 : ∀ a, a < 12 → ∀ b, b < 12 → a ≠ b → (TX8 a).2.1 ≠ (TX8 b).2.1 := by decide +kernel
theorem tyX8_ok : ∀ k, k < 12 → parseFieldDescriptor (TX8 k).2.2.1 = some (tyX8 k) := by decide +kernel
abbrev cX8_init : ByteArray := prog_1_method_1_code
def yX8_init : MethodName := ⟨RX8, "<init>", "()V"⟩
abbrev cX8_feed : ByteArray := prog_1_method_2_code
def yX8_feed : MethodName := ⟨RX8, "feed", "(IIIII)I"⟩
abbrev cX8_text : ByteArray := prog_1_method_3_code
def yX8_text : MethodName := ⟨RX8, "text", "(I)I"⟩
abbrev cX8_fault : ByteArray := prog_1_method_4_code
def yX8_fault : MethodName := ⟨RX8, "fault", "()I"⟩
abbrev cX8_weigh : ByteArray := prog_1_method_5_code
def yX8_weigh : MethodName := ⟨RX8, "weigh", "(II)I"⟩
abbrev cX8_lean : ByteArray := prog_1_method_6_code
def yX8_lean : MethodName := ⟨RX8, "lean", "(IZ)I"⟩
abbrev cX8_budget : ByteArray := prog_1_method_7_code
def yX8_budget : MethodName := ⟨RX8, "budget", "(I)I"⟩
abbrev cX8_take : ByteArray := prog_1_method_8_code
def yX8_take : MethodName := ⟨RX8, "take", "(I)I"⟩
abbrev cX8_drop : ByteArray := prog_1_method_9_code
def yX8_drop : MethodName := ⟨RX8, "drop", "(I)I"⟩
abbrev cX8_undo : ByteArray := prog_1_method_10_code
def yX8_undo : MethodName := ⟨RX8, "undo", "()I"⟩
abbrev cX8_told : ByteArray := prog_1_method_11_code
def yX8_told : MethodName := ⟨RX8, "told", "(I)I"⟩
abbrev cX8_sentence : ByteArray := prog_1_method_12_code
def yX8_sentence : MethodName := ⟨RX8, "sentence", "(II)I"⟩
abbrev cX8_words : ByteArray := prog_1_method_13_code
def yX8_words : MethodName := ⟨RX8, "words", "(I)J"⟩
abbrev cX8_word : ByteArray := prog_1_method_14_code
def yX8_word : MethodName := ⟨RX8, "word", "(II)I"⟩
abbrev cX8_letter : ByteArray := prog_1_method_15_code
def yX8_letter : MethodName := ⟨RX8, "letter", "(II)I"⟩
abbrev cX8_greedy : ByteArray := prog_1_method_16_code
def yX8_greedy : MethodName := ⟨RX8, "greedy", "(II)I"⟩
abbrev cX8_step : ByteArray := prog_1_method_17_code
def yX8_step : MethodName := ⟨RX8, "step", "(II)I"⟩
abbrev cX8_lazy : ByteArray := prog_1_method_18_code
def yX8_lazy : MethodName := ⟨RX8, "lazy", "(I)I"⟩
abbrev cX8_bound : ByteArray := prog_1_method_19_code
def yX8_bound : MethodName := ⟨RX8, "bound", "(I)I"⟩
abbrev cX8_best : ByteArray := prog_1_method_20_code
def yX8_best : MethodName := ⟨RX8, "best", "(II)I"⟩
abbrev cX8_fewest : ByteArray := prog_1_method_21_code
def yX8_fewest : MethodName := ⟨RX8, "fewest", "(I)I"⟩
abbrev cX8_shortest : ByteArray := prog_1_method_22_code
def yX8_shortest : MethodName := ⟨RX8, "shortest", "(II)I"⟩
abbrev cX8_worth : ByteArray := prog_1_method_23_code
def yX8_worth : MethodName := ⟨RX8, "worth", "(I)I"⟩
abbrev cX8_exchange : ByteArray := prog_1_method_24_code
def yX8_exchange : MethodName := ⟨RX8, "exchange", "(I)I"⟩
abbrev cX8_next : ByteArray := prog_1_method_25_code
def yX8_next : MethodName := ⟨RX8, "next", "(I)I"⟩
abbrev cX8_likeness : ByteArray := prog_1_method_26_code
def yX8_likeness : MethodName := ⟨RX8, "likeness", "(III)I"⟩
abbrev cX8_print : ByteArray := prog_1_method_27_code
def yX8_print : MethodName := ⟨RX8, "print", "()J"⟩
abbrev cX8_status : ByteArray := prog_1_method_28_code
def yX8_status : MethodName := ⟨RX8, "status", "(I)I"⟩
abbrev cX8_putNumber : ByteArray := prog_1_method_29_code
def yX8_putNumber : MethodName := ⟨RX8, "putNumber", "(I)V"⟩
abbrev cX8_needSentence : ByteArray := prog_1_method_30_code
def yX8_needSentence : MethodName := ⟨RX8, "needSentence", "(I)V"⟩
abbrev cX8_needWord : ByteArray := prog_1_method_31_code
def yX8_needWord : MethodName := ⟨RX8, "needWord", "(I)V"⟩
abbrev cX8_needElement : ByteArray := prog_1_method_32_code
def yX8_needElement : MethodName := ⟨RX8, "needElement", "(Z)V"⟩
abbrev cX8_needNumber : ByteArray := prog_1_method_33_code
def yX8_needNumber : MethodName := ⟨RX8, "needNumber", "(III)V"⟩
abbrev cX8_needState : ByteArray := prog_1_method_34_code
def yX8_needState : MethodName := ⟨RX8, "needState", "(Z)V"⟩
abbrev cX8_isIn : ByteArray := prog_1_method_35_code
def yX8_isIn : MethodName := ⟨RX8, "isIn", "(II)Z"⟩
abbrev cX8_isMoreFor : ByteArray := prog_1_method_36_code
def yX8_isMoreFor : MethodName := ⟨RX8, "isMoreFor", "(IIII)Z"⟩
abbrev cX8_commonDivisor : ByteArray := prog_1_method_37_code
def yX8_commonDivisor : MethodName := ⟨RX8, "commonDivisor", "(II)I"⟩
def RX9 : String := "CoverExtractModel"
def TX9 : u_T := fun k => match k with
  | 0 => ("CoverExtractModel", "thrown", "I", false)
  | 1 => ("CoverExtractModel", "refused", "[I", true)
  | 2 => ("CoverExtractModel", "tape", "I", false)
  | 3 => ("CoverExtractModel", "size", "I", false)
  | 4 => ("CoverExtractModel", "at", "I", false)
  | 5 => ("CoverExtractModel", "place", "I", false)
  | 6 => ("CoverExtractModel", "fault", "I", false)
  | 7 => ("CoverExtractModel", "faultAt", "I", false)
  | 8 => ("CoverExtractModel", "fed", "[I", true)
  | 9 => ("CoverExtractModel", "now", "[J", true)
  | 10 => ("CoverExtractModel", "told", "[J", true)
  | 11 => ("CoverExtractModel", "past", "[[J", true)
  | 12 => ("CoverExtractModel", "backs", "I", false)
  | 13 => ("CoverExtractModel", "isLaid", "Z", false)
  | 14 => ("CoverExtractModel", "steps", "[I", true)
  | 15 => ("CoverExtractModel", "stepMany", "I", false)
  | 16 => ("CoverExtractModel", "greedySet", "I", false)
  | 17 => ("CoverExtractModel", "wouldAsk", "I", false)
  | 18 => ("CoverExtractModel", "askedGain", "[I", true)
  | 19 => ("CoverExtractModel", "askedCost", "[I", true)
  | 20 => ("CoverExtractModel", "isQueued", "[Z", true)
  | 21 => ("CoverExtractModel", "lazySet", "I", false)
  | 22 => ("CoverExtractModel", "askedMany", "I", false)
  | 23 => ("CoverExtractModel", "setCovers", "[I", true)
  | 24 => ("CoverExtractModel", "setLength", "[I", true)
  | 25 => ("CoverExtractModel", "weightNow", "[I", true)
  | _ => ("CoverExtractModel", "chainNow", "[I", true)
def tyX9 : Nat → FieldType := fun k => match k with
  | 0 => .int
  | 1 => .array .int
  | 2 => .int
  | 3 => .int
  | 4 => .int
  | 5 => .int
  | 6 => .int
  | 7 => .int
  | 8 => .array .int
  | 9 => .array .long
  | 10 => .array .long
  | 11 => .array (.array .long)
  | 12 => .int
  | 13 => .boolean
  | 14 => .array .int
  | 15 => .int
  | 16 => .int
  | 17 => .int
  | 18 => .array .int
  | 19 => .array .int
  | 20 => .array .boolean
  | 21 => .int
  | 22 => .int
  | 23 => .array .int
  | 24 => .array .int
  | 25 => .array .int
  | _ => .array .int
abbrev wsX90 : List Cond := u_ws RX9 TX9 27
theorem nmX9 : ∀ a, a < 27 → ∀ b, b < 27 → a ≠ b → (TX9 a).2.1 ≠ (TX9 b).2.1 := by decide +kernel
theorem tyX9_ok : ∀ k, k < 27 → parseFieldDescriptor (TX9 k).2.2.1 = some (tyX9 k) := by decide +kernel
abbrev cX9_init : ByteArray := prog_11_method_1_code
def yX9_init : MethodName := ⟨RX9, "<init>", "()V"⟩
abbrev cX9_thrown : ByteArray := prog_11_method_2_code
def yX9_thrown : MethodName := ⟨RX9, "thrown", "()I"⟩
abbrev cX9_bad : ByteArray := prog_11_method_3_code
def yX9_bad : MethodName := ⟨RX9, "bad", "(ZII)Z"⟩
abbrev cX9_in : ByteArray := prog_11_method_4_code
def yX9_in : MethodName := ⟨RX9, "in", "(III)Z"⟩
abbrev cX9_has : ByteArray := prog_11_method_5_code
def yX9_has : MethodName := ⟨RX9, "has", "(JI)Z"⟩
abbrev cX9_ones : ByteArray := prog_11_method_6_code
def yX9_ones : MethodName := ⟨RX9, "ones", "(J)I"⟩
abbrev cX9_feed : ByteArray := prog_11_method_7_code
def yX9_feed : MethodName := ⟨RX9, "feed", "(IIIII)I"⟩
abbrev cX9_copies : ByteArray := prog_11_method_8_code
def yX9_copies : MethodName := ⟨RX9, "copies", "([J[J)V"⟩
abbrev cX9_sentenceAt : ByteArray := prog_11_method_9_code
def yX9_sentenceAt : MethodName := ⟨RX9, "sentenceAt", "(I)I"⟩
abbrev cX9_wordAt : ByteArray := prog_11_method_10_code
def yX9_wordAt : MethodName := ⟨RX9, "wordAt", "(I)I"⟩
abbrev cX9_many : ByteArray := prog_11_method_11_code
def yX9_many : MethodName := ⟨RX9, "many", "()I"⟩
abbrev cX9_wordMany : ByteArray := prog_11_method_12_code
def yX9_wordMany : MethodName := ⟨RX9, "wordMany", "()I"⟩
abbrev cX9_wordsOf : ByteArray := prog_11_method_13_code
def yX9_wordsOf : MethodName := ⟨RX9, "wordsOf", "(I)J"⟩
abbrev cX9_lengthOf : ByteArray := prog_11_method_14_code
def yX9_lengthOf : MethodName := ⟨RX9, "lengthOf", "(I)I"⟩
abbrev cX9_byteAt : ByteArray := prog_11_method_15_code
def yX9_byteAt : MethodName := ⟨RX9, "byteAt", "(I)I"⟩
abbrev cX9_here : ByteArray := prog_11_method_16_code
def yX9_here : MethodName := ⟨RX9, "here", "()I"⟩
abbrev cX9_fine : ByteArray := prog_11_method_17_code
def yX9_fine : MethodName := ⟨RX9, "fine", "()Z"⟩
abbrev cX9_wrong : ByteArray := prog_11_method_18_code
def yX9_wrong : MethodName := ⟨RX9, "wrong", "(II)V"⟩
abbrev cX9_isSmall : ByteArray := prog_11_method_19_code
def yX9_isSmall : MethodName := ⟨RX9, "isSmall", "(I)Z"⟩
abbrev cX9_readsWord : ByteArray := prog_11_method_20_code
def yX9_readsWord : MethodName := ⟨RX9, "readsWord", "(I)V"⟩
abbrev cX9_isWord : ByteArray := prog_11_method_21_code
def yX9_isWord : MethodName := ⟨RX9, "isWord", "(III)Z"⟩
abbrev cX9_readsSentence : ByteArray := prog_11_method_22_code
def yX9_readsSentence : MethodName := ⟨RX9, "readsSentence", "()V"⟩
abbrev cX9_text : ByteArray := prog_11_method_23_code
def yX9_text : MethodName := ⟨RX9, "text", "(I)I"⟩
abbrev cX9_fault : ByteArray := prog_11_method_24_code
def yX9_fault : MethodName := ⟨RX9, "fault", "()I"⟩
abbrev cX9_standsIn : ByteArray := prog_11_method_25_code
def yX9_standsIn : MethodName := ⟨RX9, "standsIn", "(I)I"⟩
abbrev cX9_weightOf : ByteArray := prog_11_method_26_code
def yX9_weightOf : MethodName := ⟨RX9, "weightOf", "(I)I"⟩
abbrev cX9_weightsOf : ByteArray := prog_11_method_27_code
def yX9_weightsOf : MethodName := ⟨RX9, "weightsOf", "(J)I"⟩
abbrev cX9_chain : ByteArray := prog_11_method_28_code
def yX9_chain : MethodName := ⟨RX9, "chain", "(I)I"⟩
abbrev cX9_wordsIn : ByteArray := prog_11_method_29_code
def yX9_wordsIn : MethodName := ⟨RX9, "wordsIn", "(I)J"⟩
abbrev cX9_covered : ByteArray := prog_11_method_30_code
def yX9_covered : MethodName := ⟨RX9, "covered", "(I)I"⟩
abbrev cX9_length : ByteArray := prog_11_method_31_code
def yX9_length : MethodName := ⟨RX9, "length", "(I)I"⟩
abbrev cX9_gain : ByteArray := prog_11_method_32_code
def yX9_gain : MethodName := ⟨RX9, "gain", "(II)I"⟩
abbrev cX9_cost : ByteArray := prog_11_method_33_code
def yX9_cost : MethodName := ⟨RX9, "cost", "(II)I"⟩
abbrev cX9_fits : ByteArray := prog_11_method_34_code
def yX9_fits : MethodName := ⟨RX9, "fits", "(II)Z"⟩
abbrev cX9_remembers : ByteArray := prog_11_method_35_code
def yX9_remembers : MethodName := ⟨RX9, "remembers", "()V"⟩
abbrev cX9_undo : ByteArray := prog_11_method_36_code
def yX9_undo : MethodName := ⟨RX9, "undo", "()I"⟩
abbrev cX9_isThere : ByteArray := prog_11_method_37_code
def yX9_isThere : MethodName := ⟨RX9, "isThere", "(I)Z"⟩
abbrev cX9_isSentence : ByteArray := prog_11_method_38_code
def yX9_isSentence : MethodName := ⟨RX9, "isSentence", "(I)Z"⟩
abbrev cX9_weigh : ByteArray := prog_11_method_39_code
def yX9_weigh : MethodName := ⟨RX9, "weigh", "(II)I"⟩
abbrev cX9_lean : ByteArray := prog_11_method_40_code
def yX9_lean : MethodName := ⟨RX9, "lean", "(IZ)I"⟩
abbrev cX9_budget : ByteArray := prog_11_method_41_code
def yX9_budget : MethodName := ⟨RX9, "budget", "(I)I"⟩
abbrev cX9_takenNow : ByteArray := prog_11_method_42_code
def yX9_takenNow : MethodName := ⟨RX9, "takenNow", "()I"⟩
abbrev cX9_take : ByteArray := prog_11_method_43_code
def yX9_take : MethodName := ⟨RX9, "take", "(I)I"⟩
abbrev cX9_drop : ByteArray := prog_11_method_44_code
def yX9_drop : MethodName := ⟨RX9, "drop", "(I)I"⟩
abbrev cX9_told : ByteArray := prog_11_method_45_code
def yX9_told : MethodName := ⟨RX9, "told", "(I)I"⟩
abbrev cX9_sentence : ByteArray := prog_11_method_46_code
def yX9_sentence : MethodName := ⟨RX9, "sentence", "(II)I"⟩
abbrev cX9_words : ByteArray := prog_11_method_47_code
def yX9_words : MethodName := ⟨RX9, "words", "(I)J"⟩
abbrev cX9_word : ByteArray := prog_11_method_48_code
def yX9_word : MethodName := ⟨RX9, "word", "(II)I"⟩
abbrev cX9_letter : ByteArray := prog_11_method_49_code
def yX9_letter : MethodName := ⟨RX9, "letter", "(II)I"⟩
abbrev cX9_isMore : ByteArray := prog_11_method_50_code
def yX9_isMore : MethodName := ⟨RX9, "isMore", "(IIIII)Z"⟩
abbrev cX9_chosen : ByteArray := prog_11_method_51_code
def yX9_chosen : MethodName := ⟨RX9, "chosen", "(II)I"⟩
abbrev cX9_goes : ByteArray := prog_11_method_52_code
def yX9_goes : MethodName := ⟨RX9, "goes", "(I)V"⟩
abbrev cX9_single : ByteArray := prog_11_method_53_code
def yX9_single : MethodName := ⟨RX9, "single", "()I"⟩
abbrev cX9_lays : ByteArray := prog_11_method_54_code
def yX9_lays : MethodName := ⟨RX9, "lays", "(I)V"⟩
abbrev cX9_greedy : ByteArray := prog_11_method_55_code
def yX9_greedy : MethodName := ⟨RX9, "greedy", "(II)I"⟩
abbrev cX9_step : ByteArray := prog_11_method_56_code
def yX9_step : MethodName := ⟨RX9, "step", "(II)I"⟩
abbrev cX9_first : ByteArray := prog_11_method_57_code
def yX9_first : MethodName := ⟨RX9, "first", "()I"⟩
abbrev cX9_asks : ByteArray := prog_11_method_58_code
def yX9_asks : MethodName := ⟨RX9, "asks", "(I)V"⟩
abbrev cX9_laysLazy : ByteArray := prog_11_method_59_code
def yX9_laysLazy : MethodName := ⟨RX9, "laysLazy", "()V"⟩
abbrev cX9_lazy : ByteArray := prog_11_method_60_code
def yX9_lazy : MethodName := ⟨RX9, "lazy", "(I)I"⟩
abbrev cX9_boundBy : ByteArray := prog_11_method_61_code
def yX9_boundBy : MethodName := ⟨RX9, "boundBy", "(I)I"⟩
abbrev cX9_bound : ByteArray := prog_11_method_62_code
def yX9_bound : MethodName := ⟨RX9, "bound", "(I)I"⟩
abbrev cX9_laysSets : ByteArray := prog_11_method_63_code
def yX9_laysSets : MethodName := ⟨RX9, "laysSets", "()V"⟩
abbrev cX9_bestWithin : ByteArray := prog_11_method_64_code
def yX9_bestWithin : MethodName := ⟨RX9, "bestWithin", "(II)I"⟩
abbrev cX9_best : ByteArray := prog_11_method_65_code
def yX9_best : MethodName := ⟨RX9, "best", "(II)I"⟩
abbrev cX9_fewest : ByteArray := prog_11_method_66_code
def yX9_fewest : MethodName := ⟨RX9, "fewest", "(I)I"⟩
abbrev cX9_shortest : ByteArray := prog_11_method_67_code
def yX9_shortest : MethodName := ⟨RX9, "shortest", "(II)I"⟩
abbrev cX9_worth : ByteArray := prog_11_method_68_code
def yX9_worth : MethodName := ⟨RX9, "worth", "(I)I"⟩
abbrev cX9_exchange : ByteArray := prog_11_method_69_code
def yX9_exchange : MethodName := ⟨RX9, "exchange", "(I)I"⟩
abbrev cX9_next : ByteArray := prog_11_method_70_code
def yX9_next : MethodName := ⟨RX9, "next", "(I)I"⟩
abbrev cX9_divisor : ByteArray := prog_11_method_71_code
def yX9_divisor : MethodName := ⟨RX9, "divisor", "(II)I"⟩
abbrev cX9_likeness : ByteArray := prog_11_method_72_code
def yX9_likeness : MethodName := ⟨RX9, "likeness", "(III)I"⟩
abbrev cX9_print : ByteArray := prog_11_method_73_code
def yX9_print : MethodName := ⟨RX9, "print", "()J"⟩
abbrev cX9_status : ByteArray := prog_11_method_74_code
def yX9_status : MethodName := ⟨RX9, "status", "(I)I"⟩
def RJx145de : String := "java/io/Serializable"
def TJx145de : u_T := fun k => match k with
  | _ => ("", "", "", false)
def tyJx145de : Nat → FieldType := fun k => match k with
  | _ => .int
abbrev wsJx145de0 : List Cond := u_ws RJx145de TJx145de 0
theorem nmJx145de : ∀ a, a < 0 → ∀ b, b < 0 → a ≠ b → (TJx145de a).2.1 ≠ (TJx145de b).2.1 := by decide +kernel
theorem tyJx145de_ok : ∀ k, k < 0 → parseFieldDescriptor (TJx145de k).2.2.1 = some (tyJx145de k) := by decide +kernel
def RJxb160c : String := "java/lang/Comparable"
def TJxb160c : u_T := fun k => match k with
  | _ => ("", "", "", false)
def tyJxb160c : Nat → FieldType := fun k => match k with
  | _ => .int
abbrev wsJxb160c0 : List Cond := u_ws RJxb160c TJxb160c 0
theorem nmJxb160c : ∀ a, a < 0 → ∀ b, b < 0 → a ≠ b → (TJxb160c a).2.1 ≠ (TJxb160c b).2.1 := by decide +kernel
theorem tyJxb160c_ok : ∀ k, k < 0 → parseFieldDescriptor (TJxb160c k).2.2.1 = some (tyJxb160c k) := by decide +kernel
def RJ6 : String := "java/lang/Integer"
def TJ6 : u_T := fun k => match k with
  | _ => ("", "", "", false)
def tyJ6 : Nat → FieldType := fun k => match k with
  | _ => .int
abbrev wsJ60 : List Cond := u_ws RJ6 TJ6 0
theorem nmJ6 : ∀ a, a < 0 → ∀ b, b < 0 → a ≠ b → (TJ6 a).2.1 ≠ (TJ6 b).2.1 := by decide +kernel
theorem tyJ6_ok : ∀ k, k < 0 → parseFieldDescriptor (TJ6 k).2.2.1 = some (tyJ6 k) := by decide +kernel
abbrev cJ6_compare_7cf53 : ByteArray := prog_17_method_40_code
def yJ6_compare_7cf53 : MethodName := ⟨RJ6, "compare", "(II)I"⟩
abbrev cJ6_numberOfTrailingZeros_0f7a4 : ByteArray := prog_17_method_48_code
def yJ6_numberOfTrailingZeros_0f7a4 : MethodName := ⟨RJ6, "numberOfTrailingZeros", "(I)I"⟩
abbrev cJ6_bitCount_0f7a4 : ByteArray := prog_17_method_49_code
def yJ6_bitCount_0f7a4 : MethodName := ⟨RJ6, "bitCount", "(I)I"⟩
def RJ13 : String := "java/lang/Long"
def TJ13 : u_T := fun k => match k with
  | _ => ("", "", "", false)
def tyJ13 : Nat → FieldType := fun k => match k with
  | _ => .int
abbrev wsJ130 : List Cond := u_ws RJ13 TJ13 0
theorem nmJ13 : ∀ a, a < 0 → ∀ b, b < 0 → a ≠ b → (TJ13 a).2.1 ≠ (TJ13 b).2.1 := by decide +kernel
theorem tyJ13_ok : ∀ k, k < 0 → parseFieldDescriptor (TJ13 k).2.2.1 = some (tyJ13 k) := by decide +kernel
abbrev cJ13_numberOfTrailingZeros_95d88 : ByteArray := prog_18_method_49_code
def yJ13_numberOfTrailingZeros_95d88 : MethodName := ⟨RJ13, "numberOfTrailingZeros", "(J)I"⟩
abbrev cJ13_bitCount_95d88 : ByteArray := prog_18_method_50_code
def yJ13_bitCount_95d88 : MethodName := ⟨RJ13, "bitCount", "(J)I"⟩
def RJxd2413 : String := "java/lang/Number"
def TJxd2413 : u_T := fun k => match k with
  | _ => ("", "", "", false)
def tyJxd2413 : Nat → FieldType := fun k => match k with
  | _ => .int
abbrev wsJxd24130 : List Cond := u_ws RJxd2413 TJxd2413 0
theorem nmJxd2413 : ∀ a, a < 0 → ∀ b, b < 0 → a ≠ b → (TJxd2413 a).2.1 ≠ (TJxd2413 b).2.1 := by decide +kernel
theorem tyJxd2413_ok : ∀ k, k < 0 → parseFieldDescriptor (TJxd2413 k).2.2.1 = some (tyJxd2413 k) := by decide +kernel
def RJ0 : String := "java/lang/String"
def TJ0 : u_T := fun k => match k with
  | _ => ("", "", "", false)
def tyJ0 : Nat → FieldType := fun k => match k with
  | _ => .int
abbrev wsJ00 : List Cond := u_ws RJ0 TJ0 0
theorem nmJ0 : ∀ a, a < 0 → ∀ b, b < 0 → a ≠ b → (TJ0 a).2.1 ≠ (TJ0 b).2.1 := by decide +kernel
theorem tyJ0_ok : ∀ k, k < 0 → parseFieldDescriptor (TJ0 k).2.2.1 = some (tyJ0 k) := by decide +kernel
def RJ10 : String := "java/lang/System"
def TJ10 : u_T := fun k => match k with
  | _ => ("", "", "", false)
def tyJ10 : Nat → FieldType := fun k => match k with
  | _ => .int
abbrev wsJ100 : List Cond := u_ws RJ10 TJ10 0
theorem nmJ10 : ∀ a, a < 0 → ∀ b, b < 0 → a ≠ b → (TJ10 a).2.1 ≠ (TJ10 b).2.1 := by decide +kernel
theorem tyJ10_ok : ∀ k, k < 0 → parseFieldDescriptor (TJ10 k).2.2.1 = some (tyJ10 k) := by decide +kernel
def RJxfd54e : String := "java/lang/constant/Constable"
def TJxfd54e : u_T := fun k => match k with
  | _ => ("", "", "", false)
def tyJxfd54e : Nat → FieldType := fun k => match k with
  | _ => .int
abbrev wsJxfd54e0 : List Cond := u_ws RJxfd54e TJxfd54e 0
theorem nmJxfd54e : ∀ a, a < 0 → ∀ b, b < 0 → a ≠ b → (TJxfd54e a).2.1 ≠ (TJxfd54e b).2.1 := by decide +kernel
theorem tyJxfd54e_ok : ∀ k, k < 0 → parseFieldDescriptor (TJxfd54e k).2.2.1 = some (tyJxfd54e k) := by decide +kernel
def RJx3cf43 : String := "java/lang/constant/ConstantDesc"
def TJx3cf43 : u_T := fun k => match k with
  | _ => ("", "", "", false)
def tyJx3cf43 : Nat → FieldType := fun k => match k with
  | _ => .int
abbrev wsJx3cf430 : List Cond := u_ws RJx3cf43 TJx3cf43 0
theorem nmJx3cf43 : ∀ a, a < 0 → ∀ b, b < 0 → a ≠ b → (TJx3cf43 a).2.1 ≠ (TJx3cf43 b).2.1 := by decide +kernel
theorem tyJx3cf43_ok : ∀ k, k < 0 → parseFieldDescriptor (TJx3cf43 k).2.2.1 = some (tyJx3cf43 k) := by decide +kernel
def RL : String := "CoverExtractLaw"
abbrev cL_text : ByteArray := method_3_code
def yL_text : MethodName := ⟨RL, "text", "(LCoverExtract;I[J)I"⟩
abbrev cL_weigh : ByteArray := method_4_code
def yL_weigh : MethodName := ⟨RL, "weigh", "(LCoverExtract;II[J)I"⟩
abbrev cL_lean : ByteArray := method_5_code
def yL_lean : MethodName := ⟨RL, "lean", "(LCoverExtract;IZ[J)I"⟩
abbrev cL_budget : ByteArray := method_6_code
def yL_budget : MethodName := ⟨RL, "budget", "(LCoverExtract;I[J)I"⟩
abbrev cL_take : ByteArray := method_7_code
def yL_take : MethodName := ⟨RL, "take", "(LCoverExtract;I[J)I"⟩
abbrev cL_drop : ByteArray := method_8_code
def yL_drop : MethodName := ⟨RL, "drop", "(LCoverExtract;I[J)I"⟩
abbrev cL_told : ByteArray := method_9_code
def yL_told : MethodName := ⟨RL, "told", "(LCoverExtract;I[J)I"⟩
abbrev cL_sentence : ByteArray := method_10_code
def yL_sentence : MethodName := ⟨RL, "sentence", "(LCoverExtract;II[J)I"⟩
abbrev cL_words : ByteArray := method_11_code
def yL_words : MethodName := ⟨RL, "words", "(LCoverExtract;I[J)I"⟩
abbrev cL_word : ByteArray := method_12_code
def yL_word : MethodName := ⟨RL, "word", "(LCoverExtract;II[J)I"⟩
abbrev cL_letter : ByteArray := method_13_code
def yL_letter : MethodName := ⟨RL, "letter", "(LCoverExtract;II[J)I"⟩
abbrev cL_greedy : ByteArray := method_14_code
def yL_greedy : MethodName := ⟨RL, "greedy", "(LCoverExtract;II[J)I"⟩
abbrev cL_step : ByteArray := method_15_code
def yL_step : MethodName := ⟨RL, "step", "(LCoverExtract;II[J)I"⟩
abbrev cL_lazy : ByteArray := method_16_code
def yL_lazy : MethodName := ⟨RL, "lazy", "(LCoverExtract;I[J)I"⟩
abbrev cL_bound : ByteArray := method_17_code
def yL_bound : MethodName := ⟨RL, "bound", "(LCoverExtract;I[J)I"⟩
abbrev cL_best : ByteArray := method_18_code
def yL_best : MethodName := ⟨RL, "best", "(LCoverExtract;II[J)I"⟩
abbrev cL_fewest : ByteArray := method_19_code
def yL_fewest : MethodName := ⟨RL, "fewest", "(LCoverExtract;I[J)I"⟩
abbrev cL_shortest : ByteArray := method_20_code
def yL_shortest : MethodName := ⟨RL, "shortest", "(LCoverExtract;II[J)I"⟩
abbrev cL_worth : ByteArray := method_21_code
def yL_worth : MethodName := ⟨RL, "worth", "(LCoverExtract;I[J)I"⟩
abbrev cL_exchange : ByteArray := method_22_code
def yL_exchange : MethodName := ⟨RL, "exchange", "(LCoverExtract;I[J)I"⟩
abbrev cL_next : ByteArray := method_23_code
def yL_next : MethodName := ⟨RL, "next", "(LCoverExtract;I[J)I"⟩
abbrev cL_likeness : ByteArray := method_24_code
def yL_likeness : MethodName := ⟨RL, "likeness", "(LCoverExtract;III[J)I"⟩
abbrev cL_law : ByteArray := code
def yL_law : MethodName := ⟨RL, "law", "([I)Z"⟩
abbrev vwCl : List vw_C := [(RX0, TX0, 2), (RX1, TX1, 4), (RX2, TX2, 3), (RX3, TX3, 5), (RX4, TX4, 7), (RX5, TX5, 9), (RX6, TX6, 12), (RX7, TX7, 3), (RX8, TX8, 12), (RX9, TX9, 27)]
end
section
theorem dX0_init_0 : decode cX0_init 0 = .ok (.aload_n 0, 1) := by decide +kernel
theorem dX0_init_1 : decode cX0_init 1 = .ok (.invokespecial 3, 3) := by decide +kernel
theorem dX0_init_4 : decode cX0_init 4 = .ok (.aload_n 0, 1) := by decide +kernel
theorem dX0_init_5 : decode cX0_init 5 = .ok (.iconst 0, 1) := by decide +kernel
theorem dX0_init_6 : decode cX0_init 6 = .ok (.putfield 9, 3) := by decide +kernel
theorem dX0_init_9 : decode cX0_init 9 = .ok (.aload_n 0, 1) := by decide +kernel
theorem dX0_init_10 : decode cX0_init 10 = .ok (.iconst 0, 1) := by decide +kernel
theorem dX0_init_11 : decode cX0_init 11 = .ok (.putfield 15, 3) := by decide +kernel
theorem dX0_init_14 : decode cX0_init 14 = .ok (.return_, 1) := by decide +kernel
theorem dX0_run_0 : decode cX0_run 0 = .ok (.iconst 0, 1) := by decide +kernel
theorem dX0_run_1 : decode cX0_run 1 = .ok (.istore_n 3, 1) := by decide +kernel
theorem dX0_run_2 : decode cX0_run 2 = .ok (.aload_n 0, 1) := by decide +kernel
theorem dX0_run_3 : decode cX0_run 3 = .ok (.aload_n 1, 1) := by decide +kernel
theorem dX0_run_4 : decode cX0_run 4 = .ok (.iload_n 3, 1) := by decide +kernel
theorem dX0_run_5 : decode cX0_run 5 = .ok (.invokestatic 18, 3) := by decide +kernel
theorem dX0_run_8 : decode cX0_run 8 = .ok (.putfield 9, 3) := by decide +kernel
theorem dX0_run_11 : decode cX0_run 11 = .ok (.aload_n 0, 1) := by decide +kernel
theorem dX0_run_12 : decode cX0_run 12 = .ok (.iconst 0, 1) := by decide +kernel
theorem dX0_run_13 : decode cX0_run 13 = .ok (.putfield 15, 3) := by decide +kernel
theorem dX0_run_16 : decode cX0_run 16 = .ok (.iconst 0, 1) := by decide +kernel
theorem dX0_run_17 : decode cX0_run 17 = .ok (.istore 4, 2) := by decide +kernel
theorem dX0_run_19 : decode cX0_run 19 = .ok (.iload 4, 2) := by decide +kernel
theorem dX0_run_21 : decode cX0_run 21 = .ok (.aload_n 2, 1) := by decide +kernel
theorem dX0_run_22 : decode cX0_run 22 = .ok (.getfield 22, 3) := by decide +kernel
theorem dX0_run_25 : decode cX0_run 25 = .ok (.if_icmp .ge 61, 3) := by decide +kernel
theorem dX0_run_28 : decode cX0_run 28 = .ok (.iload 4, 2) := by decide +kernel
theorem dX0_run_30 : decode cX0_run 30 = .ok (.bipush 16, 2) := by decide +kernel
theorem dX0_run_32 : decode cX0_run 32 = .ok (.if_icmp .ge 54, 3) := by decide +kernel
theorem dX0_run_35 : decode cX0_run 35 = .ok (.iload_n 3, 1) := by decide +kernel
theorem dX0_run_36 : decode cX0_run 36 = .ok (.aload_n 1, 1) := by decide +kernel
theorem dX0_run_37 : decode cX0_run 37 = .ok (.getfield 27, 3) := by decide +kernel
theorem dX0_run_40 : decode cX0_run 40 = .ok (.aload_n 2, 1) := by decide +kernel
theorem dX0_run_41 : decode cX0_run 41 = .ok (.getfield 33, 3) := by decide +kernel
theorem dX0_run_44 : decode cX0_run 44 = .ok (.iload 4, 2) := by decide +kernel
theorem dX0_run_46 : decode cX0_run 46 = .ok (.iaload, 1) := by decide +kernel
theorem dX0_run_47 : decode cX0_run 47 = .ok (.iaload, 1) := by decide +kernel
theorem dX0_run_48 : decode cX0_run 48 = .ok (.ior, 1) := by decide +kernel
theorem dX0_run_49 : decode cX0_run 49 = .ok (.istore_n 3, 1) := by decide +kernel
theorem dX0_run_50 : decode cX0_run 50 = .ok (.aload_n 1, 1) := by decide +kernel
theorem dX0_run_51 : decode cX0_run 51 = .ok (.iload_n 3, 1) := by decide +kernel
theorem dX0_run_52 : decode cX0_run 52 = .ok (.invokestatic 18, 3) := by decide +kernel
theorem dX0_run_55 : decode cX0_run 55 = .ok (.istore 5, 2) := by decide +kernel
theorem dX0_run_57 : decode cX0_run 57 = .ok (.iload 5, 2) := by decide +kernel
theorem dX0_run_59 : decode cX0_run 59 = .ok (.aload_n 0, 1) := by decide +kernel
theorem dX0_run_60 : decode cX0_run 60 = .ok (.getfield 9, 3) := by decide +kernel
theorem dX0_run_63 : decode cX0_run 63 = .ok (.if_icmp .ge 17, 3) := by decide +kernel
theorem dX0_run_66 : decode cX0_run 66 = .ok (.aload_n 0, 1) := by decide +kernel
theorem dX0_run_67 : decode cX0_run 67 = .ok (.iload 5, 2) := by decide +kernel
theorem dX0_run_69 : decode cX0_run 69 = .ok (.putfield 9, 3) := by decide +kernel
theorem dX0_run_72 : decode cX0_run 72 = .ok (.aload_n 0, 1) := by decide +kernel
theorem dX0_run_73 : decode cX0_run 73 = .ok (.iload 4, 2) := by decide +kernel
theorem dX0_run_75 : decode cX0_run 75 = .ok (.iconst 1, 1) := by decide +kernel
theorem dX0_run_76 : decode cX0_run 76 = .ok (.iadd, 1) := by decide +kernel
theorem dX0_run_77 : decode cX0_run 77 = .ok (.putfield 15, 3) := by decide +kernel
theorem dX0_run_80 : decode cX0_run 80 = .ok (.iinc 4 1, 3) := by decide +kernel
theorem dX0_run_83 : decode cX0_run 83 = .ok (.goto (-64), 3) := by decide +kernel
theorem dX0_run_86 : decode cX0_run 86 = .ok (.return_, 1) := by decide +kernel
theorem dX0_ceilingBy_0 : decode cX0_ceilingBy 0 = .ok (.aload_n 0, 1) := by decide +kernel
theorem dX0_ceilingBy_1 : decode cX0_ceilingBy 1 = .ok (.iload_n 1, 1) := by decide +kernel
theorem dX0_ceilingBy_2 : decode cX0_ceilingBy 2 = .ok (.invokevirtual 36, 3) := by decide +kernel
theorem dX0_ceilingBy_5 : decode cX0_ceilingBy 5 = .ok (.lstore_n 2, 1) := by decide +kernel
theorem dX0_ceilingBy_6 : decode cX0_ceilingBy 6 = .ok (.aload_n 0, 1) := by decide +kernel
theorem dX0_ceilingBy_7 : decode cX0_ceilingBy 7 = .ok (.lload_n 2, 1) := by decide +kernel
theorem dX0_ceilingBy_8 : decode cX0_ceilingBy 8 = .ok (.invokevirtual 40, 3) := by decide +kernel
theorem dX0_ceilingBy_11 : decode cX0_ceilingBy 11 = .ok (.istore 4, 2) := by decide +kernel
theorem dX0_ceilingBy_13 : decode cX0_ceilingBy 13 = .ok (.aload_n 0, 1) := by decide +kernel
theorem dX0_ceilingBy_14 : decode cX0_ceilingBy 14 = .ok (.getfield 44, 3) := by decide +kernel
theorem dX0_ceilingBy_17 : decode cX0_ceilingBy 17 = .ok (.istore 5, 2) := by decide +kernel
theorem dX0_ceilingBy_19 : decode cX0_ceilingBy 19 = .ok (.aload_n 0, 1) := by decide +kernel
theorem dX0_ceilingBy_20 : decode cX0_ceilingBy 20 = .ok (.invokevirtual 47, 3) := by decide +kernel
theorem dX0_ceilingBy_23 : decode cX0_ceilingBy 23 = .ok (.iload_n 1, 1) := by decide +kernel
theorem dX0_ceilingBy_24 : decode cX0_ceilingBy 24 = .ok (.iconst (-1), 1) := by decide +kernel
theorem dX0_ceilingBy_25 : decode cX0_ceilingBy 25 = .ok (.ixor, 1) := by decide +kernel
theorem dX0_ceilingBy_26 : decode cX0_ceilingBy 26 = .ok (.iand, 1) := by decide +kernel
theorem dX0_ceilingBy_27 : decode cX0_ceilingBy 27 = .ok (.istore 6, 2) := by decide +kernel
theorem dX0_ceilingBy_29 : decode cX0_ceilingBy 29 = .ok (.iconst 0, 1) := by decide +kernel
theorem dX0_ceilingBy_30 : decode cX0_ceilingBy 30 = .ok (.istore 7, 2) := by decide +kernel
theorem dX0_ceilingBy_32 : decode cX0_ceilingBy 32 = .ok (.iload 7, 2) := by decide +kernel
theorem dX0_ceilingBy_34 : decode cX0_ceilingBy 34 = .ok (.bipush 16, 2) := by decide +kernel
theorem dX0_ceilingBy_36 : decode cX0_ceilingBy 36 = .ok (.if_icmp .ge 109, 3) := by decide +kernel
theorem dX0_ceilingBy_39 : decode cX0_ceilingBy 39 = .ok (.iload 6, 2) := by decide +kernel
theorem dX0_ceilingBy_41 : decode cX0_ceilingBy 41 = .ok (.ifCond .eq 104, 3) := by decide +kernel
theorem dX0_ceilingBy_44 : decode cX0_ceilingBy 44 = .ok (.aload_n 0, 1) := by decide +kernel
theorem dX0_ceilingBy_45 : decode cX0_ceilingBy 45 = .ok (.iload 6, 2) := by decide +kernel
theorem dX0_ceilingBy_47 : decode cX0_ceilingBy 47 = .ok (.lload_n 2, 1) := by decide +kernel
theorem dX0_ceilingBy_48 : decode cX0_ceilingBy 48 = .ok (.invokestatic 51, 3) := by decide +kernel
theorem dX0_ceilingBy_51 : decode cX0_ceilingBy 51 = .ok (.istore 8, 2) := by decide +kernel
theorem dX0_ceilingBy_53 : decode cX0_ceilingBy 53 = .ok (.iload 8, 2) := by decide +kernel
theorem dX0_ceilingBy_55 : decode cX0_ceilingBy 55 = .ok (.iconst (-1), 1) := by decide +kernel
theorem dX0_ceilingBy_56 : decode cX0_ceilingBy 56 = .ok (.if_icmp .ne 6, 3) := by decide +kernel
theorem dX0_ceilingBy_59 : decode cX0_ceilingBy 59 = .ok (.goto 86, 3) := by decide +kernel
theorem dX0_ceilingBy_62 : decode cX0_ceilingBy 62 = .ok (.aload_n 0, 1) := by decide +kernel
theorem dX0_ceilingBy_63 : decode cX0_ceilingBy 63 = .ok (.aload_n 0, 1) := by decide +kernel
theorem dX0_ceilingBy_64 : decode cX0_ceilingBy 64 = .ok (.getfield 55, 3) := by decide +kernel
theorem dX0_ceilingBy_67 : decode cX0_ceilingBy 67 = .ok (.iload 8, 2) := by decide +kernel
theorem dX0_ceilingBy_69 : decode cX0_ceilingBy 69 = .ok (.laload, 1) := by decide +kernel
theorem dX0_ceilingBy_70 : decode cX0_ceilingBy 70 = .ok (.lload_n 2, 1) := by decide +kernel
theorem dX0_ceilingBy_71 : decode cX0_ceilingBy 71 = .ok (.ldc2_w 59, 3) := by decide +kernel
theorem dX0_ceilingBy_74 : decode cX0_ceilingBy 74 = .ok (.lxor, 1) := by decide +kernel
theorem dX0_ceilingBy_75 : decode cX0_ceilingBy 75 = .ok (.land, 1) := by decide +kernel
theorem dX0_ceilingBy_76 : decode cX0_ceilingBy 76 = .ok (.invokevirtual 40, 3) := by decide +kernel
theorem dX0_ceilingBy_79 : decode cX0_ceilingBy 79 = .ok (.istore 9, 2) := by decide +kernel
theorem dX0_ceilingBy_81 : decode cX0_ceilingBy 81 = .ok (.aload_n 0, 1) := by decide +kernel
theorem dX0_ceilingBy_82 : decode cX0_ceilingBy 82 = .ok (.getfield 61, 3) := by decide +kernel
theorem dX0_ceilingBy_85 : decode cX0_ceilingBy 85 = .ok (.iload 8, 2) := by decide +kernel
theorem dX0_ceilingBy_87 : decode cX0_ceilingBy 87 = .ok (.iaload, 1) := by decide +kernel
theorem dX0_ceilingBy_88 : decode cX0_ceilingBy 88 = .ok (.istore 10, 2) := by decide +kernel
theorem dX0_ceilingBy_90 : decode cX0_ceilingBy 90 = .ok (.iload 10, 2) := by decide +kernel
theorem dX0_ceilingBy_92 : decode cX0_ceilingBy 92 = .ok (.ifCond .le 22, 3) := by decide +kernel
theorem dX0_ceilingBy_95 : decode cX0_ceilingBy 95 = .ok (.iload 10, 2) := by decide +kernel
theorem dX0_ceilingBy_97 : decode cX0_ceilingBy 97 = .ok (.iload 5, 2) := by decide +kernel
theorem dX0_ceilingBy_99 : decode cX0_ceilingBy 99 = .ok (.if_icmp .le 15, 3) := by decide +kernel
theorem dX0_ceilingBy_102 : decode cX0_ceilingBy 102 = .ok (.iload 4, 2) := by decide +kernel
theorem dX0_ceilingBy_104 : decode cX0_ceilingBy 104 = .ok (.iload 9, 2) := by decide +kernel
theorem dX0_ceilingBy_106 : decode cX0_ceilingBy 106 = .ok (.iload 5, 2) := by decide +kernel
theorem dX0_ceilingBy_108 : decode cX0_ceilingBy 108 = .ok (.imul, 1) := by decide +kernel
theorem dX0_ceilingBy_109 : decode cX0_ceilingBy 109 = .ok (.iload 10, 2) := by decide +kernel
theorem dX0_ceilingBy_111 : decode cX0_ceilingBy 111 = .ok (.idiv, 1) := by decide +kernel
theorem dX0_ceilingBy_112 : decode cX0_ceilingBy 112 = .ok (.iadd, 1) := by decide +kernel
theorem dX0_ceilingBy_113 : decode cX0_ceilingBy 113 = .ok (.ireturn, 1) := by decide +kernel
theorem dX0_ceilingBy_114 : decode cX0_ceilingBy 114 = .ok (.iload 4, 2) := by decide +kernel
theorem dX0_ceilingBy_116 : decode cX0_ceilingBy 116 = .ok (.iload 9, 2) := by decide +kernel
theorem dX0_ceilingBy_118 : decode cX0_ceilingBy 118 = .ok (.iadd, 1) := by decide +kernel
theorem dX0_ceilingBy_119 : decode cX0_ceilingBy 119 = .ok (.istore 4, 2) := by decide +kernel
theorem dX0_ceilingBy_121 : decode cX0_ceilingBy 121 = .ok (.iload 5, 2) := by decide +kernel
theorem dX0_ceilingBy_123 : decode cX0_ceilingBy 123 = .ok (.iload 10, 2) := by decide +kernel
theorem dX0_ceilingBy_125 : decode cX0_ceilingBy 125 = .ok (.isub, 1) := by decide +kernel
theorem dX0_ceilingBy_126 : decode cX0_ceilingBy 126 = .ok (.istore 5, 2) := by decide +kernel
theorem dX0_ceilingBy_128 : decode cX0_ceilingBy 128 = .ok (.iload 6, 2) := by decide +kernel
theorem dX0_ceilingBy_130 : decode cX0_ceilingBy 130 = .ok (.iconst 1, 1) := by decide +kernel
theorem dX0_ceilingBy_131 : decode cX0_ceilingBy 131 = .ok (.iload 8, 2) := by decide +kernel
theorem dX0_ceilingBy_133 : decode cX0_ceilingBy 133 = .ok (.ishl, 1) := by decide +kernel
theorem dX0_ceilingBy_134 : decode cX0_ceilingBy 134 = .ok (.iconst (-1), 1) := by decide +kernel
theorem dX0_ceilingBy_135 : decode cX0_ceilingBy 135 = .ok (.ixor, 1) := by decide +kernel
theorem dX0_ceilingBy_136 : decode cX0_ceilingBy 136 = .ok (.iand, 1) := by decide +kernel
theorem dX0_ceilingBy_137 : decode cX0_ceilingBy 137 = .ok (.istore 6, 2) := by decide +kernel
theorem dX0_ceilingBy_139 : decode cX0_ceilingBy 139 = .ok (.iinc 7 1, 3) := by decide +kernel
theorem dX0_ceilingBy_142 : decode cX0_ceilingBy 142 = .ok (.goto (-110), 3) := by decide +kernel
theorem dX0_ceilingBy_145 : decode cX0_ceilingBy 145 = .ok (.iload 4, 2) := by decide +kernel
theorem dX0_ceilingBy_147 : decode cX0_ceilingBy 147 = .ok (.ireturn, 1) := by decide +kernel
theorem dX0_densest_0 : decode cX0_densest 0 = .ok (.iconst (-1), 1) := by decide +kernel
theorem dX0_densest_1 : decode cX0_densest 1 = .ok (.istore 4, 2) := by decide +kernel
theorem dX0_densest_3 : decode cX0_densest 3 = .ok (.iconst 0, 1) := by decide +kernel
theorem dX0_densest_4 : decode cX0_densest 4 = .ok (.istore 5, 2) := by decide +kernel
theorem dX0_densest_6 : decode cX0_densest 6 = .ok (.iconst 1, 1) := by decide +kernel
theorem dX0_densest_7 : decode cX0_densest 7 = .ok (.istore 6, 2) := by decide +kernel
theorem dX0_densest_9 : decode cX0_densest 9 = .ok (.iconst 0, 1) := by decide +kernel
theorem dX0_densest_10 : decode cX0_densest 10 = .ok (.istore 7, 2) := by decide +kernel
theorem dX0_densest_12 : decode cX0_densest 12 = .ok (.iload 7, 2) := by decide +kernel
theorem dX0_densest_14 : decode cX0_densest 14 = .ok (.aload_n 0, 1) := by decide +kernel
theorem dX0_densest_15 : decode cX0_densest 15 = .ok (.getfield 64, 3) := by decide +kernel
theorem dX0_densest_18 : decode cX0_densest 18 = .ok (.if_icmp .ge 73, 3) := by decide +kernel
theorem dX0_densest_21 : decode cX0_densest 21 = .ok (.iload 7, 2) := by decide +kernel
theorem dX0_densest_23 : decode cX0_densest 23 = .ok (.iload_n 1, 1) := by decide +kernel
theorem dX0_densest_24 : decode cX0_densest 24 = .ok (.invokestatic 67, 3) := by decide +kernel
theorem dX0_densest_27 : decode cX0_densest 27 = .ok (.ifCond .eq 58, 3) := by decide +kernel
theorem dX0_densest_30 : decode cX0_densest 30 = .ok (.aload_n 0, 1) := by decide +kernel
theorem dX0_densest_31 : decode cX0_densest 31 = .ok (.aload_n 0, 1) := by decide +kernel
theorem dX0_densest_32 : decode cX0_densest 32 = .ok (.getfield 55, 3) := by decide +kernel
theorem dX0_densest_35 : decode cX0_densest 35 = .ok (.iload 7, 2) := by decide +kernel
theorem dX0_densest_37 : decode cX0_densest 37 = .ok (.laload, 1) := by decide +kernel
theorem dX0_densest_38 : decode cX0_densest 38 = .ok (.lload_n 2, 1) := by decide +kernel
theorem dX0_densest_39 : decode cX0_densest 39 = .ok (.ldc2_w 59, 3) := by decide +kernel
theorem dX0_densest_42 : decode cX0_densest 42 = .ok (.lxor, 1) := by decide +kernel
theorem dX0_densest_43 : decode cX0_densest 43 = .ok (.land, 1) := by decide +kernel
theorem dX0_densest_44 : decode cX0_densest 44 = .ok (.invokevirtual 40, 3) := by decide +kernel
theorem dX0_densest_47 : decode cX0_densest 47 = .ok (.istore 8, 2) := by decide +kernel
theorem dX0_densest_49 : decode cX0_densest 49 = .ok (.iload 8, 2) := by decide +kernel
theorem dX0_densest_51 : decode cX0_densest 51 = .ok (.aload_n 0, 1) := by decide +kernel
theorem dX0_densest_52 : decode cX0_densest 52 = .ok (.getfield 61, 3) := by decide +kernel
theorem dX0_densest_55 : decode cX0_densest 55 = .ok (.iload 7, 2) := by decide +kernel
theorem dX0_densest_57 : decode cX0_densest 57 = .ok (.iaload, 1) := by decide +kernel
theorem dX0_densest_58 : decode cX0_densest 58 = .ok (.iload 5, 2) := by decide +kernel
theorem dX0_densest_60 : decode cX0_densest 60 = .ok (.iload 6, 2) := by decide +kernel
theorem dX0_densest_62 : decode cX0_densest 62 = .ok (.invokestatic 71, 3) := by decide +kernel
theorem dX0_densest_65 : decode cX0_densest 65 = .ok (.ifCond .eq 20, 3) := by decide +kernel
theorem dX0_densest_68 : decode cX0_densest 68 = .ok (.iload 7, 2) := by decide +kernel
theorem dX0_densest_70 : decode cX0_densest 70 = .ok (.istore 4, 2) := by decide +kernel
theorem dX0_densest_72 : decode cX0_densest 72 = .ok (.iload 8, 2) := by decide +kernel
theorem dX0_densest_74 : decode cX0_densest 74 = .ok (.istore 5, 2) := by decide +kernel
theorem dX0_densest_76 : decode cX0_densest 76 = .ok (.aload_n 0, 1) := by decide +kernel
theorem dX0_densest_77 : decode cX0_densest 77 = .ok (.getfield 61, 3) := by decide +kernel
theorem dX0_densest_80 : decode cX0_densest 80 = .ok (.iload 7, 2) := by decide +kernel
theorem dX0_densest_82 : decode cX0_densest 82 = .ok (.iaload, 1) := by decide +kernel
theorem dX0_densest_83 : decode cX0_densest 83 = .ok (.istore 6, 2) := by decide +kernel
theorem dX0_densest_85 : decode cX0_densest 85 = .ok (.iinc 7 1, 3) := by decide +kernel
theorem dX0_densest_88 : decode cX0_densest 88 = .ok (.goto (-76), 3) := by decide +kernel
theorem dX0_densest_91 : decode cX0_densest 91 = .ok (.iload 4, 2) := by decide +kernel
theorem dX0_densest_93 : decode cX0_densest 93 = .ok (.ireturn, 1) := by decide +kernel
theorem dX1_init_0 : decode cX1_init 0 = .ok (.aload_n 0, 1) := by decide +kernel
theorem dX1_init_1 : decode cX1_init 1 = .ok (.invokespecial 3, 3) := by decide +kernel
theorem dX1_init_4 : decode cX1_init 4 = .ok (.aload_n 0, 1) := by decide +kernel
theorem dX1_init_5 : decode cX1_init 5 = .ok (.bipush 16, 2) := by decide +kernel
theorem dX1_init_7 : decode cX1_init 7 = .ok (.newarray .int, 2) := by decide +kernel
theorem dX1_init_9 : decode cX1_init 9 = .ok (.putfield 9, 3) := by decide +kernel
theorem dX1_init_12 : decode cX1_init 12 = .ok (.aload_n 0, 1) := by decide +kernel
theorem dX1_init_13 : decode cX1_init 13 = .ok (.iconst 0, 1) := by decide +kernel
theorem dX1_init_14 : decode cX1_init 14 = .ok (.putfield 15, 3) := by decide +kernel
theorem dX1_init_17 : decode cX1_init 17 = .ok (.aload_n 0, 1) := by decide +kernel
theorem dX1_init_18 : decode cX1_init 18 = .ok (.iconst 0, 1) := by decide +kernel
theorem dX1_init_19 : decode cX1_init 19 = .ok (.putfield 19, 3) := by decide +kernel
theorem dX1_init_22 : decode cX1_init 22 = .ok (.aload_n 0, 1) := by decide +kernel
theorem dX1_init_23 : decode cX1_init 23 = .ok (.iconst 0, 1) := by decide +kernel
theorem dX1_init_24 : decode cX1_init 24 = .ok (.putfield 22, 3) := by decide +kernel
theorem dX1_init_27 : decode cX1_init 27 = .ok (.return_, 1) := by decide +kernel
theorem dX1_run_0 : decode cX1_run 0 = .ok (.aload_n 0, 1) := by decide +kernel
theorem dX1_run_1 : decode cX1_run 1 = .ok (.iconst 0, 1) := by decide +kernel
theorem dX1_run_2 : decode cX1_run 2 = .ok (.putfield 19, 3) := by decide +kernel
theorem dX1_run_5 : decode cX1_run 5 = .ok (.aload_n 0, 1) := by decide +kernel
theorem dX1_run_6 : decode cX1_run 6 = .ok (.iconst 0, 1) := by decide +kernel
theorem dX1_run_7 : decode cX1_run 7 = .ok (.putfield 15, 3) := by decide +kernel
theorem dX1_run_10 : decode cX1_run 10 = .ok (.aload_n 0, 1) := by decide +kernel
theorem dX1_run_11 : decode cX1_run 11 = .ok (.iconst 0, 1) := by decide +kernel
theorem dX1_run_12 : decode cX1_run 12 = .ok (.putfield 22, 3) := by decide +kernel
theorem dX1_run_15 : decode cX1_run 15 = .ok (.iconst 0, 1) := by decide +kernel
theorem dX1_run_16 : decode cX1_run 16 = .ok (.istore_n 3, 1) := by decide +kernel
theorem dX1_run_17 : decode cX1_run 17 = .ok (.iload_n 3, 1) := by decide +kernel
theorem dX1_run_18 : decode cX1_run 18 = .ok (.aload_n 1, 1) := by decide +kernel
theorem dX1_run_19 : decode cX1_run 19 = .ok (.getfield 25, 3) := by decide +kernel
theorem dX1_run_22 : decode cX1_run 22 = .ok (.if_icmp .gt 97, 3) := by decide +kernel
theorem dX1_run_25 : decode cX1_run 25 = .ok (.aload_n 0, 1) := by decide +kernel
theorem dX1_run_26 : decode cX1_run 26 = .ok (.dup, 1) := by decide +kernel
theorem dX1_run_27 : decode cX1_run 27 = .ok (.getfield 22, 3) := by decide +kernel
theorem dX1_run_30 : decode cX1_run 30 = .ok (.aload_n 0, 1) := by decide +kernel
theorem dX1_run_31 : decode cX1_run 31 = .ok (.aload_n 1, 1) := by decide +kernel
theorem dX1_run_32 : decode cX1_run 32 = .ok (.invokevirtual 30, 3) := by decide +kernel
theorem dX1_run_35 : decode cX1_run 35 = .ok (.iadd, 1) := by decide +kernel
theorem dX1_run_36 : decode cX1_run 36 = .ok (.putfield 22, 3) := by decide +kernel
theorem dX1_run_39 : decode cX1_run 39 = .ok (.aload_n 1, 1) := by decide +kernel
theorem dX1_run_40 : decode cX1_run 40 = .ok (.aload_n 0, 1) := by decide +kernel
theorem dX1_run_41 : decode cX1_run 41 = .ok (.getfield 19, 3) := by decide +kernel
theorem dX1_run_44 : decode cX1_run 44 = .ok (.iload_n 2, 1) := by decide +kernel
theorem dX1_run_45 : decode cX1_run 45 = .ok (.ifCond .eq 7, 3) := by decide +kernel
theorem dX1_run_48 : decode cX1_run 48 = .ok (.iconst 1, 1) := by decide +kernel
theorem dX1_run_49 : decode cX1_run 49 = .ok (.goto 4, 3) := by decide +kernel
theorem dX1_run_52 : decode cX1_run 52 = .ok (.iconst 0, 1) := by decide +kernel
theorem dX1_run_53 : decode cX1_run 53 = .ok (.invokestatic 34, 3) := by decide +kernel
theorem dX1_run_56 : decode cX1_run 56 = .ok (.istore 4, 2) := by decide +kernel
theorem dX1_run_58 : decode cX1_run 58 = .ok (.iload 4, 2) := by decide +kernel
theorem dX1_run_60 : decode cX1_run 60 = .ok (.iconst (-1), 1) := by decide +kernel
theorem dX1_run_61 : decode cX1_run 61 = .ok (.if_icmp .eq 58, 3) := by decide +kernel
theorem dX1_run_64 : decode cX1_run 64 = .ok (.aload_n 0, 1) := by decide +kernel
theorem dX1_run_65 : decode cX1_run 65 = .ok (.getfield 15, 3) := by decide +kernel
theorem dX1_run_68 : decode cX1_run 68 = .ok (.bipush 16, 2) := by decide +kernel
theorem dX1_run_70 : decode cX1_run 70 = .ok (.if_icmp .lt 6, 3) := by decide +kernel
theorem dX1_run_73 : decode cX1_run 73 = .ok (.goto 46, 3) := by decide +kernel
theorem dX1_run_76 : decode cX1_run 76 = .ok (.aload_n 0, 1) := by decide +kernel
theorem dX1_run_77 : decode cX1_run 77 = .ok (.getfield 9, 3) := by decide +kernel
theorem dX1_run_80 : decode cX1_run 80 = .ok (.aload_n 0, 1) := by decide +kernel
theorem dX1_run_81 : decode cX1_run 81 = .ok (.getfield 15, 3) := by decide +kernel
theorem dX1_run_84 : decode cX1_run 84 = .ok (.iload 4, 2) := by decide +kernel
theorem dX1_run_86 : decode cX1_run 86 = .ok (.iastore, 1) := by decide +kernel
theorem dX1_run_87 : decode cX1_run 87 = .ok (.aload_n 0, 1) := by decide +kernel
theorem dX1_run_88 : decode cX1_run 88 = .ok (.dup, 1) := by decide +kernel
theorem dX1_run_89 : decode cX1_run 89 = .ok (.getfield 15, 3) := by decide +kernel
theorem dX1_run_92 : decode cX1_run 92 = .ok (.iconst 1, 1) := by decide +kernel
theorem dX1_run_93 : decode cX1_run 93 = .ok (.iadd, 1) := by decide +kernel
theorem dX1_run_94 : decode cX1_run 94 = .ok (.putfield 15, 3) := by decide +kernel
theorem dX1_run_97 : decode cX1_run 97 = .ok (.aload_n 0, 1) := by decide +kernel
theorem dX1_run_98 : decode cX1_run 98 = .ok (.dup, 1) := by decide +kernel
theorem dX1_run_99 : decode cX1_run 99 = .ok (.getfield 19, 3) := by decide +kernel
theorem dX1_run_102 : decode cX1_run 102 = .ok (.aload_n 1, 1) := by decide +kernel
theorem dX1_run_103 : decode cX1_run 103 = .ok (.getfield 38, 3) := by decide +kernel
theorem dX1_run_106 : decode cX1_run 106 = .ok (.iload 4, 2) := by decide +kernel
theorem dX1_run_108 : decode cX1_run 108 = .ok (.iaload, 1) := by decide +kernel
theorem dX1_run_109 : decode cX1_run 109 = .ok (.ior, 1) := by decide +kernel
theorem dX1_run_110 : decode cX1_run 110 = .ok (.putfield 19, 3) := by decide +kernel
theorem dX1_run_113 : decode cX1_run 113 = .ok (.iinc 3 1, 3) := by decide +kernel
theorem dX1_run_116 : decode cX1_run 116 = .ok (.goto (-99), 3) := by decide +kernel
theorem dX1_run_119 : decode cX1_run 119 = .ok (.iload_n 2, 1) := by decide +kernel
theorem dX1_run_120 : decode cX1_run 120 = .ok (.iconst 2, 1) := by decide +kernel
theorem dX1_run_121 : decode cX1_run 121 = .ok (.if_icmp .ne 8, 3) := by decide +kernel
theorem dX1_run_124 : decode cX1_run 124 = .ok (.aload_n 0, 1) := by decide +kernel
theorem dX1_run_125 : decode cX1_run 125 = .ok (.aload_n 1, 1) := by decide +kernel
theorem dX1_run_126 : decode cX1_run 126 = .ok (.invokevirtual 41, 3) := by decide +kernel
theorem dX1_run_129 : decode cX1_run 129 = .ok (.return_, 1) := by decide +kernel
theorem dX1_compareWithSingle_0 : decode cX1_compareWithSingle 0 = .ok (.aload_n 1, 1) := by decide +kernel
theorem dX1_compareWithSingle_1 : decode cX1_compareWithSingle 1 = .ok (.iconst 0, 1) := by decide +kernel
theorem dX1_compareWithSingle_2 : decode cX1_compareWithSingle 2 = .ok (.iconst 0, 1) := by decide +kernel
theorem dX1_compareWithSingle_3 : decode cX1_compareWithSingle 3 = .ok (.invokestatic 34, 3) := by decide +kernel
theorem dX1_compareWithSingle_6 : decode cX1_compareWithSingle 6 = .ok (.istore_n 2, 1) := by decide +kernel
theorem dX1_compareWithSingle_7 : decode cX1_compareWithSingle 7 = .ok (.iload_n 2, 1) := by decide +kernel
theorem dX1_compareWithSingle_8 : decode cX1_compareWithSingle 8 = .ok (.iconst (-1), 1) := by decide +kernel
theorem dX1_compareWithSingle_9 : decode cX1_compareWithSingle 9 = .ok (.if_icmp .eq 42, 3) := by decide +kernel
theorem dX1_compareWithSingle_12 : decode cX1_compareWithSingle 12 = .ok (.aload_n 1, 1) := by decide +kernel
theorem dX1_compareWithSingle_13 : decode cX1_compareWithSingle 13 = .ok (.iload_n 2, 1) := by decide +kernel
theorem dX1_compareWithSingle_14 : decode cX1_compareWithSingle 14 = .ok (.iconst 0, 1) := by decide +kernel
theorem dX1_compareWithSingle_15 : decode cX1_compareWithSingle 15 = .ok (.invokevirtual 45, 3) := by decide +kernel
theorem dX1_compareWithSingle_18 : decode cX1_compareWithSingle 18 = .ok (.aload_n 1, 1) := by decide +kernel
theorem dX1_compareWithSingle_19 : decode cX1_compareWithSingle 19 = .ok (.aload_n 0, 1) := by decide +kernel
theorem dX1_compareWithSingle_20 : decode cX1_compareWithSingle 20 = .ok (.getfield 19, 3) := by decide +kernel
theorem dX1_compareWithSingle_23 : decode cX1_compareWithSingle 23 = .ok (.invokevirtual 49, 3) := by decide +kernel
theorem dX1_compareWithSingle_26 : decode cX1_compareWithSingle 26 = .ok (.if_icmp .le 25, 3) := by decide +kernel
theorem dX1_compareWithSingle_29 : decode cX1_compareWithSingle 29 = .ok (.aload_n 0, 1) := by decide +kernel
theorem dX1_compareWithSingle_30 : decode cX1_compareWithSingle 30 = .ok (.aload_n 1, 1) := by decide +kernel
theorem dX1_compareWithSingle_31 : decode cX1_compareWithSingle 31 = .ok (.getfield 38, 3) := by decide +kernel
theorem dX1_compareWithSingle_34 : decode cX1_compareWithSingle 34 = .ok (.iload_n 2, 1) := by decide +kernel
theorem dX1_compareWithSingle_35 : decode cX1_compareWithSingle 35 = .ok (.iaload, 1) := by decide +kernel
theorem dX1_compareWithSingle_36 : decode cX1_compareWithSingle 36 = .ok (.putfield 19, 3) := by decide +kernel
theorem dX1_compareWithSingle_39 : decode cX1_compareWithSingle 39 = .ok (.aload_n 0, 1) := by decide +kernel
theorem dX1_compareWithSingle_40 : decode cX1_compareWithSingle 40 = .ok (.getfield 9, 3) := by decide +kernel
theorem dX1_compareWithSingle_43 : decode cX1_compareWithSingle 43 = .ok (.iconst 0, 1) := by decide +kernel
theorem dX1_compareWithSingle_44 : decode cX1_compareWithSingle 44 = .ok (.iload_n 2, 1) := by decide +kernel
theorem dX1_compareWithSingle_45 : decode cX1_compareWithSingle 45 = .ok (.iastore, 1) := by decide +kernel
theorem dX1_compareWithSingle_46 : decode cX1_compareWithSingle 46 = .ok (.aload_n 0, 1) := by decide +kernel
theorem dX1_compareWithSingle_47 : decode cX1_compareWithSingle 47 = .ok (.iconst 1, 1) := by decide +kernel
theorem dX1_compareWithSingle_48 : decode cX1_compareWithSingle 48 = .ok (.putfield 15, 3) := by decide +kernel
theorem dX1_compareWithSingle_51 : decode cX1_compareWithSingle 51 = .ok (.return_, 1) := by decide +kernel
theorem dX1_fitting_0 : decode cX1_fitting 0 = .ok (.iconst 0, 1) := by decide +kernel
theorem dX1_fitting_1 : decode cX1_fitting 1 = .ok (.istore_n 2, 1) := by decide +kernel
theorem dX1_fitting_2 : decode cX1_fitting 2 = .ok (.iconst 0, 1) := by decide +kernel
theorem dX1_fitting_3 : decode cX1_fitting 3 = .ok (.istore_n 3, 1) := by decide +kernel
theorem dX1_fitting_4 : decode cX1_fitting 4 = .ok (.iload_n 3, 1) := by decide +kernel
theorem dX1_fitting_5 : decode cX1_fitting 5 = .ok (.aload_n 1, 1) := by decide +kernel
theorem dX1_fitting_6 : decode cX1_fitting 6 = .ok (.getfield 25, 3) := by decide +kernel
theorem dX1_fitting_9 : decode cX1_fitting 9 = .ok (.if_icmp .ge 24, 3) := by decide +kernel
theorem dX1_fitting_12 : decode cX1_fitting 12 = .ok (.aload_n 1, 1) := by decide +kernel
theorem dX1_fitting_13 : decode cX1_fitting 13 = .ok (.iload_n 3, 1) := by decide +kernel
theorem dX1_fitting_14 : decode cX1_fitting 14 = .ok (.aload_n 0, 1) := by decide +kernel
theorem dX1_fitting_15 : decode cX1_fitting 15 = .ok (.getfield 19, 3) := by decide +kernel
theorem dX1_fitting_18 : decode cX1_fitting 18 = .ok (.invokevirtual 53, 3) := by decide +kernel
theorem dX1_fitting_21 : decode cX1_fitting 21 = .ok (.ifCond .eq 6, 3) := by decide +kernel
theorem dX1_fitting_24 : decode cX1_fitting 24 = .ok (.iinc 2 1, 3) := by decide +kernel
theorem dX1_fitting_27 : decode cX1_fitting 27 = .ok (.iinc 3 1, 3) := by decide +kernel
theorem dX1_fitting_30 : decode cX1_fitting 30 = .ok (.goto (-26), 3) := by decide +kernel
theorem dX1_fitting_33 : decode cX1_fitting 33 = .ok (.iload_n 2, 1) := by decide +kernel
theorem dX1_fitting_34 : decode cX1_fitting 34 = .ok (.ireturn, 1) := by decide +kernel
theorem dX1_pickFor_0 : decode cX1_pickFor 0 = .ok (.iconst (-1), 1) := by decide +kernel
theorem dX1_pickFor_1 : decode cX1_pickFor 1 = .ok (.istore_n 3, 1) := by decide +kernel
theorem dX1_pickFor_2 : decode cX1_pickFor 2 = .ok (.iconst 0, 1) := by decide +kernel
theorem dX1_pickFor_3 : decode cX1_pickFor 3 = .ok (.istore 4, 2) := by decide +kernel
theorem dX1_pickFor_5 : decode cX1_pickFor 5 = .ok (.iconst 1, 1) := by decide +kernel
theorem dX1_pickFor_6 : decode cX1_pickFor 6 = .ok (.istore 5, 2) := by decide +kernel
theorem dX1_pickFor_8 : decode cX1_pickFor 8 = .ok (.iconst 0, 1) := by decide +kernel
theorem dX1_pickFor_9 : decode cX1_pickFor 9 = .ok (.istore 6, 2) := by decide +kernel
theorem dX1_pickFor_11 : decode cX1_pickFor 11 = .ok (.iload 6, 2) := by decide +kernel
theorem dX1_pickFor_13 : decode cX1_pickFor 13 = .ok (.aload_n 0, 1) := by decide +kernel
theorem dX1_pickFor_14 : decode cX1_pickFor 14 = .ok (.getfield 25, 3) := by decide +kernel
theorem dX1_pickFor_17 : decode cX1_pickFor 17 = .ok (.if_icmp .ge 70, 3) := by decide +kernel
theorem dX1_pickFor_20 : decode cX1_pickFor 20 = .ok (.aload_n 0, 1) := by decide +kernel
theorem dX1_pickFor_21 : decode cX1_pickFor 21 = .ok (.iload 6, 2) := by decide +kernel
theorem dX1_pickFor_23 : decode cX1_pickFor 23 = .ok (.iload_n 1, 1) := by decide +kernel
theorem dX1_pickFor_24 : decode cX1_pickFor 24 = .ok (.invokevirtual 53, 3) := by decide +kernel
theorem dX1_pickFor_27 : decode cX1_pickFor 27 = .ok (.ifCond .eq 54, 3) := by decide +kernel
theorem dX1_pickFor_30 : decode cX1_pickFor 30 = .ok (.aload_n 0, 1) := by decide +kernel
theorem dX1_pickFor_31 : decode cX1_pickFor 31 = .ok (.iload 6, 2) := by decide +kernel
theorem dX1_pickFor_33 : decode cX1_pickFor 33 = .ok (.iload_n 1, 1) := by decide +kernel
theorem dX1_pickFor_34 : decode cX1_pickFor 34 = .ok (.invokevirtual 45, 3) := by decide +kernel
theorem dX1_pickFor_37 : decode cX1_pickFor 37 = .ok (.istore 7, 2) := by decide +kernel
theorem dX1_pickFor_39 : decode cX1_pickFor 39 = .ok (.iload_n 2, 1) := by decide +kernel
theorem dX1_pickFor_40 : decode cX1_pickFor 40 = .ok (.ifCond .eq 13, 3) := by decide +kernel
theorem dX1_pickFor_43 : decode cX1_pickFor 43 = .ok (.aload_n 0, 1) := by decide +kernel
theorem dX1_pickFor_44 : decode cX1_pickFor 44 = .ok (.iload 6, 2) := by decide +kernel
theorem dX1_pickFor_46 : decode cX1_pickFor 46 = .ok (.iload_n 1, 1) := by decide +kernel
theorem dX1_pickFor_47 : decode cX1_pickFor 47 = .ok (.invokevirtual 57, 3) := by decide +kernel
theorem dX1_pickFor_50 : decode cX1_pickFor 50 = .ok (.goto 4, 3) := by decide +kernel
theorem dX1_pickFor_53 : decode cX1_pickFor 53 = .ok (.iconst 1, 1) := by decide +kernel
theorem dX1_pickFor_54 : decode cX1_pickFor 54 = .ok (.istore 8, 2) := by decide +kernel
theorem dX1_pickFor_56 : decode cX1_pickFor 56 = .ok (.iload 7, 2) := by decide +kernel
theorem dX1_pickFor_58 : decode cX1_pickFor 58 = .ok (.iload 8, 2) := by decide +kernel
theorem dX1_pickFor_60 : decode cX1_pickFor 60 = .ok (.iload 4, 2) := by decide +kernel
theorem dX1_pickFor_62 : decode cX1_pickFor 62 = .ok (.iload 5, 2) := by decide +kernel
theorem dX1_pickFor_64 : decode cX1_pickFor 64 = .ok (.invokestatic 60, 3) := by decide +kernel
theorem dX1_pickFor_67 : decode cX1_pickFor 67 = .ok (.ifCond .eq 14, 3) := by decide +kernel
theorem dX1_pickFor_70 : decode cX1_pickFor 70 = .ok (.iload 6, 2) := by decide +kernel
theorem dX1_pickFor_72 : decode cX1_pickFor 72 = .ok (.istore_n 3, 1) := by decide +kernel
theorem dX1_pickFor_73 : decode cX1_pickFor 73 = .ok (.iload 7, 2) := by decide +kernel
theorem dX1_pickFor_75 : decode cX1_pickFor 75 = .ok (.istore 4, 2) := by decide +kernel
theorem dX1_pickFor_77 : decode cX1_pickFor 77 = .ok (.iload 8, 2) := by decide +kernel
theorem dX1_pickFor_79 : decode cX1_pickFor 79 = .ok (.istore 5, 2) := by decide +kernel
theorem dX1_pickFor_81 : decode cX1_pickFor 81 = .ok (.iinc 6 1, 3) := by decide +kernel
theorem dX1_pickFor_84 : decode cX1_pickFor 84 = .ok (.goto (-73), 3) := by decide +kernel
theorem dX1_pickFor_87 : decode cX1_pickFor 87 = .ok (.iload_n 3, 1) := by decide +kernel
theorem dX1_pickFor_88 : decode cX1_pickFor 88 = .ok (.ireturn, 1) := by decide +kernel
theorem dX2_init_0 : decode cX2_init 0 = .ok (.aload_n 0, 1) := by decide +kernel
theorem dX2_init_1 : decode cX2_init 1 = .ok (.invokespecial 3, 3) := by decide +kernel
theorem dX2_init_4 : decode cX2_init 4 = .ok (.aload_n 0, 1) := by decide +kernel
theorem dX2_init_5 : decode cX2_init 5 = .ok (.bipush 8, 2) := by decide +kernel
theorem dX2_init_7 : decode cX2_init 7 = .ok (.anewarray 9, 3) := by decide +kernel
theorem dX2_init_10 : decode cX2_init 10 = .ok (.putfield 11, 3) := by decide +kernel
theorem dX2_init_13 : decode cX2_init 13 = .ok (.aload_n 0, 1) := by decide +kernel
theorem dX2_init_14 : decode cX2_init 14 = .ok (.iconst 0, 1) := by decide +kernel
theorem dX2_init_15 : decode cX2_init 15 = .ok (.putfield 17, 3) := by decide +kernel
theorem dX2_init_18 : decode cX2_init 18 = .ok (.aload_n 0, 1) := by decide +kernel
theorem dX2_init_19 : decode cX2_init 19 = .ok (.iconst 0, 1) := by decide +kernel
theorem dX2_init_20 : decode cX2_init 20 = .ok (.putfield 21, 3) := by decide +kernel
theorem dX2_init_23 : decode cX2_init 23 = .ok (.iconst 0, 1) := by decide +kernel
theorem dX2_init_24 : decode cX2_init 24 = .ok (.istore_n 1, 1) := by decide +kernel
theorem dX2_init_25 : decode cX2_init 25 = .ok (.iload_n 1, 1) := by decide +kernel
theorem dX2_init_26 : decode cX2_init 26 = .ok (.bipush 8, 2) := by decide +kernel
theorem dX2_init_28 : decode cX2_init 28 = .ok (.if_icmp .ge 22, 3) := by decide +kernel
theorem dX2_init_31 : decode cX2_init 31 = .ok (.aload_n 0, 1) := by decide +kernel
theorem dX2_init_32 : decode cX2_init 32 = .ok (.getfield 11, 3) := by decide +kernel
theorem dX2_init_35 : decode cX2_init 35 = .ok (.iload_n 1, 1) := by decide +kernel
theorem dX2_init_36 : decode cX2_init 36 = .ok (.new 9, 3) := by decide +kernel
theorem dX2_init_39 : decode cX2_init 39 = .ok (.dup, 1) := by decide +kernel
theorem dX2_init_40 : decode cX2_init 40 = .ok (.invokespecial 24, 3) := by decide +kernel
theorem dX2_init_43 : decode cX2_init 43 = .ok (.aastore, 1) := by decide +kernel
theorem dX2_init_44 : decode cX2_init 44 = .ok (.iinc 1 1, 3) := by decide +kernel
theorem dX2_init_47 : decode cX2_init 47 = .ok (.goto (-22), 3) := by decide +kernel
theorem dX2_init_50 : decode cX2_init 50 = .ok (.return_, 1) := by decide +kernel
theorem dX2_keep_0 : decode cX2_keep 0 = .ok (.aload_n 0, 1) := by decide +kernel
theorem dX2_keep_1 : decode cX2_keep 1 = .ok (.getfield 21, 3) := by decide +kernel
theorem dX2_keep_4 : decode cX2_keep 4 = .ok (.bipush 8, 2) := by decide +kernel
theorem dX2_keep_6 : decode cX2_keep 6 = .ok (.if_icmp .ne 26, 3) := by decide +kernel
theorem dX2_keep_9 : decode cX2_keep 9 = .ok (.aload_n 0, 1) := by decide +kernel
theorem dX2_keep_10 : decode cX2_keep 10 = .ok (.aload_n 0, 1) := by decide +kernel
theorem dX2_keep_11 : decode cX2_keep 11 = .ok (.getfield 17, 3) := by decide +kernel
theorem dX2_keep_14 : decode cX2_keep 14 = .ok (.iconst 1, 1) := by decide +kernel
theorem dX2_keep_15 : decode cX2_keep 15 = .ok (.iadd, 1) := by decide +kernel
theorem dX2_keep_16 : decode cX2_keep 16 = .ok (.bipush 8, 2) := by decide +kernel
theorem dX2_keep_18 : decode cX2_keep 18 = .ok (.irem, 1) := by decide +kernel
theorem dX2_keep_19 : decode cX2_keep 19 = .ok (.putfield 17, 3) := by decide +kernel
theorem dX2_keep_22 : decode cX2_keep 22 = .ok (.aload_n 0, 1) := by decide +kernel
theorem dX2_keep_23 : decode cX2_keep 23 = .ok (.dup, 1) := by decide +kernel
theorem dX2_keep_24 : decode cX2_keep 24 = .ok (.getfield 21, 3) := by decide +kernel
theorem dX2_keep_27 : decode cX2_keep 27 = .ok (.iconst 1, 1) := by decide +kernel
theorem dX2_keep_28 : decode cX2_keep 28 = .ok (.isub, 1) := by decide +kernel
theorem dX2_keep_29 : decode cX2_keep 29 = .ok (.putfield 21, 3) := by decide +kernel
theorem dX2_keep_32 : decode cX2_keep 32 = .ok (.aload_n 0, 1) := by decide +kernel
theorem dX2_keep_33 : decode cX2_keep 33 = .ok (.getfield 11, 3) := by decide +kernel
theorem dX2_keep_36 : decode cX2_keep 36 = .ok (.aload_n 0, 1) := by decide +kernel
theorem dX2_keep_37 : decode cX2_keep 37 = .ok (.getfield 17, 3) := by decide +kernel
theorem dX2_keep_40 : decode cX2_keep 40 = .ok (.aload_n 0, 1) := by decide +kernel
theorem dX2_keep_41 : decode cX2_keep 41 = .ok (.getfield 21, 3) := by decide +kernel
theorem dX2_keep_44 : decode cX2_keep 44 = .ok (.iadd, 1) := by decide +kernel
theorem dX2_keep_45 : decode cX2_keep 45 = .ok (.bipush 8, 2) := by decide +kernel
theorem dX2_keep_47 : decode cX2_keep 47 = .ok (.irem, 1) := by decide +kernel
theorem dX2_keep_48 : decode cX2_keep 48 = .ok (.aaload, 1) := by decide +kernel
theorem dX2_keep_49 : decode cX2_keep 49 = .ok (.aload_n 1, 1) := by decide +kernel
theorem dX2_keep_50 : decode cX2_keep 50 = .ok (.invokevirtual 25, 3) := by decide +kernel
theorem dX2_keep_53 : decode cX2_keep 53 = .ok (.aload_n 0, 1) := by decide +kernel
theorem dX2_keep_54 : decode cX2_keep 54 = .ok (.dup, 1) := by decide +kernel
theorem dX2_keep_55 : decode cX2_keep 55 = .ok (.getfield 21, 3) := by decide +kernel
theorem dX2_keep_58 : decode cX2_keep 58 = .ok (.iconst 1, 1) := by decide +kernel
theorem dX2_keep_59 : decode cX2_keep 59 = .ok (.iadd, 1) := by decide +kernel
theorem dX2_keep_60 : decode cX2_keep 60 = .ok (.putfield 21, 3) := by decide +kernel
theorem dX2_keep_63 : decode cX2_keep 63 = .ok (.return_, 1) := by decide +kernel
theorem dX2_giveBack_0 : decode cX2_giveBack 0 = .ok (.aload_n 0, 1) := by decide +kernel
theorem dX2_giveBack_1 : decode cX2_giveBack 1 = .ok (.dup, 1) := by decide +kernel
theorem dX2_giveBack_2 : decode cX2_giveBack 2 = .ok (.getfield 21, 3) := by decide +kernel
theorem dX2_giveBack_5 : decode cX2_giveBack 5 = .ok (.iconst 1, 1) := by decide +kernel
theorem dX2_giveBack_6 : decode cX2_giveBack 6 = .ok (.isub, 1) := by decide +kernel
theorem dX2_giveBack_7 : decode cX2_giveBack 7 = .ok (.putfield 21, 3) := by decide +kernel
theorem dX2_giveBack_10 : decode cX2_giveBack 10 = .ok (.aload_n 1, 1) := by decide +kernel
theorem dX2_giveBack_11 : decode cX2_giveBack 11 = .ok (.aload_n 0, 1) := by decide +kernel
theorem dX2_giveBack_12 : decode cX2_giveBack 12 = .ok (.getfield 11, 3) := by decide +kernel
theorem dX2_giveBack_15 : decode cX2_giveBack 15 = .ok (.aload_n 0, 1) := by decide +kernel
theorem dX2_giveBack_16 : decode cX2_giveBack 16 = .ok (.getfield 17, 3) := by decide +kernel
theorem dX2_giveBack_19 : decode cX2_giveBack 19 = .ok (.aload_n 0, 1) := by decide +kernel
theorem dX2_giveBack_20 : decode cX2_giveBack 20 = .ok (.getfield 21, 3) := by decide +kernel
theorem dX2_giveBack_23 : decode cX2_giveBack 23 = .ok (.iadd, 1) := by decide +kernel
theorem dX2_giveBack_24 : decode cX2_giveBack 24 = .ok (.bipush 8, 2) := by decide +kernel
theorem dX2_giveBack_26 : decode cX2_giveBack 26 = .ok (.irem, 1) := by decide +kernel
theorem dX2_giveBack_27 : decode cX2_giveBack 27 = .ok (.aaload, 1) := by decide +kernel
theorem dX2_giveBack_28 : decode cX2_giveBack 28 = .ok (.invokevirtual 25, 3) := by decide +kernel
theorem dX2_giveBack_31 : decode cX2_giveBack 31 = .ok (.return_, 1) := by decide +kernel
theorem dX3_init_0 : decode cX3_init 0 = .ok (.aload_n 0, 1) := by decide +kernel
theorem dX3_init_1 : decode cX3_init 1 = .ok (.invokespecial 3, 3) := by decide +kernel
theorem dX3_init_4 : decode cX3_init 4 = .ok (.aload_n 0, 1) := by decide +kernel
theorem dX3_init_5 : decode cX3_init 5 = .ok (.bipush 16, 2) := by decide +kernel
theorem dX3_init_7 : decode cX3_init 7 = .ok (.newarray .int, 2) := by decide +kernel
theorem dX3_init_9 : decode cX3_init 9 = .ok (.putfield 9, 3) := by decide +kernel
theorem dX3_init_12 : decode cX3_init 12 = .ok (.aload_n 0, 1) := by decide +kernel
theorem dX3_init_13 : decode cX3_init 13 = .ok (.bipush 16, 2) := by decide +kernel
theorem dX3_init_15 : decode cX3_init 15 = .ok (.newarray .int, 2) := by decide +kernel
theorem dX3_init_17 : decode cX3_init 17 = .ok (.putfield 15, 3) := by decide +kernel
theorem dX3_init_20 : decode cX3_init 20 = .ok (.aload_n 0, 1) := by decide +kernel
theorem dX3_init_21 : decode cX3_init 21 = .ok (.iconst 0, 1) := by decide +kernel
theorem dX3_init_22 : decode cX3_init 22 = .ok (.putfield 18, 3) := by decide +kernel
theorem dX3_init_25 : decode cX3_init 25 = .ok (.aload_n 0, 1) := by decide +kernel
theorem dX3_init_26 : decode cX3_init 26 = .ok (.iconst 0, 1) := by decide +kernel
theorem dX3_init_27 : decode cX3_init 27 = .ok (.putfield 22, 3) := by decide +kernel
theorem dX3_init_30 : decode cX3_init 30 = .ok (.aload_n 0, 1) := by decide +kernel
theorem dX3_init_31 : decode cX3_init 31 = .ok (.iconst 0, 1) := by decide +kernel
theorem dX3_init_32 : decode cX3_init 32 = .ok (.putfield 25, 3) := by decide +kernel
theorem dX3_init_35 : decode cX3_init 35 = .ok (.return_, 1) := by decide +kernel
theorem dX3_run_0 : decode cX3_run 0 = .ok (.aload_n 0, 1) := by decide +kernel
theorem dX3_run_1 : decode cX3_run 1 = .ok (.iconst 0, 1) := by decide +kernel
theorem dX3_run_2 : decode cX3_run 2 = .ok (.putfield 22, 3) := by decide +kernel
theorem dX3_run_5 : decode cX3_run 5 = .ok (.aload_n 0, 1) := by decide +kernel
theorem dX3_run_6 : decode cX3_run 6 = .ok (.iconst 0, 1) := by decide +kernel
theorem dX3_run_7 : decode cX3_run 7 = .ok (.putfield 25, 3) := by decide +kernel
theorem dX3_run_10 : decode cX3_run 10 = .ok (.aload_n 0, 1) := by decide +kernel
theorem dX3_run_11 : decode cX3_run 11 = .ok (.iconst 0, 1) := by decide +kernel
theorem dX3_run_12 : decode cX3_run 12 = .ok (.putfield 18, 3) := by decide +kernel
theorem dX3_run_15 : decode cX3_run 15 = .ok (.iconst 0, 1) := by decide +kernel
theorem dX3_run_16 : decode cX3_run 16 = .ok (.istore_n 2, 1) := by decide +kernel
theorem dX3_run_17 : decode cX3_run 17 = .ok (.iload_n 2, 1) := by decide +kernel
theorem dX3_run_18 : decode cX3_run 18 = .ok (.aload_n 1, 1) := by decide +kernel
theorem dX3_run_19 : decode cX3_run 19 = .ok (.getfield 28, 3) := by decide +kernel
theorem dX3_run_22 : decode cX3_run 22 = .ok (.if_icmp .ge 36, 3) := by decide +kernel
theorem dX3_run_25 : decode cX3_run 25 = .ok (.aload_n 0, 1) := by decide +kernel
theorem dX3_run_26 : decode cX3_run 26 = .ok (.aload_n 1, 1) := by decide +kernel
theorem dX3_run_27 : decode cX3_run 27 = .ok (.iload_n 2, 1) := by decide +kernel
theorem dX3_run_28 : decode cX3_run 28 = .ok (.invokevirtual 33, 3) := by decide +kernel
theorem dX3_run_31 : decode cX3_run 31 = .ok (.aload_n 0, 1) := by decide +kernel
theorem dX3_run_32 : decode cX3_run 32 = .ok (.getfield 9, 3) := by decide +kernel
theorem dX3_run_35 : decode cX3_run 35 = .ok (.iload_n 2, 1) := by decide +kernel
theorem dX3_run_36 : decode cX3_run 36 = .ok (.iaload, 1) := by decide +kernel
theorem dX3_run_37 : decode cX3_run 37 = .ok (.ifCond .le 15, 3) := by decide +kernel
theorem dX3_run_40 : decode cX3_run 40 = .ok (.aload_n 0, 1) := by decide +kernel
theorem dX3_run_41 : decode cX3_run 41 = .ok (.dup, 1) := by decide +kernel
theorem dX3_run_42 : decode cX3_run 42 = .ok (.getfield 18, 3) := by decide +kernel
theorem dX3_run_45 : decode cX3_run 45 = .ok (.iconst 1, 1) := by decide +kernel
theorem dX3_run_46 : decode cX3_run 46 = .ok (.iload_n 2, 1) := by decide +kernel
theorem dX3_run_47 : decode cX3_run 47 = .ok (.ishl, 1) := by decide +kernel
theorem dX3_run_48 : decode cX3_run 48 = .ok (.ior, 1) := by decide +kernel
theorem dX3_run_49 : decode cX3_run 49 = .ok (.putfield 18, 3) := by decide +kernel
theorem dX3_run_52 : decode cX3_run 52 = .ok (.iinc 2 1, 3) := by decide +kernel
theorem dX3_run_55 : decode cX3_run 55 = .ok (.goto (-38), 3) := by decide +kernel
theorem dX3_run_58 : decode cX3_run 58 = .ok (.iconst 0, 1) := by decide +kernel
theorem dX3_run_59 : decode cX3_run 59 = .ok (.istore_n 2, 1) := by decide +kernel
theorem dX3_run_60 : decode cX3_run 60 = .ok (.iload_n 2, 1) := by decide +kernel
theorem dX3_run_61 : decode cX3_run 61 = .ok (.sipush 1000, 3) := by decide +kernel
theorem dX3_run_64 : decode cX3_run 64 = .ok (.if_icmp .ge 35, 3) := by decide +kernel
theorem dX3_run_67 : decode cX3_run 67 = .ok (.aload_n 0, 1) := by decide +kernel
theorem dX3_run_68 : decode cX3_run 68 = .ok (.getfield 18, 3) := by decide +kernel
theorem dX3_run_71 : decode cX3_run 71 = .ok (.ifCond .eq 28, 3) := by decide +kernel
theorem dX3_run_74 : decode cX3_run 74 = .ok (.aload_n 0, 1) := by decide +kernel
theorem dX3_run_75 : decode cX3_run 75 = .ok (.invokevirtual 37, 3) := by decide +kernel
theorem dX3_run_78 : decode cX3_run 78 = .ok (.istore_n 3, 1) := by decide +kernel
theorem dX3_run_79 : decode cX3_run 79 = .ok (.iload_n 3, 1) := by decide +kernel
theorem dX3_run_80 : decode cX3_run 80 = .ok (.iconst (-1), 1) := by decide +kernel
theorem dX3_run_81 : decode cX3_run 81 = .ok (.if_icmp .ne 6, 3) := by decide +kernel
theorem dX3_run_84 : decode cX3_run 84 = .ok (.goto 15, 3) := by decide +kernel
theorem dX3_run_87 : decode cX3_run 87 = .ok (.aload_n 0, 1) := by decide +kernel
theorem dX3_run_88 : decode cX3_run 88 = .ok (.aload_n 1, 1) := by decide +kernel
theorem dX3_run_89 : decode cX3_run 89 = .ok (.iload_n 3, 1) := by decide +kernel
theorem dX3_run_90 : decode cX3_run 90 = .ok (.invokevirtual 41, 3) := by decide +kernel
theorem dX3_run_93 : decode cX3_run 93 = .ok (.iinc 2 1, 3) := by decide +kernel
theorem dX3_run_96 : decode cX3_run 96 = .ok (.goto (-36), 3) := by decide +kernel
theorem dX3_run_99 : decode cX3_run 99 = .ok (.return_, 1) := by decide +kernel
theorem dX3_ask_0 : decode cX3_ask 0 = .ok (.aload_n 0, 1) := by decide +kernel
theorem dX3_ask_1 : decode cX3_ask 1 = .ok (.getfield 9, 3) := by decide +kernel
theorem dX3_ask_4 : decode cX3_ask 4 = .ok (.iload_n 2, 1) := by decide +kernel
theorem dX3_ask_5 : decode cX3_ask 5 = .ok (.aload_n 1, 1) := by decide +kernel
theorem dX3_ask_6 : decode cX3_ask 6 = .ok (.iload_n 2, 1) := by decide +kernel
theorem dX3_ask_7 : decode cX3_ask 7 = .ok (.aload_n 0, 1) := by decide +kernel
theorem dX3_ask_8 : decode cX3_ask 8 = .ok (.getfield 22, 3) := by decide +kernel
theorem dX3_ask_11 : decode cX3_ask 11 = .ok (.invokevirtual 44, 3) := by decide +kernel
theorem dX3_ask_14 : decode cX3_ask 14 = .ok (.iastore, 1) := by decide +kernel
theorem dX3_ask_15 : decode cX3_ask 15 = .ok (.aload_n 0, 1) := by decide +kernel
theorem dX3_ask_16 : decode cX3_ask 16 = .ok (.getfield 15, 3) := by decide +kernel
theorem dX3_ask_19 : decode cX3_ask 19 = .ok (.iload_n 2, 1) := by decide +kernel
theorem dX3_ask_20 : decode cX3_ask 20 = .ok (.aload_n 1, 1) := by decide +kernel
theorem dX3_ask_21 : decode cX3_ask 21 = .ok (.iload_n 2, 1) := by decide +kernel
theorem dX3_ask_22 : decode cX3_ask 22 = .ok (.aload_n 0, 1) := by decide +kernel
theorem dX3_ask_23 : decode cX3_ask 23 = .ok (.getfield 22, 3) := by decide +kernel
theorem dX3_ask_26 : decode cX3_ask 26 = .ok (.invokevirtual 48, 3) := by decide +kernel
theorem dX3_ask_29 : decode cX3_ask 29 = .ok (.iastore, 1) := by decide +kernel
theorem dX3_ask_30 : decode cX3_ask 30 = .ok (.aload_n 0, 1) := by decide +kernel
theorem dX3_ask_31 : decode cX3_ask 31 = .ok (.dup, 1) := by decide +kernel
theorem dX3_ask_32 : decode cX3_ask 32 = .ok (.getfield 25, 3) := by decide +kernel
theorem dX3_ask_35 : decode cX3_ask 35 = .ok (.iconst 1, 1) := by decide +kernel
theorem dX3_ask_36 : decode cX3_ask 36 = .ok (.iadd, 1) := by decide +kernel
theorem dX3_ask_37 : decode cX3_ask 37 = .ok (.putfield 25, 3) := by decide +kernel
theorem dX3_ask_40 : decode cX3_ask 40 = .ok (.return_, 1) := by decide +kernel
theorem dX3_foremost_0 : decode cX3_foremost 0 = .ok (.iconst (-1), 1) := by decide +kernel
theorem dX3_foremost_1 : decode cX3_foremost 1 = .ok (.istore_n 1, 1) := by decide +kernel
theorem dX3_foremost_2 : decode cX3_foremost 2 = .ok (.iconst 0, 1) := by decide +kernel
theorem dX3_foremost_3 : decode cX3_foremost 3 = .ok (.istore_n 2, 1) := by decide +kernel
theorem dX3_foremost_4 : decode cX3_foremost 4 = .ok (.iconst 1, 1) := by decide +kernel
theorem dX3_foremost_5 : decode cX3_foremost 5 = .ok (.istore_n 3, 1) := by decide +kernel
theorem dX3_foremost_6 : decode cX3_foremost 6 = .ok (.iconst 0, 1) := by decide +kernel
theorem dX3_foremost_7 : decode cX3_foremost 7 = .ok (.istore 4, 2) := by decide +kernel
theorem dX3_foremost_9 : decode cX3_foremost 9 = .ok (.iload 4, 2) := by decide +kernel
theorem dX3_foremost_11 : decode cX3_foremost 11 = .ok (.bipush 16, 2) := by decide +kernel
theorem dX3_foremost_13 : decode cX3_foremost 13 = .ok (.if_icmp .ge 62, 3) := by decide +kernel
theorem dX3_foremost_16 : decode cX3_foremost 16 = .ok (.iload 4, 2) := by decide +kernel
theorem dX3_foremost_18 : decode cX3_foremost 18 = .ok (.aload_n 0, 1) := by decide +kernel
theorem dX3_foremost_19 : decode cX3_foremost 19 = .ok (.getfield 18, 3) := by decide +kernel
theorem dX3_foremost_22 : decode cX3_foremost 22 = .ok (.invokestatic 51, 3) := by decide +kernel
theorem dX3_foremost_25 : decode cX3_foremost 25 = .ok (.ifCond .eq 44, 3) := by decide +kernel
theorem dX3_foremost_28 : decode cX3_foremost 28 = .ok (.aload_n 0, 1) := by decide +kernel
theorem dX3_foremost_29 : decode cX3_foremost 29 = .ok (.getfield 9, 3) := by decide +kernel
theorem dX3_foremost_32 : decode cX3_foremost 32 = .ok (.iload 4, 2) := by decide +kernel
theorem dX3_foremost_34 : decode cX3_foremost 34 = .ok (.iaload, 1) := by decide +kernel
theorem dX3_foremost_35 : decode cX3_foremost 35 = .ok (.aload_n 0, 1) := by decide +kernel
theorem dX3_foremost_36 : decode cX3_foremost 36 = .ok (.getfield 15, 3) := by decide +kernel
theorem dX3_foremost_39 : decode cX3_foremost 39 = .ok (.iload 4, 2) := by decide +kernel
theorem dX3_foremost_41 : decode cX3_foremost 41 = .ok (.iaload, 1) := by decide +kernel
theorem dX3_foremost_42 : decode cX3_foremost 42 = .ok (.iload_n 2, 1) := by decide +kernel
theorem dX3_foremost_43 : decode cX3_foremost 43 = .ok (.iload_n 3, 1) := by decide +kernel
theorem dX3_foremost_44 : decode cX3_foremost 44 = .ok (.invokestatic 55, 3) := by decide +kernel
theorem dX3_foremost_47 : decode cX3_foremost 47 = .ok (.ifCond .eq 22, 3) := by decide +kernel
theorem dX3_foremost_50 : decode cX3_foremost 50 = .ok (.iload 4, 2) := by decide +kernel
theorem dX3_foremost_52 : decode cX3_foremost 52 = .ok (.istore_n 1, 1) := by decide +kernel
theorem dX3_foremost_53 : decode cX3_foremost 53 = .ok (.aload_n 0, 1) := by decide +kernel
theorem dX3_foremost_54 : decode cX3_foremost 54 = .ok (.getfield 9, 3) := by decide +kernel
theorem dX3_foremost_57 : decode cX3_foremost 57 = .ok (.iload 4, 2) := by decide +kernel
theorem dX3_foremost_59 : decode cX3_foremost 59 = .ok (.iaload, 1) := by decide +kernel
theorem dX3_foremost_60 : decode cX3_foremost 60 = .ok (.istore_n 2, 1) := by decide +kernel
theorem dX3_foremost_61 : decode cX3_foremost 61 = .ok (.aload_n 0, 1) := by decide +kernel
theorem dX3_foremost_62 : decode cX3_foremost 62 = .ok (.getfield 15, 3) := by decide +kernel
theorem dX3_foremost_65 : decode cX3_foremost 65 = .ok (.iload 4, 2) := by decide +kernel
theorem dX3_foremost_67 : decode cX3_foremost 67 = .ok (.iaload, 1) := by decide +kernel
theorem dX3_foremost_68 : decode cX3_foremost 68 = .ok (.istore_n 3, 1) := by decide +kernel
theorem dX3_foremost_69 : decode cX3_foremost 69 = .ok (.iinc 4 1, 3) := by decide +kernel
theorem dX3_foremost_72 : decode cX3_foremost 72 = .ok (.goto (-63), 3) := by decide +kernel
theorem dX3_foremost_75 : decode cX3_foremost 75 = .ok (.iload_n 1, 1) := by decide +kernel
theorem dX3_foremost_76 : decode cX3_foremost 76 = .ok (.ireturn, 1) := by decide +kernel
theorem dX3_lookAt_0 : decode cX3_lookAt 0 = .ok (.iconst 1, 1) := by decide +kernel
theorem dX3_lookAt_1 : decode cX3_lookAt 1 = .ok (.iload_n 2, 1) := by decide +kernel
theorem dX3_lookAt_2 : decode cX3_lookAt 2 = .ok (.ishl, 1) := by decide +kernel
theorem dX3_lookAt_3 : decode cX3_lookAt 3 = .ok (.istore_n 3, 1) := by decide +kernel
theorem dX3_lookAt_4 : decode cX3_lookAt 4 = .ok (.aload_n 1, 1) := by decide +kernel
theorem dX3_lookAt_5 : decode cX3_lookAt 5 = .ok (.iload_n 2, 1) := by decide +kernel
theorem dX3_lookAt_6 : decode cX3_lookAt 6 = .ok (.aload_n 0, 1) := by decide +kernel
theorem dX3_lookAt_7 : decode cX3_lookAt 7 = .ok (.getfield 22, 3) := by decide +kernel
theorem dX3_lookAt_10 : decode cX3_lookAt 10 = .ok (.invokevirtual 59, 3) := by decide +kernel
theorem dX3_lookAt_13 : decode cX3_lookAt 13 = .ok (.ifCond .ne 16, 3) := by decide +kernel
theorem dX3_lookAt_16 : decode cX3_lookAt 16 = .ok (.aload_n 0, 1) := by decide +kernel
theorem dX3_lookAt_17 : decode cX3_lookAt 17 = .ok (.dup, 1) := by decide +kernel
theorem dX3_lookAt_18 : decode cX3_lookAt 18 = .ok (.getfield 18, 3) := by decide +kernel
theorem dX3_lookAt_21 : decode cX3_lookAt 21 = .ok (.iload_n 3, 1) := by decide +kernel
theorem dX3_lookAt_22 : decode cX3_lookAt 22 = .ok (.iconst (-1), 1) := by decide +kernel
theorem dX3_lookAt_23 : decode cX3_lookAt 23 = .ok (.ixor, 1) := by decide +kernel
theorem dX3_lookAt_24 : decode cX3_lookAt 24 = .ok (.iand, 1) := by decide +kernel
theorem dX3_lookAt_25 : decode cX3_lookAt 25 = .ok (.putfield 18, 3) := by decide +kernel
theorem dX3_lookAt_28 : decode cX3_lookAt 28 = .ok (.return_, 1) := by decide +kernel
theorem dX3_lookAt_29 : decode cX3_lookAt 29 = .ok (.aload_n 0, 1) := by decide +kernel
theorem dX3_lookAt_30 : decode cX3_lookAt 30 = .ok (.aload_n 1, 1) := by decide +kernel
theorem dX3_lookAt_31 : decode cX3_lookAt 31 = .ok (.iload_n 2, 1) := by decide +kernel
theorem dX3_lookAt_32 : decode cX3_lookAt 32 = .ok (.invokevirtual 33, 3) := by decide +kernel
theorem dX3_lookAt_35 : decode cX3_lookAt 35 = .ok (.aload_n 0, 1) := by decide +kernel
theorem dX3_lookAt_36 : decode cX3_lookAt 36 = .ok (.getfield 9, 3) := by decide +kernel
theorem dX3_lookAt_39 : decode cX3_lookAt 39 = .ok (.iload_n 2, 1) := by decide +kernel
theorem dX3_lookAt_40 : decode cX3_lookAt 40 = .ok (.iaload, 1) := by decide +kernel
theorem dX3_lookAt_41 : decode cX3_lookAt 41 = .ok (.ifCond .ne 18, 3) := by decide +kernel
theorem dX3_lookAt_44 : decode cX3_lookAt 44 = .ok (.aload_n 0, 1) := by decide +kernel
theorem dX3_lookAt_45 : decode cX3_lookAt 45 = .ok (.dup, 1) := by decide +kernel
theorem dX3_lookAt_46 : decode cX3_lookAt 46 = .ok (.getfield 18, 3) := by decide +kernel
theorem dX3_lookAt_49 : decode cX3_lookAt 49 = .ok (.iload_n 3, 1) := by decide +kernel
theorem dX3_lookAt_50 : decode cX3_lookAt 50 = .ok (.iconst (-1), 1) := by decide +kernel
theorem dX3_lookAt_51 : decode cX3_lookAt 51 = .ok (.ixor, 1) := by decide +kernel
theorem dX3_lookAt_52 : decode cX3_lookAt 52 = .ok (.iand, 1) := by decide +kernel
theorem dX3_lookAt_53 : decode cX3_lookAt 53 = .ok (.putfield 18, 3) := by decide +kernel
theorem dX3_lookAt_56 : decode cX3_lookAt 56 = .ok (.goto 38, 3) := by decide +kernel
theorem dX3_lookAt_59 : decode cX3_lookAt 59 = .ok (.aload_n 0, 1) := by decide +kernel
theorem dX3_lookAt_60 : decode cX3_lookAt 60 = .ok (.invokevirtual 37, 3) := by decide +kernel
theorem dX3_lookAt_63 : decode cX3_lookAt 63 = .ok (.iload_n 2, 1) := by decide +kernel
theorem dX3_lookAt_64 : decode cX3_lookAt 64 = .ok (.if_icmp .ne 30, 3) := by decide +kernel
theorem dX3_lookAt_67 : decode cX3_lookAt 67 = .ok (.aload_n 0, 1) := by decide +kernel
theorem dX3_lookAt_68 : decode cX3_lookAt 68 = .ok (.dup, 1) := by decide +kernel
theorem dX3_lookAt_69 : decode cX3_lookAt 69 = .ok (.getfield 22, 3) := by decide +kernel
theorem dX3_lookAt_72 : decode cX3_lookAt 72 = .ok (.aload_n 1, 1) := by decide +kernel
theorem dX3_lookAt_73 : decode cX3_lookAt 73 = .ok (.getfield 62, 3) := by decide +kernel
theorem dX3_lookAt_76 : decode cX3_lookAt 76 = .ok (.iload_n 2, 1) := by decide +kernel
theorem dX3_lookAt_77 : decode cX3_lookAt 77 = .ok (.iaload, 1) := by decide +kernel
theorem dX3_lookAt_78 : decode cX3_lookAt 78 = .ok (.ior, 1) := by decide +kernel
theorem dX3_lookAt_79 : decode cX3_lookAt 79 = .ok (.putfield 22, 3) := by decide +kernel
theorem dX3_lookAt_82 : decode cX3_lookAt 82 = .ok (.aload_n 0, 1) := by decide +kernel
theorem dX3_lookAt_83 : decode cX3_lookAt 83 = .ok (.dup, 1) := by decide +kernel
theorem dX3_lookAt_84 : decode cX3_lookAt 84 = .ok (.getfield 18, 3) := by decide +kernel
theorem dX3_lookAt_87 : decode cX3_lookAt 87 = .ok (.iload_n 3, 1) := by decide +kernel
theorem dX3_lookAt_88 : decode cX3_lookAt 88 = .ok (.iconst (-1), 1) := by decide +kernel
theorem dX3_lookAt_89 : decode cX3_lookAt 89 = .ok (.ixor, 1) := by decide +kernel
theorem dX3_lookAt_90 : decode cX3_lookAt 90 = .ok (.iand, 1) := by decide +kernel
theorem dX3_lookAt_91 : decode cX3_lookAt 91 = .ok (.putfield 18, 3) := by decide +kernel
theorem dX3_lookAt_94 : decode cX3_lookAt 94 = .ok (.return_, 1) := by decide +kernel
theorem dX4_init_0 : decode cX4_init 0 = .ok (.aload_n 0, 1) := by decide +kernel
theorem dX4_init_1 : decode cX4_init 1 = .ok (.invokespecial 3, 3) := by decide +kernel
theorem dX4_init_4 : decode cX4_init 4 = .ok (.aload_n 0, 1) := by decide +kernel
theorem dX4_init_5 : decode cX4_init 5 = .ok (.new 9, 3) := by decide +kernel
theorem dX4_init_8 : decode cX4_init 8 = .ok (.dup, 1) := by decide +kernel
theorem dX4_init_9 : decode cX4_init 9 = .ok (.invokespecial 11, 3) := by decide +kernel
theorem dX4_init_12 : decode cX4_init 12 = .ok (.putfield 12, 3) := by decide +kernel
theorem dX4_init_15 : decode cX4_init 15 = .ok (.aload_n 0, 1) := by decide +kernel
theorem dX4_init_16 : decode cX4_init 16 = .ok (.iconst 0, 1) := by decide +kernel
theorem dX4_init_17 : decode cX4_init 17 = .ok (.putfield 18, 3) := by decide +kernel
theorem dX4_init_20 : decode cX4_init 20 = .ok (.aload_n 0, 1) := by decide +kernel
theorem dX4_init_21 : decode cX4_init 21 = .ok (.iconst (-1), 1) := by decide +kernel
theorem dX4_init_22 : decode cX4_init 22 = .ok (.putfield 22, 3) := by decide +kernel
theorem dX4_init_25 : decode cX4_init 25 = .ok (.aload_n 0, 1) := by decide +kernel
theorem dX4_init_26 : decode cX4_init 26 = .ok (.iconst 0, 1) := by decide +kernel
theorem dX4_init_27 : decode cX4_init 27 = .ok (.putfield 25, 3) := by decide +kernel
theorem dX4_init_30 : decode cX4_init 30 = .ok (.aload_n 0, 1) := by decide +kernel
theorem dX4_init_31 : decode cX4_init 31 = .ok (.iconst 0, 1) := by decide +kernel
theorem dX4_init_32 : decode cX4_init 32 = .ok (.putfield 28, 3) := by decide +kernel
theorem dX4_init_35 : decode cX4_init 35 = .ok (.aload_n 0, 1) := by decide +kernel
theorem dX4_init_36 : decode cX4_init 36 = .ok (.iconst 0, 1) := by decide +kernel
theorem dX4_init_37 : decode cX4_init 37 = .ok (.putfield 31, 3) := by decide +kernel
theorem dX4_init_40 : decode cX4_init 40 = .ok (.aload_n 0, 1) := by decide +kernel
theorem dX4_init_41 : decode cX4_init 41 = .ok (.lconst 0, 1) := by decide +kernel
theorem dX4_init_42 : decode cX4_init 42 = .ok (.putfield 34, 3) := by decide +kernel
theorem dX4_init_45 : decode cX4_init 45 = .ok (.return_, 1) := by decide +kernel
theorem dX4_read_0 : decode cX4_read 0 = .ok (.aload_n 0, 1) := by decide +kernel
theorem dX4_read_1 : decode cX4_read 1 = .ok (.getfield 12, 3) := by decide +kernel
theorem dX4_read_4 : decode cX4_read 4 = .ok (.invokevirtual 38, 3) := by decide +kernel
theorem dX4_read_7 : decode cX4_read 7 = .ok (.aload_n 0, 1) := by decide +kernel
theorem dX4_read_8 : decode cX4_read 8 = .ok (.iconst 0, 1) := by decide +kernel
theorem dX4_read_9 : decode cX4_read 9 = .ok (.putfield 18, 3) := by decide +kernel
theorem dX4_read_12 : decode cX4_read 12 = .ok (.aload_n 0, 1) := by decide +kernel
theorem dX4_read_13 : decode cX4_read 13 = .ok (.iconst (-1), 1) := by decide +kernel
theorem dX4_read_14 : decode cX4_read 14 = .ok (.putfield 22, 3) := by decide +kernel
theorem dX4_read_17 : decode cX4_read 17 = .ok (.aload_n 0, 1) := by decide +kernel
theorem dX4_read_18 : decode cX4_read 18 = .ok (.iconst 0, 1) := by decide +kernel
theorem dX4_read_19 : decode cX4_read 19 = .ok (.putfield 25, 3) := by decide +kernel
theorem dX4_read_22 : decode cX4_read 22 = .ok (.aload_n 0, 1) := by decide +kernel
theorem dX4_read_23 : decode cX4_read 23 = .ok (.iconst 0, 1) := by decide +kernel
theorem dX4_read_24 : decode cX4_read 24 = .ok (.putfield 28, 3) := by decide +kernel
theorem dX4_read_27 : decode cX4_read 27 = .ok (.iconst 0, 1) := by decide +kernel
theorem dX4_read_28 : decode cX4_read 28 = .ok (.istore_n 3, 1) := by decide +kernel
theorem dX4_read_29 : decode cX4_read 29 = .ok (.iload_n 3, 1) := by decide +kernel
theorem dX4_read_30 : decode cX4_read 30 = .ok (.iload_n 2, 1) := by decide +kernel
theorem dX4_read_31 : decode cX4_read 31 = .ok (.if_icmp .ge 61, 3) := by decide +kernel
theorem dX4_read_34 : decode cX4_read 34 = .ok (.iload_n 3, 1) := by decide +kernel
theorem dX4_read_35 : decode cX4_read 35 = .ok (.aload_n 1, 1) := by decide +kernel
theorem dX4_read_36 : decode cX4_read 36 = .ok (.arraylength, 1) := by decide +kernel
theorem dX4_read_37 : decode cX4_read 37 = .ok (.if_icmp .ge 55, 3) := by decide +kernel
theorem dX4_read_40 : decode cX4_read 40 = .ok (.aload_n 0, 1) := by decide +kernel
theorem dX4_read_41 : decode cX4_read 41 = .ok (.getfield 18, 3) := by decide +kernel
theorem dX4_read_44 : decode cX4_read 44 = .ok (.ifCond .ne 48, 3) := by decide +kernel
theorem dX4_read_47 : decode cX4_read 47 = .ok (.aload_n 1, 1) := by decide +kernel
theorem dX4_read_48 : decode cX4_read 48 = .ok (.iload_n 3, 1) := by decide +kernel
theorem dX4_read_49 : decode cX4_read 49 = .ok (.baload, 1) := by decide +kernel
theorem dX4_read_50 : decode cX4_read 50 = .ok (.bipush 97, 2) := by decide +kernel
theorem dX4_read_52 : decode cX4_read 52 = .ok (.if_icmp .lt 22, 3) := by decide +kernel
theorem dX4_read_55 : decode cX4_read 55 = .ok (.aload_n 1, 1) := by decide +kernel
theorem dX4_read_56 : decode cX4_read 56 = .ok (.iload_n 3, 1) := by decide +kernel
theorem dX4_read_57 : decode cX4_read 57 = .ok (.baload, 1) := by decide +kernel
theorem dX4_read_58 : decode cX4_read 58 = .ok (.bipush 122, 2) := by decide +kernel
theorem dX4_read_60 : decode cX4_read 60 = .ok (.if_icmp .gt 14, 3) := by decide +kernel
theorem dX4_read_63 : decode cX4_read 63 = .ok (.aload_n 0, 1) := by decide +kernel
theorem dX4_read_64 : decode cX4_read 64 = .ok (.aload_n 1, 1) := by decide +kernel
theorem dX4_read_65 : decode cX4_read 65 = .ok (.iload_n 3, 1) := by decide +kernel
theorem dX4_read_66 : decode cX4_read 66 = .ok (.baload, 1) := by decide +kernel
theorem dX4_read_67 : decode cX4_read 67 = .ok (.iload_n 3, 1) := by decide +kernel
theorem dX4_read_68 : decode cX4_read 68 = .ok (.invokevirtual 41, 3) := by decide +kernel
theorem dX4_read_71 : decode cX4_read 71 = .ok (.goto 15, 3) := by decide +kernel
theorem dX4_read_74 : decode cX4_read 74 = .ok (.aload_n 0, 1) := by decide +kernel
theorem dX4_read_75 : decode cX4_read 75 = .ok (.invokevirtual 45, 3) := by decide +kernel
theorem dX4_read_78 : decode cX4_read 78 = .ok (.aload_n 0, 1) := by decide +kernel
theorem dX4_read_79 : decode cX4_read 79 = .ok (.aload_n 1, 1) := by decide +kernel
theorem dX4_read_80 : decode cX4_read 80 = .ok (.iload_n 3, 1) := by decide +kernel
theorem dX4_read_81 : decode cX4_read 81 = .ok (.baload, 1) := by decide +kernel
theorem dX4_read_82 : decode cX4_read 82 = .ok (.iload_n 3, 1) := by decide +kernel
theorem dX4_read_83 : decode cX4_read 83 = .ok (.invokevirtual 48, 3) := by decide +kernel
theorem dX4_read_86 : decode cX4_read 86 = .ok (.iinc 3 1, 3) := by decide +kernel
theorem dX4_read_89 : decode cX4_read 89 = .ok (.goto (-60), 3) := by decide +kernel
theorem dX4_read_92 : decode cX4_read 92 = .ok (.aload_n 0, 1) := by decide +kernel
theorem dX4_read_93 : decode cX4_read 93 = .ok (.invokevirtual 45, 3) := by decide +kernel
theorem dX4_read_96 : decode cX4_read 96 = .ok (.aload_n 0, 1) := by decide +kernel
theorem dX4_read_97 : decode cX4_read 97 = .ok (.getfield 25, 3) := by decide +kernel
theorem dX4_read_100 : decode cX4_read 100 = .ok (.ifCond .le 9, 3) := by decide +kernel
theorem dX4_read_103 : decode cX4_read 103 = .ok (.aload_n 0, 1) := by decide +kernel
theorem dX4_read_104 : decode cX4_read 104 = .ok (.iconst 1, 1) := by decide +kernel
theorem dX4_read_105 : decode cX4_read 105 = .ok (.iload_n 2, 1) := by decide +kernel
theorem dX4_read_106 : decode cX4_read 106 = .ok (.invokevirtual 51, 3) := by decide +kernel
theorem dX4_read_109 : decode cX4_read 109 = .ok (.aload_n 0, 1) := by decide +kernel
theorem dX4_read_110 : decode cX4_read 110 = .ok (.getfield 18, 3) := by decide +kernel
theorem dX4_read_113 : decode cX4_read 113 = .ok (.ireturn, 1) := by decide +kernel
theorem dX4_readLetter_0 : decode cX4_readLetter 0 = .ok (.aload_n 0, 1) := by decide +kernel
theorem dX4_readLetter_1 : decode cX4_readLetter 1 = .ok (.getfield 28, 3) := by decide +kernel
theorem dX4_readLetter_4 : decode cX4_readLetter 4 = .ok (.ifCond .ne 13, 3) := by decide +kernel
theorem dX4_readLetter_7 : decode cX4_readLetter 7 = .ok (.aload_n 0, 1) := by decide +kernel
theorem dX4_readLetter_8 : decode cX4_readLetter 8 = .ok (.iload_n 2, 1) := by decide +kernel
theorem dX4_readLetter_9 : decode cX4_readLetter 9 = .ok (.putfield 31, 3) := by decide +kernel
theorem dX4_readLetter_12 : decode cX4_readLetter 12 = .ok (.aload_n 0, 1) := by decide +kernel
theorem dX4_readLetter_13 : decode cX4_readLetter 13 = .ok (.lconst 0, 1) := by decide +kernel
theorem dX4_readLetter_14 : decode cX4_readLetter 14 = .ok (.putfield 34, 3) := by decide +kernel
theorem dX4_readLetter_17 : decode cX4_readLetter 17 = .ok (.aload_n 0, 1) := by decide +kernel
theorem dX4_readLetter_18 : decode cX4_readLetter 18 = .ok (.getfield 28, 3) := by decide +kernel
theorem dX4_readLetter_21 : decode cX4_readLetter 21 = .ok (.bipush 10, 2) := by decide +kernel
theorem dX4_readLetter_23 : decode cX4_readLetter 23 = .ok (.if_icmp .ge 19, 3) := by decide +kernel
theorem dX4_readLetter_26 : decode cX4_readLetter 26 = .ok (.aload_n 0, 1) := by decide +kernel
theorem dX4_readLetter_27 : decode cX4_readLetter 27 = .ok (.aload_n 0, 1) := by decide +kernel
theorem dX4_readLetter_28 : decode cX4_readLetter 28 = .ok (.getfield 34, 3) := by decide +kernel
theorem dX4_readLetter_31 : decode cX4_readLetter 31 = .ok (.aload_n 0, 1) := by decide +kernel
theorem dX4_readLetter_32 : decode cX4_readLetter 32 = .ok (.getfield 28, 3) := by decide +kernel
theorem dX4_readLetter_35 : decode cX4_readLetter 35 = .ok (.iload_n 1, 1) := by decide +kernel
theorem dX4_readLetter_36 : decode cX4_readLetter 36 = .ok (.invokestatic 54, 3) := by decide +kernel
theorem dX4_readLetter_39 : decode cX4_readLetter 39 = .ok (.putfield 34, 3) := by decide +kernel
theorem dX4_readLetter_42 : decode cX4_readLetter 42 = .ok (.aload_n 0, 1) := by decide +kernel
theorem dX4_readLetter_43 : decode cX4_readLetter 43 = .ok (.dup, 1) := by decide +kernel
theorem dX4_readLetter_44 : decode cX4_readLetter 44 = .ok (.getfield 28, 3) := by decide +kernel
theorem dX4_readLetter_47 : decode cX4_readLetter 47 = .ok (.iconst 1, 1) := by decide +kernel
theorem dX4_readLetter_48 : decode cX4_readLetter 48 = .ok (.iadd, 1) := by decide +kernel
theorem dX4_readLetter_49 : decode cX4_readLetter 49 = .ok (.putfield 28, 3) := by decide +kernel
theorem dX4_readLetter_52 : decode cX4_readLetter 52 = .ok (.return_, 1) := by decide +kernel
theorem dX4_readSign_0 : decode cX4_readSign 0 = .ok (.iload_n 1, 1) := by decide +kernel
theorem dX4_readSign_1 : decode cX4_readSign 1 = .ok (.bipush 46, 2) := by decide +kernel
theorem dX4_readSign_3 : decode cX4_readSign 3 = .ok (.if_icmp .ne 31, 3) := by decide +kernel
theorem dX4_readSign_6 : decode cX4_readSign 6 = .ok (.aload_n 0, 1) := by decide +kernel
theorem dX4_readSign_7 : decode cX4_readSign 7 = .ok (.getfield 25, 3) := by decide +kernel
theorem dX4_readSign_10 : decode cX4_readSign 10 = .ok (.ifCond .le 24, 3) := by decide +kernel
theorem dX4_readSign_13 : decode cX4_readSign 13 = .ok (.aload_n 0, 1) := by decide +kernel
theorem dX4_readSign_14 : decode cX4_readSign 14 = .ok (.getfield 12, 3) := by decide +kernel
theorem dX4_readSign_17 : decode cX4_readSign 17 = .ok (.dup, 1) := by decide +kernel
theorem dX4_readSign_18 : decode cX4_readSign 18 = .ok (.getfield 58, 3) := by decide +kernel
theorem dX4_readSign_21 : decode cX4_readSign 21 = .ok (.iconst 1, 1) := by decide +kernel
theorem dX4_readSign_22 : decode cX4_readSign 22 = .ok (.iadd, 1) := by decide +kernel
theorem dX4_readSign_23 : decode cX4_readSign 23 = .ok (.putfield 58, 3) := by decide +kernel
theorem dX4_readSign_26 : decode cX4_readSign 26 = .ok (.aload_n 0, 1) := by decide +kernel
theorem dX4_readSign_27 : decode cX4_readSign 27 = .ok (.iconst 0, 1) := by decide +kernel
theorem dX4_readSign_28 : decode cX4_readSign 28 = .ok (.putfield 25, 3) := by decide +kernel
theorem dX4_readSign_31 : decode cX4_readSign 31 = .ok (.goto 15, 3) := by decide +kernel
theorem dX4_readSign_34 : decode cX4_readSign 34 = .ok (.iload_n 1, 1) := by decide +kernel
theorem dX4_readSign_35 : decode cX4_readSign 35 = .ok (.bipush 32, 2) := by decide +kernel
theorem dX4_readSign_37 : decode cX4_readSign 37 = .ok (.if_icmp .eq 9, 3) := by decide +kernel
theorem dX4_readSign_40 : decode cX4_readSign 40 = .ok (.aload_n 0, 1) := by decide +kernel
theorem dX4_readSign_41 : decode cX4_readSign 41 = .ok (.iconst 1, 1) := by decide +kernel
theorem dX4_readSign_42 : decode cX4_readSign 42 = .ok (.iload_n 2, 1) := by decide +kernel
theorem dX4_readSign_43 : decode cX4_readSign 43 = .ok (.invokevirtual 51, 3) := by decide +kernel
theorem dX4_readSign_46 : decode cX4_readSign 46 = .ok (.return_, 1) := by decide +kernel
theorem dX4_endWord_0 : decode cX4_endWord 0 = .ok (.aload_n 0, 1) := by decide +kernel
theorem dX4_endWord_1 : decode cX4_endWord 1 = .ok (.getfield 28, 3) := by decide +kernel
theorem dX4_endWord_4 : decode cX4_endWord 4 = .ok (.ifCond .ne 4, 3) := by decide +kernel
theorem dX4_endWord_7 : decode cX4_endWord 7 = .ok (.return_, 1) := by decide +kernel
theorem dX4_endWord_8 : decode cX4_endWord 8 = .ok (.aload_n 0, 1) := by decide +kernel
theorem dX4_endWord_9 : decode cX4_endWord 9 = .ok (.getfield 28, 3) := by decide +kernel
theorem dX4_endWord_12 : decode cX4_endWord 12 = .ok (.bipush 10, 2) := by decide +kernel
theorem dX4_endWord_14 : decode cX4_endWord 14 = .ok (.if_icmp .le 15, 3) := by decide +kernel
theorem dX4_endWord_17 : decode cX4_endWord 17 = .ok (.aload_n 0, 1) := by decide +kernel
theorem dX4_endWord_18 : decode cX4_endWord 18 = .ok (.iconst 2, 1) := by decide +kernel
theorem dX4_endWord_19 : decode cX4_endWord 19 = .ok (.aload_n 0, 1) := by decide +kernel
theorem dX4_endWord_20 : decode cX4_endWord 20 = .ok (.getfield 31, 3) := by decide +kernel
theorem dX4_endWord_23 : decode cX4_endWord 23 = .ok (.invokevirtual 51, 3) := by decide +kernel
theorem dX4_endWord_26 : decode cX4_endWord 26 = .ok (.goto 40, 3) := by decide +kernel
theorem dX4_endWord_29 : decode cX4_endWord 29 = .ok (.aload_n 0, 1) := by decide +kernel
theorem dX4_endWord_30 : decode cX4_endWord 30 = .ok (.getfield 12, 3) := by decide +kernel
theorem dX4_endWord_33 : decode cX4_endWord 33 = .ok (.getfield 58, 3) := by decide +kernel
theorem dX4_endWord_36 : decode cX4_endWord 36 = .ok (.bipush 16, 2) := by decide +kernel
theorem dX4_endWord_38 : decode cX4_endWord 38 = .ok (.if_icmp .ge 12, 3) := by decide +kernel
theorem dX4_endWord_41 : decode cX4_endWord 41 = .ok (.aload_n 0, 1) := by decide +kernel
theorem dX4_endWord_42 : decode cX4_endWord 42 = .ok (.getfield 25, 3) := by decide +kernel
theorem dX4_endWord_45 : decode cX4_endWord 45 = .ok (.bipush 30, 2) := by decide +kernel
theorem dX4_endWord_47 : decode cX4_endWord 47 = .ok (.if_icmp .lt 15, 3) := by decide +kernel
theorem dX4_endWord_50 : decode cX4_endWord 50 = .ok (.aload_n 0, 1) := by decide +kernel
theorem dX4_endWord_51 : decode cX4_endWord 51 = .ok (.iconst 3, 1) := by decide +kernel
theorem dX4_endWord_52 : decode cX4_endWord 52 = .ok (.aload_n 0, 1) := by decide +kernel
theorem dX4_endWord_53 : decode cX4_endWord 53 = .ok (.getfield 31, 3) := by decide +kernel
theorem dX4_endWord_56 : decode cX4_endWord 56 = .ok (.invokevirtual 51, 3) := by decide +kernel
theorem dX4_endWord_59 : decode cX4_endWord 59 = .ok (.goto 7, 3) := by decide +kernel
theorem dX4_endWord_62 : decode cX4_endWord 62 = .ok (.aload_n 0, 1) := by decide +kernel
theorem dX4_endWord_63 : decode cX4_endWord 63 = .ok (.invokevirtual 61, 3) := by decide +kernel
theorem dX4_endWord_66 : decode cX4_endWord 66 = .ok (.aload_n 0, 1) := by decide +kernel
theorem dX4_endWord_67 : decode cX4_endWord 67 = .ok (.iconst 0, 1) := by decide +kernel
theorem dX4_endWord_68 : decode cX4_endWord 68 = .ok (.putfield 28, 3) := by decide +kernel
theorem dX4_endWord_71 : decode cX4_endWord 71 = .ok (.return_, 1) := by decide +kernel
theorem dX4_addWord_0 : decode cX4_addWord 0 = .ok (.aload_n 0, 1) := by decide +kernel
theorem dX4_addWord_1 : decode cX4_addWord 1 = .ok (.getfield 12, 3) := by decide +kernel
theorem dX4_addWord_4 : decode cX4_addWord 4 = .ok (.aload_n 0, 1) := by decide +kernel
theorem dX4_addWord_5 : decode cX4_addWord 5 = .ok (.getfield 34, 3) := by decide +kernel
theorem dX4_addWord_8 : decode cX4_addWord 8 = .ok (.invokevirtual 64, 3) := by decide +kernel
theorem dX4_addWord_11 : decode cX4_addWord 11 = .ok (.istore_n 1, 1) := by decide +kernel
theorem dX4_addWord_12 : decode cX4_addWord 12 = .ok (.iload_n 1, 1) := by decide +kernel
theorem dX4_addWord_13 : decode cX4_addWord 13 = .ok (.iconst (-1), 1) := by decide +kernel
theorem dX4_addWord_14 : decode cX4_addWord 14 = .ok (.if_icmp .ne 69, 3) := by decide +kernel
theorem dX4_addWord_17 : decode cX4_addWord 17 = .ok (.aload_n 0, 1) := by decide +kernel
theorem dX4_addWord_18 : decode cX4_addWord 18 = .ok (.getfield 12, 3) := by decide +kernel
theorem dX4_addWord_21 : decode cX4_addWord 21 = .ok (.getfield 68, 3) := by decide +kernel
theorem dX4_addWord_24 : decode cX4_addWord 24 = .ok (.bipush 48, 2) := by decide +kernel
theorem dX4_addWord_26 : decode cX4_addWord 26 = .ok (.if_icmp .lt 13, 3) := by decide +kernel
theorem dX4_addWord_29 : decode cX4_addWord 29 = .ok (.aload_n 0, 1) := by decide +kernel
theorem dX4_addWord_30 : decode cX4_addWord 30 = .ok (.iconst 3, 1) := by decide +kernel
theorem dX4_addWord_31 : decode cX4_addWord 31 = .ok (.aload_n 0, 1) := by decide +kernel
theorem dX4_addWord_32 : decode cX4_addWord 32 = .ok (.getfield 31, 3) := by decide +kernel
theorem dX4_addWord_35 : decode cX4_addWord 35 = .ok (.invokevirtual 51, 3) := by decide +kernel
theorem dX4_addWord_38 : decode cX4_addWord 38 = .ok (.return_, 1) := by decide +kernel
theorem dX4_addWord_39 : decode cX4_addWord 39 = .ok (.aload_n 0, 1) := by decide +kernel
theorem dX4_addWord_40 : decode cX4_addWord 40 = .ok (.getfield 12, 3) := by decide +kernel
theorem dX4_addWord_43 : decode cX4_addWord 43 = .ok (.getfield 68, 3) := by decide +kernel
theorem dX4_addWord_46 : decode cX4_addWord 46 = .ok (.istore_n 1, 1) := by decide +kernel
theorem dX4_addWord_47 : decode cX4_addWord 47 = .ok (.aload_n 0, 1) := by decide +kernel
theorem dX4_addWord_48 : decode cX4_addWord 48 = .ok (.getfield 12, 3) := by decide +kernel
theorem dX4_addWord_51 : decode cX4_addWord 51 = .ok (.dup, 1) := by decide +kernel
theorem dX4_addWord_52 : decode cX4_addWord 52 = .ok (.getfield 68, 3) := by decide +kernel
theorem dX4_addWord_55 : decode cX4_addWord 55 = .ok (.iconst 1, 1) := by decide +kernel
theorem dX4_addWord_56 : decode cX4_addWord 56 = .ok (.iadd, 1) := by decide +kernel
theorem dX4_addWord_57 : decode cX4_addWord 57 = .ok (.putfield 68, 3) := by decide +kernel
theorem dX4_addWord_60 : decode cX4_addWord 60 = .ok (.aload_n 0, 1) := by decide +kernel
theorem dX4_addWord_61 : decode cX4_addWord 61 = .ok (.getfield 12, 3) := by decide +kernel
theorem dX4_addWord_64 : decode cX4_addWord 64 = .ok (.getfield 71, 3) := by decide +kernel
theorem dX4_addWord_67 : decode cX4_addWord 67 = .ok (.iload_n 1, 1) := by decide +kernel
theorem dX4_addWord_68 : decode cX4_addWord 68 = .ok (.aload_n 0, 1) := by decide +kernel
theorem dX4_addWord_69 : decode cX4_addWord 69 = .ok (.getfield 34, 3) := by decide +kernel
theorem dX4_addWord_72 : decode cX4_addWord 72 = .ok (.lastore, 1) := by decide +kernel
theorem dX4_addWord_73 : decode cX4_addWord 73 = .ok (.aload_n 0, 1) := by decide +kernel
theorem dX4_addWord_74 : decode cX4_addWord 74 = .ok (.getfield 12, 3) := by decide +kernel
theorem dX4_addWord_77 : decode cX4_addWord 77 = .ok (.getfield 75, 3) := by decide +kernel
theorem dX4_addWord_80 : decode cX4_addWord 80 = .ok (.iload_n 1, 1) := by decide +kernel
theorem dX4_addWord_81 : decode cX4_addWord 81 = .ok (.iconst 0, 1) := by decide +kernel
theorem dX4_addWord_82 : decode cX4_addWord 82 = .ok (.iastore, 1) := by decide +kernel
theorem dX4_addWord_83 : decode cX4_addWord 83 = .ok (.aload_n 0, 1) := by decide +kernel
theorem dX4_addWord_84 : decode cX4_addWord 84 = .ok (.iload_n 1, 1) := by decide +kernel
theorem dX4_addWord_85 : decode cX4_addWord 85 = .ok (.invokevirtual 79, 3) := by decide +kernel
theorem dX4_addWord_88 : decode cX4_addWord 88 = .ok (.return_, 1) := by decide +kernel
theorem dX4_addToOpen_0 : decode cX4_addToOpen 0 = .ok (.aload_n 0, 1) := by decide +kernel
theorem dX4_addToOpen_1 : decode cX4_addToOpen 1 = .ok (.getfield 12, 3) := by decide +kernel
theorem dX4_addToOpen_4 : decode cX4_addToOpen 4 = .ok (.getfield 58, 3) := by decide +kernel
theorem dX4_addToOpen_7 : decode cX4_addToOpen 7 = .ok (.istore_n 2, 1) := by decide +kernel
theorem dX4_addToOpen_8 : decode cX4_addToOpen 8 = .ok (.aload_n 0, 1) := by decide +kernel
theorem dX4_addToOpen_9 : decode cX4_addToOpen 9 = .ok (.getfield 25, 3) := by decide +kernel
theorem dX4_addToOpen_12 : decode cX4_addToOpen 12 = .ok (.ifCond .ne 33, 3) := by decide +kernel
theorem dX4_addToOpen_15 : decode cX4_addToOpen 15 = .ok (.aload_n 0, 1) := by decide +kernel
theorem dX4_addToOpen_16 : decode cX4_addToOpen 16 = .ok (.getfield 12, 3) := by decide +kernel
theorem dX4_addToOpen_19 : decode cX4_addToOpen 19 = .ok (.getfield 83, 3) := by decide +kernel
theorem dX4_addToOpen_22 : decode cX4_addToOpen 22 = .ok (.iload_n 2, 1) := by decide +kernel
theorem dX4_addToOpen_23 : decode cX4_addToOpen 23 = .ok (.iconst 0, 1) := by decide +kernel
theorem dX4_addToOpen_24 : decode cX4_addToOpen 24 = .ok (.iastore, 1) := by decide +kernel
theorem dX4_addToOpen_25 : decode cX4_addToOpen 25 = .ok (.aload_n 0, 1) := by decide +kernel
theorem dX4_addToOpen_26 : decode cX4_addToOpen 26 = .ok (.getfield 12, 3) := by decide +kernel
theorem dX4_addToOpen_29 : decode cX4_addToOpen 29 = .ok (.getfield 86, 3) := by decide +kernel
theorem dX4_addToOpen_32 : decode cX4_addToOpen 32 = .ok (.iload_n 2, 1) := by decide +kernel
theorem dX4_addToOpen_33 : decode cX4_addToOpen 33 = .ok (.lconst 0, 1) := by decide +kernel
theorem dX4_addToOpen_34 : decode cX4_addToOpen 34 = .ok (.lastore, 1) := by decide +kernel
theorem dX4_addToOpen_35 : decode cX4_addToOpen 35 = .ok (.aload_n 0, 1) := by decide +kernel
theorem dX4_addToOpen_36 : decode cX4_addToOpen 36 = .ok (.getfield 12, 3) := by decide +kernel
theorem dX4_addToOpen_39 : decode cX4_addToOpen 39 = .ok (.getfield 89, 3) := by decide +kernel
theorem dX4_addToOpen_42 : decode cX4_addToOpen 42 = .ok (.iload_n 2, 1) := by decide +kernel
theorem dX4_addToOpen_43 : decode cX4_addToOpen 43 = .ok (.iload_n 1, 1) := by decide +kernel
theorem dX4_addToOpen_44 : decode cX4_addToOpen 44 = .ok (.iastore, 1) := by decide +kernel
theorem dX4_addToOpen_45 : decode cX4_addToOpen 45 = .ok (.aload_n 0, 1) := by decide +kernel
theorem dX4_addToOpen_46 : decode cX4_addToOpen 46 = .ok (.getfield 12, 3) := by decide +kernel
theorem dX4_addToOpen_49 : decode cX4_addToOpen 49 = .ok (.getfield 86, 3) := by decide +kernel
theorem dX4_addToOpen_52 : decode cX4_addToOpen 52 = .ok (.iload_n 2, 1) := by decide +kernel
theorem dX4_addToOpen_53 : decode cX4_addToOpen 53 = .ok (.laload, 1) := by decide +kernel
theorem dX4_addToOpen_54 : decode cX4_addToOpen 54 = .ok (.iload_n 1, 1) := by decide +kernel
theorem dX4_addToOpen_55 : decode cX4_addToOpen 55 = .ok (.lushr, 1) := by decide +kernel
theorem dX4_addToOpen_56 : decode cX4_addToOpen 56 = .ok (.lconst 1, 1) := by decide +kernel
theorem dX4_addToOpen_57 : decode cX4_addToOpen 57 = .ok (.land, 1) := by decide +kernel
theorem dX4_addToOpen_58 : decode cX4_addToOpen 58 = .ok (.lconst 0, 1) := by decide +kernel
theorem dX4_addToOpen_59 : decode cX4_addToOpen 59 = .ok (.lcmp, 1) := by decide +kernel
theorem dX4_addToOpen_60 : decode cX4_addToOpen 60 = .ok (.ifCond .ne 16, 3) := by decide +kernel
theorem dX4_addToOpen_63 : decode cX4_addToOpen 63 = .ok (.aload_n 0, 1) := by decide +kernel
theorem dX4_addToOpen_64 : decode cX4_addToOpen 64 = .ok (.getfield 12, 3) := by decide +kernel
theorem dX4_addToOpen_67 : decode cX4_addToOpen 67 = .ok (.getfield 75, 3) := by decide +kernel
theorem dX4_addToOpen_70 : decode cX4_addToOpen 70 = .ok (.iload_n 1, 1) := by decide +kernel
theorem dX4_addToOpen_71 : decode cX4_addToOpen 71 = .ok (.dup2, 1) := by decide +kernel
theorem dX4_addToOpen_72 : decode cX4_addToOpen 72 = .ok (.iaload, 1) := by decide +kernel
theorem dX4_addToOpen_73 : decode cX4_addToOpen 73 = .ok (.iconst 1, 1) := by decide +kernel
theorem dX4_addToOpen_74 : decode cX4_addToOpen 74 = .ok (.iadd, 1) := by decide +kernel
theorem dX4_addToOpen_75 : decode cX4_addToOpen 75 = .ok (.iastore, 1) := by decide +kernel
theorem dX4_addToOpen_76 : decode cX4_addToOpen 76 = .ok (.aload_n 0, 1) := by decide +kernel
theorem dX4_addToOpen_77 : decode cX4_addToOpen 77 = .ok (.getfield 12, 3) := by decide +kernel
theorem dX4_addToOpen_80 : decode cX4_addToOpen 80 = .ok (.getfield 86, 3) := by decide +kernel
theorem dX4_addToOpen_83 : decode cX4_addToOpen 83 = .ok (.iload_n 2, 1) := by decide +kernel
theorem dX4_addToOpen_84 : decode cX4_addToOpen 84 = .ok (.dup2, 1) := by decide +kernel
theorem dX4_addToOpen_85 : decode cX4_addToOpen 85 = .ok (.laload, 1) := by decide +kernel
theorem dX4_addToOpen_86 : decode cX4_addToOpen 86 = .ok (.lconst 1, 1) := by decide +kernel
theorem dX4_addToOpen_87 : decode cX4_addToOpen 87 = .ok (.iload_n 1, 1) := by decide +kernel
theorem dX4_addToOpen_88 : decode cX4_addToOpen 88 = .ok (.lshl, 1) := by decide +kernel
theorem dX4_addToOpen_89 : decode cX4_addToOpen 89 = .ok (.lor, 1) := by decide +kernel
theorem dX4_addToOpen_90 : decode cX4_addToOpen 90 = .ok (.lastore, 1) := by decide +kernel
theorem dX4_addToOpen_91 : decode cX4_addToOpen 91 = .ok (.aload_n 0, 1) := by decide +kernel
theorem dX4_addToOpen_92 : decode cX4_addToOpen 92 = .ok (.getfield 12, 3) := by decide +kernel
theorem dX4_addToOpen_95 : decode cX4_addToOpen 95 = .ok (.getfield 83, 3) := by decide +kernel
theorem dX4_addToOpen_98 : decode cX4_addToOpen 98 = .ok (.iload_n 2, 1) := by decide +kernel
theorem dX4_addToOpen_99 : decode cX4_addToOpen 99 = .ok (.dup2, 1) := by decide +kernel
theorem dX4_addToOpen_100 : decode cX4_addToOpen 100 = .ok (.iaload, 1) := by decide +kernel
theorem dX4_addToOpen_101 : decode cX4_addToOpen 101 = .ok (.aload_n 0, 1) := by decide +kernel
theorem dX4_addToOpen_102 : decode cX4_addToOpen 102 = .ok (.getfield 28, 3) := by decide +kernel
theorem dX4_addToOpen_105 : decode cX4_addToOpen 105 = .ok (.iconst 1, 1) := by decide +kernel
theorem dX4_addToOpen_106 : decode cX4_addToOpen 106 = .ok (.iadd, 1) := by decide +kernel
theorem dX4_addToOpen_107 : decode cX4_addToOpen 107 = .ok (.iadd, 1) := by decide +kernel
theorem dX4_addToOpen_108 : decode cX4_addToOpen 108 = .ok (.iastore, 1) := by decide +kernel
theorem dX4_addToOpen_109 : decode cX4_addToOpen 109 = .ok (.aload_n 0, 1) := by decide +kernel
theorem dX4_addToOpen_110 : decode cX4_addToOpen 110 = .ok (.dup, 1) := by decide +kernel
theorem dX4_addToOpen_111 : decode cX4_addToOpen 111 = .ok (.getfield 25, 3) := by decide +kernel
theorem dX4_addToOpen_114 : decode cX4_addToOpen 114 = .ok (.iconst 1, 1) := by decide +kernel
theorem dX4_addToOpen_115 : decode cX4_addToOpen 115 = .ok (.iadd, 1) := by decide +kernel
theorem dX4_addToOpen_116 : decode cX4_addToOpen 116 = .ok (.putfield 25, 3) := by decide +kernel
theorem dX4_addToOpen_119 : decode cX4_addToOpen 119 = .ok (.aload_n 0, 1) := by decide +kernel
theorem dX4_addToOpen_120 : decode cX4_addToOpen 120 = .ok (.getfield 12, 3) := by decide +kernel
theorem dX4_addToOpen_123 : decode cX4_addToOpen 123 = .ok (.getfield 92, 3) := by decide +kernel
theorem dX4_addToOpen_126 : decode cX4_addToOpen 126 = .ok (.iload_n 2, 1) := by decide +kernel
theorem dX4_addToOpen_127 : decode cX4_addToOpen 127 = .ok (.aload_n 0, 1) := by decide +kernel
theorem dX4_addToOpen_128 : decode cX4_addToOpen 128 = .ok (.getfield 25, 3) := by decide +kernel
theorem dX4_addToOpen_131 : decode cX4_addToOpen 131 = .ok (.iastore, 1) := by decide +kernel
theorem dX4_addToOpen_132 : decode cX4_addToOpen 132 = .ok (.return_, 1) := by decide +kernel
theorem dX4_refuse_0 : decode cX4_refuse 0 = .ok (.aload_n 0, 1) := by decide +kernel
theorem dX4_refuse_1 : decode cX4_refuse 1 = .ok (.getfield 18, 3) := by decide +kernel
theorem dX4_refuse_4 : decode cX4_refuse 4 = .ok (.ifCond .ne 13, 3) := by decide +kernel
theorem dX4_refuse_7 : decode cX4_refuse 7 = .ok (.aload_n 0, 1) := by decide +kernel
theorem dX4_refuse_8 : decode cX4_refuse 8 = .ok (.iload_n 1, 1) := by decide +kernel
theorem dX4_refuse_9 : decode cX4_refuse 9 = .ok (.putfield 18, 3) := by decide +kernel
theorem dX4_refuse_12 : decode cX4_refuse 12 = .ok (.aload_n 0, 1) := by decide +kernel
theorem dX4_refuse_13 : decode cX4_refuse 13 = .ok (.iload_n 2, 1) := by decide +kernel
theorem dX4_refuse_14 : decode cX4_refuse 14 = .ok (.putfield 22, 3) := by decide +kernel
theorem dX4_refuse_17 : decode cX4_refuse 17 = .ok (.return_, 1) := by decide +kernel
theorem dX5_init_0 : decode cX5_init 0 = .ok (.aload_n 0, 1) := by decide +kernel
theorem dX5_init_1 : decode cX5_init 1 = .ok (.invokespecial 3, 3) := by decide +kernel
theorem dX5_init_4 : decode cX5_init 4 = .ok (.aload_n 0, 1) := by decide +kernel
theorem dX5_init_5 : decode cX5_init 5 = .ok (.iconst 0, 1) := by decide +kernel
theorem dX5_init_6 : decode cX5_init 6 = .ok (.putfield 11, 3) := by decide +kernel
theorem dX5_init_9 : decode cX5_init 9 = .ok (.aload_n 0, 1) := by decide +kernel
theorem dX5_init_10 : decode cX5_init 10 = .ok (.iconst (-1), 1) := by decide +kernel
theorem dX5_init_11 : decode cX5_init 11 = .ok (.putfield 15, 3) := by decide +kernel
theorem dX5_init_14 : decode cX5_init 14 = .ok (.aload_n 0, 1) := by decide +kernel
theorem dX5_init_15 : decode cX5_init 15 = .ok (.iconst 0, 1) := by decide +kernel
theorem dX5_init_16 : decode cX5_init 16 = .ok (.putfield 18, 3) := by decide +kernel
theorem dX5_init_19 : decode cX5_init 19 = .ok (.aload_n 0, 1) := by decide +kernel
theorem dX5_init_20 : decode cX5_init 20 = .ok (.iconst 0, 1) := by decide +kernel
theorem dX5_init_21 : decode cX5_init 21 = .ok (.putfield 21, 3) := by decide +kernel
theorem dX5_init_24 : decode cX5_init 24 = .ok (.aload_n 0, 1) := by decide +kernel
theorem dX5_init_25 : decode cX5_init 25 = .ok (.bipush 17, 2) := by decide +kernel
theorem dX5_init_27 : decode cX5_init 27 = .ok (.newarray .long, 2) := by decide +kernel
theorem dX5_init_29 : decode cX5_init 29 = .ok (.putfield 24, 3) := by decide +kernel
theorem dX5_init_32 : decode cX5_init 32 = .ok (.aload_n 0, 1) := by decide +kernel
theorem dX5_init_33 : decode cX5_init 33 = .ok (.iconst 0, 1) := by decide +kernel
theorem dX5_init_34 : decode cX5_init 34 = .ok (.putfield 28, 3) := by decide +kernel
theorem dX5_init_37 : decode cX5_init 37 = .ok (.aload_n 0, 1) := by decide +kernel
theorem dX5_init_38 : decode cX5_init 38 = .ok (.iconst 0, 1) := by decide +kernel
theorem dX5_init_39 : decode cX5_init 39 = .ok (.putfield 32, 3) := by decide +kernel
theorem dX5_init_42 : decode cX5_init 42 = .ok (.aload_n 0, 1) := by decide +kernel
theorem dX5_init_43 : decode cX5_init 43 = .ok (.iconst 0, 1) := by decide +kernel
theorem dX5_init_44 : decode cX5_init 44 = .ok (.putfield 35, 3) := by decide +kernel
theorem dX5_init_47 : decode cX5_init 47 = .ok (.aload_n 0, 1) := by decide +kernel
theorem dX5_init_48 : decode cX5_init 48 = .ok (.iconst 0, 1) := by decide +kernel
theorem dX5_init_49 : decode cX5_init 49 = .ok (.putfield 38, 3) := by decide +kernel
theorem dX5_init_52 : decode cX5_init 52 = .ok (.return_, 1) := by decide +kernel
theorem dX5_findMost_0 : decode cX5_findMost 0 = .ok (.aload_n 0, 1) := by decide +kernel
theorem dX5_findMost_1 : decode cX5_findMost 1 = .ok (.iconst 0, 1) := by decide +kernel
theorem dX5_findMost_2 : decode cX5_findMost 2 = .ok (.putfield 11, 3) := by decide +kernel
theorem dX5_findMost_5 : decode cX5_findMost 5 = .ok (.aload_n 0, 1) := by decide +kernel
theorem dX5_findMost_6 : decode cX5_findMost 6 = .ok (.iload_n 3, 1) := by decide +kernel
theorem dX5_findMost_7 : decode cX5_findMost 7 = .ok (.putfield 15, 3) := by decide +kernel
theorem dX5_findMost_10 : decode cX5_findMost 10 = .ok (.aload_n 0, 1) := by decide +kernel
theorem dX5_findMost_11 : decode cX5_findMost 11 = .ok (.iload_n 2, 1) := by decide +kernel
theorem dX5_findMost_12 : decode cX5_findMost 12 = .ok (.putfield 18, 3) := by decide +kernel
theorem dX5_findMost_15 : decode cX5_findMost 15 = .ok (.aload_n 0, 1) := by decide +kernel
theorem dX5_findMost_16 : decode cX5_findMost 16 = .ok (.iconst 0, 1) := by decide +kernel
theorem dX5_findMost_17 : decode cX5_findMost 17 = .ok (.putfield 21, 3) := by decide +kernel
theorem dX5_findMost_20 : decode cX5_findMost 20 = .ok (.aload_n 0, 1) := by decide +kernel
theorem dX5_findMost_21 : decode cX5_findMost 21 = .ok (.aload_n 1, 1) := by decide +kernel
theorem dX5_findMost_22 : decode cX5_findMost 22 = .ok (.invokevirtual 41, 3) := by decide +kernel
theorem dX5_findMost_25 : decode cX5_findMost 25 = .ok (.return_, 1) := by decide +kernel
theorem dX5_findFewest_0 : decode cX5_findFewest 0 = .ok (.aload_n 0, 1) := by decide +kernel
theorem dX5_findFewest_1 : decode cX5_findFewest 1 = .ok (.iconst 1, 1) := by decide +kernel
theorem dX5_findFewest_2 : decode cX5_findFewest 2 = .ok (.putfield 11, 3) := by decide +kernel
theorem dX5_findFewest_5 : decode cX5_findFewest 5 = .ok (.aload_n 0, 1) := by decide +kernel
theorem dX5_findFewest_6 : decode cX5_findFewest 6 = .ok (.iconst (-1), 1) := by decide +kernel
theorem dX5_findFewest_7 : decode cX5_findFewest 7 = .ok (.putfield 15, 3) := by decide +kernel
theorem dX5_findFewest_10 : decode cX5_findFewest 10 = .ok (.aload_n 0, 1) := by decide +kernel
theorem dX5_findFewest_11 : decode cX5_findFewest 11 = .ok (.ldc 47, 2) := by decide +kernel
theorem dX5_findFewest_13 : decode cX5_findFewest 13 = .ok (.putfield 18, 3) := by decide +kernel
theorem dX5_findFewest_16 : decode cX5_findFewest 16 = .ok (.aload_n 0, 1) := by decide +kernel
theorem dX5_findFewest_17 : decode cX5_findFewest 17 = .ok (.aload_n 1, 1) := by decide +kernel
theorem dX5_findFewest_18 : decode cX5_findFewest 18 = .ok (.aload_n 1, 1) := by decide +kernel
theorem dX5_findFewest_19 : decode cX5_findFewest 19 = .ok (.invokevirtual 48, 3) := by decide +kernel
theorem dX5_findFewest_22 : decode cX5_findFewest 22 = .ok (.invokevirtual 54, 3) := by decide +kernel
theorem dX5_findFewest_25 : decode cX5_findFewest 25 = .ok (.putfield 21, 3) := by decide +kernel
theorem dX5_findFewest_28 : decode cX5_findFewest 28 = .ok (.aload_n 0, 1) := by decide +kernel
theorem dX5_findFewest_29 : decode cX5_findFewest 29 = .ok (.aload_n 1, 1) := by decide +kernel
theorem dX5_findFewest_30 : decode cX5_findFewest 30 = .ok (.invokevirtual 41, 3) := by decide +kernel
theorem dX5_findFewest_33 : decode cX5_findFewest 33 = .ok (.return_, 1) := by decide +kernel
theorem dX5_findShortest_0 : decode cX5_findShortest 0 = .ok (.aload_n 0, 1) := by decide +kernel
theorem dX5_findShortest_1 : decode cX5_findShortest 1 = .ok (.iconst 2, 1) := by decide +kernel
theorem dX5_findShortest_2 : decode cX5_findShortest 2 = .ok (.putfield 11, 3) := by decide +kernel
theorem dX5_findShortest_5 : decode cX5_findShortest 5 = .ok (.aload_n 0, 1) := by decide +kernel
theorem dX5_findShortest_6 : decode cX5_findShortest 6 = .ok (.iconst (-1), 1) := by decide +kernel
theorem dX5_findShortest_7 : decode cX5_findShortest 7 = .ok (.putfield 15, 3) := by decide +kernel
theorem dX5_findShortest_10 : decode cX5_findShortest 10 = .ok (.aload_n 0, 1) := by decide +kernel
theorem dX5_findShortest_11 : decode cX5_findShortest 11 = .ok (.ldc 47, 2) := by decide +kernel
theorem dX5_findShortest_13 : decode cX5_findShortest 13 = .ok (.putfield 18, 3) := by decide +kernel
theorem dX5_findShortest_16 : decode cX5_findShortest 16 = .ok (.aload_n 0, 1) := by decide +kernel
theorem dX5_findShortest_17 : decode cX5_findShortest 17 = .ok (.iload_n 2, 1) := by decide +kernel
theorem dX5_findShortest_18 : decode cX5_findShortest 18 = .ok (.putfield 21, 3) := by decide +kernel
theorem dX5_findShortest_21 : decode cX5_findShortest 21 = .ok (.aload_n 0, 1) := by decide +kernel
theorem dX5_findShortest_22 : decode cX5_findShortest 22 = .ok (.aload_n 1, 1) := by decide +kernel
theorem dX5_findShortest_23 : decode cX5_findShortest 23 = .ok (.invokevirtual 41, 3) := by decide +kernel
theorem dX5_findShortest_26 : decode cX5_findShortest 26 = .ok (.return_, 1) := by decide +kernel
theorem dX5_visitAll_0 : decode cX5_visitAll 0 = .ok (.aload_n 0, 1) := by decide +kernel
theorem dX5_visitAll_1 : decode cX5_visitAll 1 = .ok (.iconst 0, 1) := by decide +kernel
theorem dX5_visitAll_2 : decode cX5_visitAll 2 = .ok (.putfield 28, 3) := by decide +kernel
theorem dX5_visitAll_5 : decode cX5_visitAll 5 = .ok (.aload_n 0, 1) := by decide +kernel
theorem dX5_visitAll_6 : decode cX5_visitAll 6 = .ok (.iconst 0, 1) := by decide +kernel
theorem dX5_visitAll_7 : decode cX5_visitAll 7 = .ok (.putfield 32, 3) := by decide +kernel
theorem dX5_visitAll_10 : decode cX5_visitAll 10 = .ok (.aload_n 0, 1) := by decide +kernel
theorem dX5_visitAll_11 : decode cX5_visitAll 11 = .ok (.iconst 0, 1) := by decide +kernel
theorem dX5_visitAll_12 : decode cX5_visitAll 12 = .ok (.putfield 35, 3) := by decide +kernel
theorem dX5_visitAll_15 : decode cX5_visitAll 15 = .ok (.aload_n 0, 1) := by decide +kernel
theorem dX5_visitAll_16 : decode cX5_visitAll 16 = .ok (.iconst 0, 1) := by decide +kernel
theorem dX5_visitAll_17 : decode cX5_visitAll 17 = .ok (.putfield 38, 3) := by decide +kernel
theorem dX5_visitAll_20 : decode cX5_visitAll 20 = .ok (.aload_n 0, 1) := by decide +kernel
theorem dX5_visitAll_21 : decode cX5_visitAll 21 = .ok (.getfield 24, 3) := by decide +kernel
theorem dX5_visitAll_24 : decode cX5_visitAll 24 = .ok (.aload_n 1, 1) := by decide +kernel
theorem dX5_visitAll_25 : decode cX5_visitAll 25 = .ok (.getfield 58, 3) := by decide +kernel
theorem dX5_visitAll_28 : decode cX5_visitAll 28 = .ok (.lconst 0, 1) := by decide +kernel
theorem dX5_visitAll_29 : decode cX5_visitAll 29 = .ok (.lastore, 1) := by decide +kernel
theorem dX5_visitAll_30 : decode cX5_visitAll 30 = .ok (.aload_n 1, 1) := by decide +kernel
theorem dX5_visitAll_31 : decode cX5_visitAll 31 = .ok (.getfield 58, 3) := by decide +kernel
theorem dX5_visitAll_34 : decode cX5_visitAll 34 = .ok (.iconst 1, 1) := by decide +kernel
theorem dX5_visitAll_35 : decode cX5_visitAll 35 = .ok (.isub, 1) := by decide +kernel
theorem dX5_visitAll_36 : decode cX5_visitAll 36 = .ok (.istore_n 2, 1) := by decide +kernel
theorem dX5_visitAll_37 : decode cX5_visitAll 37 = .ok (.iload_n 2, 1) := by decide +kernel
theorem dX5_visitAll_38 : decode cX5_visitAll 38 = .ok (.ifCond .lt 42, 3) := by decide +kernel
theorem dX5_visitAll_41 : decode cX5_visitAll 41 = .ok (.aload_n 0, 1) := by decide +kernel
theorem dX5_visitAll_42 : decode cX5_visitAll 42 = .ok (.getfield 24, 3) := by decide +kernel
theorem dX5_visitAll_45 : decode cX5_visitAll 45 = .ok (.iload_n 2, 1) := by decide +kernel
theorem dX5_visitAll_46 : decode cX5_visitAll 46 = .ok (.aload_n 0, 1) := by decide +kernel
theorem dX5_visitAll_47 : decode cX5_visitAll 47 = .ok (.getfield 24, 3) := by decide +kernel
theorem dX5_visitAll_50 : decode cX5_visitAll 50 = .ok (.iload_n 2, 1) := by decide +kernel
theorem dX5_visitAll_51 : decode cX5_visitAll 51 = .ok (.iconst 1, 1) := by decide +kernel
theorem dX5_visitAll_52 : decode cX5_visitAll 52 = .ok (.iadd, 1) := by decide +kernel
theorem dX5_visitAll_53 : decode cX5_visitAll 53 = .ok (.laload, 1) := by decide +kernel
theorem dX5_visitAll_54 : decode cX5_visitAll 54 = .ok (.iload_n 2, 1) := by decide +kernel
theorem dX5_visitAll_55 : decode cX5_visitAll 55 = .ok (.aload_n 0, 1) := by decide +kernel
theorem dX5_visitAll_56 : decode cX5_visitAll 56 = .ok (.getfield 15, 3) := by decide +kernel
theorem dX5_visitAll_59 : decode cX5_visitAll 59 = .ok (.if_icmp .ne 7, 3) := by decide +kernel
theorem dX5_visitAll_62 : decode cX5_visitAll 62 = .ok (.lconst 0, 1) := by decide +kernel
theorem dX5_visitAll_63 : decode cX5_visitAll 63 = .ok (.goto 9, 3) := by decide +kernel
theorem dX5_visitAll_66 : decode cX5_visitAll 66 = .ok (.aload_n 1, 1) := by decide +kernel
theorem dX5_visitAll_67 : decode cX5_visitAll 67 = .ok (.getfield 61, 3) := by decide +kernel
theorem dX5_visitAll_70 : decode cX5_visitAll 70 = .ok (.iload_n 2, 1) := by decide +kernel
theorem dX5_visitAll_71 : decode cX5_visitAll 71 = .ok (.laload, 1) := by decide +kernel
theorem dX5_visitAll_72 : decode cX5_visitAll 72 = .ok (.lor, 1) := by decide +kernel
theorem dX5_visitAll_73 : decode cX5_visitAll 73 = .ok (.lastore, 1) := by decide +kernel
theorem dX5_visitAll_74 : decode cX5_visitAll 74 = .ok (.iinc 2 (-1), 3) := by decide +kernel
theorem dX5_visitAll_77 : decode cX5_visitAll 77 = .ok (.goto (-40), 3) := by decide +kernel
theorem dX5_visitAll_80 : decode cX5_visitAll 80 = .ok (.aload_n 0, 1) := by decide +kernel
theorem dX5_visitAll_81 : decode cX5_visitAll 81 = .ok (.aload_n 1, 1) := by decide +kernel
theorem dX5_visitAll_82 : decode cX5_visitAll 82 = .ok (.iconst 0, 1) := by decide +kernel
theorem dX5_visitAll_83 : decode cX5_visitAll 83 = .ok (.iconst 0, 1) := by decide +kernel
theorem dX5_visitAll_84 : decode cX5_visitAll 84 = .ok (.lconst 0, 1) := by decide +kernel
theorem dX5_visitAll_85 : decode cX5_visitAll 85 = .ok (.iconst 0, 1) := by decide +kernel
theorem dX5_visitAll_86 : decode cX5_visitAll 86 = .ok (.iconst 0, 1) := by decide +kernel
theorem dX5_visitAll_87 : decode cX5_visitAll 87 = .ok (.aload_n 1, 1) := by decide +kernel
theorem dX5_visitAll_88 : decode cX5_visitAll 88 = .ok (.aload_n 0, 1) := by decide +kernel
theorem dX5_visitAll_89 : decode cX5_visitAll 89 = .ok (.getfield 24, 3) := by decide +kernel
theorem dX5_visitAll_92 : decode cX5_visitAll 92 = .ok (.iconst 0, 1) := by decide +kernel
theorem dX5_visitAll_93 : decode cX5_visitAll 93 = .ok (.laload, 1) := by decide +kernel
theorem dX5_visitAll_94 : decode cX5_visitAll 94 = .ok (.invokevirtual 64, 3) := by decide +kernel
theorem dX5_visitAll_97 : decode cX5_visitAll 97 = .ok (.invokevirtual 68, 3) := by decide +kernel
theorem dX5_visitAll_100 : decode cX5_visitAll 100 = .ok (.return_, 1) := by decide +kernel
theorem dX5_visit_0 : decode cX5_visit 0 = .ok (.iload 7, 2) := by decide +kernel
theorem dX5_visit_2 : decode cX5_visit 2 = .ok (.aload_n 0, 1) := by decide +kernel
theorem dX5_visit_3 : decode cX5_visit 3 = .ok (.getfield 18, 3) := by decide +kernel
theorem dX5_visit_6 : decode cX5_visit 6 = .ok (.if_icmp .gt 31, 3) := by decide +kernel
theorem dX5_visit_9 : decode cX5_visit 9 = .ok (.iload 8, 2) := by decide +kernel
theorem dX5_visit_11 : decode cX5_visit 11 = .ok (.aload_n 0, 1) := by decide +kernel
theorem dX5_visit_12 : decode cX5_visit 12 = .ok (.getfield 21, 3) := by decide +kernel
theorem dX5_visit_15 : decode cX5_visit 15 = .ok (.if_icmp .lt 22, 3) := by decide +kernel
theorem dX5_visit_18 : decode cX5_visit 18 = .ok (.aload_n 0, 1) := by decide +kernel
theorem dX5_visit_19 : decode cX5_visit 19 = .ok (.getfield 28, 3) := by decide +kernel
theorem dX5_visit_22 : decode cX5_visit 22 = .ok (.ifCond .eq 16, 3) := by decide +kernel
theorem dX5_visit_25 : decode cX5_visit 25 = .ok (.aload_n 0, 1) := by decide +kernel
theorem dX5_visit_26 : decode cX5_visit 26 = .ok (.iload_n 3, 1) := by decide +kernel
theorem dX5_visit_27 : decode cX5_visit 27 = .ok (.iload 8, 2) := by decide +kernel
theorem dX5_visit_29 : decode cX5_visit 29 = .ok (.iload 7, 2) := by decide +kernel
theorem dX5_visit_31 : decode cX5_visit 31 = .ok (.invokevirtual 72, 3) := by decide +kernel
theorem dX5_visit_34 : decode cX5_visit 34 = .ok (.ifCond .le 4, 3) := by decide +kernel
theorem dX5_visit_37 : decode cX5_visit 37 = .ok (.return_, 1) := by decide +kernel
theorem dX5_visit_38 : decode cX5_visit 38 = .ok (.iload_n 2, 1) := by decide +kernel
theorem dX5_visit_39 : decode cX5_visit 39 = .ok (.aload_n 1, 1) := by decide +kernel
theorem dX5_visit_40 : decode cX5_visit 40 = .ok (.getfield 58, 3) := by decide +kernel
theorem dX5_visit_43 : decode cX5_visit 43 = .ok (.if_icmp .ge 14, 3) := by decide +kernel
theorem dX5_visit_46 : decode cX5_visit 46 = .ok (.aload_n 0, 1) := by decide +kernel
theorem dX5_visit_47 : decode cX5_visit 47 = .ok (.iload 6, 2) := by decide +kernel
theorem dX5_visit_49 : decode cX5_visit 49 = .ok (.iload 8, 2) := by decide +kernel
theorem dX5_visit_51 : decode cX5_visit 51 = .ok (.invokevirtual 76, 3) := by decide +kernel
theorem dX5_visit_54 : decode cX5_visit 54 = .ok (.ifCond .eq 13, 3) := by decide +kernel
theorem dX5_visit_57 : decode cX5_visit 57 = .ok (.aload_n 0, 1) := by decide +kernel
theorem dX5_visit_58 : decode cX5_visit 58 = .ok (.iload_n 3, 1) := by decide +kernel
theorem dX5_visit_59 : decode cX5_visit 59 = .ok (.iload 6, 2) := by decide +kernel
theorem dX5_visit_61 : decode cX5_visit 61 = .ok (.iload 7, 2) := by decide +kernel
theorem dX5_visit_63 : decode cX5_visit 63 = .ok (.invokevirtual 80, 3) := by decide +kernel
theorem dX5_visit_66 : decode cX5_visit 66 = .ok (.return_, 1) := by decide +kernel
theorem dX5_visit_67 : decode cX5_visit 67 = .ok (.aload_n 0, 1) := by decide +kernel
theorem dX5_visit_68 : decode cX5_visit 68 = .ok (.aload_n 1, 1) := by decide +kernel
theorem dX5_visit_69 : decode cX5_visit 69 = .ok (.iload_n 2, 1) := by decide +kernel
theorem dX5_visit_70 : decode cX5_visit 70 = .ok (.iload_n 3, 1) := by decide +kernel
theorem dX5_visit_71 : decode cX5_visit 71 = .ok (.invokevirtual 84, 3) := by decide +kernel
theorem dX5_visit_74 : decode cX5_visit 74 = .ok (.ifCond .eq 60, 3) := by decide +kernel
theorem dX5_visit_77 : decode cX5_visit 77 = .ok (.aload_n 1, 1) := by decide +kernel
theorem dX5_visit_78 : decode cX5_visit 78 = .ok (.aload_n 1, 1) := by decide +kernel
theorem dX5_visit_79 : decode cX5_visit 79 = .ok (.getfield 61, 3) := by decide +kernel
theorem dX5_visit_82 : decode cX5_visit 82 = .ok (.iload_n 2, 1) := by decide +kernel
theorem dX5_visit_83 : decode cX5_visit 83 = .ok (.laload, 1) := by decide +kernel
theorem dX5_visit_84 : decode cX5_visit 84 = .ok (.lload 4, 2) := by decide +kernel
theorem dX5_visit_86 : decode cX5_visit 86 = .ok (.ldc2_w 88, 3) := by decide +kernel
theorem dX5_visit_89 : decode cX5_visit 89 = .ok (.lxor, 1) := by decide +kernel
theorem dX5_visit_90 : decode cX5_visit 90 = .ok (.land, 1) := by decide +kernel
theorem dX5_visit_91 : decode cX5_visit 91 = .ok (.invokevirtual 64, 3) := by decide +kernel
theorem dX5_visit_94 : decode cX5_visit 94 = .ok (.istore 9, 2) := by decide +kernel
theorem dX5_visit_96 : decode cX5_visit 96 = .ok (.aload_n 0, 1) := by decide +kernel
theorem dX5_visit_97 : decode cX5_visit 97 = .ok (.aload_n 1, 1) := by decide +kernel
theorem dX5_visit_98 : decode cX5_visit 98 = .ok (.iload_n 2, 1) := by decide +kernel
theorem dX5_visit_99 : decode cX5_visit 99 = .ok (.iconst 1, 1) := by decide +kernel
theorem dX5_visit_100 : decode cX5_visit 100 = .ok (.iadd, 1) := by decide +kernel
theorem dX5_visit_101 : decode cX5_visit 101 = .ok (.iload_n 3, 1) := by decide +kernel
theorem dX5_visit_102 : decode cX5_visit 102 = .ok (.iconst 1, 1) := by decide +kernel
theorem dX5_visit_103 : decode cX5_visit 103 = .ok (.iload_n 2, 1) := by decide +kernel
theorem dX5_visit_104 : decode cX5_visit 104 = .ok (.ishl, 1) := by decide +kernel
theorem dX5_visit_105 : decode cX5_visit 105 = .ok (.ior, 1) := by decide +kernel
theorem dX5_visit_106 : decode cX5_visit 106 = .ok (.lload 4, 2) := by decide +kernel
theorem dX5_visit_108 : decode cX5_visit 108 = .ok (.aload_n 1, 1) := by decide +kernel
theorem dX5_visit_109 : decode cX5_visit 109 = .ok (.getfield 61, 3) := by decide +kernel
theorem dX5_visit_112 : decode cX5_visit 112 = .ok (.iload_n 2, 1) := by decide +kernel
theorem dX5_visit_113 : decode cX5_visit 113 = .ok (.laload, 1) := by decide +kernel
theorem dX5_visit_114 : decode cX5_visit 114 = .ok (.lor, 1) := by decide +kernel
theorem dX5_visit_115 : decode cX5_visit 115 = .ok (.iload 6, 2) := by decide +kernel
theorem dX5_visit_117 : decode cX5_visit 117 = .ok (.iload 9, 2) := by decide +kernel
theorem dX5_visit_119 : decode cX5_visit 119 = .ok (.iadd, 1) := by decide +kernel
theorem dX5_visit_120 : decode cX5_visit 120 = .ok (.iload 7, 2) := by decide +kernel
theorem dX5_visit_122 : decode cX5_visit 122 = .ok (.aload_n 1, 1) := by decide +kernel
theorem dX5_visit_123 : decode cX5_visit 123 = .ok (.getfield 90, 3) := by decide +kernel
theorem dX5_visit_126 : decode cX5_visit 126 = .ok (.iload_n 2, 1) := by decide +kernel
theorem dX5_visit_127 : decode cX5_visit 127 = .ok (.iaload, 1) := by decide +kernel
theorem dX5_visit_128 : decode cX5_visit 128 = .ok (.iadd, 1) := by decide +kernel
theorem dX5_visit_129 : decode cX5_visit 129 = .ok (.iload 8, 2) := by decide +kernel
theorem dX5_visit_131 : decode cX5_visit 131 = .ok (.invokevirtual 68, 3) := by decide +kernel
theorem dX5_visit_134 : decode cX5_visit 134 = .ok (.aload_n 1, 1) := by decide +kernel
theorem dX5_visit_135 : decode cX5_visit 135 = .ok (.aload_n 0, 1) := by decide +kernel
theorem dX5_visit_136 : decode cX5_visit 136 = .ok (.getfield 24, 3) := by decide +kernel
theorem dX5_visit_139 : decode cX5_visit 139 = .ok (.iload_n 2, 1) := by decide +kernel
theorem dX5_visit_140 : decode cX5_visit 140 = .ok (.laload, 1) := by decide +kernel
theorem dX5_visit_141 : decode cX5_visit 141 = .ok (.aload_n 0, 1) := by decide +kernel
theorem dX5_visit_142 : decode cX5_visit 142 = .ok (.getfield 24, 3) := by decide +kernel
theorem dX5_visit_145 : decode cX5_visit 145 = .ok (.iload_n 2, 1) := by decide +kernel
theorem dX5_visit_146 : decode cX5_visit 146 = .ok (.iconst 1, 1) := by decide +kernel
theorem dX5_visit_147 : decode cX5_visit 147 = .ok (.iadd, 1) := by decide +kernel
theorem dX5_visit_148 : decode cX5_visit 148 = .ok (.laload, 1) := by decide +kernel
theorem dX5_visit_149 : decode cX5_visit 149 = .ok (.ldc2_w 88, 3) := by decide +kernel
theorem dX5_visit_152 : decode cX5_visit 152 = .ok (.lxor, 1) := by decide +kernel
theorem dX5_visit_153 : decode cX5_visit 153 = .ok (.land, 1) := by decide +kernel
theorem dX5_visit_154 : decode cX5_visit 154 = .ok (.lload 4, 2) := by decide +kernel
theorem dX5_visit_156 : decode cX5_visit 156 = .ok (.ldc2_w 88, 3) := by decide +kernel
theorem dX5_visit_159 : decode cX5_visit 159 = .ok (.lxor, 1) := by decide +kernel
theorem dX5_visit_160 : decode cX5_visit 160 = .ok (.land, 1) := by decide +kernel
theorem dX5_visit_161 : decode cX5_visit 161 = .ok (.invokevirtual 64, 3) := by decide +kernel
theorem dX5_visit_164 : decode cX5_visit 164 = .ok (.istore 9, 2) := by decide +kernel
theorem dX5_visit_166 : decode cX5_visit 166 = .ok (.aload_n 0, 1) := by decide +kernel
theorem dX5_visit_167 : decode cX5_visit 167 = .ok (.aload_n 1, 1) := by decide +kernel
theorem dX5_visit_168 : decode cX5_visit 168 = .ok (.iload_n 2, 1) := by decide +kernel
theorem dX5_visit_169 : decode cX5_visit 169 = .ok (.iconst 1, 1) := by decide +kernel
theorem dX5_visit_170 : decode cX5_visit 170 = .ok (.iadd, 1) := by decide +kernel
theorem dX5_visit_171 : decode cX5_visit 171 = .ok (.iload_n 3, 1) := by decide +kernel
theorem dX5_visit_172 : decode cX5_visit 172 = .ok (.lload 4, 2) := by decide +kernel
theorem dX5_visit_174 : decode cX5_visit 174 = .ok (.iload 6, 2) := by decide +kernel
theorem dX5_visit_176 : decode cX5_visit 176 = .ok (.iload 7, 2) := by decide +kernel
theorem dX5_visit_178 : decode cX5_visit 178 = .ok (.iload 8, 2) := by decide +kernel
theorem dX5_visit_180 : decode cX5_visit 180 = .ok (.iload 9, 2) := by decide +kernel
theorem dX5_visit_182 : decode cX5_visit 182 = .ok (.isub, 1) := by decide +kernel
theorem dX5_visit_183 : decode cX5_visit 183 = .ok (.invokevirtual 68, 3) := by decide +kernel
theorem dX5_visit_186 : decode cX5_visit 186 = .ok (.return_, 1) := by decide +kernel
theorem dX5_isEnough_0 : decode cX5_isEnough 0 = .ok (.iload_n 1, 1) := by decide +kernel
theorem dX5_isEnough_1 : decode cX5_isEnough 1 = .ok (.iload_n 2, 1) := by decide +kernel
theorem dX5_isEnough_2 : decode cX5_isEnough 2 = .ok (.if_icmp .eq 18, 3) := by decide +kernel
theorem dX5_isEnough_5 : decode cX5_isEnough 5 = .ok (.aload_n 0, 1) := by decide +kernel
theorem dX5_isEnough_6 : decode cX5_isEnough 6 = .ok (.getfield 11, 3) := by decide +kernel
theorem dX5_isEnough_9 : decode cX5_isEnough 9 = .ok (.ifCond .eq 15, 3) := by decide +kernel
theorem dX5_isEnough_12 : decode cX5_isEnough 12 = .ok (.iload_n 1, 1) := by decide +kernel
theorem dX5_isEnough_13 : decode cX5_isEnough 13 = .ok (.aload_n 0, 1) := by decide +kernel
theorem dX5_isEnough_14 : decode cX5_isEnough 14 = .ok (.getfield 21, 3) := by decide +kernel
theorem dX5_isEnough_17 : decode cX5_isEnough 17 = .ok (.if_icmp .lt 7, 3) := by decide +kernel
theorem dX5_isEnough_20 : decode cX5_isEnough 20 = .ok (.iconst 1, 1) := by decide +kernel
theorem dX5_isEnough_21 : decode cX5_isEnough 21 = .ok (.goto 4, 3) := by decide +kernel
theorem dX5_isEnough_24 : decode cX5_isEnough 24 = .ok (.iconst 0, 1) := by decide +kernel
theorem dX5_isEnough_25 : decode cX5_isEnough 25 = .ok (.ireturn, 1) := by decide +kernel
theorem dX5_mayHave_0 : decode cX5_mayHave 0 = .ok (.iload_n 2, 1) := by decide +kernel
theorem dX5_mayHave_1 : decode cX5_mayHave 1 = .ok (.aload_n 0, 1) := by decide +kernel
theorem dX5_mayHave_2 : decode cX5_mayHave 2 = .ok (.getfield 15, 3) := by decide +kernel
theorem dX5_mayHave_5 : decode cX5_mayHave 5 = .ok (.if_icmp .eq 24, 3) := by decide +kernel
theorem dX5_mayHave_8 : decode cX5_mayHave 8 = .ok (.aload_n 1, 1) := by decide +kernel
theorem dX5_mayHave_9 : decode cX5_mayHave 9 = .ok (.getfield 94, 3) := by decide +kernel
theorem dX5_mayHave_12 : decode cX5_mayHave 12 = .ok (.iload_n 2, 1) := by decide +kernel
theorem dX5_mayHave_13 : decode cX5_mayHave 13 = .ok (.iaload, 1) := by decide +kernel
theorem dX5_mayHave_14 : decode cX5_mayHave 14 = .ok (.iload_n 3, 1) := by decide +kernel
theorem dX5_mayHave_15 : decode cX5_mayHave 15 = .ok (.iconst 1, 1) := by decide +kernel
theorem dX5_mayHave_16 : decode cX5_mayHave 16 = .ok (.iload_n 2, 1) := by decide +kernel
theorem dX5_mayHave_17 : decode cX5_mayHave 17 = .ok (.ishl, 1) := by decide +kernel
theorem dX5_mayHave_18 : decode cX5_mayHave 18 = .ok (.ior, 1) := by decide +kernel
theorem dX5_mayHave_19 : decode cX5_mayHave 19 = .ok (.iconst (-1), 1) := by decide +kernel
theorem dX5_mayHave_20 : decode cX5_mayHave 20 = .ok (.ixor, 1) := by decide +kernel
theorem dX5_mayHave_21 : decode cX5_mayHave 21 = .ok (.iand, 1) := by decide +kernel
theorem dX5_mayHave_22 : decode cX5_mayHave 22 = .ok (.ifCond .ne 7, 3) := by decide +kernel
theorem dX5_mayHave_25 : decode cX5_mayHave 25 = .ok (.iconst 1, 1) := by decide +kernel
theorem dX5_mayHave_26 : decode cX5_mayHave 26 = .ok (.goto 4, 3) := by decide +kernel
theorem dX5_mayHave_29 : decode cX5_mayHave 29 = .ok (.iconst 0, 1) := by decide +kernel
theorem dX5_mayHave_30 : decode cX5_mayHave 30 = .ok (.ireturn, 1) := by decide +kernel
theorem dX5_offer_0 : decode cX5_offer 0 = .ok (.aload_n 0, 1) := by decide +kernel
theorem dX5_offer_1 : decode cX5_offer 1 = .ok (.getfield 28, 3) := by decide +kernel
theorem dX5_offer_4 : decode cX5_offer 4 = .ok (.ifCond .eq 13, 3) := by decide +kernel
theorem dX5_offer_7 : decode cX5_offer 7 = .ok (.aload_n 0, 1) := by decide +kernel
theorem dX5_offer_8 : decode cX5_offer 8 = .ok (.iload_n 1, 1) := by decide +kernel
theorem dX5_offer_9 : decode cX5_offer 9 = .ok (.iload_n 2, 1) := by decide +kernel
theorem dX5_offer_10 : decode cX5_offer 10 = .ok (.iload_n 3, 1) := by decide +kernel
theorem dX5_offer_11 : decode cX5_offer 11 = .ok (.invokevirtual 72, 3) := by decide +kernel
theorem dX5_offer_14 : decode cX5_offer 14 = .ok (.goto 4, 3) := by decide +kernel
theorem dX5_offer_17 : decode cX5_offer 17 = .ok (.iconst (-1), 1) := by decide +kernel
theorem dX5_offer_18 : decode cX5_offer 18 = .ok (.istore 4, 2) := by decide +kernel
theorem dX5_offer_20 : decode cX5_offer 20 = .ok (.iload 4, 2) := by decide +kernel
theorem dX5_offer_22 : decode cX5_offer 22 = .ok (.ifCond .lt 16, 3) := by decide +kernel
theorem dX5_offer_25 : decode cX5_offer 25 = .ok (.iload 4, 2) := by decide +kernel
theorem dX5_offer_27 : decode cX5_offer 27 = .ok (.ifCond .ne 31, 3) := by decide +kernel
theorem dX5_offer_30 : decode cX5_offer 30 = .ok (.iload_n 1, 1) := by decide +kernel
theorem dX5_offer_31 : decode cX5_offer 31 = .ok (.aload_n 0, 1) := by decide +kernel
theorem dX5_offer_32 : decode cX5_offer 32 = .ok (.getfield 32, 3) := by decide +kernel
theorem dX5_offer_35 : decode cX5_offer 35 = .ok (.if_icmp .ge 23, 3) := by decide +kernel
theorem dX5_offer_38 : decode cX5_offer 38 = .ok (.aload_n 0, 1) := by decide +kernel
theorem dX5_offer_39 : decode cX5_offer 39 = .ok (.iconst 1, 1) := by decide +kernel
theorem dX5_offer_40 : decode cX5_offer 40 = .ok (.putfield 28, 3) := by decide +kernel
theorem dX5_offer_43 : decode cX5_offer 43 = .ok (.aload_n 0, 1) := by decide +kernel
theorem dX5_offer_44 : decode cX5_offer 44 = .ok (.iload_n 1, 1) := by decide +kernel
theorem dX5_offer_45 : decode cX5_offer 45 = .ok (.putfield 32, 3) := by decide +kernel
theorem dX5_offer_48 : decode cX5_offer 48 = .ok (.aload_n 0, 1) := by decide +kernel
theorem dX5_offer_49 : decode cX5_offer 49 = .ok (.iload_n 2, 1) := by decide +kernel
theorem dX5_offer_50 : decode cX5_offer 50 = .ok (.putfield 35, 3) := by decide +kernel
theorem dX5_offer_53 : decode cX5_offer 53 = .ok (.aload_n 0, 1) := by decide +kernel
theorem dX5_offer_54 : decode cX5_offer 54 = .ok (.iload_n 3, 1) := by decide +kernel
theorem dX5_offer_55 : decode cX5_offer 55 = .ok (.putfield 38, 3) := by decide +kernel
theorem dX5_offer_58 : decode cX5_offer 58 = .ok (.return_, 1) := by decide +kernel
theorem dX5_ranked_0 : decode cX5_ranked 0 = .ok (.aload_n 0, 1) := by decide +kernel
theorem dX5_ranked_1 : decode cX5_ranked 1 = .ok (.getfield 35, 3) := by decide +kernel
theorem dX5_ranked_4 : decode cX5_ranked 4 = .ok (.iload_n 2, 1) := by decide +kernel
theorem dX5_ranked_5 : decode cX5_ranked 5 = .ok (.invokestatic 97, 3) := by decide +kernel
theorem dX5_ranked_8 : decode cX5_ranked 8 = .ok (.istore 4, 2) := by decide +kernel
theorem dX5_ranked_10 : decode cX5_ranked 10 = .ok (.iload_n 3, 1) := by decide +kernel
theorem dX5_ranked_11 : decode cX5_ranked 11 = .ok (.aload_n 0, 1) := by decide +kernel
theorem dX5_ranked_12 : decode cX5_ranked 12 = .ok (.getfield 38, 3) := by decide +kernel
theorem dX5_ranked_15 : decode cX5_ranked 15 = .ok (.invokestatic 97, 3) := by decide +kernel
theorem dX5_ranked_18 : decode cX5_ranked 18 = .ok (.istore 5, 2) := by decide +kernel
theorem dX5_ranked_20 : decode cX5_ranked 20 = .ok (.aload_n 0, 1) := by decide +kernel
theorem dX5_ranked_21 : decode cX5_ranked 21 = .ok (.getfield 11, 3) := by decide +kernel
theorem dX5_ranked_24 : decode cX5_ranked 24 = .ok (.ifCond .ne 16, 3) := by decide +kernel
theorem dX5_ranked_27 : decode cX5_ranked 27 = .ok (.iload 4, 2) := by decide +kernel
theorem dX5_ranked_29 : decode cX5_ranked 29 = .ok (.ifCond .eq 8, 3) := by decide +kernel
theorem dX5_ranked_32 : decode cX5_ranked 32 = .ok (.iload 4, 2) := by decide +kernel
theorem dX5_ranked_34 : decode cX5_ranked 34 = .ok (.goto 5, 3) := by decide +kernel
theorem dX5_ranked_37 : decode cX5_ranked 37 = .ok (.iload 5, 2) := by decide +kernel
theorem dX5_ranked_39 : decode cX5_ranked 39 = .ok (.ireturn, 1) := by decide +kernel
theorem dX5_ranked_40 : decode cX5_ranked 40 = .ok (.aload_n 0, 1) := by decide +kernel
theorem dX5_ranked_41 : decode cX5_ranked 41 = .ok (.getfield 11, 3) := by decide +kernel
theorem dX5_ranked_44 : decode cX5_ranked 44 = .ok (.iconst 2, 1) := by decide +kernel
theorem dX5_ranked_45 : decode cX5_ranked 45 = .ok (.if_icmp .ne 16, 3) := by decide +kernel
theorem dX5_ranked_48 : decode cX5_ranked 48 = .ok (.iload 5, 2) := by decide +kernel
theorem dX5_ranked_50 : decode cX5_ranked 50 = .ok (.ifCond .eq 8, 3) := by decide +kernel
theorem dX5_ranked_53 : decode cX5_ranked 53 = .ok (.iload 5, 2) := by decide +kernel
theorem dX5_ranked_55 : decode cX5_ranked 55 = .ok (.goto 5, 3) := by decide +kernel
theorem dX5_ranked_58 : decode cX5_ranked 58 = .ok (.iload 4, 2) := by decide +kernel
theorem dX5_ranked_60 : decode cX5_ranked 60 = .ok (.ireturn, 1) := by decide +kernel
theorem dX5_ranked_61 : decode cX5_ranked 61 = .ok (.iload_n 1, 1) := by decide +kernel
theorem dX5_ranked_62 : decode cX5_ranked 62 = .ok (.invokestatic 101, 3) := by decide +kernel
theorem dX5_ranked_65 : decode cX5_ranked 65 = .ok (.aload_n 0, 1) := by decide +kernel
theorem dX5_ranked_66 : decode cX5_ranked 66 = .ok (.getfield 32, 3) := by decide +kernel
theorem dX5_ranked_69 : decode cX5_ranked 69 = .ok (.invokestatic 101, 3) := by decide +kernel
theorem dX5_ranked_72 : decode cX5_ranked 72 = .ok (.invokestatic 97, 3) := by decide +kernel
theorem dX5_ranked_75 : decode cX5_ranked 75 = .ok (.istore 6, 2) := by decide +kernel
theorem dX5_ranked_77 : decode cX5_ranked 77 = .ok (.iload 6, 2) := by decide +kernel
theorem dX5_ranked_79 : decode cX5_ranked 79 = .ok (.ifCond .eq 8, 3) := by decide +kernel
theorem dX5_ranked_82 : decode cX5_ranked 82 = .ok (.iload 6, 2) := by decide +kernel
theorem dX5_ranked_84 : decode cX5_ranked 84 = .ok (.goto 5, 3) := by decide +kernel
theorem dX5_ranked_87 : decode cX5_ranked 87 = .ok (.iload 5, 2) := by decide +kernel
theorem dX5_ranked_89 : decode cX5_ranked 89 = .ok (.ireturn, 1) := by decide +kernel
theorem dX6_init_0 : decode cX6_init 0 = .ok (.aload_n 0, 1) := by decide +kernel
theorem dX6_init_1 : decode cX6_init 1 = .ok (.invokespecial 3, 3) := by decide +kernel
theorem dX6_init_4 : decode cX6_init 4 = .ok (.aload_n 0, 1) := by decide +kernel
theorem dX6_init_5 : decode cX6_init 5 = .ok (.iconst 0, 1) := by decide +kernel
theorem dX6_init_6 : decode cX6_init 6 = .ok (.putfield 9, 3) := by decide +kernel
theorem dX6_init_9 : decode cX6_init 9 = .ok (.aload_n 0, 1) := by decide +kernel
theorem dX6_init_10 : decode cX6_init 10 = .ok (.iconst 0, 1) := by decide +kernel
theorem dX6_init_11 : decode cX6_init 11 = .ok (.putfield 15, 3) := by decide +kernel
theorem dX6_init_14 : decode cX6_init 14 = .ok (.aload_n 0, 1) := by decide +kernel
theorem dX6_init_15 : decode cX6_init 15 = .ok (.bipush 100, 2) := by decide +kernel
theorem dX6_init_17 : decode cX6_init 17 = .ok (.putfield 18, 3) := by decide +kernel
theorem dX6_init_20 : decode cX6_init 20 = .ok (.aload_n 0, 1) := by decide +kernel
theorem dX6_init_21 : decode cX6_init 21 = .ok (.iconst 0, 1) := by decide +kernel
theorem dX6_init_22 : decode cX6_init 22 = .ok (.putfield 21, 3) := by decide +kernel
theorem dX6_init_25 : decode cX6_init 25 = .ok (.aload_n 0, 1) := by decide +kernel
theorem dX6_init_26 : decode cX6_init 26 = .ok (.lconst 0, 1) := by decide +kernel
theorem dX6_init_27 : decode cX6_init 27 = .ok (.putfield 24, 3) := by decide +kernel
theorem dX6_init_30 : decode cX6_init 30 = .ok (.aload_n 0, 1) := by decide +kernel
theorem dX6_init_31 : decode cX6_init 31 = .ok (.bipush 16, 2) := by decide +kernel
theorem dX6_init_33 : decode cX6_init 33 = .ok (.newarray .int, 2) := by decide +kernel
theorem dX6_init_35 : decode cX6_init 35 = .ok (.putfield 28, 3) := by decide +kernel
theorem dX6_init_38 : decode cX6_init 38 = .ok (.aload_n 0, 1) := by decide +kernel
theorem dX6_init_39 : decode cX6_init 39 = .ok (.bipush 16, 2) := by decide +kernel
theorem dX6_init_41 : decode cX6_init 41 = .ok (.newarray .int, 2) := by decide +kernel
theorem dX6_init_43 : decode cX6_init 43 = .ok (.putfield 32, 3) := by decide +kernel
theorem dX6_init_46 : decode cX6_init 46 = .ok (.aload_n 0, 1) := by decide +kernel
theorem dX6_init_47 : decode cX6_init 47 = .ok (.bipush 16, 2) := by decide +kernel
theorem dX6_init_49 : decode cX6_init 49 = .ok (.newarray .int, 2) := by decide +kernel
theorem dX6_init_51 : decode cX6_init 51 = .ok (.putfield 35, 3) := by decide +kernel
theorem dX6_init_54 : decode cX6_init 54 = .ok (.aload_n 0, 1) := by decide +kernel
theorem dX6_init_55 : decode cX6_init 55 = .ok (.bipush 16, 2) := by decide +kernel
theorem dX6_init_57 : decode cX6_init 57 = .ok (.newarray .int, 2) := by decide +kernel
theorem dX6_init_59 : decode cX6_init 59 = .ok (.putfield 38, 3) := by decide +kernel
theorem dX6_init_62 : decode cX6_init 62 = .ok (.aload_n 0, 1) := by decide +kernel
theorem dX6_init_63 : decode cX6_init 63 = .ok (.bipush 16, 2) := by decide +kernel
theorem dX6_init_65 : decode cX6_init 65 = .ok (.newarray .long, 2) := by decide +kernel
theorem dX6_init_67 : decode cX6_init 67 = .ok (.putfield 41, 3) := by decide +kernel
theorem dX6_init_70 : decode cX6_init 70 = .ok (.aload_n 0, 1) := by decide +kernel
theorem dX6_init_71 : decode cX6_init 71 = .ok (.bipush 48, 2) := by decide +kernel
theorem dX6_init_73 : decode cX6_init 73 = .ok (.newarray .long, 2) := by decide +kernel
theorem dX6_init_75 : decode cX6_init 75 = .ok (.putfield 45, 3) := by decide +kernel
theorem dX6_init_78 : decode cX6_init 78 = .ok (.aload_n 0, 1) := by decide +kernel
theorem dX6_init_79 : decode cX6_init 79 = .ok (.bipush 48, 2) := by decide +kernel
theorem dX6_init_81 : decode cX6_init 81 = .ok (.newarray .int, 2) := by decide +kernel
theorem dX6_init_83 : decode cX6_init 83 = .ok (.putfield 48, 3) := by decide +kernel
theorem dX6_init_86 : decode cX6_init 86 = .ok (.return_, 1) := by decide +kernel
theorem dX6_copyFrom_0 : decode cX6_copyFrom 0 = .ok (.aload_n 0, 1) := by decide +kernel
theorem dX6_copyFrom_1 : decode cX6_copyFrom 1 = .ok (.aload_n 1, 1) := by decide +kernel
theorem dX6_copyFrom_2 : decode cX6_copyFrom 2 = .ok (.getfield 9, 3) := by decide +kernel
theorem dX6_copyFrom_5 : decode cX6_copyFrom 5 = .ok (.putfield 9, 3) := by decide +kernel
theorem dX6_copyFrom_8 : decode cX6_copyFrom 8 = .ok (.aload_n 0, 1) := by decide +kernel
theorem dX6_copyFrom_9 : decode cX6_copyFrom 9 = .ok (.aload_n 1, 1) := by decide +kernel
theorem dX6_copyFrom_10 : decode cX6_copyFrom 10 = .ok (.getfield 15, 3) := by decide +kernel
theorem dX6_copyFrom_13 : decode cX6_copyFrom 13 = .ok (.putfield 15, 3) := by decide +kernel
theorem dX6_copyFrom_16 : decode cX6_copyFrom 16 = .ok (.aload_n 0, 1) := by decide +kernel
theorem dX6_copyFrom_17 : decode cX6_copyFrom 17 = .ok (.aload_n 1, 1) := by decide +kernel
theorem dX6_copyFrom_18 : decode cX6_copyFrom 18 = .ok (.getfield 18, 3) := by decide +kernel
theorem dX6_copyFrom_21 : decode cX6_copyFrom 21 = .ok (.putfield 18, 3) := by decide +kernel
theorem dX6_copyFrom_24 : decode cX6_copyFrom 24 = .ok (.aload_n 0, 1) := by decide +kernel
theorem dX6_copyFrom_25 : decode cX6_copyFrom 25 = .ok (.aload_n 1, 1) := by decide +kernel
theorem dX6_copyFrom_26 : decode cX6_copyFrom 26 = .ok (.getfield 21, 3) := by decide +kernel
theorem dX6_copyFrom_29 : decode cX6_copyFrom 29 = .ok (.putfield 21, 3) := by decide +kernel
theorem dX6_copyFrom_32 : decode cX6_copyFrom 32 = .ok (.aload_n 0, 1) := by decide +kernel
theorem dX6_copyFrom_33 : decode cX6_copyFrom 33 = .ok (.aload_n 1, 1) := by decide +kernel
theorem dX6_copyFrom_34 : decode cX6_copyFrom 34 = .ok (.getfield 24, 3) := by decide +kernel
theorem dX6_copyFrom_37 : decode cX6_copyFrom 37 = .ok (.putfield 24, 3) := by decide +kernel
theorem dX6_copyFrom_40 : decode cX6_copyFrom 40 = .ok (.aload_n 1, 1) := by decide +kernel
theorem dX6_copyFrom_41 : decode cX6_copyFrom 41 = .ok (.getfield 28, 3) := by decide +kernel
theorem dX6_copyFrom_44 : decode cX6_copyFrom 44 = .ok (.iconst 0, 1) := by decide +kernel
theorem dX6_copyFrom_45 : decode cX6_copyFrom 45 = .ok (.aload_n 0, 1) := by decide +kernel
theorem dX6_copyFrom_46 : decode cX6_copyFrom 46 = .ok (.getfield 28, 3) := by decide +kernel
theorem dX6_copyFrom_49 : decode cX6_copyFrom 49 = .ok (.iconst 0, 1) := by decide +kernel
theorem dX6_copyFrom_50 : decode cX6_copyFrom 50 = .ok (.bipush 16, 2) := by decide +kernel
theorem dX6_copyFrom_52 : decode cX6_copyFrom 52 = .ok (.invokestatic 51, 3) := by decide +kernel
theorem dX6_copyFrom_55 : decode cX6_copyFrom 55 = .ok (.aload_n 1, 1) := by decide +kernel
theorem dX6_copyFrom_56 : decode cX6_copyFrom 56 = .ok (.getfield 32, 3) := by decide +kernel
theorem dX6_copyFrom_59 : decode cX6_copyFrom 59 = .ok (.iconst 0, 1) := by decide +kernel
theorem dX6_copyFrom_60 : decode cX6_copyFrom 60 = .ok (.aload_n 0, 1) := by decide +kernel
theorem dX6_copyFrom_61 : decode cX6_copyFrom 61 = .ok (.getfield 32, 3) := by decide +kernel
theorem dX6_copyFrom_64 : decode cX6_copyFrom 64 = .ok (.iconst 0, 1) := by decide +kernel
theorem dX6_copyFrom_65 : decode cX6_copyFrom 65 = .ok (.bipush 16, 2) := by decide +kernel
theorem dX6_copyFrom_67 : decode cX6_copyFrom 67 = .ok (.invokestatic 51, 3) := by decide +kernel
theorem dX6_copyFrom_70 : decode cX6_copyFrom 70 = .ok (.aload_n 1, 1) := by decide +kernel
theorem dX6_copyFrom_71 : decode cX6_copyFrom 71 = .ok (.getfield 35, 3) := by decide +kernel
theorem dX6_copyFrom_74 : decode cX6_copyFrom 74 = .ok (.iconst 0, 1) := by decide +kernel
theorem dX6_copyFrom_75 : decode cX6_copyFrom 75 = .ok (.aload_n 0, 1) := by decide +kernel
theorem dX6_copyFrom_76 : decode cX6_copyFrom 76 = .ok (.getfield 35, 3) := by decide +kernel
theorem dX6_copyFrom_79 : decode cX6_copyFrom 79 = .ok (.iconst 0, 1) := by decide +kernel
theorem dX6_copyFrom_80 : decode cX6_copyFrom 80 = .ok (.bipush 16, 2) := by decide +kernel
theorem dX6_copyFrom_82 : decode cX6_copyFrom 82 = .ok (.invokestatic 51, 3) := by decide +kernel
theorem dX6_copyFrom_85 : decode cX6_copyFrom 85 = .ok (.aload_n 1, 1) := by decide +kernel
theorem dX6_copyFrom_86 : decode cX6_copyFrom 86 = .ok (.getfield 38, 3) := by decide +kernel
theorem dX6_copyFrom_89 : decode cX6_copyFrom 89 = .ok (.iconst 0, 1) := by decide +kernel
theorem dX6_copyFrom_90 : decode cX6_copyFrom 90 = .ok (.aload_n 0, 1) := by decide +kernel
theorem dX6_copyFrom_91 : decode cX6_copyFrom 91 = .ok (.getfield 38, 3) := by decide +kernel
theorem dX6_copyFrom_94 : decode cX6_copyFrom 94 = .ok (.iconst 0, 1) := by decide +kernel
theorem dX6_copyFrom_95 : decode cX6_copyFrom 95 = .ok (.bipush 16, 2) := by decide +kernel
theorem dX6_copyFrom_97 : decode cX6_copyFrom 97 = .ok (.invokestatic 51, 3) := by decide +kernel
theorem dX6_copyFrom_100 : decode cX6_copyFrom 100 = .ok (.aload_n 1, 1) := by decide +kernel
theorem dX6_copyFrom_101 : decode cX6_copyFrom 101 = .ok (.getfield 41, 3) := by decide +kernel
theorem dX6_copyFrom_104 : decode cX6_copyFrom 104 = .ok (.iconst 0, 1) := by decide +kernel
theorem dX6_copyFrom_105 : decode cX6_copyFrom 105 = .ok (.aload_n 0, 1) := by decide +kernel
theorem dX6_copyFrom_106 : decode cX6_copyFrom 106 = .ok (.getfield 41, 3) := by decide +kernel
theorem dX6_copyFrom_109 : decode cX6_copyFrom 109 = .ok (.iconst 0, 1) := by decide +kernel
theorem dX6_copyFrom_110 : decode cX6_copyFrom 110 = .ok (.bipush 16, 2) := by decide +kernel
theorem dX6_copyFrom_112 : decode cX6_copyFrom 112 = .ok (.invokestatic 51, 3) := by decide +kernel
theorem dX6_copyFrom_115 : decode cX6_copyFrom 115 = .ok (.aload_n 1, 1) := by decide +kernel
theorem dX6_copyFrom_116 : decode cX6_copyFrom 116 = .ok (.getfield 45, 3) := by decide +kernel
theorem dX6_copyFrom_119 : decode cX6_copyFrom 119 = .ok (.iconst 0, 1) := by decide +kernel
theorem dX6_copyFrom_120 : decode cX6_copyFrom 120 = .ok (.aload_n 0, 1) := by decide +kernel
theorem dX6_copyFrom_121 : decode cX6_copyFrom 121 = .ok (.getfield 45, 3) := by decide +kernel
theorem dX6_copyFrom_124 : decode cX6_copyFrom 124 = .ok (.iconst 0, 1) := by decide +kernel
theorem dX6_copyFrom_125 : decode cX6_copyFrom 125 = .ok (.bipush 48, 2) := by decide +kernel
theorem dX6_copyFrom_127 : decode cX6_copyFrom 127 = .ok (.invokestatic 51, 3) := by decide +kernel
theorem dX6_copyFrom_130 : decode cX6_copyFrom 130 = .ok (.aload_n 1, 1) := by decide +kernel
theorem dX6_copyFrom_131 : decode cX6_copyFrom 131 = .ok (.getfield 48, 3) := by decide +kernel
theorem dX6_copyFrom_134 : decode cX6_copyFrom 134 = .ok (.iconst 0, 1) := by decide +kernel
theorem dX6_copyFrom_135 : decode cX6_copyFrom 135 = .ok (.aload_n 0, 1) := by decide +kernel
theorem dX6_copyFrom_136 : decode cX6_copyFrom 136 = .ok (.getfield 48, 3) := by decide +kernel
theorem dX6_copyFrom_139 : decode cX6_copyFrom 139 = .ok (.iconst 0, 1) := by decide +kernel
theorem dX6_copyFrom_140 : decode cX6_copyFrom 140 = .ok (.bipush 48, 2) := by decide +kernel
theorem dX6_copyFrom_142 : decode cX6_copyFrom 142 = .ok (.invokestatic 51, 3) := by decide +kernel
theorem dX6_copyFrom_145 : decode cX6_copyFrom 145 = .ok (.return_, 1) := by decide +kernel
theorem dX6_clear_0 : decode cX6_clear 0 = .ok (.aload_n 0, 1) := by decide +kernel
theorem dX6_clear_1 : decode cX6_clear 1 = .ok (.iconst 0, 1) := by decide +kernel
theorem dX6_clear_2 : decode cX6_clear 2 = .ok (.putfield 9, 3) := by decide +kernel
theorem dX6_clear_5 : decode cX6_clear 5 = .ok (.aload_n 0, 1) := by decide +kernel
theorem dX6_clear_6 : decode cX6_clear 6 = .ok (.iconst 0, 1) := by decide +kernel
theorem dX6_clear_7 : decode cX6_clear 7 = .ok (.putfield 15, 3) := by decide +kernel
theorem dX6_clear_10 : decode cX6_clear 10 = .ok (.aload_n 0, 1) := by decide +kernel
theorem dX6_clear_11 : decode cX6_clear 11 = .ok (.iconst 0, 1) := by decide +kernel
theorem dX6_clear_12 : decode cX6_clear 12 = .ok (.putfield 21, 3) := by decide +kernel
theorem dX6_clear_15 : decode cX6_clear 15 = .ok (.aload_n 0, 1) := by decide +kernel
theorem dX6_clear_16 : decode cX6_clear 16 = .ok (.lconst 0, 1) := by decide +kernel
theorem dX6_clear_17 : decode cX6_clear 17 = .ok (.putfield 24, 3) := by decide +kernel
theorem dX6_clear_20 : decode cX6_clear 20 = .ok (.return_, 1) := by decide +kernel
theorem dX6_spelledWith_0 : decode cX6_spelledWith 0 = .ok (.lload_n 0, 1) := by decide +kernel
theorem dX6_spelledWith_1 : decode cX6_spelledWith 1 = .ok (.iload_n 3, 1) := by decide +kernel
theorem dX6_spelledWith_2 : decode cX6_spelledWith 2 = .ok (.bipush 96, 2) := by decide +kernel
theorem dX6_spelledWith_4 : decode cX6_spelledWith 4 = .ok (.isub, 1) := by decide +kernel
theorem dX6_spelledWith_5 : decode cX6_spelledWith 5 = .ok (.i2l, 1) := by decide +kernel
theorem dX6_spelledWith_6 : decode cX6_spelledWith 6 = .ok (.iconst 5, 1) := by decide +kernel
theorem dX6_spelledWith_7 : decode cX6_spelledWith 7 = .ok (.iload_n 2, 1) := by decide +kernel
theorem dX6_spelledWith_8 : decode cX6_spelledWith 8 = .ok (.imul, 1) := by decide +kernel
theorem dX6_spelledWith_9 : decode cX6_spelledWith 9 = .ok (.lshl, 1) := by decide +kernel
theorem dX6_spelledWith_10 : decode cX6_spelledWith 10 = .ok (.lor, 1) := by decide +kernel
theorem dX6_spelledWith_11 : decode cX6_spelledWith 11 = .ok (.lreturn, 1) := by decide +kernel
theorem dX6_letterAt_0 : decode cX6_letterAt 0 = .ok (.aload_n 0, 1) := by decide +kernel
theorem dX6_letterAt_1 : decode cX6_letterAt 1 = .ok (.iload_n 1, 1) := by decide +kernel
theorem dX6_letterAt_2 : decode cX6_letterAt 2 = .ok (.iload_n 2, 1) := by decide +kernel
theorem dX6_letterAt_3 : decode cX6_letterAt 3 = .ok (.invokevirtual 57, 3) := by decide +kernel
theorem dX6_letterAt_6 : decode cX6_letterAt 6 = .ok (.bipush 96, 2) := by decide +kernel
theorem dX6_letterAt_8 : decode cX6_letterAt 8 = .ok (.iadd, 1) := by decide +kernel
theorem dX6_letterAt_9 : decode cX6_letterAt 9 = .ok (.ireturn, 1) := by decide +kernel
theorem dX6_codeAt_0 : decode cX6_codeAt 0 = .ok (.aload_n 0, 1) := by decide +kernel
theorem dX6_codeAt_1 : decode cX6_codeAt 1 = .ok (.getfield 45, 3) := by decide +kernel
theorem dX6_codeAt_4 : decode cX6_codeAt 4 = .ok (.iload_n 1, 1) := by decide +kernel
theorem dX6_codeAt_5 : decode cX6_codeAt 5 = .ok (.laload, 1) := by decide +kernel
theorem dX6_codeAt_6 : decode cX6_codeAt 6 = .ok (.iconst 5, 1) := by decide +kernel
theorem dX6_codeAt_7 : decode cX6_codeAt 7 = .ok (.iload_n 2, 1) := by decide +kernel
theorem dX6_codeAt_8 : decode cX6_codeAt 8 = .ok (.imul, 1) := by decide +kernel
theorem dX6_codeAt_9 : decode cX6_codeAt 9 = .ok (.lushr, 1) := by decide +kernel
theorem dX6_codeAt_10 : decode cX6_codeAt 10 = .ok (.l2i, 1) := by decide +kernel
theorem dX6_codeAt_11 : decode cX6_codeAt 11 = .ok (.bipush 31, 2) := by decide +kernel
theorem dX6_codeAt_13 : decode cX6_codeAt 13 = .ok (.iand, 1) := by decide +kernel
theorem dX6_codeAt_14 : decode cX6_codeAt 14 = .ok (.ireturn, 1) := by decide +kernel
theorem dX6_lettersOf_0 : decode cX6_lettersOf 0 = .ok (.iconst 0, 1) := by decide +kernel
theorem dX6_lettersOf_1 : decode cX6_lettersOf 1 = .ok (.istore_n 2, 1) := by decide +kernel
theorem dX6_lettersOf_2 : decode cX6_lettersOf 2 = .ok (.iconst 0, 1) := by decide +kernel
theorem dX6_lettersOf_3 : decode cX6_lettersOf 3 = .ok (.istore_n 3, 1) := by decide +kernel
theorem dX6_lettersOf_4 : decode cX6_lettersOf 4 = .ok (.iload_n 3, 1) := by decide +kernel
theorem dX6_lettersOf_5 : decode cX6_lettersOf 5 = .ok (.bipush 10, 2) := by decide +kernel
theorem dX6_lettersOf_7 : decode cX6_lettersOf 7 = .ok (.if_icmp .ge 21, 3) := by decide +kernel
theorem dX6_lettersOf_10 : decode cX6_lettersOf 10 = .ok (.aload_n 0, 1) := by decide +kernel
theorem dX6_lettersOf_11 : decode cX6_lettersOf 11 = .ok (.iload_n 1, 1) := by decide +kernel
theorem dX6_lettersOf_12 : decode cX6_lettersOf 12 = .ok (.iload_n 3, 1) := by decide +kernel
theorem dX6_lettersOf_13 : decode cX6_lettersOf 13 = .ok (.invokevirtual 57, 3) := by decide +kernel
theorem dX6_lettersOf_16 : decode cX6_lettersOf 16 = .ok (.ifCond .eq 6, 3) := by decide +kernel
theorem dX6_lettersOf_19 : decode cX6_lettersOf 19 = .ok (.iinc 2 1, 3) := by decide +kernel
theorem dX6_lettersOf_22 : decode cX6_lettersOf 22 = .ok (.iinc 3 1, 3) := by decide +kernel
theorem dX6_lettersOf_25 : decode cX6_lettersOf 25 = .ok (.goto (-21), 3) := by decide +kernel
theorem dX6_lettersOf_28 : decode cX6_lettersOf 28 = .ok (.iload_n 2, 1) := by decide +kernel
theorem dX6_lettersOf_29 : decode cX6_lettersOf 29 = .ok (.ireturn, 1) := by decide +kernel
theorem dX6_wordSpelled_0 : decode cX6_wordSpelled 0 = .ok (.iconst 0, 1) := by decide +kernel
theorem dX6_wordSpelled_1 : decode cX6_wordSpelled 1 = .ok (.istore_n 3, 1) := by decide +kernel
theorem dX6_wordSpelled_2 : decode cX6_wordSpelled 2 = .ok (.iload_n 3, 1) := by decide +kernel
theorem dX6_wordSpelled_3 : decode cX6_wordSpelled 3 = .ok (.aload_n 0, 1) := by decide +kernel
theorem dX6_wordSpelled_4 : decode cX6_wordSpelled 4 = .ok (.getfield 15, 3) := by decide +kernel
theorem dX6_wordSpelled_7 : decode cX6_wordSpelled 7 = .ok (.if_icmp .ge 22, 3) := by decide +kernel
theorem dX6_wordSpelled_10 : decode cX6_wordSpelled 10 = .ok (.aload_n 0, 1) := by decide +kernel
theorem dX6_wordSpelled_11 : decode cX6_wordSpelled 11 = .ok (.getfield 45, 3) := by decide +kernel
theorem dX6_wordSpelled_14 : decode cX6_wordSpelled 14 = .ok (.iload_n 3, 1) := by decide +kernel
theorem dX6_wordSpelled_15 : decode cX6_wordSpelled 15 = .ok (.laload, 1) := by decide +kernel
theorem dX6_wordSpelled_16 : decode cX6_wordSpelled 16 = .ok (.lload_n 1, 1) := by decide +kernel
theorem dX6_wordSpelled_17 : decode cX6_wordSpelled 17 = .ok (.lcmp, 1) := by decide +kernel
theorem dX6_wordSpelled_18 : decode cX6_wordSpelled 18 = .ok (.ifCond .ne 5, 3) := by decide +kernel
theorem dX6_wordSpelled_21 : decode cX6_wordSpelled 21 = .ok (.iload_n 3, 1) := by decide +kernel
theorem dX6_wordSpelled_22 : decode cX6_wordSpelled 22 = .ok (.ireturn, 1) := by decide +kernel
theorem dX6_wordSpelled_23 : decode cX6_wordSpelled 23 = .ok (.iinc 3 1, 3) := by decide +kernel
theorem dX6_wordSpelled_26 : decode cX6_wordSpelled 26 = .ok (.goto (-24), 3) := by decide +kernel
theorem dX6_wordSpelled_29 : decode cX6_wordSpelled 29 = .ok (.iconst (-1), 1) := by decide +kernel
theorem dX6_wordSpelled_30 : decode cX6_wordSpelled 30 = .ok (.ireturn, 1) := by decide +kernel
theorem dX6_leans_0 : decode cX6_leans 0 = .ok (.aload_n 0, 1) := by decide +kernel
theorem dX6_leans_1 : decode cX6_leans 1 = .ok (.getfield 24, 3) := by decide +kernel
theorem dX6_leans_4 : decode cX6_leans 4 = .ok (.iload_n 1, 1) := by decide +kernel
theorem dX6_leans_5 : decode cX6_leans 5 = .ok (.lushr, 1) := by decide +kernel
theorem dX6_leans_6 : decode cX6_leans 6 = .ok (.lconst 1, 1) := by decide +kernel
theorem dX6_leans_7 : decode cX6_leans 7 = .ok (.land, 1) := by decide +kernel
theorem dX6_leans_8 : decode cX6_leans 8 = .ok (.lconst 0, 1) := by decide +kernel
theorem dX6_leans_9 : decode cX6_leans 9 = .ok (.lcmp, 1) := by decide +kernel
theorem dX6_leans_10 : decode cX6_leans 10 = .ok (.ifCond .eq 7, 3) := by decide +kernel
theorem dX6_leans_13 : decode cX6_leans 13 = .ok (.iconst 1, 1) := by decide +kernel
theorem dX6_leans_14 : decode cX6_leans 14 = .ok (.goto 4, 3) := by decide +kernel
theorem dX6_leans_17 : decode cX6_leans 17 = .ok (.iconst 0, 1) := by decide +kernel
theorem dX6_leans_18 : decode cX6_leans 18 = .ok (.ireturn, 1) := by decide +kernel
theorem dX6_sentencesWith_0 : decode cX6_sentencesWith 0 = .ok (.iconst 0, 1) := by decide +kernel
theorem dX6_sentencesWith_1 : decode cX6_sentencesWith 1 = .ok (.istore_n 2, 1) := by decide +kernel
theorem dX6_sentencesWith_2 : decode cX6_sentencesWith 2 = .ok (.iconst 0, 1) := by decide +kernel
theorem dX6_sentencesWith_3 : decode cX6_sentencesWith 3 = .ok (.istore_n 3, 1) := by decide +kernel
theorem dX6_sentencesWith_4 : decode cX6_sentencesWith 4 = .ok (.iload_n 3, 1) := by decide +kernel
theorem dX6_sentencesWith_5 : decode cX6_sentencesWith 5 = .ok (.aload_n 0, 1) := by decide +kernel
theorem dX6_sentencesWith_6 : decode cX6_sentencesWith 6 = .ok (.getfield 9, 3) := by decide +kernel
theorem dX6_sentencesWith_9 : decode cX6_sentencesWith 9 = .ok (.if_icmp .ge 23, 3) := by decide +kernel
theorem dX6_sentencesWith_12 : decode cX6_sentencesWith 12 = .ok (.iload_n 2, 1) := by decide +kernel
theorem dX6_sentencesWith_13 : decode cX6_sentencesWith 13 = .ok (.aload_n 0, 1) := by decide +kernel
theorem dX6_sentencesWith_14 : decode cX6_sentencesWith 14 = .ok (.getfield 41, 3) := by decide +kernel
theorem dX6_sentencesWith_17 : decode cX6_sentencesWith 17 = .ok (.iload_n 3, 1) := by decide +kernel
theorem dX6_sentencesWith_18 : decode cX6_sentencesWith 18 = .ok (.laload, 1) := by decide +kernel
theorem dX6_sentencesWith_19 : decode cX6_sentencesWith 19 = .ok (.iload_n 1, 1) := by decide +kernel
theorem dX6_sentencesWith_20 : decode cX6_sentencesWith 20 = .ok (.lushr, 1) := by decide +kernel
theorem dX6_sentencesWith_21 : decode cX6_sentencesWith 21 = .ok (.l2i, 1) := by decide +kernel
theorem dX6_sentencesWith_22 : decode cX6_sentencesWith 22 = .ok (.iconst 1, 1) := by decide +kernel
theorem dX6_sentencesWith_23 : decode cX6_sentencesWith 23 = .ok (.iand, 1) := by decide +kernel
theorem dX6_sentencesWith_24 : decode cX6_sentencesWith 24 = .ok (.iadd, 1) := by decide +kernel
theorem dX6_sentencesWith_25 : decode cX6_sentencesWith 25 = .ok (.istore_n 2, 1) := by decide +kernel
theorem dX6_sentencesWith_26 : decode cX6_sentencesWith 26 = .ok (.iinc 3 1, 3) := by decide +kernel
theorem dX6_sentencesWith_29 : decode cX6_sentencesWith 29 = .ok (.goto (-25), 3) := by decide +kernel
theorem dX6_sentencesWith_32 : decode cX6_sentencesWith 32 = .ok (.iload_n 2, 1) := by decide +kernel
theorem dX6_sentencesWith_33 : decode cX6_sentencesWith 33 = .ok (.ireturn, 1) := by decide +kernel
theorem dX6_everySentence_0 : decode cX6_everySentence 0 = .ok (.iconst 1, 1) := by decide +kernel
theorem dX6_everySentence_1 : decode cX6_everySentence 1 = .ok (.aload_n 0, 1) := by decide +kernel
theorem dX6_everySentence_2 : decode cX6_everySentence 2 = .ok (.getfield 9, 3) := by decide +kernel
theorem dX6_everySentence_5 : decode cX6_everySentence 5 = .ok (.ishl, 1) := by decide +kernel
theorem dX6_everySentence_6 : decode cX6_everySentence 6 = .ok (.iconst 1, 1) := by decide +kernel
theorem dX6_everySentence_7 : decode cX6_everySentence 7 = .ok (.isub, 1) := by decide +kernel
theorem dX6_everySentence_8 : decode cX6_everySentence 8 = .ok (.ireturn, 1) := by decide +kernel
theorem dX6_linkChains_0 : decode cX6_linkChains 0 = .ok (.iconst 0, 1) := by decide +kernel
theorem dX6_linkChains_1 : decode cX6_linkChains 1 = .ok (.istore_n 1, 1) := by decide +kernel
theorem dX6_linkChains_2 : decode cX6_linkChains 2 = .ok (.iconst 0, 1) := by decide +kernel
theorem dX6_linkChains_3 : decode cX6_linkChains 3 = .ok (.istore_n 2, 1) := by decide +kernel
theorem dX6_linkChains_4 : decode cX6_linkChains 4 = .ok (.iload_n 2, 1) := by decide +kernel
theorem dX6_linkChains_5 : decode cX6_linkChains 5 = .ok (.aload_n 0, 1) := by decide +kernel
theorem dX6_linkChains_6 : decode cX6_linkChains 6 = .ok (.getfield 9, 3) := by decide +kernel
theorem dX6_linkChains_9 : decode cX6_linkChains 9 = .ok (.if_icmp .ge 46, 3) := by decide +kernel
theorem dX6_linkChains_12 : decode cX6_linkChains 12 = .ok (.aload_n 0, 1) := by decide +kernel
theorem dX6_linkChains_13 : decode cX6_linkChains 13 = .ok (.getfield 38, 3) := by decide +kernel
theorem dX6_linkChains_16 : decode cX6_linkChains 16 = .ok (.iload_n 2, 1) := by decide +kernel
theorem dX6_linkChains_17 : decode cX6_linkChains 17 = .ok (.aload_n 0, 1) := by decide +kernel
theorem dX6_linkChains_18 : decode cX6_linkChains 18 = .ok (.aload_n 0, 1) := by decide +kernel
theorem dX6_linkChains_19 : decode cX6_linkChains 19 = .ok (.getfield 35, 3) := by decide +kernel
theorem dX6_linkChains_22 : decode cX6_linkChains 22 = .ok (.iload_n 2, 1) := by decide +kernel
theorem dX6_linkChains_23 : decode cX6_linkChains 23 = .ok (.iaload, 1) := by decide +kernel
theorem dX6_linkChains_24 : decode cX6_linkChains 24 = .ok (.invokevirtual 61, 3) := by decide +kernel
theorem dX6_linkChains_27 : decode cX6_linkChains 27 = .ok (.ifCond .eq 11, 3) := by decide +kernel
theorem dX6_linkChains_30 : decode cX6_linkChains 30 = .ok (.iload_n 1, 1) := by decide +kernel
theorem dX6_linkChains_31 : decode cX6_linkChains 31 = .ok (.iconst 1, 1) := by decide +kernel
theorem dX6_linkChains_32 : decode cX6_linkChains 32 = .ok (.iload_n 2, 1) := by decide +kernel
theorem dX6_linkChains_33 : decode cX6_linkChains 33 = .ok (.ishl, 1) := by decide +kernel
theorem dX6_linkChains_34 : decode cX6_linkChains 34 = .ok (.ior, 1) := by decide +kernel
theorem dX6_linkChains_35 : decode cX6_linkChains 35 = .ok (.goto 6, 3) := by decide +kernel
theorem dX6_linkChains_38 : decode cX6_linkChains 38 = .ok (.iconst 1, 1) := by decide +kernel
theorem dX6_linkChains_39 : decode cX6_linkChains 39 = .ok (.iload_n 2, 1) := by decide +kernel
theorem dX6_linkChains_40 : decode cX6_linkChains 40 = .ok (.ishl, 1) := by decide +kernel
theorem dX6_linkChains_41 : decode cX6_linkChains 41 = .ok (.iastore, 1) := by decide +kernel
theorem dX6_linkChains_42 : decode cX6_linkChains 42 = .ok (.aload_n 0, 1) := by decide +kernel
theorem dX6_linkChains_43 : decode cX6_linkChains 43 = .ok (.getfield 38, 3) := by decide +kernel
theorem dX6_linkChains_46 : decode cX6_linkChains 46 = .ok (.iload_n 2, 1) := by decide +kernel
theorem dX6_linkChains_47 : decode cX6_linkChains 47 = .ok (.iaload, 1) := by decide +kernel
theorem dX6_linkChains_48 : decode cX6_linkChains 48 = .ok (.istore_n 1, 1) := by decide +kernel
theorem dX6_linkChains_49 : decode cX6_linkChains 49 = .ok (.iinc 2 1, 3) := by decide +kernel
theorem dX6_linkChains_52 : decode cX6_linkChains 52 = .ok (.goto (-48), 3) := by decide +kernel
theorem dX6_linkChains_55 : decode cX6_linkChains 55 = .ok (.return_, 1) := by decide +kernel
theorem dX6_allThatNeed_0 : decode cX6_allThatNeed 0 = .ok (.iconst 0, 1) := by decide +kernel
theorem dX6_allThatNeed_1 : decode cX6_allThatNeed 1 = .ok (.istore_n 2, 1) := by decide +kernel
theorem dX6_allThatNeed_2 : decode cX6_allThatNeed 2 = .ok (.iconst 0, 1) := by decide +kernel
theorem dX6_allThatNeed_3 : decode cX6_allThatNeed 3 = .ok (.istore_n 3, 1) := by decide +kernel
theorem dX6_allThatNeed_4 : decode cX6_allThatNeed 4 = .ok (.iload_n 3, 1) := by decide +kernel
theorem dX6_allThatNeed_5 : decode cX6_allThatNeed 5 = .ok (.aload_n 0, 1) := by decide +kernel
theorem dX6_allThatNeed_6 : decode cX6_allThatNeed 6 = .ok (.getfield 9, 3) := by decide +kernel
theorem dX6_allThatNeed_9 : decode cX6_allThatNeed 9 = .ok (.if_icmp .ge 28, 3) := by decide +kernel
theorem dX6_allThatNeed_12 : decode cX6_allThatNeed 12 = .ok (.iload_n 1, 1) := by decide +kernel
theorem dX6_allThatNeed_13 : decode cX6_allThatNeed 13 = .ok (.aload_n 0, 1) := by decide +kernel
theorem dX6_allThatNeed_14 : decode cX6_allThatNeed 14 = .ok (.getfield 38, 3) := by decide +kernel
theorem dX6_allThatNeed_17 : decode cX6_allThatNeed 17 = .ok (.iload_n 3, 1) := by decide +kernel
theorem dX6_allThatNeed_18 : decode cX6_allThatNeed 18 = .ok (.iaload, 1) := by decide +kernel
theorem dX6_allThatNeed_19 : decode cX6_allThatNeed 19 = .ok (.invokestatic 65, 3) := by decide +kernel
theorem dX6_allThatNeed_22 : decode cX6_allThatNeed 22 = .ok (.ifCond .eq 9, 3) := by decide +kernel
theorem dX6_allThatNeed_25 : decode cX6_allThatNeed 25 = .ok (.iload_n 2, 1) := by decide +kernel
theorem dX6_allThatNeed_26 : decode cX6_allThatNeed 26 = .ok (.iconst 1, 1) := by decide +kernel
theorem dX6_allThatNeed_27 : decode cX6_allThatNeed 27 = .ok (.iload_n 3, 1) := by decide +kernel
theorem dX6_allThatNeed_28 : decode cX6_allThatNeed 28 = .ok (.ishl, 1) := by decide +kernel
theorem dX6_allThatNeed_29 : decode cX6_allThatNeed 29 = .ok (.ior, 1) := by decide +kernel
theorem dX6_allThatNeed_30 : decode cX6_allThatNeed 30 = .ok (.istore_n 2, 1) := by decide +kernel
theorem dX6_allThatNeed_31 : decode cX6_allThatNeed 31 = .ok (.iinc 3 1, 3) := by decide +kernel
theorem dX6_allThatNeed_34 : decode cX6_allThatNeed 34 = .ok (.goto (-30), 3) := by decide +kernel
theorem dX6_allThatNeed_37 : decode cX6_allThatNeed 37 = .ok (.iload_n 2, 1) := by decide +kernel
theorem dX6_allThatNeed_38 : decode cX6_allThatNeed 38 = .ok (.ireturn, 1) := by decide +kernel
theorem dX6_isWhole_0 : decode cX6_isWhole 0 = .ok (.iconst 0, 1) := by decide +kernel
theorem dX6_isWhole_1 : decode cX6_isWhole 1 = .ok (.istore_n 2, 1) := by decide +kernel
theorem dX6_isWhole_2 : decode cX6_isWhole 2 = .ok (.iload_n 2, 1) := by decide +kernel
theorem dX6_isWhole_3 : decode cX6_isWhole 3 = .ok (.aload_n 0, 1) := by decide +kernel
theorem dX6_isWhole_4 : decode cX6_isWhole 4 = .ok (.getfield 9, 3) := by decide +kernel
theorem dX6_isWhole_7 : decode cX6_isWhole 7 = .ok (.if_icmp .ge 32, 3) := by decide +kernel
theorem dX6_isWhole_10 : decode cX6_isWhole 10 = .ok (.iload_n 2, 1) := by decide +kernel
theorem dX6_isWhole_11 : decode cX6_isWhole 11 = .ok (.iload_n 1, 1) := by decide +kernel
theorem dX6_isWhole_12 : decode cX6_isWhole 12 = .ok (.invokestatic 65, 3) := by decide +kernel
theorem dX6_isWhole_15 : decode cX6_isWhole 15 = .ok (.ifCond .eq 18, 3) := by decide +kernel
theorem dX6_isWhole_18 : decode cX6_isWhole 18 = .ok (.aload_n 0, 1) := by decide +kernel
theorem dX6_isWhole_19 : decode cX6_isWhole 19 = .ok (.getfield 38, 3) := by decide +kernel
theorem dX6_isWhole_22 : decode cX6_isWhole 22 = .ok (.iload_n 2, 1) := by decide +kernel
theorem dX6_isWhole_23 : decode cX6_isWhole 23 = .ok (.iaload, 1) := by decide +kernel
theorem dX6_isWhole_24 : decode cX6_isWhole 24 = .ok (.iload_n 1, 1) := by decide +kernel
theorem dX6_isWhole_25 : decode cX6_isWhole 25 = .ok (.iconst (-1), 1) := by decide +kernel
theorem dX6_isWhole_26 : decode cX6_isWhole 26 = .ok (.ixor, 1) := by decide +kernel
theorem dX6_isWhole_27 : decode cX6_isWhole 27 = .ok (.iand, 1) := by decide +kernel
theorem dX6_isWhole_28 : decode cX6_isWhole 28 = .ok (.ifCond .eq 5, 3) := by decide +kernel
theorem dX6_isWhole_31 : decode cX6_isWhole 31 = .ok (.iconst 0, 1) := by decide +kernel
theorem dX6_isWhole_32 : decode cX6_isWhole 32 = .ok (.ireturn, 1) := by decide +kernel
theorem dX6_isWhole_33 : decode cX6_isWhole 33 = .ok (.iinc 2 1, 3) := by decide +kernel
theorem dX6_isWhole_36 : decode cX6_isWhole 36 = .ok (.goto (-34), 3) := by decide +kernel
theorem dX6_isWhole_39 : decode cX6_isWhole 39 = .ok (.iconst 1, 1) := by decide +kernel
theorem dX6_isWhole_40 : decode cX6_isWhole 40 = .ok (.ireturn, 1) := by decide +kernel
theorem dX6_bagOf_0 : decode cX6_bagOf 0 = .ok (.lconst 0, 1) := by decide +kernel
theorem dX6_bagOf_1 : decode cX6_bagOf 1 = .ok (.lstore_n 2, 1) := by decide +kernel
theorem dX6_bagOf_2 : decode cX6_bagOf 2 = .ok (.iconst 0, 1) := by decide +kernel
theorem dX6_bagOf_3 : decode cX6_bagOf 3 = .ok (.istore 4, 2) := by decide +kernel
theorem dX6_bagOf_5 : decode cX6_bagOf 5 = .ok (.iload 4, 2) := by decide +kernel
theorem dX6_bagOf_7 : decode cX6_bagOf 7 = .ok (.aload_n 0, 1) := by decide +kernel
theorem dX6_bagOf_8 : decode cX6_bagOf 8 = .ok (.getfield 9, 3) := by decide +kernel
theorem dX6_bagOf_11 : decode cX6_bagOf 11 = .ok (.if_icmp .ge 28, 3) := by decide +kernel
theorem dX6_bagOf_14 : decode cX6_bagOf 14 = .ok (.iload 4, 2) := by decide +kernel
theorem dX6_bagOf_16 : decode cX6_bagOf 16 = .ok (.iload_n 1, 1) := by decide +kernel
theorem dX6_bagOf_17 : decode cX6_bagOf 17 = .ok (.invokestatic 65, 3) := by decide +kernel
theorem dX6_bagOf_20 : decode cX6_bagOf 20 = .ok (.ifCond .eq 13, 3) := by decide +kernel
theorem dX6_bagOf_23 : decode cX6_bagOf 23 = .ok (.lload_n 2, 1) := by decide +kernel
theorem dX6_bagOf_24 : decode cX6_bagOf 24 = .ok (.aload_n 0, 1) := by decide +kernel
theorem dX6_bagOf_25 : decode cX6_bagOf 25 = .ok (.getfield 41, 3) := by decide +kernel
theorem dX6_bagOf_28 : decode cX6_bagOf 28 = .ok (.iload 4, 2) := by decide +kernel
theorem dX6_bagOf_30 : decode cX6_bagOf 30 = .ok (.laload, 1) := by decide +kernel
theorem dX6_bagOf_31 : decode cX6_bagOf 31 = .ok (.lor, 1) := by decide +kernel
theorem dX6_bagOf_32 : decode cX6_bagOf 32 = .ok (.lstore_n 2, 1) := by decide +kernel
theorem dX6_bagOf_33 : decode cX6_bagOf 33 = .ok (.iinc 4 1, 3) := by decide +kernel
theorem dX6_bagOf_36 : decode cX6_bagOf 36 = .ok (.goto (-31), 3) := by decide +kernel
theorem dX6_bagOf_39 : decode cX6_bagOf 39 = .ok (.lload_n 2, 1) := by decide +kernel
theorem dX6_bagOf_40 : decode cX6_bagOf 40 = .ok (.lreturn, 1) := by decide +kernel
theorem dX6_weightOf_0 : decode cX6_weightOf 0 = .ok (.iconst 0, 1) := by decide +kernel
theorem dX6_weightOf_1 : decode cX6_weightOf 1 = .ok (.istore_n 3, 1) := by decide +kernel
theorem dX6_weightOf_2 : decode cX6_weightOf 2 = .ok (.lload_n 1, 1) := by decide +kernel
theorem dX6_weightOf_3 : decode cX6_weightOf 3 = .ok (.invokestatic 69, 3) := by decide +kernel
theorem dX6_weightOf_6 : decode cX6_weightOf 6 = .ok (.istore 4, 2) := by decide +kernel
theorem dX6_weightOf_8 : decode cX6_weightOf 8 = .ok (.iload 4, 2) := by decide +kernel
theorem dX6_weightOf_10 : decode cX6_weightOf 10 = .ok (.aload_n 0, 1) := by decide +kernel
theorem dX6_weightOf_11 : decode cX6_weightOf 11 = .ok (.getfield 15, 3) := by decide +kernel
theorem dX6_weightOf_14 : decode cX6_weightOf 14 = .ok (.if_icmp .ge 39, 3) := by decide +kernel
theorem dX6_weightOf_17 : decode cX6_weightOf 17 = .ok (.lload_n 1, 1) := by decide +kernel
theorem dX6_weightOf_18 : decode cX6_weightOf 18 = .ok (.iload 4, 2) := by decide +kernel
theorem dX6_weightOf_20 : decode cX6_weightOf 20 = .ok (.lushr, 1) := by decide +kernel
theorem dX6_weightOf_21 : decode cX6_weightOf 21 = .ok (.lconst 0, 1) := by decide +kernel
theorem dX6_weightOf_22 : decode cX6_weightOf 22 = .ok (.lcmp, 1) := by decide +kernel
theorem dX6_weightOf_23 : decode cX6_weightOf 23 = .ok (.ifCond .eq 30, 3) := by decide +kernel
theorem dX6_weightOf_26 : decode cX6_weightOf 26 = .ok (.lload_n 1, 1) := by decide +kernel
theorem dX6_weightOf_27 : decode cX6_weightOf 27 = .ok (.iload 4, 2) := by decide +kernel
theorem dX6_weightOf_29 : decode cX6_weightOf 29 = .ok (.lushr, 1) := by decide +kernel
theorem dX6_weightOf_30 : decode cX6_weightOf 30 = .ok (.lconst 1, 1) := by decide +kernel
theorem dX6_weightOf_31 : decode cX6_weightOf 31 = .ok (.land, 1) := by decide +kernel
theorem dX6_weightOf_32 : decode cX6_weightOf 32 = .ok (.lconst 0, 1) := by decide +kernel
theorem dX6_weightOf_33 : decode cX6_weightOf 33 = .ok (.lcmp, 1) := by decide +kernel
theorem dX6_weightOf_34 : decode cX6_weightOf 34 = .ok (.ifCond .eq 13, 3) := by decide +kernel
theorem dX6_weightOf_37 : decode cX6_weightOf 37 = .ok (.iload_n 3, 1) := by decide +kernel
theorem dX6_weightOf_38 : decode cX6_weightOf 38 = .ok (.aload_n 0, 1) := by decide +kernel
theorem dX6_weightOf_39 : decode cX6_weightOf 39 = .ok (.getfield 48, 3) := by decide +kernel
theorem dX6_weightOf_42 : decode cX6_weightOf 42 = .ok (.iload 4, 2) := by decide +kernel
theorem dX6_weightOf_44 : decode cX6_weightOf 44 = .ok (.iaload, 1) := by decide +kernel
theorem dX6_weightOf_45 : decode cX6_weightOf 45 = .ok (.iadd, 1) := by decide +kernel
theorem dX6_weightOf_46 : decode cX6_weightOf 46 = .ok (.istore_n 3, 1) := by decide +kernel
theorem dX6_weightOf_47 : decode cX6_weightOf 47 = .ok (.iinc 4 1, 3) := by decide +kernel
theorem dX6_weightOf_50 : decode cX6_weightOf 50 = .ok (.goto (-42), 3) := by decide +kernel
theorem dX6_weightOf_53 : decode cX6_weightOf 53 = .ok (.iload_n 3, 1) := by decide +kernel
theorem dX6_weightOf_54 : decode cX6_weightOf 54 = .ok (.ireturn, 1) := by decide +kernel
theorem dX6_coveredBy_0 : decode cX6_coveredBy 0 = .ok (.aload_n 0, 1) := by decide +kernel
theorem dX6_coveredBy_1 : decode cX6_coveredBy 1 = .ok (.aload_n 0, 1) := by decide +kernel
theorem dX6_coveredBy_2 : decode cX6_coveredBy 2 = .ok (.iload_n 1, 1) := by decide +kernel
theorem dX6_coveredBy_3 : decode cX6_coveredBy 3 = .ok (.invokevirtual 75, 3) := by decide +kernel
theorem dX6_coveredBy_6 : decode cX6_coveredBy 6 = .ok (.invokevirtual 79, 3) := by decide +kernel
theorem dX6_coveredBy_9 : decode cX6_coveredBy 9 = .ok (.ireturn, 1) := by decide +kernel
theorem dX6_lengthOf_0 : decode cX6_lengthOf 0 = .ok (.iconst 0, 1) := by decide +kernel
theorem dX6_lengthOf_1 : decode cX6_lengthOf 1 = .ok (.istore_n 2, 1) := by decide +kernel
theorem dX6_lengthOf_2 : decode cX6_lengthOf 2 = .ok (.iconst 0, 1) := by decide +kernel
theorem dX6_lengthOf_3 : decode cX6_lengthOf 3 = .ok (.istore_n 3, 1) := by decide +kernel
theorem dX6_lengthOf_4 : decode cX6_lengthOf 4 = .ok (.iload_n 3, 1) := by decide +kernel
theorem dX6_lengthOf_5 : decode cX6_lengthOf 5 = .ok (.aload_n 0, 1) := by decide +kernel
theorem dX6_lengthOf_6 : decode cX6_lengthOf 6 = .ok (.getfield 9, 3) := by decide +kernel
theorem dX6_lengthOf_9 : decode cX6_lengthOf 9 = .ok (.if_icmp .ge 26, 3) := by decide +kernel
theorem dX6_lengthOf_12 : decode cX6_lengthOf 12 = .ok (.iload_n 3, 1) := by decide +kernel
theorem dX6_lengthOf_13 : decode cX6_lengthOf 13 = .ok (.iload_n 1, 1) := by decide +kernel
theorem dX6_lengthOf_14 : decode cX6_lengthOf 14 = .ok (.invokestatic 65, 3) := by decide +kernel
theorem dX6_lengthOf_17 : decode cX6_lengthOf 17 = .ok (.ifCond .eq 12, 3) := by decide +kernel
theorem dX6_lengthOf_20 : decode cX6_lengthOf 20 = .ok (.iload_n 2, 1) := by decide +kernel
theorem dX6_lengthOf_21 : decode cX6_lengthOf 21 = .ok (.aload_n 0, 1) := by decide +kernel
theorem dX6_lengthOf_22 : decode cX6_lengthOf 22 = .ok (.getfield 28, 3) := by decide +kernel
theorem dX6_lengthOf_25 : decode cX6_lengthOf 25 = .ok (.iload_n 3, 1) := by decide +kernel
theorem dX6_lengthOf_26 : decode cX6_lengthOf 26 = .ok (.iaload, 1) := by decide +kernel
theorem dX6_lengthOf_27 : decode cX6_lengthOf 27 = .ok (.iadd, 1) := by decide +kernel
theorem dX6_lengthOf_28 : decode cX6_lengthOf 28 = .ok (.istore_n 2, 1) := by decide +kernel
theorem dX6_lengthOf_29 : decode cX6_lengthOf 29 = .ok (.iinc 3 1, 3) := by decide +kernel
theorem dX6_lengthOf_32 : decode cX6_lengthOf 32 = .ok (.goto (-28), 3) := by decide +kernel
theorem dX6_lengthOf_35 : decode cX6_lengthOf 35 = .ok (.iload_n 2, 1) := by decide +kernel
theorem dX6_lengthOf_36 : decode cX6_lengthOf 36 = .ok (.ireturn, 1) := by decide +kernel
theorem dX6_gainOf_0 : decode cX6_gainOf 0 = .ok (.aload_n 0, 1) := by decide +kernel
theorem dX6_gainOf_1 : decode cX6_gainOf 1 = .ok (.aload_n 0, 1) := by decide +kernel
theorem dX6_gainOf_2 : decode cX6_gainOf 2 = .ok (.aload_n 0, 1) := by decide +kernel
theorem dX6_gainOf_3 : decode cX6_gainOf 3 = .ok (.getfield 38, 3) := by decide +kernel
theorem dX6_gainOf_6 : decode cX6_gainOf 6 = .ok (.iload_n 1, 1) := by decide +kernel
theorem dX6_gainOf_7 : decode cX6_gainOf 7 = .ok (.iaload, 1) := by decide +kernel
theorem dX6_gainOf_8 : decode cX6_gainOf 8 = .ok (.invokevirtual 75, 3) := by decide +kernel
theorem dX6_gainOf_11 : decode cX6_gainOf 11 = .ok (.aload_n 0, 1) := by decide +kernel
theorem dX6_gainOf_12 : decode cX6_gainOf 12 = .ok (.iload_n 2, 1) := by decide +kernel
theorem dX6_gainOf_13 : decode cX6_gainOf 13 = .ok (.invokevirtual 75, 3) := by decide +kernel
theorem dX6_gainOf_16 : decode cX6_gainOf 16 = .ok (.ldc2_w 82, 3) := by decide +kernel
theorem dX6_gainOf_19 : decode cX6_gainOf 19 = .ok (.lxor, 1) := by decide +kernel
theorem dX6_gainOf_20 : decode cX6_gainOf 20 = .ok (.land, 1) := by decide +kernel
theorem dX6_gainOf_21 : decode cX6_gainOf 21 = .ok (.invokevirtual 79, 3) := by decide +kernel
theorem dX6_gainOf_24 : decode cX6_gainOf 24 = .ok (.ireturn, 1) := by decide +kernel
theorem dX6_costOf_0 : decode cX6_costOf 0 = .ok (.aload_n 0, 1) := by decide +kernel
theorem dX6_costOf_1 : decode cX6_costOf 1 = .ok (.aload_n 0, 1) := by decide +kernel
theorem dX6_costOf_2 : decode cX6_costOf 2 = .ok (.getfield 38, 3) := by decide +kernel
theorem dX6_costOf_5 : decode cX6_costOf 5 = .ok (.iload_n 1, 1) := by decide +kernel
theorem dX6_costOf_6 : decode cX6_costOf 6 = .ok (.iaload, 1) := by decide +kernel
theorem dX6_costOf_7 : decode cX6_costOf 7 = .ok (.iload_n 2, 1) := by decide +kernel
theorem dX6_costOf_8 : decode cX6_costOf 8 = .ok (.iconst (-1), 1) := by decide +kernel
theorem dX6_costOf_9 : decode cX6_costOf 9 = .ok (.ixor, 1) := by decide +kernel
theorem dX6_costOf_10 : decode cX6_costOf 10 = .ok (.iand, 1) := by decide +kernel
theorem dX6_costOf_11 : decode cX6_costOf 11 = .ok (.invokevirtual 84, 3) := by decide +kernel
theorem dX6_costOf_14 : decode cX6_costOf 14 = .ok (.ireturn, 1) := by decide +kernel
theorem dX6_fitsInto_0 : decode cX6_fitsInto 0 = .ok (.iload_n 1, 1) := by decide +kernel
theorem dX6_fitsInto_1 : decode cX6_fitsInto 1 = .ok (.iload_n 2, 1) := by decide +kernel
theorem dX6_fitsInto_2 : decode cX6_fitsInto 2 = .ok (.invokestatic 65, 3) := by decide +kernel
theorem dX6_fitsInto_5 : decode cX6_fitsInto 5 = .ok (.ifCond .ne 26, 3) := by decide +kernel
theorem dX6_fitsInto_8 : decode cX6_fitsInto 8 = .ok (.aload_n 0, 1) := by decide +kernel
theorem dX6_fitsInto_9 : decode cX6_fitsInto 9 = .ok (.iload_n 2, 1) := by decide +kernel
theorem dX6_fitsInto_10 : decode cX6_fitsInto 10 = .ok (.aload_n 0, 1) := by decide +kernel
theorem dX6_fitsInto_11 : decode cX6_fitsInto 11 = .ok (.getfield 38, 3) := by decide +kernel
theorem dX6_fitsInto_14 : decode cX6_fitsInto 14 = .ok (.iload_n 1, 1) := by decide +kernel
theorem dX6_fitsInto_15 : decode cX6_fitsInto 15 = .ok (.iaload, 1) := by decide +kernel
theorem dX6_fitsInto_16 : decode cX6_fitsInto 16 = .ok (.ior, 1) := by decide +kernel
theorem dX6_fitsInto_17 : decode cX6_fitsInto 17 = .ok (.invokevirtual 84, 3) := by decide +kernel
theorem dX6_fitsInto_20 : decode cX6_fitsInto 20 = .ok (.aload_n 0, 1) := by decide +kernel
theorem dX6_fitsInto_21 : decode cX6_fitsInto 21 = .ok (.getfield 18, 3) := by decide +kernel
theorem dX6_fitsInto_24 : decode cX6_fitsInto 24 = .ok (.if_icmp .gt 7, 3) := by decide +kernel
theorem dX6_fitsInto_27 : decode cX6_fitsInto 27 = .ok (.iconst 1, 1) := by decide +kernel
theorem dX6_fitsInto_28 : decode cX6_fitsInto 28 = .ok (.goto 4, 3) := by decide +kernel
theorem dX6_fitsInto_31 : decode cX6_fitsInto 31 = .ok (.iconst 0, 1) := by decide +kernel
theorem dX6_fitsInto_32 : decode cX6_fitsInto 32 = .ok (.ireturn, 1) := by decide +kernel
theorem dX7_init_0 : decode cX7_init 0 = .ok (.aload_n 0, 1) := by decide +kernel
theorem dX7_init_1 : decode cX7_init 1 = .ok (.invokespecial 3, 3) := by decide +kernel
theorem dX7_init_4 : decode cX7_init 4 = .ok (.aload_n 0, 1) := by decide +kernel
theorem dX7_init_5 : decode cX7_init 5 = .ok (.iconst (-1), 1) := by decide +kernel
theorem dX7_init_6 : decode cX7_init 6 = .ok (.putfield 9, 3) := by decide +kernel
theorem dX7_init_9 : decode cX7_init 9 = .ok (.aload_n 0, 1) := by decide +kernel
theorem dX7_init_10 : decode cX7_init 10 = .ok (.iconst (-1), 1) := by decide +kernel
theorem dX7_init_11 : decode cX7_init 11 = .ok (.putfield 15, 3) := by decide +kernel
theorem dX7_init_14 : decode cX7_init 14 = .ok (.aload_n 0, 1) := by decide +kernel
theorem dX7_init_15 : decode cX7_init 15 = .ok (.iconst 0, 1) := by decide +kernel
theorem dX7_init_16 : decode cX7_init 16 = .ok (.putfield 18, 3) := by decide +kernel
theorem dX7_init_19 : decode cX7_init 19 = .ok (.return_, 1) := by decide +kernel
theorem dX7_run_0 : decode cX7_run 0 = .ok (.aload_n 0, 1) := by decide +kernel
theorem dX7_run_1 : decode cX7_run 1 = .ok (.iconst (-1), 1) := by decide +kernel
theorem dX7_run_2 : decode cX7_run 2 = .ok (.putfield 9, 3) := by decide +kernel
theorem dX7_run_5 : decode cX7_run 5 = .ok (.aload_n 0, 1) := by decide +kernel
theorem dX7_run_6 : decode cX7_run 6 = .ok (.iconst (-1), 1) := by decide +kernel
theorem dX7_run_7 : decode cX7_run 7 = .ok (.putfield 15, 3) := by decide +kernel
theorem dX7_run_10 : decode cX7_run 10 = .ok (.aload_n 0, 1) := by decide +kernel
theorem dX7_run_11 : decode cX7_run 11 = .ok (.aload_n 1, 1) := by decide +kernel
theorem dX7_run_12 : decode cX7_run 12 = .ok (.aload_n 1, 1) := by decide +kernel
theorem dX7_run_13 : decode cX7_run 13 = .ok (.getfield 21, 3) := by decide +kernel
theorem dX7_run_16 : decode cX7_run 16 = .ok (.invokevirtual 26, 3) := by decide +kernel
theorem dX7_run_19 : decode cX7_run 19 = .ok (.putfield 18, 3) := by decide +kernel
theorem dX7_run_22 : decode cX7_run 22 = .ok (.iconst 0, 1) := by decide +kernel
theorem dX7_run_23 : decode cX7_run 23 = .ok (.istore_n 2, 1) := by decide +kernel
theorem dX7_run_24 : decode cX7_run 24 = .ok (.iload_n 2, 1) := by decide +kernel
theorem dX7_run_25 : decode cX7_run 25 = .ok (.aload_n 1, 1) := by decide +kernel
theorem dX7_run_26 : decode cX7_run 26 = .ok (.getfield 30, 3) := by decide +kernel
theorem dX7_run_29 : decode cX7_run 29 = .ok (.if_icmp .ge 54, 3) := by decide +kernel
theorem dX7_run_32 : decode cX7_run 32 = .ok (.iconst 0, 1) := by decide +kernel
theorem dX7_run_33 : decode cX7_run 33 = .ok (.istore_n 3, 1) := by decide +kernel
theorem dX7_run_34 : decode cX7_run 34 = .ok (.iload_n 3, 1) := by decide +kernel
theorem dX7_run_35 : decode cX7_run 35 = .ok (.aload_n 1, 1) := by decide +kernel
theorem dX7_run_36 : decode cX7_run 36 = .ok (.getfield 30, 3) := by decide +kernel
theorem dX7_run_39 : decode cX7_run 39 = .ok (.if_icmp .ge 38, 3) := by decide +kernel
theorem dX7_run_42 : decode cX7_run 42 = .ok (.iload_n 2, 1) := by decide +kernel
theorem dX7_run_43 : decode cX7_run 43 = .ok (.aload_n 1, 1) := by decide +kernel
theorem dX7_run_44 : decode cX7_run 44 = .ok (.getfield 21, 3) := by decide +kernel
theorem dX7_run_47 : decode cX7_run 47 = .ok (.invokestatic 33, 3) := by decide +kernel
theorem dX7_run_50 : decode cX7_run 50 = .ok (.ifCond .eq 21, 3) := by decide +kernel
theorem dX7_run_53 : decode cX7_run 53 = .ok (.iload_n 3, 1) := by decide +kernel
theorem dX7_run_54 : decode cX7_run 54 = .ok (.aload_n 1, 1) := by decide +kernel
theorem dX7_run_55 : decode cX7_run 55 = .ok (.getfield 21, 3) := by decide +kernel
theorem dX7_run_58 : decode cX7_run 58 = .ok (.invokestatic 33, 3) := by decide +kernel
theorem dX7_run_61 : decode cX7_run 61 = .ok (.ifCond .ne 10, 3) := by decide +kernel
theorem dX7_run_64 : decode cX7_run 64 = .ok (.aload_n 0, 1) := by decide +kernel
theorem dX7_run_65 : decode cX7_run 65 = .ok (.aload_n 1, 1) := by decide +kernel
theorem dX7_run_66 : decode cX7_run 66 = .ok (.iload_n 2, 1) := by decide +kernel
theorem dX7_run_67 : decode cX7_run 67 = .ok (.iload_n 3, 1) := by decide +kernel
theorem dX7_run_68 : decode cX7_run 68 = .ok (.invokevirtual 37, 3) := by decide +kernel
theorem dX7_run_71 : decode cX7_run 71 = .ok (.iinc 3 1, 3) := by decide +kernel
theorem dX7_run_74 : decode cX7_run 74 = .ok (.goto (-40), 3) := by decide +kernel
theorem dX7_run_77 : decode cX7_run 77 = .ok (.iinc 2 1, 3) := by decide +kernel
theorem dX7_run_80 : decode cX7_run 80 = .ok (.goto (-56), 3) := by decide +kernel
theorem dX7_run_83 : decode cX7_run 83 = .ok (.return_, 1) := by decide +kernel
theorem dX7_offer_0 : decode cX7_offer 0 = .ok (.aload_n 1, 1) := by decide +kernel
theorem dX7_offer_1 : decode cX7_offer 1 = .ok (.getfield 21, 3) := by decide +kernel
theorem dX7_offer_4 : decode cX7_offer 4 = .ok (.iconst 1, 1) := by decide +kernel
theorem dX7_offer_5 : decode cX7_offer 5 = .ok (.iload_n 2, 1) := by decide +kernel
theorem dX7_offer_6 : decode cX7_offer 6 = .ok (.ishl, 1) := by decide +kernel
theorem dX7_offer_7 : decode cX7_offer 7 = .ok (.iconst (-1), 1) := by decide +kernel
theorem dX7_offer_8 : decode cX7_offer 8 = .ok (.ixor, 1) := by decide +kernel
theorem dX7_offer_9 : decode cX7_offer 9 = .ok (.iand, 1) := by decide +kernel
theorem dX7_offer_10 : decode cX7_offer 10 = .ok (.iconst 1, 1) := by decide +kernel
theorem dX7_offer_11 : decode cX7_offer 11 = .ok (.iload_n 3, 1) := by decide +kernel
theorem dX7_offer_12 : decode cX7_offer 12 = .ok (.ishl, 1) := by decide +kernel
theorem dX7_offer_13 : decode cX7_offer 13 = .ok (.ior, 1) := by decide +kernel
theorem dX7_offer_14 : decode cX7_offer 14 = .ok (.istore 4, 2) := by decide +kernel
theorem dX7_offer_16 : decode cX7_offer 16 = .ok (.aload_n 1, 1) := by decide +kernel
theorem dX7_offer_17 : decode cX7_offer 17 = .ok (.iload 4, 2) := by decide +kernel
theorem dX7_offer_19 : decode cX7_offer 19 = .ok (.invokevirtual 26, 3) := by decide +kernel
theorem dX7_offer_22 : decode cX7_offer 22 = .ok (.istore 5, 2) := by decide +kernel
theorem dX7_offer_24 : decode cX7_offer 24 = .ok (.iload 5, 2) := by decide +kernel
theorem dX7_offer_26 : decode cX7_offer 26 = .ok (.aload_n 0, 1) := by decide +kernel
theorem dX7_offer_27 : decode cX7_offer 27 = .ok (.getfield 18, 3) := by decide +kernel
theorem dX7_offer_30 : decode cX7_offer 30 = .ok (.if_icmp .le 41, 3) := by decide +kernel
theorem dX7_offer_33 : decode cX7_offer 33 = .ok (.aload_n 1, 1) := by decide +kernel
theorem dX7_offer_34 : decode cX7_offer 34 = .ok (.iload 4, 2) := by decide +kernel
theorem dX7_offer_36 : decode cX7_offer 36 = .ok (.invokevirtual 41, 3) := by decide +kernel
theorem dX7_offer_39 : decode cX7_offer 39 = .ok (.aload_n 1, 1) := by decide +kernel
theorem dX7_offer_40 : decode cX7_offer 40 = .ok (.getfield 44, 3) := by decide +kernel
theorem dX7_offer_43 : decode cX7_offer 43 = .ok (.if_icmp .gt 28, 3) := by decide +kernel
theorem dX7_offer_46 : decode cX7_offer 46 = .ok (.aload_n 1, 1) := by decide +kernel
theorem dX7_offer_47 : decode cX7_offer 47 = .ok (.iload 4, 2) := by decide +kernel
theorem dX7_offer_49 : decode cX7_offer 49 = .ok (.invokevirtual 47, 3) := by decide +kernel
theorem dX7_offer_52 : decode cX7_offer 52 = .ok (.ifCond .eq 19, 3) := by decide +kernel
theorem dX7_offer_55 : decode cX7_offer 55 = .ok (.aload_n 0, 1) := by decide +kernel
theorem dX7_offer_56 : decode cX7_offer 56 = .ok (.iload_n 2, 1) := by decide +kernel
theorem dX7_offer_57 : decode cX7_offer 57 = .ok (.putfield 9, 3) := by decide +kernel
theorem dX7_offer_60 : decode cX7_offer 60 = .ok (.aload_n 0, 1) := by decide +kernel
theorem dX7_offer_61 : decode cX7_offer 61 = .ok (.iload_n 3, 1) := by decide +kernel
theorem dX7_offer_62 : decode cX7_offer 62 = .ok (.putfield 15, 3) := by decide +kernel
theorem dX7_offer_65 : decode cX7_offer 65 = .ok (.aload_n 0, 1) := by decide +kernel
theorem dX7_offer_66 : decode cX7_offer 66 = .ok (.iload 5, 2) := by decide +kernel
theorem dX7_offer_68 : decode cX7_offer 68 = .ok (.putfield 18, 3) := by decide +kernel
theorem dX7_offer_71 : decode cX7_offer 71 = .ok (.return_, 1) := by decide +kernel
end
section
theorem dX8_init_0 : decode cX8_init 0 = .ok (.aload_n 0, 1) := by decide +kernel
theorem dX8_init_1 : decode cX8_init 1 = .ok (.invokespecial 1, 3) := by decide +kernel
theorem dX8_init_4 : decode cX8_init 4 = .ok (.aload_n 0, 1) := by decide +kernel
theorem dX8_init_5 : decode cX8_init 5 = .ok (.sipush 600, 3) := by decide +kernel
theorem dX8_init_8 : decode cX8_init 8 = .ok (.newarray .byte, 2) := by decide +kernel
theorem dX8_init_10 : decode cX8_init 10 = .ok (.putfield 9, 3) := by decide +kernel
theorem dX8_init_13 : decode cX8_init 13 = .ok (.aload_n 0, 1) := by decide +kernel
theorem dX8_init_14 : decode cX8_init 14 = .ok (.iconst 0, 1) := by decide +kernel
theorem dX8_init_15 : decode cX8_init 15 = .ok (.putfield 13, 3) := by decide +kernel
theorem dX8_init_18 : decode cX8_init 18 = .ok (.aload_n 0, 1) := by decide +kernel
theorem dX8_init_19 : decode cX8_init 19 = .ok (.iconst (-1), 1) := by decide +kernel
theorem dX8_init_20 : decode cX8_init 20 = .ok (.putfield 17, 3) := by decide +kernel
theorem dX8_init_23 : decode cX8_init 23 = .ok (.aload_n 0, 1) := by decide +kernel
theorem dX8_init_24 : decode cX8_init 24 = .ok (.iconst 3, 1) := by decide +kernel
theorem dX8_init_25 : decode cX8_init 25 = .ok (.newarray .int, 2) := by decide +kernel
theorem dX8_init_27 : decode cX8_init 27 = .ok (.putfield 20, 3) := by decide +kernel
theorem dX8_init_30 : decode cX8_init 30 = .ok (.aload_n 0, 1) := by decide +kernel
theorem dX8_init_31 : decode cX8_init 31 = .ok (.new 24, 3) := by decide +kernel
theorem dX8_init_34 : decode cX8_init 34 = .ok (.dup, 1) := by decide +kernel
theorem dX8_init_35 : decode cX8_init 35 = .ok (.invokespecial 26, 3) := by decide +kernel
theorem dX8_init_38 : decode cX8_init 38 = .ok (.putfield 27, 3) := by decide +kernel
theorem dX8_init_41 : decode cX8_init 41 = .ok (.aload_n 0, 1) := by decide +kernel
theorem dX8_init_42 : decode cX8_init 42 = .ok (.new 31, 3) := by decide +kernel
theorem dX8_init_45 : decode cX8_init 45 = .ok (.dup, 1) := by decide +kernel
theorem dX8_init_46 : decode cX8_init 46 = .ok (.invokespecial 33, 3) := by decide +kernel
theorem dX8_init_49 : decode cX8_init 49 = .ok (.putfield 34, 3) := by decide +kernel
theorem dX8_init_52 : decode cX8_init 52 = .ok (.aload_n 0, 1) := by decide +kernel
theorem dX8_init_53 : decode cX8_init 53 = .ok (.new 38, 3) := by decide +kernel
theorem dX8_init_56 : decode cX8_init 56 = .ok (.dup, 1) := by decide +kernel
theorem dX8_init_57 : decode cX8_init 57 = .ok (.invokespecial 40, 3) := by decide +kernel
theorem dX8_init_60 : decode cX8_init 60 = .ok (.putfield 41, 3) := by decide +kernel
theorem dX8_init_63 : decode cX8_init 63 = .ok (.aload_n 0, 1) := by decide +kernel
theorem dX8_init_64 : decode cX8_init 64 = .ok (.new 45, 3) := by decide +kernel
theorem dX8_init_67 : decode cX8_init 67 = .ok (.dup, 1) := by decide +kernel
theorem dX8_init_68 : decode cX8_init 68 = .ok (.invokespecial 47, 3) := by decide +kernel
theorem dX8_init_71 : decode cX8_init 71 = .ok (.putfield 48, 3) := by decide +kernel
theorem dX8_init_74 : decode cX8_init 74 = .ok (.aload_n 0, 1) := by decide +kernel
theorem dX8_init_75 : decode cX8_init 75 = .ok (.new 52, 3) := by decide +kernel
theorem dX8_init_78 : decode cX8_init 78 = .ok (.dup, 1) := by decide +kernel
theorem dX8_init_79 : decode cX8_init 79 = .ok (.invokespecial 54, 3) := by decide +kernel
theorem dX8_init_82 : decode cX8_init 82 = .ok (.putfield 55, 3) := by decide +kernel
theorem dX8_init_85 : decode cX8_init 85 = .ok (.aload_n 0, 1) := by decide +kernel
theorem dX8_init_86 : decode cX8_init 86 = .ok (.new 59, 3) := by decide +kernel
theorem dX8_init_89 : decode cX8_init 89 = .ok (.dup, 1) := by decide +kernel
theorem dX8_init_90 : decode cX8_init 90 = .ok (.invokespecial 61, 3) := by decide +kernel
theorem dX8_init_93 : decode cX8_init 93 = .ok (.putfield 62, 3) := by decide +kernel
theorem dX8_init_96 : decode cX8_init 96 = .ok (.aload_n 0, 1) := by decide +kernel
theorem dX8_init_97 : decode cX8_init 97 = .ok (.new 66, 3) := by decide +kernel
theorem dX8_init_100 : decode cX8_init 100 = .ok (.dup, 1) := by decide +kernel
theorem dX8_init_101 : decode cX8_init 101 = .ok (.invokespecial 68, 3) := by decide +kernel
theorem dX8_init_104 : decode cX8_init 104 = .ok (.putfield 69, 3) := by decide +kernel
theorem dX8_init_107 : decode cX8_init 107 = .ok (.aload_n 0, 1) := by decide +kernel
theorem dX8_init_108 : decode cX8_init 108 = .ok (.new 73, 3) := by decide +kernel
theorem dX8_init_111 : decode cX8_init 111 = .ok (.dup, 1) := by decide +kernel
theorem dX8_init_112 : decode cX8_init 112 = .ok (.invokespecial 75, 3) := by decide +kernel
theorem dX8_init_115 : decode cX8_init 115 = .ok (.putfield 76, 3) := by decide +kernel
theorem dX8_init_118 : decode cX8_init 118 = .ok (.return_, 1) := by decide +kernel
theorem dX8_feed_0 : decode cX8_feed 0 = .ok (.aload_n 0, 1) := by decide +kernel
theorem dX8_feed_1 : decode cX8_feed 1 = .ok (.getfield 13, 3) := by decide +kernel
theorem dX8_feed_4 : decode cX8_feed 4 = .ok (.bipush 20, 2) := by decide +kernel
theorem dX8_feed_6 : decode cX8_feed 6 = .ok (.iadd, 1) := by decide +kernel
theorem dX8_feed_7 : decode cX8_feed 7 = .ok (.sipush 600, 3) := by decide +kernel
theorem dX8_feed_10 : decode cX8_feed 10 = .ok (.if_icmp .le 5, 3) := by decide +kernel
theorem dX8_feed_13 : decode cX8_feed 13 = .ok (.iconst (-1), 1) := by decide +kernel
theorem dX8_feed_14 : decode cX8_feed 14 = .ok (.ireturn, 1) := by decide +kernel
theorem dX8_feed_15 : decode cX8_feed 15 = .ok (.aload_n 0, 1) := by decide +kernel
theorem dX8_feed_16 : decode cX8_feed 16 = .ok (.iload_n 1, 1) := by decide +kernel
theorem dX8_feed_17 : decode cX8_feed 17 = .ok (.invokevirtual 80, 3) := by decide +kernel
theorem dX8_feed_20 : decode cX8_feed 20 = .ok (.aload_n 0, 1) := by decide +kernel
theorem dX8_feed_21 : decode cX8_feed 21 = .ok (.iload_n 2, 1) := by decide +kernel
theorem dX8_feed_22 : decode cX8_feed 22 = .ok (.invokevirtual 80, 3) := by decide +kernel
theorem dX8_feed_25 : decode cX8_feed 25 = .ok (.aload_n 0, 1) := by decide +kernel
theorem dX8_feed_26 : decode cX8_feed 26 = .ok (.iload_n 3, 1) := by decide +kernel
theorem dX8_feed_27 : decode cX8_feed 27 = .ok (.invokevirtual 80, 3) := by decide +kernel
theorem dX8_feed_30 : decode cX8_feed 30 = .ok (.aload_n 0, 1) := by decide +kernel
theorem dX8_feed_31 : decode cX8_feed 31 = .ok (.iload 4, 2) := by decide +kernel
theorem dX8_feed_33 : decode cX8_feed 33 = .ok (.invokevirtual 80, 3) := by decide +kernel
theorem dX8_feed_36 : decode cX8_feed 36 = .ok (.aload_n 0, 1) := by decide +kernel
theorem dX8_feed_37 : decode cX8_feed 37 = .ok (.iload 5, 2) := by decide +kernel
theorem dX8_feed_39 : decode cX8_feed 39 = .ok (.invokevirtual 80, 3) := by decide +kernel
theorem dX8_feed_42 : decode cX8_feed 42 = .ok (.aload_n 0, 1) := by decide +kernel
theorem dX8_feed_43 : decode cX8_feed 43 = .ok (.getfield 13, 3) := by decide +kernel
theorem dX8_feed_46 : decode cX8_feed 46 = .ok (.ireturn, 1) := by decide +kernel
theorem dX8_text_0 : decode cX8_text 0 = .ok (.aload_n 0, 1) := by decide +kernel
theorem dX8_text_1 : decode cX8_text 1 = .ok (.iload_n 1, 1) := by decide +kernel
theorem dX8_text_2 : decode cX8_text 2 = .ok (.iconst 0, 1) := by decide +kernel
theorem dX8_text_3 : decode cX8_text 3 = .ok (.aload_n 0, 1) := by decide +kernel
theorem dX8_text_4 : decode cX8_text 4 = .ok (.getfield 13, 3) := by decide +kernel
theorem dX8_text_7 : decode cX8_text 7 = .ok (.invokevirtual 84, 3) := by decide +kernel
theorem dX8_text_10 : decode cX8_text 10 = .ok (.aload_n 0, 1) := by decide +kernel
theorem dX8_text_11 : decode cX8_text 11 = .ok (.iconst 0, 1) := by decide +kernel
theorem dX8_text_12 : decode cX8_text 12 = .ok (.putfield 13, 3) := by decide +kernel
theorem dX8_text_15 : decode cX8_text 15 = .ok (.aload_n 0, 1) := by decide +kernel
theorem dX8_text_16 : decode cX8_text 16 = .ok (.getfield 41, 3) := by decide +kernel
theorem dX8_text_19 : decode cX8_text 19 = .ok (.aload_n 0, 1) := by decide +kernel
theorem dX8_text_20 : decode cX8_text 20 = .ok (.getfield 9, 3) := by decide +kernel
theorem dX8_text_23 : decode cX8_text 23 = .ok (.iload_n 1, 1) := by decide +kernel
theorem dX8_text_24 : decode cX8_text 24 = .ok (.invokevirtual 88, 3) := by decide +kernel
theorem dX8_text_27 : decode cX8_text 27 = .ok (.istore_n 2, 1) := by decide +kernel
theorem dX8_text_28 : decode cX8_text 28 = .ok (.aload_n 0, 1) := by decide +kernel
theorem dX8_text_29 : decode cX8_text 29 = .ok (.aload_n 0, 1) := by decide +kernel
theorem dX8_text_30 : decode cX8_text 30 = .ok (.getfield 41, 3) := by decide +kernel
theorem dX8_text_33 : decode cX8_text 33 = .ok (.getfield 92, 3) := by decide +kernel
theorem dX8_text_36 : decode cX8_text 36 = .ok (.putfield 17, 3) := by decide +kernel
theorem dX8_text_39 : decode cX8_text 39 = .ok (.iload_n 2, 1) := by decide +kernel
theorem dX8_text_40 : decode cX8_text 40 = .ok (.ifCond .eq 8, 3) := by decide +kernel
theorem dX8_text_43 : decode cX8_text 43 = .ok (.iload_n 2, 1) := by decide +kernel
theorem dX8_text_44 : decode cX8_text 44 = .ok (.bipush 10, 2) := by decide +kernel
theorem dX8_text_46 : decode cX8_text 46 = .ok (.isub, 1) := by decide +kernel
theorem dX8_text_47 : decode cX8_text 47 = .ok (.ireturn, 1) := by decide +kernel
theorem dX8_text_48 : decode cX8_text 48 = .ok (.aload_n 0, 1) := by decide +kernel
theorem dX8_text_49 : decode cX8_text 49 = .ok (.getfield 34, 3) := by decide +kernel
theorem dX8_text_52 : decode cX8_text 52 = .ok (.aload_n 0, 1) := by decide +kernel
theorem dX8_text_53 : decode cX8_text 53 = .ok (.getfield 27, 3) := by decide +kernel
theorem dX8_text_56 : decode cX8_text 56 = .ok (.invokevirtual 95, 3) := by decide +kernel
theorem dX8_text_59 : decode cX8_text 59 = .ok (.aload_n 0, 1) := by decide +kernel
theorem dX8_text_60 : decode cX8_text 60 = .ok (.getfield 41, 3) := by decide +kernel
theorem dX8_text_63 : decode cX8_text 63 = .ok (.getfield 99, 3) := by decide +kernel
theorem dX8_text_66 : decode cX8_text 66 = .ok (.aload_n 0, 1) := by decide +kernel
theorem dX8_text_67 : decode cX8_text 67 = .ok (.getfield 27, 3) := by decide +kernel
theorem dX8_text_70 : decode cX8_text 70 = .ok (.getfield 102, 3) := by decide +kernel
theorem dX8_text_73 : decode cX8_text 73 = .ok (.putfield 102, 3) := by decide +kernel
theorem dX8_text_76 : decode cX8_text 76 = .ok (.aload_n 0, 1) := by decide +kernel
theorem dX8_text_77 : decode cX8_text 77 = .ok (.getfield 27, 3) := by decide +kernel
theorem dX8_text_80 : decode cX8_text 80 = .ok (.aload_n 0, 1) := by decide +kernel
theorem dX8_text_81 : decode cX8_text 81 = .ok (.getfield 41, 3) := by decide +kernel
theorem dX8_text_84 : decode cX8_text 84 = .ok (.getfield 99, 3) := by decide +kernel
theorem dX8_text_87 : decode cX8_text 87 = .ok (.invokevirtual 105, 3) := by decide +kernel
theorem dX8_text_90 : decode cX8_text 90 = .ok (.aload_n 0, 1) := by decide +kernel
theorem dX8_text_91 : decode cX8_text 91 = .ok (.getfield 27, 3) := by decide +kernel
theorem dX8_text_94 : decode cX8_text 94 = .ok (.invokevirtual 108, 3) := by decide +kernel
theorem dX8_text_97 : decode cX8_text 97 = .ok (.aload_n 0, 1) := by decide +kernel
theorem dX8_text_98 : decode cX8_text 98 = .ok (.getfield 27, 3) := by decide +kernel
theorem dX8_text_101 : decode cX8_text 101 = .ok (.getfield 111, 3) := by decide +kernel
theorem dX8_text_104 : decode cX8_text 104 = .ok (.ireturn, 1) := by decide +kernel
theorem dX8_fault_0 : decode cX8_fault 0 = .ok (.aload_n 0, 1) := by decide +kernel
theorem dX8_fault_1 : decode cX8_fault 1 = .ok (.getfield 17, 3) := by decide +kernel
theorem dX8_fault_4 : decode cX8_fault 4 = .ok (.ireturn, 1) := by decide +kernel
theorem dX8_weigh_0 : decode cX8_weigh 0 = .ok (.aload_n 0, 1) := by decide +kernel
theorem dX8_weigh_1 : decode cX8_weigh 1 = .ok (.iload_n 1, 1) := by decide +kernel
theorem dX8_weigh_2 : decode cX8_weigh 2 = .ok (.invokevirtual 114, 3) := by decide +kernel
theorem dX8_weigh_5 : decode cX8_weigh 5 = .ok (.aload_n 0, 1) := by decide +kernel
theorem dX8_weigh_6 : decode cX8_weigh 6 = .ok (.iload_n 2, 1) := by decide +kernel
theorem dX8_weigh_7 : decode cX8_weigh 7 = .ok (.iconst 0, 1) := by decide +kernel
theorem dX8_weigh_8 : decode cX8_weigh 8 = .ok (.sipush 1000, 3) := by decide +kernel
theorem dX8_weigh_11 : decode cX8_weigh 11 = .ok (.invokevirtual 84, 3) := by decide +kernel
theorem dX8_weigh_14 : decode cX8_weigh 14 = .ok (.aload_n 0, 1) := by decide +kernel
theorem dX8_weigh_15 : decode cX8_weigh 15 = .ok (.getfield 34, 3) := by decide +kernel
theorem dX8_weigh_18 : decode cX8_weigh 18 = .ok (.aload_n 0, 1) := by decide +kernel
theorem dX8_weigh_19 : decode cX8_weigh 19 = .ok (.getfield 27, 3) := by decide +kernel
theorem dX8_weigh_22 : decode cX8_weigh 22 = .ok (.invokevirtual 95, 3) := by decide +kernel
theorem dX8_weigh_25 : decode cX8_weigh 25 = .ok (.aload_n 0, 1) := by decide +kernel
theorem dX8_weigh_26 : decode cX8_weigh 26 = .ok (.getfield 27, 3) := by decide +kernel
theorem dX8_weigh_29 : decode cX8_weigh 29 = .ok (.getfield 117, 3) := by decide +kernel
theorem dX8_weigh_32 : decode cX8_weigh 32 = .ok (.iload_n 1, 1) := by decide +kernel
theorem dX8_weigh_33 : decode cX8_weigh 33 = .ok (.iaload, 1) := by decide +kernel
theorem dX8_weigh_34 : decode cX8_weigh 34 = .ok (.istore_n 3, 1) := by decide +kernel
theorem dX8_weigh_35 : decode cX8_weigh 35 = .ok (.aload_n 0, 1) := by decide +kernel
theorem dX8_weigh_36 : decode cX8_weigh 36 = .ok (.getfield 27, 3) := by decide +kernel
theorem dX8_weigh_39 : decode cX8_weigh 39 = .ok (.getfield 117, 3) := by decide +kernel
theorem dX8_weigh_42 : decode cX8_weigh 42 = .ok (.iload_n 1, 1) := by decide +kernel
theorem dX8_weigh_43 : decode cX8_weigh 43 = .ok (.iload_n 2, 1) := by decide +kernel
theorem dX8_weigh_44 : decode cX8_weigh 44 = .ok (.iastore, 1) := by decide +kernel
theorem dX8_weigh_45 : decode cX8_weigh 45 = .ok (.iload_n 3, 1) := by decide +kernel
theorem dX8_weigh_46 : decode cX8_weigh 46 = .ok (.ireturn, 1) := by decide +kernel
theorem dX8_lean_0 : decode cX8_lean 0 = .ok (.aload_n 0, 1) := by decide +kernel
theorem dX8_lean_1 : decode cX8_lean 1 = .ok (.iload_n 1, 1) := by decide +kernel
theorem dX8_lean_2 : decode cX8_lean 2 = .ok (.invokevirtual 114, 3) := by decide +kernel
theorem dX8_lean_5 : decode cX8_lean 5 = .ok (.aload_n 0, 1) := by decide +kernel
theorem dX8_lean_6 : decode cX8_lean 6 = .ok (.getfield 34, 3) := by decide +kernel
theorem dX8_lean_9 : decode cX8_lean 9 = .ok (.aload_n 0, 1) := by decide +kernel
theorem dX8_lean_10 : decode cX8_lean 10 = .ok (.getfield 27, 3) := by decide +kernel
theorem dX8_lean_13 : decode cX8_lean 13 = .ok (.invokevirtual 95, 3) := by decide +kernel
theorem dX8_lean_16 : decode cX8_lean 16 = .ok (.aload_n 0, 1) := by decide +kernel
theorem dX8_lean_17 : decode cX8_lean 17 = .ok (.getfield 27, 3) := by decide +kernel
theorem dX8_lean_20 : decode cX8_lean 20 = .ok (.iload_n 1, 1) := by decide +kernel
theorem dX8_lean_21 : decode cX8_lean 21 = .ok (.invokevirtual 120, 3) := by decide +kernel
theorem dX8_lean_24 : decode cX8_lean 24 = .ok (.istore_n 3, 1) := by decide +kernel
theorem dX8_lean_25 : decode cX8_lean 25 = .ok (.lconst 1, 1) := by decide +kernel
theorem dX8_lean_26 : decode cX8_lean 26 = .ok (.iload_n 1, 1) := by decide +kernel
theorem dX8_lean_27 : decode cX8_lean 27 = .ok (.lshl, 1) := by decide +kernel
theorem dX8_lean_28 : decode cX8_lean 28 = .ok (.lstore 4, 2) := by decide +kernel
theorem dX8_lean_30 : decode cX8_lean 30 = .ok (.aload_n 0, 1) := by decide +kernel
theorem dX8_lean_31 : decode cX8_lean 31 = .ok (.getfield 27, 3) := by decide +kernel
theorem dX8_lean_34 : decode cX8_lean 34 = .ok (.iload_n 2, 1) := by decide +kernel
theorem dX8_lean_35 : decode cX8_lean 35 = .ok (.ifCond .eq 16, 3) := by decide +kernel
theorem dX8_lean_38 : decode cX8_lean 38 = .ok (.aload_n 0, 1) := by decide +kernel
theorem dX8_lean_39 : decode cX8_lean 39 = .ok (.getfield 27, 3) := by decide +kernel
theorem dX8_lean_42 : decode cX8_lean 42 = .ok (.getfield 124, 3) := by decide +kernel
theorem dX8_lean_45 : decode cX8_lean 45 = .ok (.lload 4, 2) := by decide +kernel
theorem dX8_lean_47 : decode cX8_lean 47 = .ok (.lor, 1) := by decide +kernel
theorem dX8_lean_48 : decode cX8_lean 48 = .ok (.goto 17, 3) := by decide +kernel
theorem dX8_lean_51 : decode cX8_lean 51 = .ok (.aload_n 0, 1) := by decide +kernel
theorem dX8_lean_52 : decode cX8_lean 52 = .ok (.getfield 27, 3) := by decide +kernel
theorem dX8_lean_55 : decode cX8_lean 55 = .ok (.getfield 124, 3) := by decide +kernel
theorem dX8_lean_58 : decode cX8_lean 58 = .ok (.lload 4, 2) := by decide +kernel
theorem dX8_lean_60 : decode cX8_lean 60 = .ok (.ldc2_w 128, 3) := by decide +kernel
theorem dX8_lean_63 : decode cX8_lean 63 = .ok (.lxor, 1) := by decide +kernel
theorem dX8_lean_64 : decode cX8_lean 64 = .ok (.land, 1) := by decide +kernel
theorem dX8_lean_65 : decode cX8_lean 65 = .ok (.putfield 124, 3) := by decide +kernel
theorem dX8_lean_68 : decode cX8_lean 68 = .ok (.aload_n 0, 1) := by decide +kernel
theorem dX8_lean_69 : decode cX8_lean 69 = .ok (.getfield 27, 3) := by decide +kernel
theorem dX8_lean_72 : decode cX8_lean 72 = .ok (.invokevirtual 108, 3) := by decide +kernel
theorem dX8_lean_75 : decode cX8_lean 75 = .ok (.iload_n 3, 1) := by decide +kernel
theorem dX8_lean_76 : decode cX8_lean 76 = .ok (.iload_n 2, 1) := by decide +kernel
theorem dX8_lean_77 : decode cX8_lean 77 = .ok (.if_icmp .ne 7, 3) := by decide +kernel
theorem dX8_lean_80 : decode cX8_lean 80 = .ok (.iconst 0, 1) := by decide +kernel
theorem dX8_lean_81 : decode cX8_lean 81 = .ok (.goto 4, 3) := by decide +kernel
theorem dX8_lean_84 : decode cX8_lean 84 = .ok (.iconst 1, 1) := by decide +kernel
theorem dX8_lean_85 : decode cX8_lean 85 = .ok (.ireturn, 1) := by decide +kernel
theorem dX8_budget_0 : decode cX8_budget 0 = .ok (.aload_n 0, 1) := by decide +kernel
theorem dX8_budget_1 : decode cX8_budget 1 = .ok (.iload_n 1, 1) := by decide +kernel
theorem dX8_budget_2 : decode cX8_budget 2 = .ok (.iconst 0, 1) := by decide +kernel
theorem dX8_budget_3 : decode cX8_budget 3 = .ok (.sipush 9999, 3) := by decide +kernel
theorem dX8_budget_6 : decode cX8_budget 6 = .ok (.invokevirtual 84, 3) := by decide +kernel
theorem dX8_budget_9 : decode cX8_budget 9 = .ok (.aload_n 0, 1) := by decide +kernel
theorem dX8_budget_10 : decode cX8_budget 10 = .ok (.getfield 34, 3) := by decide +kernel
theorem dX8_budget_13 : decode cX8_budget 13 = .ok (.aload_n 0, 1) := by decide +kernel
theorem dX8_budget_14 : decode cX8_budget 14 = .ok (.getfield 27, 3) := by decide +kernel
theorem dX8_budget_17 : decode cX8_budget 17 = .ok (.invokevirtual 95, 3) := by decide +kernel
theorem dX8_budget_20 : decode cX8_budget 20 = .ok (.aload_n 0, 1) := by decide +kernel
theorem dX8_budget_21 : decode cX8_budget 21 = .ok (.getfield 27, 3) := by decide +kernel
theorem dX8_budget_24 : decode cX8_budget 24 = .ok (.getfield 102, 3) := by decide +kernel
theorem dX8_budget_27 : decode cX8_budget 27 = .ok (.istore_n 2, 1) := by decide +kernel
theorem dX8_budget_28 : decode cX8_budget 28 = .ok (.aload_n 0, 1) := by decide +kernel
theorem dX8_budget_29 : decode cX8_budget 29 = .ok (.getfield 27, 3) := by decide +kernel
theorem dX8_budget_32 : decode cX8_budget 32 = .ok (.iload_n 1, 1) := by decide +kernel
theorem dX8_budget_33 : decode cX8_budget 33 = .ok (.putfield 102, 3) := by decide +kernel
theorem dX8_budget_36 : decode cX8_budget 36 = .ok (.iload_n 2, 1) := by decide +kernel
theorem dX8_budget_37 : decode cX8_budget 37 = .ok (.ireturn, 1) := by decide +kernel
theorem dX8_take_0 : decode cX8_take 0 = .ok (.aload_n 0, 1) := by decide +kernel
theorem dX8_take_1 : decode cX8_take 1 = .ok (.iload_n 1, 1) := by decide +kernel
theorem dX8_take_2 : decode cX8_take 2 = .ok (.invokevirtual 130, 3) := by decide +kernel
theorem dX8_take_5 : decode cX8_take 5 = .ok (.aload_n 0, 1) := by decide +kernel
theorem dX8_take_6 : decode cX8_take 6 = .ok (.aload_n 0, 1) := by decide +kernel
theorem dX8_take_7 : decode cX8_take 7 = .ok (.getfield 27, 3) := by decide +kernel
theorem dX8_take_10 : decode cX8_take 10 = .ok (.iload_n 1, 1) := by decide +kernel
theorem dX8_take_11 : decode cX8_take 11 = .ok (.aload_n 0, 1) := by decide +kernel
theorem dX8_take_12 : decode cX8_take 12 = .ok (.getfield 27, 3) := by decide +kernel
theorem dX8_take_15 : decode cX8_take 15 = .ok (.getfield 133, 3) := by decide +kernel
theorem dX8_take_18 : decode cX8_take 18 = .ok (.invokevirtual 136, 3) := by decide +kernel
theorem dX8_take_21 : decode cX8_take 21 = .ok (.invokevirtual 140, 3) := by decide +kernel
theorem dX8_take_24 : decode cX8_take 24 = .ok (.aload_n 0, 1) := by decide +kernel
theorem dX8_take_25 : decode cX8_take 25 = .ok (.getfield 34, 3) := by decide +kernel
theorem dX8_take_28 : decode cX8_take 28 = .ok (.aload_n 0, 1) := by decide +kernel
theorem dX8_take_29 : decode cX8_take 29 = .ok (.getfield 27, 3) := by decide +kernel
theorem dX8_take_32 : decode cX8_take 32 = .ok (.invokevirtual 95, 3) := by decide +kernel
theorem dX8_take_35 : decode cX8_take 35 = .ok (.aload_n 0, 1) := by decide +kernel
theorem dX8_take_36 : decode cX8_take 36 = .ok (.getfield 27, 3) := by decide +kernel
theorem dX8_take_39 : decode cX8_take 39 = .ok (.iload_n 1, 1) := by decide +kernel
theorem dX8_take_40 : decode cX8_take 40 = .ok (.aload_n 0, 1) := by decide +kernel
theorem dX8_take_41 : decode cX8_take 41 = .ok (.getfield 27, 3) := by decide +kernel
theorem dX8_take_44 : decode cX8_take 44 = .ok (.getfield 133, 3) := by decide +kernel
theorem dX8_take_47 : decode cX8_take 47 = .ok (.invokevirtual 144, 3) := by decide +kernel
theorem dX8_take_50 : decode cX8_take 50 = .ok (.istore_n 2, 1) := by decide +kernel
theorem dX8_take_51 : decode cX8_take 51 = .ok (.aload_n 0, 1) := by decide +kernel
theorem dX8_take_52 : decode cX8_take 52 = .ok (.getfield 27, 3) := by decide +kernel
theorem dX8_take_55 : decode cX8_take 55 = .ok (.dup, 1) := by decide +kernel
theorem dX8_take_56 : decode cX8_take 56 = .ok (.getfield 133, 3) := by decide +kernel
theorem dX8_take_59 : decode cX8_take 59 = .ok (.aload_n 0, 1) := by decide +kernel
theorem dX8_take_60 : decode cX8_take 60 = .ok (.getfield 27, 3) := by decide +kernel
theorem dX8_take_63 : decode cX8_take 63 = .ok (.getfield 148, 3) := by decide +kernel
theorem dX8_take_66 : decode cX8_take 66 = .ok (.iload_n 1, 1) := by decide +kernel
theorem dX8_take_67 : decode cX8_take 67 = .ok (.iaload, 1) := by decide +kernel
theorem dX8_take_68 : decode cX8_take 68 = .ok (.ior, 1) := by decide +kernel
theorem dX8_take_69 : decode cX8_take 69 = .ok (.putfield 133, 3) := by decide +kernel
theorem dX8_take_72 : decode cX8_take 72 = .ok (.iload_n 2, 1) := by decide +kernel
theorem dX8_take_73 : decode cX8_take 73 = .ok (.ireturn, 1) := by decide +kernel
theorem dX8_drop_0 : decode cX8_drop 0 = .ok (.aload_n 0, 1) := by decide +kernel
theorem dX8_drop_1 : decode cX8_drop 1 = .ok (.iload_n 1, 1) := by decide +kernel
theorem dX8_drop_2 : decode cX8_drop 2 = .ok (.invokevirtual 130, 3) := by decide +kernel
theorem dX8_drop_5 : decode cX8_drop 5 = .ok (.aload_n 0, 1) := by decide +kernel
theorem dX8_drop_6 : decode cX8_drop 6 = .ok (.iload_n 1, 1) := by decide +kernel
theorem dX8_drop_7 : decode cX8_drop 7 = .ok (.aload_n 0, 1) := by decide +kernel
theorem dX8_drop_8 : decode cX8_drop 8 = .ok (.getfield 27, 3) := by decide +kernel
theorem dX8_drop_11 : decode cX8_drop 11 = .ok (.getfield 133, 3) := by decide +kernel
theorem dX8_drop_14 : decode cX8_drop 14 = .ok (.invokestatic 151, 3) := by decide +kernel
theorem dX8_drop_17 : decode cX8_drop 17 = .ok (.invokevirtual 140, 3) := by decide +kernel
theorem dX8_drop_20 : decode cX8_drop 20 = .ok (.aload_n 0, 1) := by decide +kernel
theorem dX8_drop_21 : decode cX8_drop 21 = .ok (.getfield 34, 3) := by decide +kernel
theorem dX8_drop_24 : decode cX8_drop 24 = .ok (.aload_n 0, 1) := by decide +kernel
theorem dX8_drop_25 : decode cX8_drop 25 = .ok (.getfield 27, 3) := by decide +kernel
theorem dX8_drop_28 : decode cX8_drop 28 = .ok (.invokevirtual 95, 3) := by decide +kernel
theorem dX8_drop_31 : decode cX8_drop 31 = .ok (.aload_n 0, 1) := by decide +kernel
theorem dX8_drop_32 : decode cX8_drop 32 = .ok (.getfield 27, 3) := by decide +kernel
theorem dX8_drop_35 : decode cX8_drop 35 = .ok (.aload_n 0, 1) := by decide +kernel
theorem dX8_drop_36 : decode cX8_drop 36 = .ok (.getfield 27, 3) := by decide +kernel
theorem dX8_drop_39 : decode cX8_drop 39 = .ok (.getfield 133, 3) := by decide +kernel
theorem dX8_drop_42 : decode cX8_drop 42 = .ok (.invokevirtual 154, 3) := by decide +kernel
theorem dX8_drop_45 : decode cX8_drop 45 = .ok (.istore_n 2, 1) := by decide +kernel
theorem dX8_drop_46 : decode cX8_drop 46 = .ok (.aload_n 0, 1) := by decide +kernel
theorem dX8_drop_47 : decode cX8_drop 47 = .ok (.getfield 27, 3) := by decide +kernel
theorem dX8_drop_50 : decode cX8_drop 50 = .ok (.dup, 1) := by decide +kernel
theorem dX8_drop_51 : decode cX8_drop 51 = .ok (.getfield 133, 3) := by decide +kernel
theorem dX8_drop_54 : decode cX8_drop 54 = .ok (.aload_n 0, 1) := by decide +kernel
theorem dX8_drop_55 : decode cX8_drop 55 = .ok (.getfield 27, 3) := by decide +kernel
theorem dX8_drop_58 : decode cX8_drop 58 = .ok (.iload_n 1, 1) := by decide +kernel
theorem dX8_drop_59 : decode cX8_drop 59 = .ok (.invokevirtual 158, 3) := by decide +kernel
theorem dX8_drop_62 : decode cX8_drop 62 = .ok (.iconst (-1), 1) := by decide +kernel
theorem dX8_drop_63 : decode cX8_drop 63 = .ok (.ixor, 1) := by decide +kernel
theorem dX8_drop_64 : decode cX8_drop 64 = .ok (.iand, 1) := by decide +kernel
theorem dX8_drop_65 : decode cX8_drop 65 = .ok (.putfield 133, 3) := by decide +kernel
theorem dX8_drop_68 : decode cX8_drop 68 = .ok (.iload_n 2, 1) := by decide +kernel
theorem dX8_drop_69 : decode cX8_drop 69 = .ok (.aload_n 0, 1) := by decide +kernel
theorem dX8_drop_70 : decode cX8_drop 70 = .ok (.getfield 27, 3) := by decide +kernel
theorem dX8_drop_73 : decode cX8_drop 73 = .ok (.aload_n 0, 1) := by decide +kernel
theorem dX8_drop_74 : decode cX8_drop 74 = .ok (.getfield 27, 3) := by decide +kernel
theorem dX8_drop_77 : decode cX8_drop 77 = .ok (.getfield 133, 3) := by decide +kernel
theorem dX8_drop_80 : decode cX8_drop 80 = .ok (.invokevirtual 154, 3) := by decide +kernel
theorem dX8_drop_83 : decode cX8_drop 83 = .ok (.isub, 1) := by decide +kernel
theorem dX8_drop_84 : decode cX8_drop 84 = .ok (.ireturn, 1) := by decide +kernel
theorem dX8_undo_0 : decode cX8_undo 0 = .ok (.aload_n 0, 1) := by decide +kernel
theorem dX8_undo_1 : decode cX8_undo 1 = .ok (.getfield 34, 3) := by decide +kernel
theorem dX8_undo_4 : decode cX8_undo 4 = .ok (.getfield 161, 3) := by decide +kernel
theorem dX8_undo_7 : decode cX8_undo 7 = .ok (.ifCond .ne 5, 3) := by decide +kernel
theorem dX8_undo_10 : decode cX8_undo 10 = .ok (.iconst (-1), 1) := by decide +kernel
theorem dX8_undo_11 : decode cX8_undo 11 = .ok (.ireturn, 1) := by decide +kernel
theorem dX8_undo_12 : decode cX8_undo 12 = .ok (.aload_n 0, 1) := by decide +kernel
theorem dX8_undo_13 : decode cX8_undo 13 = .ok (.getfield 34, 3) := by decide +kernel
theorem dX8_undo_16 : decode cX8_undo 16 = .ok (.aload_n 0, 1) := by decide +kernel
theorem dX8_undo_17 : decode cX8_undo 17 = .ok (.getfield 27, 3) := by decide +kernel
theorem dX8_undo_20 : decode cX8_undo 20 = .ok (.invokevirtual 164, 3) := by decide +kernel
theorem dX8_undo_23 : decode cX8_undo 23 = .ok (.aload_n 0, 1) := by decide +kernel
theorem dX8_undo_24 : decode cX8_undo 24 = .ok (.getfield 34, 3) := by decide +kernel
theorem dX8_undo_27 : decode cX8_undo 27 = .ok (.getfield 161, 3) := by decide +kernel
theorem dX8_undo_30 : decode cX8_undo 30 = .ok (.ireturn, 1) := by decide +kernel
theorem dX8_told_0 : decode cX8_told 0 = .ok (.aload_n 0, 1) := by decide +kernel
theorem dX8_told_1 : decode cX8_told 1 = .ok (.iload_n 1, 1) := by decide +kernel
theorem dX8_told_2 : decode cX8_told 2 = .ok (.iconst 0, 1) := by decide +kernel
theorem dX8_told_3 : decode cX8_told 3 = .ok (.bipush 9, 2) := by decide +kernel
theorem dX8_told_5 : decode cX8_told 5 = .ok (.invokevirtual 84, 3) := by decide +kernel
theorem dX8_told_8 : decode cX8_told 8 = .ok (.iload_n 1, 1) := by decide +kernel
theorem dX8_told_9 : decode cX8_told 9 = .ok (.tableswitch 141 0 8 #[51, 59, 67, 75, 90, 105, 110, 118, 126], 51) := by decide +kernel
theorem dX8_told_60 : decode cX8_told 60 = .ok (.aload_n 0, 1) := by decide +kernel
theorem dX8_told_61 : decode cX8_told 61 = .ok (.getfield 27, 3) := by decide +kernel
theorem dX8_told_64 : decode cX8_told 64 = .ok (.getfield 111, 3) := by decide +kernel
theorem dX8_told_67 : decode cX8_told 67 = .ok (.ireturn, 1) := by decide +kernel
theorem dX8_told_68 : decode cX8_told 68 = .ok (.aload_n 0, 1) := by decide +kernel
theorem dX8_told_69 : decode cX8_told 69 = .ok (.getfield 27, 3) := by decide +kernel
theorem dX8_told_72 : decode cX8_told 72 = .ok (.getfield 167, 3) := by decide +kernel
theorem dX8_told_75 : decode cX8_told 75 = .ok (.ireturn, 1) := by decide +kernel
theorem dX8_told_76 : decode cX8_told 76 = .ok (.aload_n 0, 1) := by decide +kernel
theorem dX8_told_77 : decode cX8_told 77 = .ok (.getfield 27, 3) := by decide +kernel
theorem dX8_told_80 : decode cX8_told 80 = .ok (.getfield 102, 3) := by decide +kernel
theorem dX8_told_83 : decode cX8_told 83 = .ok (.ireturn, 1) := by decide +kernel
theorem dX8_told_84 : decode cX8_told 84 = .ok (.aload_n 0, 1) := by decide +kernel
theorem dX8_told_85 : decode cX8_told 85 = .ok (.getfield 27, 3) := by decide +kernel
theorem dX8_told_88 : decode cX8_told 88 = .ok (.aload_n 0, 1) := by decide +kernel
theorem dX8_told_89 : decode cX8_told 89 = .ok (.getfield 27, 3) := by decide +kernel
theorem dX8_told_92 : decode cX8_told 92 = .ok (.invokevirtual 170, 3) := by decide +kernel
theorem dX8_told_95 : decode cX8_told 95 = .ok (.invokevirtual 154, 3) := by decide +kernel
theorem dX8_told_98 : decode cX8_told 98 = .ok (.ireturn, 1) := by decide +kernel
theorem dX8_told_99 : decode cX8_told 99 = .ok (.aload_n 0, 1) := by decide +kernel
theorem dX8_told_100 : decode cX8_told 100 = .ok (.getfield 27, 3) := by decide +kernel
theorem dX8_told_103 : decode cX8_told 103 = .ok (.aload_n 0, 1) := by decide +kernel
theorem dX8_told_104 : decode cX8_told 104 = .ok (.getfield 27, 3) := by decide +kernel
theorem dX8_told_107 : decode cX8_told 107 = .ok (.invokevirtual 170, 3) := by decide +kernel
theorem dX8_told_110 : decode cX8_told 110 = .ok (.invokevirtual 174, 3) := by decide +kernel
theorem dX8_told_113 : decode cX8_told 113 = .ok (.ireturn, 1) := by decide +kernel
theorem dX8_told_114 : decode cX8_told 114 = .ok (.aload_n 0, 1) := by decide +kernel
theorem dX8_told_115 : decode cX8_told 115 = .ok (.getfield 13, 3) := by decide +kernel
theorem dX8_told_118 : decode cX8_told 118 = .ok (.ireturn, 1) := by decide +kernel
theorem dX8_told_119 : decode cX8_told 119 = .ok (.aload_n 0, 1) := by decide +kernel
theorem dX8_told_120 : decode cX8_told 120 = .ok (.getfield 34, 3) := by decide +kernel
theorem dX8_told_123 : decode cX8_told 123 = .ok (.getfield 161, 3) := by decide +kernel
theorem dX8_told_126 : decode cX8_told 126 = .ok (.ireturn, 1) := by decide +kernel
theorem dX8_told_127 : decode cX8_told 127 = .ok (.aload_n 0, 1) := by decide +kernel
theorem dX8_told_128 : decode cX8_told 128 = .ok (.getfield 27, 3) := by decide +kernel
theorem dX8_told_131 : decode cX8_told 131 = .ok (.getfield 133, 3) := by decide +kernel
theorem dX8_told_134 : decode cX8_told 134 = .ok (.ireturn, 1) := by decide +kernel
theorem dX8_told_135 : decode cX8_told 135 = .ok (.aload_n 0, 1) := by decide +kernel
theorem dX8_told_136 : decode cX8_told 136 = .ok (.getfield 27, 3) := by decide +kernel
theorem dX8_told_139 : decode cX8_told 139 = .ok (.aload_n 0, 1) := by decide +kernel
theorem dX8_told_140 : decode cX8_told 140 = .ok (.getfield 27, 3) := by decide +kernel
theorem dX8_told_143 : decode cX8_told 143 = .ok (.getfield 133, 3) := by decide +kernel
theorem dX8_told_146 : decode cX8_told 146 = .ok (.invokevirtual 154, 3) := by decide +kernel
theorem dX8_told_149 : decode cX8_told 149 = .ok (.ireturn, 1) := by decide +kernel
theorem dX8_told_150 : decode cX8_told 150 = .ok (.aload_n 0, 1) := by decide +kernel
theorem dX8_told_151 : decode cX8_told 151 = .ok (.getfield 27, 3) := by decide +kernel
theorem dX8_told_154 : decode cX8_told 154 = .ok (.aload_n 0, 1) := by decide +kernel
theorem dX8_told_155 : decode cX8_told 155 = .ok (.getfield 27, 3) := by decide +kernel
theorem dX8_told_158 : decode cX8_told 158 = .ok (.getfield 133, 3) := by decide +kernel
theorem dX8_told_161 : decode cX8_told 161 = .ok (.invokevirtual 174, 3) := by decide +kernel
theorem dX8_told_164 : decode cX8_told 164 = .ok (.ireturn, 1) := by decide +kernel
theorem dX8_sentence_0 : decode cX8_sentence 0 = .ok (.aload_n 0, 1) := by decide +kernel
theorem dX8_sentence_1 : decode cX8_sentence 1 = .ok (.iload_n 1, 1) := by decide +kernel
theorem dX8_sentence_2 : decode cX8_sentence 2 = .ok (.invokevirtual 130, 3) := by decide +kernel
theorem dX8_sentence_5 : decode cX8_sentence 5 = .ok (.aload_n 0, 1) := by decide +kernel
theorem dX8_sentence_6 : decode cX8_sentence 6 = .ok (.iload_n 2, 1) := by decide +kernel
theorem dX8_sentence_7 : decode cX8_sentence 7 = .ok (.iconst 0, 1) := by decide +kernel
theorem dX8_sentence_8 : decode cX8_sentence 8 = .ok (.bipush 7, 2) := by decide +kernel
theorem dX8_sentence_10 : decode cX8_sentence 10 = .ok (.invokevirtual 84, 3) := by decide +kernel
theorem dX8_sentence_13 : decode cX8_sentence 13 = .ok (.iload_n 2, 1) := by decide +kernel
theorem dX8_sentence_14 : decode cX8_sentence 14 = .ok (.tableswitch 134 0 6 #[42, 52, 62, 75, 92, 102, 118], 42) := by decide +kernel
theorem dX8_sentence_56 : decode cX8_sentence 56 = .ok (.aload_n 0, 1) := by decide +kernel
theorem dX8_sentence_57 : decode cX8_sentence 57 = .ok (.getfield 27, 3) := by decide +kernel
theorem dX8_sentence_60 : decode cX8_sentence 60 = .ok (.getfield 177, 3) := by decide +kernel
theorem dX8_sentence_63 : decode cX8_sentence 63 = .ok (.iload_n 1, 1) := by decide +kernel
theorem dX8_sentence_64 : decode cX8_sentence 64 = .ok (.iaload, 1) := by decide +kernel
theorem dX8_sentence_65 : decode cX8_sentence 65 = .ok (.ireturn, 1) := by decide +kernel
theorem dX8_sentence_66 : decode cX8_sentence 66 = .ok (.aload_n 0, 1) := by decide +kernel
theorem dX8_sentence_67 : decode cX8_sentence 67 = .ok (.getfield 27, 3) := by decide +kernel
theorem dX8_sentence_70 : decode cX8_sentence 70 = .ok (.getfield 180, 3) := by decide +kernel
theorem dX8_sentence_73 : decode cX8_sentence 73 = .ok (.iload_n 1, 1) := by decide +kernel
theorem dX8_sentence_74 : decode cX8_sentence 74 = .ok (.iaload, 1) := by decide +kernel
theorem dX8_sentence_75 : decode cX8_sentence 75 = .ok (.ireturn, 1) := by decide +kernel
theorem dX8_sentence_76 : decode cX8_sentence 76 = .ok (.aload_n 0, 1) := by decide +kernel
theorem dX8_sentence_77 : decode cX8_sentence 77 = .ok (.getfield 27, 3) := by decide +kernel
theorem dX8_sentence_80 : decode cX8_sentence 80 = .ok (.getfield 183, 3) := by decide +kernel
theorem dX8_sentence_83 : decode cX8_sentence 83 = .ok (.iload_n 1, 1) := by decide +kernel
theorem dX8_sentence_84 : decode cX8_sentence 84 = .ok (.laload, 1) := by decide +kernel
theorem dX8_sentence_85 : decode cX8_sentence 85 = .ok (.invokestatic 187, 3) := by decide +kernel
theorem dX8_sentence_88 : decode cX8_sentence 88 = .ok (.ireturn, 1) := by decide +kernel
theorem dX8_sentence_89 : decode cX8_sentence 89 = .ok (.aload_n 0, 1) := by decide +kernel
theorem dX8_sentence_90 : decode cX8_sentence 90 = .ok (.getfield 27, 3) := by decide +kernel
theorem dX8_sentence_93 : decode cX8_sentence 93 = .ok (.aload_n 0, 1) := by decide +kernel
theorem dX8_sentence_94 : decode cX8_sentence 94 = .ok (.getfield 27, 3) := by decide +kernel
theorem dX8_sentence_97 : decode cX8_sentence 97 = .ok (.getfield 183, 3) := by decide +kernel
theorem dX8_sentence_100 : decode cX8_sentence 100 = .ok (.iload_n 1, 1) := by decide +kernel
theorem dX8_sentence_101 : decode cX8_sentence 101 = .ok (.laload, 1) := by decide +kernel
theorem dX8_sentence_102 : decode cX8_sentence 102 = .ok (.invokevirtual 193, 3) := by decide +kernel
theorem dX8_sentence_105 : decode cX8_sentence 105 = .ok (.ireturn, 1) := by decide +kernel
theorem dX8_sentence_106 : decode cX8_sentence 106 = .ok (.aload_n 0, 1) := by decide +kernel
theorem dX8_sentence_107 : decode cX8_sentence 107 = .ok (.getfield 27, 3) := by decide +kernel
theorem dX8_sentence_110 : decode cX8_sentence 110 = .ok (.getfield 148, 3) := by decide +kernel
theorem dX8_sentence_113 : decode cX8_sentence 113 = .ok (.iload_n 1, 1) := by decide +kernel
theorem dX8_sentence_114 : decode cX8_sentence 114 = .ok (.iaload, 1) := by decide +kernel
theorem dX8_sentence_115 : decode cX8_sentence 115 = .ok (.ireturn, 1) := by decide +kernel
theorem dX8_sentence_116 : decode cX8_sentence 116 = .ok (.aload_n 0, 1) := by decide +kernel
theorem dX8_sentence_117 : decode cX8_sentence 117 = .ok (.getfield 27, 3) := by decide +kernel
theorem dX8_sentence_120 : decode cX8_sentence 120 = .ok (.iload_n 1, 1) := by decide +kernel
theorem dX8_sentence_121 : decode cX8_sentence 121 = .ok (.aload_n 0, 1) := by decide +kernel
theorem dX8_sentence_122 : decode cX8_sentence 122 = .ok (.getfield 27, 3) := by decide +kernel
theorem dX8_sentence_125 : decode cX8_sentence 125 = .ok (.getfield 133, 3) := by decide +kernel
theorem dX8_sentence_128 : decode cX8_sentence 128 = .ok (.invokevirtual 144, 3) := by decide +kernel
theorem dX8_sentence_131 : decode cX8_sentence 131 = .ok (.ireturn, 1) := by decide +kernel
theorem dX8_sentence_132 : decode cX8_sentence 132 = .ok (.aload_n 0, 1) := by decide +kernel
theorem dX8_sentence_133 : decode cX8_sentence 133 = .ok (.getfield 27, 3) := by decide +kernel
theorem dX8_sentence_136 : decode cX8_sentence 136 = .ok (.iload_n 1, 1) := by decide +kernel
theorem dX8_sentence_137 : decode cX8_sentence 137 = .ok (.aload_n 0, 1) := by decide +kernel
theorem dX8_sentence_138 : decode cX8_sentence 138 = .ok (.getfield 27, 3) := by decide +kernel
theorem dX8_sentence_141 : decode cX8_sentence 141 = .ok (.getfield 133, 3) := by decide +kernel
theorem dX8_sentence_144 : decode cX8_sentence 144 = .ok (.invokevirtual 196, 3) := by decide +kernel
theorem dX8_sentence_147 : decode cX8_sentence 147 = .ok (.ireturn, 1) := by decide +kernel
theorem dX8_sentence_148 : decode cX8_sentence 148 = .ok (.aload_n 0, 1) := by decide +kernel
theorem dX8_sentence_149 : decode cX8_sentence 149 = .ok (.getfield 27, 3) := by decide +kernel
theorem dX8_sentence_152 : decode cX8_sentence 152 = .ok (.iload_n 1, 1) := by decide +kernel
theorem dX8_sentence_153 : decode cX8_sentence 153 = .ok (.aload_n 0, 1) := by decide +kernel
theorem dX8_sentence_154 : decode cX8_sentence 154 = .ok (.getfield 27, 3) := by decide +kernel
theorem dX8_sentence_157 : decode cX8_sentence 157 = .ok (.getfield 133, 3) := by decide +kernel
theorem dX8_sentence_160 : decode cX8_sentence 160 = .ok (.invokevirtual 136, 3) := by decide +kernel
theorem dX8_sentence_163 : decode cX8_sentence 163 = .ok (.ifCond .eq 7, 3) := by decide +kernel
theorem dX8_sentence_166 : decode cX8_sentence 166 = .ok (.iconst 1, 1) := by decide +kernel
theorem dX8_sentence_167 : decode cX8_sentence 167 = .ok (.goto 4, 3) := by decide +kernel
theorem dX8_sentence_170 : decode cX8_sentence 170 = .ok (.iconst 0, 1) := by decide +kernel
theorem dX8_sentence_171 : decode cX8_sentence 171 = .ok (.ireturn, 1) := by decide +kernel
theorem dX8_words_0 : decode cX8_words 0 = .ok (.aload_n 0, 1) := by decide +kernel
theorem dX8_words_1 : decode cX8_words 1 = .ok (.iload_n 1, 1) := by decide +kernel
theorem dX8_words_2 : decode cX8_words 2 = .ok (.invokevirtual 130, 3) := by decide +kernel
theorem dX8_words_5 : decode cX8_words 5 = .ok (.aload_n 0, 1) := by decide +kernel
theorem dX8_words_6 : decode cX8_words 6 = .ok (.getfield 27, 3) := by decide +kernel
theorem dX8_words_9 : decode cX8_words 9 = .ok (.getfield 183, 3) := by decide +kernel
theorem dX8_words_12 : decode cX8_words 12 = .ok (.iload_n 1, 1) := by decide +kernel
theorem dX8_words_13 : decode cX8_words 13 = .ok (.laload, 1) := by decide +kernel
theorem dX8_words_14 : decode cX8_words 14 = .ok (.lreturn, 1) := by decide +kernel
theorem dX8_word_0 : decode cX8_word 0 = .ok (.aload_n 0, 1) := by decide +kernel
theorem dX8_word_1 : decode cX8_word 1 = .ok (.iload_n 1, 1) := by decide +kernel
theorem dX8_word_2 : decode cX8_word 2 = .ok (.invokevirtual 114, 3) := by decide +kernel
theorem dX8_word_5 : decode cX8_word 5 = .ok (.aload_n 0, 1) := by decide +kernel
theorem dX8_word_6 : decode cX8_word 6 = .ok (.iload_n 2, 1) := by decide +kernel
theorem dX8_word_7 : decode cX8_word 7 = .ok (.iconst 0, 1) := by decide +kernel
theorem dX8_word_8 : decode cX8_word 8 = .ok (.iconst 3, 1) := by decide +kernel
theorem dX8_word_9 : decode cX8_word 9 = .ok (.invokevirtual 84, 3) := by decide +kernel
theorem dX8_word_12 : decode cX8_word 12 = .ok (.iload_n 2, 1) := by decide +kernel
theorem dX8_word_13 : decode cX8_word 13 = .ok (.tableswitch 55 0 2 #[27, 37, 46], 27) := by decide +kernel
theorem dX8_word_40 : decode cX8_word 40 = .ok (.aload_n 0, 1) := by decide +kernel
theorem dX8_word_41 : decode cX8_word 41 = .ok (.getfield 27, 3) := by decide +kernel
theorem dX8_word_44 : decode cX8_word 44 = .ok (.getfield 117, 3) := by decide +kernel
theorem dX8_word_47 : decode cX8_word 47 = .ok (.iload_n 1, 1) := by decide +kernel
theorem dX8_word_48 : decode cX8_word 48 = .ok (.iaload, 1) := by decide +kernel
theorem dX8_word_49 : decode cX8_word 49 = .ok (.ireturn, 1) := by decide +kernel
theorem dX8_word_50 : decode cX8_word 50 = .ok (.aload_n 0, 1) := by decide +kernel
theorem dX8_word_51 : decode cX8_word 51 = .ok (.getfield 27, 3) := by decide +kernel
theorem dX8_word_54 : decode cX8_word 54 = .ok (.iload_n 1, 1) := by decide +kernel
theorem dX8_word_55 : decode cX8_word 55 = .ok (.invokevirtual 199, 3) := by decide +kernel
theorem dX8_word_58 : decode cX8_word 58 = .ok (.ireturn, 1) := by decide +kernel
theorem dX8_word_59 : decode cX8_word 59 = .ok (.aload_n 0, 1) := by decide +kernel
theorem dX8_word_60 : decode cX8_word 60 = .ok (.getfield 27, 3) := by decide +kernel
theorem dX8_word_63 : decode cX8_word 63 = .ok (.iload_n 1, 1) := by decide +kernel
theorem dX8_word_64 : decode cX8_word 64 = .ok (.invokevirtual 202, 3) := by decide +kernel
theorem dX8_word_67 : decode cX8_word 67 = .ok (.ireturn, 1) := by decide +kernel
theorem dX8_word_68 : decode cX8_word 68 = .ok (.aload_n 0, 1) := by decide +kernel
theorem dX8_word_69 : decode cX8_word 69 = .ok (.getfield 27, 3) := by decide +kernel
theorem dX8_word_72 : decode cX8_word 72 = .ok (.iload_n 1, 1) := by decide +kernel
theorem dX8_word_73 : decode cX8_word 73 = .ok (.invokevirtual 120, 3) := by decide +kernel
theorem dX8_word_76 : decode cX8_word 76 = .ok (.ifCond .eq 7, 3) := by decide +kernel
theorem dX8_word_79 : decode cX8_word 79 = .ok (.iconst 1, 1) := by decide +kernel
theorem dX8_word_80 : decode cX8_word 80 = .ok (.goto 4, 3) := by decide +kernel
theorem dX8_word_83 : decode cX8_word 83 = .ok (.iconst 0, 1) := by decide +kernel
theorem dX8_word_84 : decode cX8_word 84 = .ok (.ireturn, 1) := by decide +kernel
theorem dX8_letter_0 : decode cX8_letter 0 = .ok (.aload_n 0, 1) := by decide +kernel
theorem dX8_letter_1 : decode cX8_letter 1 = .ok (.iload_n 1, 1) := by decide +kernel
theorem dX8_letter_2 : decode cX8_letter 2 = .ok (.invokevirtual 114, 3) := by decide +kernel
theorem dX8_letter_5 : decode cX8_letter 5 = .ok (.aload_n 0, 1) := by decide +kernel
theorem dX8_letter_6 : decode cX8_letter 6 = .ok (.iload_n 2, 1) := by decide +kernel
theorem dX8_letter_7 : decode cX8_letter 7 = .ok (.ifCond .lt 19, 3) := by decide +kernel
theorem dX8_letter_10 : decode cX8_letter 10 = .ok (.iload_n 2, 1) := by decide +kernel
theorem dX8_letter_11 : decode cX8_letter 11 = .ok (.aload_n 0, 1) := by decide +kernel
theorem dX8_letter_12 : decode cX8_letter 12 = .ok (.getfield 27, 3) := by decide +kernel
theorem dX8_letter_15 : decode cX8_letter 15 = .ok (.iload_n 1, 1) := by decide +kernel
theorem dX8_letter_16 : decode cX8_letter 16 = .ok (.invokevirtual 199, 3) := by decide +kernel
theorem dX8_letter_19 : decode cX8_letter 19 = .ok (.if_icmp .ge 7, 3) := by decide +kernel
theorem dX8_letter_22 : decode cX8_letter 22 = .ok (.iconst 1, 1) := by decide +kernel
theorem dX8_letter_23 : decode cX8_letter 23 = .ok (.goto 4, 3) := by decide +kernel
theorem dX8_letter_26 : decode cX8_letter 26 = .ok (.iconst 0, 1) := by decide +kernel
theorem dX8_letter_27 : decode cX8_letter 27 = .ok (.invokevirtual 205, 3) := by decide +kernel
theorem dX8_letter_30 : decode cX8_letter 30 = .ok (.aload_n 0, 1) := by decide +kernel
theorem dX8_letter_31 : decode cX8_letter 31 = .ok (.getfield 27, 3) := by decide +kernel
theorem dX8_letter_34 : decode cX8_letter 34 = .ok (.iload_n 1, 1) := by decide +kernel
theorem dX8_letter_35 : decode cX8_letter 35 = .ok (.iload_n 2, 1) := by decide +kernel
theorem dX8_letter_36 : decode cX8_letter 36 = .ok (.invokevirtual 208, 3) := by decide +kernel
theorem dX8_letter_39 : decode cX8_letter 39 = .ok (.ireturn, 1) := by decide +kernel
theorem dX8_greedy_0 : decode cX8_greedy 0 = .ok (.aload_n 0, 1) := by decide +kernel
theorem dX8_greedy_1 : decode cX8_greedy 1 = .ok (.iload_n 1, 1) := by decide +kernel
theorem dX8_greedy_2 : decode cX8_greedy 2 = .ok (.iconst 0, 1) := by decide +kernel
theorem dX8_greedy_3 : decode cX8_greedy 3 = .ok (.iconst 2, 1) := by decide +kernel
theorem dX8_greedy_4 : decode cX8_greedy 4 = .ok (.invokevirtual 84, 3) := by decide +kernel
theorem dX8_greedy_7 : decode cX8_greedy 7 = .ok (.aload_n 0, 1) := by decide +kernel
theorem dX8_greedy_8 : decode cX8_greedy 8 = .ok (.iload_n 2, 1) := by decide +kernel
theorem dX8_greedy_9 : decode cX8_greedy 9 = .ok (.iconst 0, 1) := by decide +kernel
theorem dX8_greedy_10 : decode cX8_greedy 10 = .ok (.iconst 3, 1) := by decide +kernel
theorem dX8_greedy_11 : decode cX8_greedy 11 = .ok (.invokevirtual 84, 3) := by decide +kernel
theorem dX8_greedy_14 : decode cX8_greedy 14 = .ok (.aload_n 0, 1) := by decide +kernel
theorem dX8_greedy_15 : decode cX8_greedy 15 = .ok (.getfield 48, 3) := by decide +kernel
theorem dX8_greedy_18 : decode cX8_greedy 18 = .ok (.aload_n 0, 1) := by decide +kernel
theorem dX8_greedy_19 : decode cX8_greedy 19 = .ok (.getfield 27, 3) := by decide +kernel
theorem dX8_greedy_22 : decode cX8_greedy 22 = .ok (.iload_n 1, 1) := by decide +kernel
theorem dX8_greedy_23 : decode cX8_greedy 23 = .ok (.invokevirtual 211, 3) := by decide +kernel
theorem dX8_greedy_26 : decode cX8_greedy 26 = .ok (.iload_n 2, 1) := by decide +kernel
theorem dX8_greedy_27 : decode cX8_greedy 27 = .ok (.tableswitch 63 0 2 #[25, 33, 48], 25) := by decide +kernel
theorem dX8_greedy_52 : decode cX8_greedy 52 = .ok (.aload_n 0, 1) := by decide +kernel
theorem dX8_greedy_53 : decode cX8_greedy 53 = .ok (.getfield 48, 3) := by decide +kernel
theorem dX8_greedy_56 : decode cX8_greedy 56 = .ok (.getfield 215, 3) := by decide +kernel
theorem dX8_greedy_59 : decode cX8_greedy 59 = .ok (.ireturn, 1) := by decide +kernel
theorem dX8_greedy_60 : decode cX8_greedy 60 = .ok (.aload_n 0, 1) := by decide +kernel
theorem dX8_greedy_61 : decode cX8_greedy 61 = .ok (.getfield 27, 3) := by decide +kernel
theorem dX8_greedy_64 : decode cX8_greedy 64 = .ok (.aload_n 0, 1) := by decide +kernel
theorem dX8_greedy_65 : decode cX8_greedy 65 = .ok (.getfield 48, 3) := by decide +kernel
theorem dX8_greedy_68 : decode cX8_greedy 68 = .ok (.getfield 215, 3) := by decide +kernel
theorem dX8_greedy_71 : decode cX8_greedy 71 = .ok (.invokevirtual 154, 3) := by decide +kernel
theorem dX8_greedy_74 : decode cX8_greedy 74 = .ok (.ireturn, 1) := by decide +kernel
theorem dX8_greedy_75 : decode cX8_greedy 75 = .ok (.aload_n 0, 1) := by decide +kernel
theorem dX8_greedy_76 : decode cX8_greedy 76 = .ok (.getfield 27, 3) := by decide +kernel
theorem dX8_greedy_79 : decode cX8_greedy 79 = .ok (.aload_n 0, 1) := by decide +kernel
theorem dX8_greedy_80 : decode cX8_greedy 80 = .ok (.getfield 48, 3) := by decide +kernel
theorem dX8_greedy_83 : decode cX8_greedy 83 = .ok (.getfield 215, 3) := by decide +kernel
theorem dX8_greedy_86 : decode cX8_greedy 86 = .ok (.invokevirtual 174, 3) := by decide +kernel
theorem dX8_greedy_89 : decode cX8_greedy 89 = .ok (.ireturn, 1) := by decide +kernel
theorem dX8_greedy_90 : decode cX8_greedy 90 = .ok (.aload_n 0, 1) := by decide +kernel
theorem dX8_greedy_91 : decode cX8_greedy 91 = .ok (.getfield 48, 3) := by decide +kernel
theorem dX8_greedy_94 : decode cX8_greedy 94 = .ok (.getfield 218, 3) := by decide +kernel
theorem dX8_greedy_97 : decode cX8_greedy 97 = .ok (.ireturn, 1) := by decide +kernel
theorem dX8_step_0 : decode cX8_step 0 = .ok (.aload_n 0, 1) := by decide +kernel
theorem dX8_step_1 : decode cX8_step 1 = .ok (.iload_n 1, 1) := by decide +kernel
theorem dX8_step_2 : decode cX8_step 2 = .ok (.iconst 0, 1) := by decide +kernel
theorem dX8_step_3 : decode cX8_step 3 = .ok (.iconst 2, 1) := by decide +kernel
theorem dX8_step_4 : decode cX8_step 4 = .ok (.invokevirtual 84, 3) := by decide +kernel
theorem dX8_step_7 : decode cX8_step 7 = .ok (.aload_n 0, 1) := by decide +kernel
theorem dX8_step_8 : decode cX8_step 8 = .ok (.getfield 48, 3) := by decide +kernel
theorem dX8_step_11 : decode cX8_step 11 = .ok (.aload_n 0, 1) := by decide +kernel
theorem dX8_step_12 : decode cX8_step 12 = .ok (.getfield 27, 3) := by decide +kernel
theorem dX8_step_15 : decode cX8_step 15 = .ok (.iload_n 1, 1) := by decide +kernel
theorem dX8_step_16 : decode cX8_step 16 = .ok (.invokevirtual 211, 3) := by decide +kernel
theorem dX8_step_19 : decode cX8_step 19 = .ok (.aload_n 0, 1) := by decide +kernel
theorem dX8_step_20 : decode cX8_step 20 = .ok (.iload_n 2, 1) := by decide +kernel
theorem dX8_step_21 : decode cX8_step 21 = .ok (.ifCond .lt 18, 3) := by decide +kernel
theorem dX8_step_24 : decode cX8_step 24 = .ok (.iload_n 2, 1) := by decide +kernel
theorem dX8_step_25 : decode cX8_step 25 = .ok (.aload_n 0, 1) := by decide +kernel
theorem dX8_step_26 : decode cX8_step 26 = .ok (.getfield 48, 3) := by decide +kernel
theorem dX8_step_29 : decode cX8_step 29 = .ok (.getfield 218, 3) := by decide +kernel
theorem dX8_step_32 : decode cX8_step 32 = .ok (.if_icmp .ge 7, 3) := by decide +kernel
theorem dX8_step_35 : decode cX8_step 35 = .ok (.iconst 1, 1) := by decide +kernel
theorem dX8_step_36 : decode cX8_step 36 = .ok (.goto 4, 3) := by decide +kernel
theorem dX8_step_39 : decode cX8_step 39 = .ok (.iconst 0, 1) := by decide +kernel
theorem dX8_step_40 : decode cX8_step 40 = .ok (.invokevirtual 205, 3) := by decide +kernel
theorem dX8_step_43 : decode cX8_step 43 = .ok (.aload_n 0, 1) := by decide +kernel
theorem dX8_step_44 : decode cX8_step 44 = .ok (.getfield 48, 3) := by decide +kernel
theorem dX8_step_47 : decode cX8_step 47 = .ok (.getfield 221, 3) := by decide +kernel
theorem dX8_step_50 : decode cX8_step 50 = .ok (.iload_n 2, 1) := by decide +kernel
theorem dX8_step_51 : decode cX8_step 51 = .ok (.iaload, 1) := by decide +kernel
theorem dX8_step_52 : decode cX8_step 52 = .ok (.ireturn, 1) := by decide +kernel
theorem dX8_lazy_0 : decode cX8_lazy 0 = .ok (.aload_n 0, 1) := by decide +kernel
theorem dX8_lazy_1 : decode cX8_lazy 1 = .ok (.iload_n 1, 1) := by decide +kernel
theorem dX8_lazy_2 : decode cX8_lazy 2 = .ok (.iconst 0, 1) := by decide +kernel
theorem dX8_lazy_3 : decode cX8_lazy 3 = .ok (.iconst 2, 1) := by decide +kernel
theorem dX8_lazy_4 : decode cX8_lazy 4 = .ok (.invokevirtual 84, 3) := by decide +kernel
theorem dX8_lazy_7 : decode cX8_lazy 7 = .ok (.iload_n 1, 1) := by decide +kernel
theorem dX8_lazy_8 : decode cX8_lazy 8 = .ok (.iconst 2, 1) := by decide +kernel
theorem dX8_lazy_9 : decode cX8_lazy 9 = .ok (.if_icmp .ne 23, 3) := by decide +kernel
theorem dX8_lazy_12 : decode cX8_lazy 12 = .ok (.aload_n 0, 1) := by decide +kernel
theorem dX8_lazy_13 : decode cX8_lazy 13 = .ok (.getfield 48, 3) := by decide +kernel
theorem dX8_lazy_16 : decode cX8_lazy 16 = .ok (.aload_n 0, 1) := by decide +kernel
theorem dX8_lazy_17 : decode cX8_lazy 17 = .ok (.getfield 27, 3) := by decide +kernel
theorem dX8_lazy_20 : decode cX8_lazy 20 = .ok (.iconst 1, 1) := by decide +kernel
theorem dX8_lazy_21 : decode cX8_lazy 21 = .ok (.invokevirtual 211, 3) := by decide +kernel
theorem dX8_lazy_24 : decode cX8_lazy 24 = .ok (.aload_n 0, 1) := by decide +kernel
theorem dX8_lazy_25 : decode cX8_lazy 25 = .ok (.getfield 48, 3) := by decide +kernel
theorem dX8_lazy_28 : decode cX8_lazy 28 = .ok (.getfield 224, 3) := by decide +kernel
theorem dX8_lazy_31 : decode cX8_lazy 31 = .ok (.ireturn, 1) := by decide +kernel
theorem dX8_lazy_32 : decode cX8_lazy 32 = .ok (.aload_n 0, 1) := by decide +kernel
theorem dX8_lazy_33 : decode cX8_lazy 33 = .ok (.getfield 55, 3) := by decide +kernel
theorem dX8_lazy_36 : decode cX8_lazy 36 = .ok (.aload_n 0, 1) := by decide +kernel
theorem dX8_lazy_37 : decode cX8_lazy 37 = .ok (.getfield 27, 3) := by decide +kernel
theorem dX8_lazy_40 : decode cX8_lazy 40 = .ok (.invokevirtual 227, 3) := by decide +kernel
theorem dX8_lazy_43 : decode cX8_lazy 43 = .ok (.iload_n 1, 1) := by decide +kernel
theorem dX8_lazy_44 : decode cX8_lazy 44 = .ok (.ifCond .ne 13, 3) := by decide +kernel
theorem dX8_lazy_47 : decode cX8_lazy 47 = .ok (.aload_n 0, 1) := by decide +kernel
theorem dX8_lazy_48 : decode cX8_lazy 48 = .ok (.getfield 55, 3) := by decide +kernel
theorem dX8_lazy_51 : decode cX8_lazy 51 = .ok (.getfield 229, 3) := by decide +kernel
theorem dX8_lazy_54 : decode cX8_lazy 54 = .ok (.goto 10, 3) := by decide +kernel
theorem dX8_lazy_57 : decode cX8_lazy 57 = .ok (.aload_n 0, 1) := by decide +kernel
theorem dX8_lazy_58 : decode cX8_lazy 58 = .ok (.getfield 55, 3) := by decide +kernel
theorem dX8_lazy_61 : decode cX8_lazy 61 = .ok (.getfield 230, 3) := by decide +kernel
theorem dX8_lazy_64 : decode cX8_lazy 64 = .ok (.ireturn, 1) := by decide +kernel
theorem dX8_bound_0 : decode cX8_bound 0 = .ok (.aload_n 0, 1) := by decide +kernel
theorem dX8_bound_1 : decode cX8_bound 1 = .ok (.iload_n 1, 1) := by decide +kernel
theorem dX8_bound_2 : decode cX8_bound 2 = .ok (.iconst 0, 1) := by decide +kernel
theorem dX8_bound_3 : decode cX8_bound 3 = .ok (.iconst 3, 1) := by decide +kernel
theorem dX8_bound_4 : decode cX8_bound 4 = .ok (.invokevirtual 84, 3) := by decide +kernel
theorem dX8_bound_7 : decode cX8_bound 7 = .ok (.iload_n 1, 1) := by decide +kernel
theorem dX8_bound_8 : decode cX8_bound 8 = .ok (.ifCond .ne 13, 3) := by decide +kernel
theorem dX8_bound_11 : decode cX8_bound 11 = .ok (.aload_n 0, 1) := by decide +kernel
theorem dX8_bound_12 : decode cX8_bound 12 = .ok (.getfield 27, 3) := by decide +kernel
theorem dX8_bound_15 : decode cX8_bound 15 = .ok (.iconst 0, 1) := by decide +kernel
theorem dX8_bound_16 : decode cX8_bound 16 = .ok (.iconst 0, 1) := by decide +kernel
theorem dX8_bound_17 : decode cX8_bound 17 = .ok (.invokestatic 231, 3) := by decide +kernel
theorem dX8_bound_20 : decode cX8_bound 20 = .ok (.ireturn, 1) := by decide +kernel
theorem dX8_bound_21 : decode cX8_bound 21 = .ok (.aload_n 0, 1) := by decide +kernel
theorem dX8_bound_22 : decode cX8_bound 22 = .ok (.getfield 48, 3) := by decide +kernel
theorem dX8_bound_25 : decode cX8_bound 25 = .ok (.aload_n 0, 1) := by decide +kernel
theorem dX8_bound_26 : decode cX8_bound 26 = .ok (.getfield 27, 3) := by decide +kernel
theorem dX8_bound_29 : decode cX8_bound 29 = .ok (.iconst 1, 1) := by decide +kernel
theorem dX8_bound_30 : decode cX8_bound 30 = .ok (.invokevirtual 211, 3) := by decide +kernel
theorem dX8_bound_33 : decode cX8_bound 33 = .ok (.aload_n 0, 1) := by decide +kernel
theorem dX8_bound_34 : decode cX8_bound 34 = .ok (.getfield 62, 3) := by decide +kernel
theorem dX8_bound_37 : decode cX8_bound 37 = .ok (.aload_n 0, 1) := by decide +kernel
theorem dX8_bound_38 : decode cX8_bound 38 = .ok (.getfield 27, 3) := by decide +kernel
theorem dX8_bound_41 : decode cX8_bound 41 = .ok (.aload_n 0, 1) := by decide +kernel
theorem dX8_bound_42 : decode cX8_bound 42 = .ok (.getfield 48, 3) := by decide +kernel
theorem dX8_bound_45 : decode cX8_bound 45 = .ok (.invokevirtual 235, 3) := by decide +kernel
theorem dX8_bound_48 : decode cX8_bound 48 = .ok (.iload_n 1, 1) := by decide +kernel
theorem dX8_bound_49 : decode cX8_bound 49 = .ok (.iconst 1, 1) := by decide +kernel
theorem dX8_bound_50 : decode cX8_bound 50 = .ok (.if_icmp .ne 11, 3) := by decide +kernel
theorem dX8_bound_53 : decode cX8_bound 53 = .ok (.aload_n 0, 1) := by decide +kernel
theorem dX8_bound_54 : decode cX8_bound 54 = .ok (.getfield 62, 3) := by decide +kernel
theorem dX8_bound_57 : decode cX8_bound 57 = .ok (.getfield 238, 3) := by decide +kernel
theorem dX8_bound_60 : decode cX8_bound 60 = .ok (.ireturn, 1) := by decide +kernel
theorem dX8_bound_61 : decode cX8_bound 61 = .ok (.iload_n 1, 1) := by decide +kernel
theorem dX8_bound_62 : decode cX8_bound 62 = .ok (.iconst 2, 1) := by decide +kernel
theorem dX8_bound_63 : decode cX8_bound 63 = .ok (.if_icmp .ne 11, 3) := by decide +kernel
theorem dX8_bound_66 : decode cX8_bound 66 = .ok (.aload_n 0, 1) := by decide +kernel
theorem dX8_bound_67 : decode cX8_bound 67 = .ok (.getfield 62, 3) := by decide +kernel
theorem dX8_bound_70 : decode cX8_bound 70 = .ok (.getfield 241, 3) := by decide +kernel
theorem dX8_bound_73 : decode cX8_bound 73 = .ok (.ireturn, 1) := by decide +kernel
theorem dX8_bound_74 : decode cX8_bound 74 = .ok (.aload_n 0, 1) := by decide +kernel
theorem dX8_bound_75 : decode cX8_bound 75 = .ok (.getfield 62, 3) := by decide +kernel
theorem dX8_bound_78 : decode cX8_bound 78 = .ok (.getfield 238, 3) := by decide +kernel
theorem dX8_bound_81 : decode cX8_bound 81 = .ok (.ifCond .ne 7, 3) := by decide +kernel
theorem dX8_bound_84 : decode cX8_bound 84 = .ok (.sipush 1000, 3) := by decide +kernel
theorem dX8_bound_87 : decode cX8_bound 87 = .ok (.ireturn, 1) := by decide +kernel
theorem dX8_bound_88 : decode cX8_bound 88 = .ok (.aload_n 0, 1) := by decide +kernel
theorem dX8_bound_89 : decode cX8_bound 89 = .ok (.getfield 48, 3) := by decide +kernel
theorem dX8_bound_92 : decode cX8_bound 92 = .ok (.aload_n 0, 1) := by decide +kernel
theorem dX8_bound_93 : decode cX8_bound 93 = .ok (.getfield 27, 3) := by decide +kernel
theorem dX8_bound_96 : decode cX8_bound 96 = .ok (.iconst 2, 1) := by decide +kernel
theorem dX8_bound_97 : decode cX8_bound 97 = .ok (.invokevirtual 211, 3) := by decide +kernel
theorem dX8_bound_100 : decode cX8_bound 100 = .ok (.aload_n 0, 1) := by decide +kernel
theorem dX8_bound_101 : decode cX8_bound 101 = .ok (.getfield 27, 3) := by decide +kernel
theorem dX8_bound_104 : decode cX8_bound 104 = .ok (.aload_n 0, 1) := by decide +kernel
theorem dX8_bound_105 : decode cX8_bound 105 = .ok (.getfield 48, 3) := by decide +kernel
theorem dX8_bound_108 : decode cX8_bound 108 = .ok (.getfield 215, 3) := by decide +kernel
theorem dX8_bound_111 : decode cX8_bound 111 = .ok (.invokevirtual 154, 3) := by decide +kernel
theorem dX8_bound_114 : decode cX8_bound 114 = .ok (.sipush 1000, 3) := by decide +kernel
theorem dX8_bound_117 : decode cX8_bound 117 = .ok (.imul, 1) := by decide +kernel
theorem dX8_bound_118 : decode cX8_bound 118 = .ok (.aload_n 0, 1) := by decide +kernel
theorem dX8_bound_119 : decode cX8_bound 119 = .ok (.getfield 62, 3) := by decide +kernel
theorem dX8_bound_122 : decode cX8_bound 122 = .ok (.getfield 238, 3) := by decide +kernel
theorem dX8_bound_125 : decode cX8_bound 125 = .ok (.idiv, 1) := by decide +kernel
theorem dX8_bound_126 : decode cX8_bound 126 = .ok (.ireturn, 1) := by decide +kernel
theorem dX8_best_0 : decode cX8_best 0 = .ok (.aload_n 0, 1) := by decide +kernel
theorem dX8_best_1 : decode cX8_best 1 = .ok (.iload_n 1, 1) := by decide +kernel
theorem dX8_best_2 : decode cX8_best 2 = .ok (.iconst 0, 1) := by decide +kernel
theorem dX8_best_3 : decode cX8_best 3 = .ok (.sipush 9999, 3) := by decide +kernel
theorem dX8_best_6 : decode cX8_best 6 = .ok (.invokevirtual 84, 3) := by decide +kernel
theorem dX8_best_9 : decode cX8_best 9 = .ok (.aload_n 0, 1) := by decide +kernel
theorem dX8_best_10 : decode cX8_best 10 = .ok (.iload_n 2, 1) := by decide +kernel
theorem dX8_best_11 : decode cX8_best 11 = .ok (.iconst 0, 1) := by decide +kernel
theorem dX8_best_12 : decode cX8_best 12 = .ok (.iconst 2, 1) := by decide +kernel
theorem dX8_best_13 : decode cX8_best 13 = .ok (.invokevirtual 84, 3) := by decide +kernel
theorem dX8_best_16 : decode cX8_best 16 = .ok (.aload_n 0, 1) := by decide +kernel
theorem dX8_best_17 : decode cX8_best 17 = .ok (.getfield 69, 3) := by decide +kernel
theorem dX8_best_20 : decode cX8_best 20 = .ok (.aload_n 0, 1) := by decide +kernel
theorem dX8_best_21 : decode cX8_best 21 = .ok (.getfield 27, 3) := by decide +kernel
theorem dX8_best_24 : decode cX8_best 24 = .ok (.iload_n 1, 1) := by decide +kernel
theorem dX8_best_25 : decode cX8_best 25 = .ok (.iconst (-1), 1) := by decide +kernel
theorem dX8_best_26 : decode cX8_best 26 = .ok (.invokevirtual 244, 3) := by decide +kernel
theorem dX8_best_29 : decode cX8_best 29 = .ok (.iload_n 2, 1) := by decide +kernel
theorem dX8_best_30 : decode cX8_best 30 = .ok (.ifCond .ne 11, 3) := by decide +kernel
theorem dX8_best_33 : decode cX8_best 33 = .ok (.aload_n 0, 1) := by decide +kernel
theorem dX8_best_34 : decode cX8_best 34 = .ok (.getfield 69, 3) := by decide +kernel
theorem dX8_best_37 : decode cX8_best 37 = .ok (.getfield 248, 3) := by decide +kernel
theorem dX8_best_40 : decode cX8_best 40 = .ok (.ireturn, 1) := by decide +kernel
theorem dX8_best_41 : decode cX8_best 41 = .ok (.iload_n 2, 1) := by decide +kernel
theorem dX8_best_42 : decode cX8_best 42 = .ok (.iconst 1, 1) := by decide +kernel
theorem dX8_best_43 : decode cX8_best 43 = .ok (.if_icmp .ne 13, 3) := by decide +kernel
theorem dX8_best_46 : decode cX8_best 46 = .ok (.aload_n 0, 1) := by decide +kernel
theorem dX8_best_47 : decode cX8_best 47 = .ok (.getfield 69, 3) := by decide +kernel
theorem dX8_best_50 : decode cX8_best 50 = .ok (.getfield 249, 3) := by decide +kernel
theorem dX8_best_53 : decode cX8_best 53 = .ok (.goto 10, 3) := by decide +kernel
theorem dX8_best_56 : decode cX8_best 56 = .ok (.aload_n 0, 1) := by decide +kernel
theorem dX8_best_57 : decode cX8_best 57 = .ok (.getfield 69, 3) := by decide +kernel
theorem dX8_best_60 : decode cX8_best 60 = .ok (.getfield 252, 3) := by decide +kernel
theorem dX8_best_63 : decode cX8_best 63 = .ok (.ireturn, 1) := by decide +kernel
theorem dX8_fewest_0 : decode cX8_fewest 0 = .ok (.aload_n 0, 1) := by decide +kernel
theorem dX8_fewest_1 : decode cX8_fewest 1 = .ok (.iload_n 1, 1) := by decide +kernel
theorem dX8_fewest_2 : decode cX8_fewest 2 = .ok (.iconst 0, 1) := by decide +kernel
theorem dX8_fewest_3 : decode cX8_fewest 3 = .ok (.iconst 2, 1) := by decide +kernel
theorem dX8_fewest_4 : decode cX8_fewest 4 = .ok (.invokevirtual 84, 3) := by decide +kernel
theorem dX8_fewest_7 : decode cX8_fewest 7 = .ok (.aload_n 0, 1) := by decide +kernel
theorem dX8_fewest_8 : decode cX8_fewest 8 = .ok (.getfield 69, 3) := by decide +kernel
theorem dX8_fewest_11 : decode cX8_fewest 11 = .ok (.aload_n 0, 1) := by decide +kernel
theorem dX8_fewest_12 : decode cX8_fewest 12 = .ok (.getfield 27, 3) := by decide +kernel
theorem dX8_fewest_15 : decode cX8_fewest 15 = .ok (.invokevirtual 255, 3) := by decide +kernel
theorem dX8_fewest_18 : decode cX8_fewest 18 = .ok (.iload_n 1, 1) := by decide +kernel
theorem dX8_fewest_19 : decode cX8_fewest 19 = .ok (.ifCond .ne 11, 3) := by decide +kernel
theorem dX8_fewest_22 : decode cX8_fewest 22 = .ok (.aload_n 0, 1) := by decide +kernel
theorem dX8_fewest_23 : decode cX8_fewest 23 = .ok (.getfield 69, 3) := by decide +kernel
theorem dX8_fewest_26 : decode cX8_fewest 26 = .ok (.getfield 248, 3) := by decide +kernel
theorem dX8_fewest_29 : decode cX8_fewest 29 = .ok (.ireturn, 1) := by decide +kernel
theorem dX8_fewest_30 : decode cX8_fewest 30 = .ok (.iload_n 1, 1) := by decide +kernel
theorem dX8_fewest_31 : decode cX8_fewest 31 = .ok (.iconst 1, 1) := by decide +kernel
theorem dX8_fewest_32 : decode cX8_fewest 32 = .ok (.if_icmp .ne 16, 3) := by decide +kernel
theorem dX8_fewest_35 : decode cX8_fewest 35 = .ok (.aload_n 0, 1) := by decide +kernel
theorem dX8_fewest_36 : decode cX8_fewest 36 = .ok (.getfield 69, 3) := by decide +kernel
theorem dX8_fewest_39 : decode cX8_fewest 39 = .ok (.getfield 248, 3) := by decide +kernel
theorem dX8_fewest_42 : decode cX8_fewest 42 = .ok (.invokestatic 258, 3) := by decide +kernel
theorem dX8_fewest_45 : decode cX8_fewest 45 = .ok (.goto 10, 3) := by decide +kernel
theorem dX8_fewest_48 : decode cX8_fewest 48 = .ok (.aload_n 0, 1) := by decide +kernel
theorem dX8_fewest_49 : decode cX8_fewest 49 = .ok (.getfield 69, 3) := by decide +kernel
theorem dX8_fewest_52 : decode cX8_fewest 52 = .ok (.getfield 252, 3) := by decide +kernel
theorem dX8_fewest_55 : decode cX8_fewest 55 = .ok (.ireturn, 1) := by decide +kernel
theorem dX8_shortest_0 : decode cX8_shortest 0 = .ok (.aload_n 0, 1) := by decide +kernel
theorem dX8_shortest_1 : decode cX8_shortest 1 = .ok (.iload_n 1, 1) := by decide +kernel
theorem dX8_shortest_2 : decode cX8_shortest 2 = .ok (.iconst 0, 1) := by decide +kernel
theorem dX8_shortest_3 : decode cX8_shortest 3 = .ok (.bipush 100, 2) := by decide +kernel
theorem dX8_shortest_5 : decode cX8_shortest 5 = .ok (.invokevirtual 84, 3) := by decide +kernel
theorem dX8_shortest_8 : decode cX8_shortest 8 = .ok (.aload_n 0, 1) := by decide +kernel
theorem dX8_shortest_9 : decode cX8_shortest 9 = .ok (.iload_n 2, 1) := by decide +kernel
theorem dX8_shortest_10 : decode cX8_shortest 10 = .ok (.iconst 0, 1) := by decide +kernel
theorem dX8_shortest_11 : decode cX8_shortest 11 = .ok (.iconst 2, 1) := by decide +kernel
theorem dX8_shortest_12 : decode cX8_shortest 12 = .ok (.invokevirtual 84, 3) := by decide +kernel
theorem dX8_shortest_15 : decode cX8_shortest 15 = .ok (.aload_n 0, 1) := by decide +kernel
theorem dX8_shortest_16 : decode cX8_shortest 16 = .ok (.getfield 27, 3) := by decide +kernel
theorem dX8_shortest_19 : decode cX8_shortest 19 = .ok (.aload_n 0, 1) := by decide +kernel
theorem dX8_shortest_20 : decode cX8_shortest 20 = .ok (.getfield 27, 3) := by decide +kernel
theorem dX8_shortest_23 : decode cX8_shortest 23 = .ok (.invokevirtual 170, 3) := by decide +kernel
theorem dX8_shortest_26 : decode cX8_shortest 26 = .ok (.invokevirtual 154, 3) := by decide +kernel
theorem dX8_shortest_29 : decode cX8_shortest 29 = .ok (.istore_n 3, 1) := by decide +kernel
theorem dX8_shortest_30 : decode cX8_shortest 30 = .ok (.aload_n 0, 1) := by decide +kernel
theorem dX8_shortest_31 : decode cX8_shortest 31 = .ok (.getfield 69, 3) := by decide +kernel
theorem dX8_shortest_34 : decode cX8_shortest 34 = .ok (.aload_n 0, 1) := by decide +kernel
theorem dX8_shortest_35 : decode cX8_shortest 35 = .ok (.getfield 27, 3) := by decide +kernel
theorem dX8_shortest_38 : decode cX8_shortest 38 = .ok (.iload_n 3, 1) := by decide +kernel
theorem dX8_shortest_39 : decode cX8_shortest 39 = .ok (.iload_n 1, 1) := by decide +kernel
theorem dX8_shortest_40 : decode cX8_shortest 40 = .ok (.imul, 1) := by decide +kernel
theorem dX8_shortest_41 : decode cX8_shortest 41 = .ok (.bipush 100, 2) := by decide +kernel
theorem dX8_shortest_43 : decode cX8_shortest 43 = .ok (.iadd, 1) := by decide +kernel
theorem dX8_shortest_44 : decode cX8_shortest 44 = .ok (.iconst 1, 1) := by decide +kernel
theorem dX8_shortest_45 : decode cX8_shortest 45 = .ok (.isub, 1) := by decide +kernel
theorem dX8_shortest_46 : decode cX8_shortest 46 = .ok (.bipush 100, 2) := by decide +kernel
theorem dX8_shortest_48 : decode cX8_shortest 48 = .ok (.idiv, 1) := by decide +kernel
theorem dX8_shortest_49 : decode cX8_shortest 49 = .ok (.invokevirtual 262, 3) := by decide +kernel
theorem dX8_shortest_52 : decode cX8_shortest 52 = .ok (.iload_n 2, 1) := by decide +kernel
theorem dX8_shortest_53 : decode cX8_shortest 53 = .ok (.ifCond .ne 11, 3) := by decide +kernel
theorem dX8_shortest_56 : decode cX8_shortest 56 = .ok (.aload_n 0, 1) := by decide +kernel
theorem dX8_shortest_57 : decode cX8_shortest 57 = .ok (.getfield 69, 3) := by decide +kernel
theorem dX8_shortest_60 : decode cX8_shortest 60 = .ok (.getfield 248, 3) := by decide +kernel
theorem dX8_shortest_63 : decode cX8_shortest 63 = .ok (.ireturn, 1) := by decide +kernel
theorem dX8_shortest_64 : decode cX8_shortest 64 = .ok (.iload_n 2, 1) := by decide +kernel
theorem dX8_shortest_65 : decode cX8_shortest 65 = .ok (.iconst 1, 1) := by decide +kernel
theorem dX8_shortest_66 : decode cX8_shortest 66 = .ok (.if_icmp .ne 13, 3) := by decide +kernel
theorem dX8_shortest_69 : decode cX8_shortest 69 = .ok (.aload_n 0, 1) := by decide +kernel
theorem dX8_shortest_70 : decode cX8_shortest 70 = .ok (.getfield 69, 3) := by decide +kernel
theorem dX8_shortest_73 : decode cX8_shortest 73 = .ok (.getfield 249, 3) := by decide +kernel
theorem dX8_shortest_76 : decode cX8_shortest 76 = .ok (.goto 10, 3) := by decide +kernel
theorem dX8_shortest_79 : decode cX8_shortest 79 = .ok (.aload_n 0, 1) := by decide +kernel
theorem dX8_shortest_80 : decode cX8_shortest 80 = .ok (.getfield 69, 3) := by decide +kernel
theorem dX8_shortest_83 : decode cX8_shortest 83 = .ok (.getfield 252, 3) := by decide +kernel
theorem dX8_shortest_86 : decode cX8_shortest 86 = .ok (.ireturn, 1) := by decide +kernel
theorem dX8_worth_0 : decode cX8_worth 0 = .ok (.aload_n 0, 1) := by decide +kernel
theorem dX8_worth_1 : decode cX8_worth 1 = .ok (.iload_n 1, 1) := by decide +kernel
theorem dX8_worth_2 : decode cX8_worth 2 = .ok (.invokevirtual 130, 3) := by decide +kernel
theorem dX8_worth_5 : decode cX8_worth 5 = .ok (.aload_n 0, 1) := by decide +kernel
theorem dX8_worth_6 : decode cX8_worth 6 = .ok (.getfield 69, 3) := by decide +kernel
theorem dX8_worth_9 : decode cX8_worth 9 = .ok (.aload_n 0, 1) := by decide +kernel
theorem dX8_worth_10 : decode cX8_worth 10 = .ok (.getfield 27, 3) := by decide +kernel
theorem dX8_worth_13 : decode cX8_worth 13 = .ok (.aload_n 0, 1) := by decide +kernel
theorem dX8_worth_14 : decode cX8_worth 14 = .ok (.getfield 27, 3) := by decide +kernel
theorem dX8_worth_17 : decode cX8_worth 17 = .ok (.getfield 102, 3) := by decide +kernel
theorem dX8_worth_20 : decode cX8_worth 20 = .ok (.iconst (-1), 1) := by decide +kernel
theorem dX8_worth_21 : decode cX8_worth 21 = .ok (.invokevirtual 244, 3) := by decide +kernel
theorem dX8_worth_24 : decode cX8_worth 24 = .ok (.aload_n 0, 1) := by decide +kernel
theorem dX8_worth_25 : decode cX8_worth 25 = .ok (.getfield 69, 3) := by decide +kernel
theorem dX8_worth_28 : decode cX8_worth 28 = .ok (.getfield 249, 3) := by decide +kernel
theorem dX8_worth_31 : decode cX8_worth 31 = .ok (.istore_n 2, 1) := by decide +kernel
theorem dX8_worth_32 : decode cX8_worth 32 = .ok (.iload_n 1, 1) := by decide +kernel
theorem dX8_worth_33 : decode cX8_worth 33 = .ok (.aload_n 0, 1) := by decide +kernel
theorem dX8_worth_34 : decode cX8_worth 34 = .ok (.getfield 69, 3) := by decide +kernel
theorem dX8_worth_37 : decode cX8_worth 37 = .ok (.getfield 248, 3) := by decide +kernel
theorem dX8_worth_40 : decode cX8_worth 40 = .ok (.invokestatic 151, 3) := by decide +kernel
theorem dX8_worth_43 : decode cX8_worth 43 = .ok (.ifCond .ne 5, 3) := by decide +kernel
theorem dX8_worth_46 : decode cX8_worth 46 = .ok (.iconst 0, 1) := by decide +kernel
theorem dX8_worth_47 : decode cX8_worth 47 = .ok (.ireturn, 1) := by decide +kernel
theorem dX8_worth_48 : decode cX8_worth 48 = .ok (.aload_n 0, 1) := by decide +kernel
theorem dX8_worth_49 : decode cX8_worth 49 = .ok (.getfield 69, 3) := by decide +kernel
theorem dX8_worth_52 : decode cX8_worth 52 = .ok (.aload_n 0, 1) := by decide +kernel
theorem dX8_worth_53 : decode cX8_worth 53 = .ok (.getfield 27, 3) := by decide +kernel
theorem dX8_worth_56 : decode cX8_worth 56 = .ok (.aload_n 0, 1) := by decide +kernel
theorem dX8_worth_57 : decode cX8_worth 57 = .ok (.getfield 27, 3) := by decide +kernel
theorem dX8_worth_60 : decode cX8_worth 60 = .ok (.getfield 102, 3) := by decide +kernel
theorem dX8_worth_63 : decode cX8_worth 63 = .ok (.iload_n 1, 1) := by decide +kernel
theorem dX8_worth_64 : decode cX8_worth 64 = .ok (.invokevirtual 244, 3) := by decide +kernel
theorem dX8_worth_67 : decode cX8_worth 67 = .ok (.iload_n 2, 1) := by decide +kernel
theorem dX8_worth_68 : decode cX8_worth 68 = .ok (.aload_n 0, 1) := by decide +kernel
theorem dX8_worth_69 : decode cX8_worth 69 = .ok (.getfield 69, 3) := by decide +kernel
theorem dX8_worth_72 : decode cX8_worth 72 = .ok (.getfield 249, 3) := by decide +kernel
theorem dX8_worth_75 : decode cX8_worth 75 = .ok (.isub, 1) := by decide +kernel
theorem dX8_worth_76 : decode cX8_worth 76 = .ok (.ireturn, 1) := by decide +kernel
theorem dX8_exchange_0 : decode cX8_exchange 0 = .ok (.aload_n 0, 1) := by decide +kernel
theorem dX8_exchange_1 : decode cX8_exchange 1 = .ok (.iload_n 1, 1) := by decide +kernel
theorem dX8_exchange_2 : decode cX8_exchange 2 = .ok (.iconst 0, 1) := by decide +kernel
theorem dX8_exchange_3 : decode cX8_exchange 3 = .ok (.iconst 2, 1) := by decide +kernel
theorem dX8_exchange_4 : decode cX8_exchange 4 = .ok (.invokevirtual 84, 3) := by decide +kernel
theorem dX8_exchange_7 : decode cX8_exchange 7 = .ok (.aload_n 0, 1) := by decide +kernel
theorem dX8_exchange_8 : decode cX8_exchange 8 = .ok (.getfield 76, 3) := by decide +kernel
theorem dX8_exchange_11 : decode cX8_exchange 11 = .ok (.aload_n 0, 1) := by decide +kernel
theorem dX8_exchange_12 : decode cX8_exchange 12 = .ok (.getfield 27, 3) := by decide +kernel
theorem dX8_exchange_15 : decode cX8_exchange 15 = .ok (.invokevirtual 265, 3) := by decide +kernel
theorem dX8_exchange_18 : decode cX8_exchange 18 = .ok (.aload_n 0, 1) := by decide +kernel
theorem dX8_exchange_19 : decode cX8_exchange 19 = .ok (.getfield 76, 3) := by decide +kernel
theorem dX8_exchange_22 : decode cX8_exchange 22 = .ok (.getfield 266, 3) := by decide +kernel
theorem dX8_exchange_25 : decode cX8_exchange 25 = .ok (.iconst (-1), 1) := by decide +kernel
theorem dX8_exchange_26 : decode cX8_exchange 26 = .ok (.if_icmp .ne 5, 3) := by decide +kernel
theorem dX8_exchange_29 : decode cX8_exchange 29 = .ok (.iconst (-1), 1) := by decide +kernel
theorem dX8_exchange_30 : decode cX8_exchange 30 = .ok (.ireturn, 1) := by decide +kernel
theorem dX8_exchange_31 : decode cX8_exchange 31 = .ok (.iload_n 1, 1) := by decide +kernel
theorem dX8_exchange_32 : decode cX8_exchange 32 = .ok (.ifCond .ne 11, 3) := by decide +kernel
theorem dX8_exchange_35 : decode cX8_exchange 35 = .ok (.aload_n 0, 1) := by decide +kernel
theorem dX8_exchange_36 : decode cX8_exchange 36 = .ok (.getfield 76, 3) := by decide +kernel
theorem dX8_exchange_39 : decode cX8_exchange 39 = .ok (.getfield 266, 3) := by decide +kernel
theorem dX8_exchange_42 : decode cX8_exchange 42 = .ok (.ireturn, 1) := by decide +kernel
theorem dX8_exchange_43 : decode cX8_exchange 43 = .ok (.iload_n 1, 1) := by decide +kernel
theorem dX8_exchange_44 : decode cX8_exchange 44 = .ok (.iconst 1, 1) := by decide +kernel
theorem dX8_exchange_45 : decode cX8_exchange 45 = .ok (.if_icmp .ne 13, 3) := by decide +kernel
theorem dX8_exchange_48 : decode cX8_exchange 48 = .ok (.aload_n 0, 1) := by decide +kernel
theorem dX8_exchange_49 : decode cX8_exchange 49 = .ok (.getfield 76, 3) := by decide +kernel
theorem dX8_exchange_52 : decode cX8_exchange 52 = .ok (.getfield 269, 3) := by decide +kernel
theorem dX8_exchange_55 : decode cX8_exchange 55 = .ok (.goto 10, 3) := by decide +kernel
theorem dX8_exchange_58 : decode cX8_exchange 58 = .ok (.aload_n 0, 1) := by decide +kernel
theorem dX8_exchange_59 : decode cX8_exchange 59 = .ok (.getfield 76, 3) := by decide +kernel
theorem dX8_exchange_62 : decode cX8_exchange 62 = .ok (.getfield 272, 3) := by decide +kernel
theorem dX8_exchange_65 : decode cX8_exchange 65 = .ok (.ireturn, 1) := by decide +kernel
theorem dX8_next_0 : decode cX8_next 0 = .ok (.aload_n 0, 1) := by decide +kernel
theorem dX8_next_1 : decode cX8_next 1 = .ok (.iload_n 1, 1) := by decide +kernel
theorem dX8_next_2 : decode cX8_next 2 = .ok (.iconst 0, 1) := by decide +kernel
theorem dX8_next_3 : decode cX8_next 3 = .ok (.sipush 9999, 3) := by decide +kernel
theorem dX8_next_6 : decode cX8_next 6 = .ok (.invokevirtual 84, 3) := by decide +kernel
theorem dX8_next_9 : decode cX8_next 9 = .ok (.aload_n 0, 1) := by decide +kernel
theorem dX8_next_10 : decode cX8_next 10 = .ok (.getfield 69, 3) := by decide +kernel
theorem dX8_next_13 : decode cX8_next 13 = .ok (.aload_n 0, 1) := by decide +kernel
theorem dX8_next_14 : decode cX8_next 14 = .ok (.getfield 27, 3) := by decide +kernel
theorem dX8_next_17 : decode cX8_next 17 = .ok (.iload_n 1, 1) := by decide +kernel
theorem dX8_next_18 : decode cX8_next 18 = .ok (.iconst (-1), 1) := by decide +kernel
theorem dX8_next_19 : decode cX8_next 19 = .ok (.invokevirtual 244, 3) := by decide +kernel
theorem dX8_next_22 : decode cX8_next 22 = .ok (.aload_n 0, 1) := by decide +kernel
theorem dX8_next_23 : decode cX8_next 23 = .ok (.getfield 69, 3) := by decide +kernel
theorem dX8_next_26 : decode cX8_next 26 = .ok (.aload_n 0, 1) := by decide +kernel
theorem dX8_next_27 : decode cX8_next 27 = .ok (.getfield 27, 3) := by decide +kernel
theorem dX8_next_30 : decode cX8_next 30 = .ok (.aload_n 0, 1) := by decide +kernel
theorem dX8_next_31 : decode cX8_next 31 = .ok (.getfield 69, 3) := by decide +kernel
theorem dX8_next_34 : decode cX8_next 34 = .ok (.getfield 249, 3) := by decide +kernel
theorem dX8_next_37 : decode cX8_next 37 = .ok (.iconst 1, 1) := by decide +kernel
theorem dX8_next_38 : decode cX8_next 38 = .ok (.iadd, 1) := by decide +kernel
theorem dX8_next_39 : decode cX8_next 39 = .ok (.invokevirtual 262, 3) := by decide +kernel
theorem dX8_next_42 : decode cX8_next 42 = .ok (.aload_n 0, 1) := by decide +kernel
theorem dX8_next_43 : decode cX8_next 43 = .ok (.getfield 69, 3) := by decide +kernel
theorem dX8_next_46 : decode cX8_next 46 = .ok (.getfield 273, 3) := by decide +kernel
theorem dX8_next_49 : decode cX8_next 49 = .ok (.ifCond .eq 13, 3) := by decide +kernel
theorem dX8_next_52 : decode cX8_next 52 = .ok (.aload_n 0, 1) := by decide +kernel
theorem dX8_next_53 : decode cX8_next 53 = .ok (.getfield 69, 3) := by decide +kernel
theorem dX8_next_56 : decode cX8_next 56 = .ok (.getfield 252, 3) := by decide +kernel
theorem dX8_next_59 : decode cX8_next 59 = .ok (.goto 4, 3) := by decide +kernel
theorem dX8_next_62 : decode cX8_next 62 = .ok (.iconst (-1), 1) := by decide +kernel
theorem dX8_next_63 : decode cX8_next 63 = .ok (.ireturn, 1) := by decide +kernel
theorem dX8_likeness_0 : decode cX8_likeness 0 = .ok (.aload_n 0, 1) := by decide +kernel
theorem dX8_likeness_1 : decode cX8_likeness 1 = .ok (.iload_n 1, 1) := by decide +kernel
theorem dX8_likeness_2 : decode cX8_likeness 2 = .ok (.invokevirtual 130, 3) := by decide +kernel
theorem dX8_likeness_5 : decode cX8_likeness 5 = .ok (.aload_n 0, 1) := by decide +kernel
theorem dX8_likeness_6 : decode cX8_likeness 6 = .ok (.iload_n 2, 1) := by decide +kernel
theorem dX8_likeness_7 : decode cX8_likeness 7 = .ok (.invokevirtual 130, 3) := by decide +kernel
theorem dX8_likeness_10 : decode cX8_likeness 10 = .ok (.aload_n 0, 1) := by decide +kernel
theorem dX8_likeness_11 : decode cX8_likeness 11 = .ok (.iload_n 3, 1) := by decide +kernel
theorem dX8_likeness_12 : decode cX8_likeness 12 = .ok (.iconst 0, 1) := by decide +kernel
theorem dX8_likeness_13 : decode cX8_likeness 13 = .ok (.iconst 1, 1) := by decide +kernel
theorem dX8_likeness_14 : decode cX8_likeness 14 = .ok (.invokevirtual 84, 3) := by decide +kernel
theorem dX8_likeness_17 : decode cX8_likeness 17 = .ok (.aload_n 0, 1) := by decide +kernel
theorem dX8_likeness_18 : decode cX8_likeness 18 = .ok (.getfield 27, 3) := by decide +kernel
theorem dX8_likeness_21 : decode cX8_likeness 21 = .ok (.aload_n 0, 1) := by decide +kernel
theorem dX8_likeness_22 : decode cX8_likeness 22 = .ok (.getfield 27, 3) := by decide +kernel
theorem dX8_likeness_25 : decode cX8_likeness 25 = .ok (.getfield 183, 3) := by decide +kernel
theorem dX8_likeness_28 : decode cX8_likeness 28 = .ok (.iload_n 1, 1) := by decide +kernel
theorem dX8_likeness_29 : decode cX8_likeness 29 = .ok (.laload, 1) := by decide +kernel
theorem dX8_likeness_30 : decode cX8_likeness 30 = .ok (.aload_n 0, 1) := by decide +kernel
theorem dX8_likeness_31 : decode cX8_likeness 31 = .ok (.getfield 27, 3) := by decide +kernel
theorem dX8_likeness_34 : decode cX8_likeness 34 = .ok (.getfield 183, 3) := by decide +kernel
theorem dX8_likeness_37 : decode cX8_likeness 37 = .ok (.iload_n 2, 1) := by decide +kernel
theorem dX8_likeness_38 : decode cX8_likeness 38 = .ok (.laload, 1) := by decide +kernel
theorem dX8_likeness_39 : decode cX8_likeness 39 = .ok (.land, 1) := by decide +kernel
theorem dX8_likeness_40 : decode cX8_likeness 40 = .ok (.invokevirtual 193, 3) := by decide +kernel
theorem dX8_likeness_43 : decode cX8_likeness 43 = .ok (.istore 4, 2) := by decide +kernel
theorem dX8_likeness_45 : decode cX8_likeness 45 = .ok (.aload_n 0, 1) := by decide +kernel
theorem dX8_likeness_46 : decode cX8_likeness 46 = .ok (.getfield 27, 3) := by decide +kernel
theorem dX8_likeness_49 : decode cX8_likeness 49 = .ok (.aload_n 0, 1) := by decide +kernel
theorem dX8_likeness_50 : decode cX8_likeness 50 = .ok (.getfield 27, 3) := by decide +kernel
theorem dX8_likeness_53 : decode cX8_likeness 53 = .ok (.getfield 183, 3) := by decide +kernel
theorem dX8_likeness_56 : decode cX8_likeness 56 = .ok (.iload_n 1, 1) := by decide +kernel
theorem dX8_likeness_57 : decode cX8_likeness 57 = .ok (.laload, 1) := by decide +kernel
theorem dX8_likeness_58 : decode cX8_likeness 58 = .ok (.aload_n 0, 1) := by decide +kernel
theorem dX8_likeness_59 : decode cX8_likeness 59 = .ok (.getfield 27, 3) := by decide +kernel
theorem dX8_likeness_62 : decode cX8_likeness 62 = .ok (.getfield 183, 3) := by decide +kernel
theorem dX8_likeness_65 : decode cX8_likeness 65 = .ok (.iload_n 2, 1) := by decide +kernel
theorem dX8_likeness_66 : decode cX8_likeness 66 = .ok (.laload, 1) := by decide +kernel
theorem dX8_likeness_67 : decode cX8_likeness 67 = .ok (.lor, 1) := by decide +kernel
theorem dX8_likeness_68 : decode cX8_likeness 68 = .ok (.invokevirtual 193, 3) := by decide +kernel
theorem dX8_likeness_71 : decode cX8_likeness 71 = .ok (.istore 5, 2) := by decide +kernel
theorem dX8_likeness_73 : decode cX8_likeness 73 = .ok (.iload 5, 2) := by decide +kernel
theorem dX8_likeness_75 : decode cX8_likeness 75 = .ok (.iload 4, 2) := by decide +kernel
theorem dX8_likeness_77 : decode cX8_likeness 77 = .ok (.invokestatic 277, 3) := by decide +kernel
theorem dX8_likeness_80 : decode cX8_likeness 80 = .ok (.istore 6, 2) := by decide +kernel
theorem dX8_likeness_82 : decode cX8_likeness 82 = .ok (.iload 4, 2) := by decide +kernel
theorem dX8_likeness_84 : decode cX8_likeness 84 = .ok (.ifCond .eq 8, 3) := by decide +kernel
theorem dX8_likeness_87 : decode cX8_likeness 87 = .ok (.iload 6, 2) := by decide +kernel
theorem dX8_likeness_89 : decode cX8_likeness 89 = .ok (.ifCond .ne 13, 3) := by decide +kernel
theorem dX8_likeness_92 : decode cX8_likeness 92 = .ok (.iload_n 3, 1) := by decide +kernel
theorem dX8_likeness_93 : decode cX8_likeness 93 = .ok (.ifCond .ne 7, 3) := by decide +kernel
theorem dX8_likeness_96 : decode cX8_likeness 96 = .ok (.iconst 0, 1) := by decide +kernel
theorem dX8_likeness_97 : decode cX8_likeness 97 = .ok (.goto 4, 3) := by decide +kernel
theorem dX8_likeness_100 : decode cX8_likeness 100 = .ok (.iconst 1, 1) := by decide +kernel
theorem dX8_likeness_101 : decode cX8_likeness 101 = .ok (.ireturn, 1) := by decide +kernel
theorem dX8_likeness_102 : decode cX8_likeness 102 = .ok (.iload_n 3, 1) := by decide +kernel
theorem dX8_likeness_103 : decode cX8_likeness 103 = .ok (.ifCond .ne 8, 3) := by decide +kernel
theorem dX8_likeness_106 : decode cX8_likeness 106 = .ok (.iload 4, 2) := by decide +kernel
theorem dX8_likeness_108 : decode cX8_likeness 108 = .ok (.goto 5, 3) := by decide +kernel
theorem dX8_likeness_111 : decode cX8_likeness 111 = .ok (.iload 5, 2) := by decide +kernel
theorem dX8_likeness_113 : decode cX8_likeness 113 = .ok (.iload 6, 2) := by decide +kernel
theorem dX8_likeness_115 : decode cX8_likeness 115 = .ok (.idiv, 1) := by decide +kernel
theorem dX8_likeness_116 : decode cX8_likeness 116 = .ok (.ireturn, 1) := by decide +kernel
theorem dX8_print_0 : decode cX8_print 0 = .ok (.lconst 0, 1) := by decide +kernel
theorem dX8_print_1 : decode cX8_print 1 = .ok (.lstore_n 1, 1) := by decide +kernel
theorem dX8_print_2 : decode cX8_print 2 = .ok (.iconst 0, 1) := by decide +kernel
theorem dX8_print_3 : decode cX8_print 3 = .ok (.istore_n 3, 1) := by decide +kernel
theorem dX8_print_4 : decode cX8_print 4 = .ok (.iload_n 3, 1) := by decide +kernel
theorem dX8_print_5 : decode cX8_print 5 = .ok (.aload_n 0, 1) := by decide +kernel
theorem dX8_print_6 : decode cX8_print 6 = .ok (.getfield 27, 3) := by decide +kernel
theorem dX8_print_9 : decode cX8_print 9 = .ok (.getfield 111, 3) := by decide +kernel
theorem dX8_print_12 : decode cX8_print 12 = .ok (.if_icmp .ge 56, 3) := by decide +kernel
theorem dX8_print_15 : decode cX8_print 15 = .ok (.lload_n 1, 1) := by decide +kernel
theorem dX8_print_16 : decode cX8_print 16 = .ok (.ldc2_w 280, 3) := by decide +kernel
theorem dX8_print_19 : decode cX8_print 19 = .ok (.lmul, 1) := by decide +kernel
theorem dX8_print_20 : decode cX8_print 20 = .ok (.aload_n 0, 1) := by decide +kernel
theorem dX8_print_21 : decode cX8_print 21 = .ok (.getfield 27, 3) := by decide +kernel
theorem dX8_print_24 : decode cX8_print 24 = .ok (.aload_n 0, 1) := by decide +kernel
theorem dX8_print_25 : decode cX8_print 25 = .ok (.getfield 27, 3) := by decide +kernel
theorem dX8_print_28 : decode cX8_print 28 = .ok (.getfield 183, 3) := by decide +kernel
theorem dX8_print_31 : decode cX8_print 31 = .ok (.iload_n 3, 1) := by decide +kernel
theorem dX8_print_32 : decode cX8_print 32 = .ok (.laload, 1) := by decide +kernel
theorem dX8_print_33 : decode cX8_print 33 = .ok (.invokevirtual 193, 3) := by decide +kernel
theorem dX8_print_36 : decode cX8_print 36 = .ok (.i2l, 1) := by decide +kernel
theorem dX8_print_37 : decode cX8_print 37 = .ok (.ladd, 1) := by decide +kernel
theorem dX8_print_38 : decode cX8_print 38 = .ok (.lstore_n 1, 1) := by decide +kernel
theorem dX8_print_39 : decode cX8_print 39 = .ok (.lload_n 1, 1) := by decide +kernel
theorem dX8_print_40 : decode cX8_print 40 = .ok (.ldc2_w 280, 3) := by decide +kernel
theorem dX8_print_43 : decode cX8_print 43 = .ok (.lmul, 1) := by decide +kernel
theorem dX8_print_44 : decode cX8_print 44 = .ok (.aload_n 0, 1) := by decide +kernel
theorem dX8_print_45 : decode cX8_print 45 = .ok (.getfield 27, 3) := by decide +kernel
theorem dX8_print_48 : decode cX8_print 48 = .ok (.iload_n 3, 1) := by decide +kernel
theorem dX8_print_49 : decode cX8_print 49 = .ok (.aload_n 0, 1) := by decide +kernel
theorem dX8_print_50 : decode cX8_print 50 = .ok (.getfield 27, 3) := by decide +kernel
theorem dX8_print_53 : decode cX8_print 53 = .ok (.getfield 133, 3) := by decide +kernel
theorem dX8_print_56 : decode cX8_print 56 = .ok (.invokevirtual 144, 3) := by decide +kernel
theorem dX8_print_59 : decode cX8_print 59 = .ok (.i2l, 1) := by decide +kernel
theorem dX8_print_60 : decode cX8_print 60 = .ok (.ladd, 1) := by decide +kernel
theorem dX8_print_61 : decode cX8_print 61 = .ok (.lstore_n 1, 1) := by decide +kernel
theorem dX8_print_62 : decode cX8_print 62 = .ok (.iinc 3 1, 3) := by decide +kernel
theorem dX8_print_65 : decode cX8_print 65 = .ok (.goto (-61), 3) := by decide +kernel
theorem dX8_print_68 : decode cX8_print 68 = .ok (.lload_n 1, 1) := by decide +kernel
theorem dX8_print_69 : decode cX8_print 69 = .ok (.lreturn, 1) := by decide +kernel
theorem dX8_status_0 : decode cX8_status 0 = .ok (.iload_n 1, 1) := by decide +kernel
theorem dX8_status_1 : decode cX8_status 1 = .ok (.ifCond .lt 17, 3) := by decide +kernel
theorem dX8_status_4 : decode cX8_status 4 = .ok (.iload_n 1, 1) := by decide +kernel
theorem dX8_status_5 : decode cX8_status 5 = .ok (.iconst 3, 1) := by decide +kernel
theorem dX8_status_6 : decode cX8_status 6 = .ok (.if_icmp .ge 12, 3) := by decide +kernel
theorem dX8_status_9 : decode cX8_status 9 = .ok (.aload_n 0, 1) := by decide +kernel
theorem dX8_status_10 : decode cX8_status 10 = .ok (.getfield 20, 3) := by decide +kernel
theorem dX8_status_13 : decode cX8_status 13 = .ok (.iload_n 1, 1) := by decide +kernel
theorem dX8_status_14 : decode cX8_status 14 = .ok (.iaload, 1) := by decide +kernel
theorem dX8_status_15 : decode cX8_status 15 = .ok (.goto 4, 3) := by decide +kernel
theorem dX8_status_18 : decode cX8_status 18 = .ok (.iconst (-1), 1) := by decide +kernel
theorem dX8_status_19 : decode cX8_status 19 = .ok (.ireturn, 1) := by decide +kernel
theorem dX8_putNumber_0 : decode cX8_putNumber 0 = .ok (.bipush 24, 2) := by decide +kernel
theorem dX8_putNumber_2 : decode cX8_putNumber 2 = .ok (.istore_n 2, 1) := by decide +kernel
theorem dX8_putNumber_3 : decode cX8_putNumber 3 = .ok (.iload_n 2, 1) := by decide +kernel
theorem dX8_putNumber_4 : decode cX8_putNumber 4 = .ok (.ifCond .lt 42, 3) := by decide +kernel
theorem dX8_putNumber_7 : decode cX8_putNumber 7 = .ok (.aload_n 0, 1) := by decide +kernel
theorem dX8_putNumber_8 : decode cX8_putNumber 8 = .ok (.getfield 13, 3) := by decide +kernel
theorem dX8_putNumber_11 : decode cX8_putNumber 11 = .ok (.sipush 600, 3) := by decide +kernel
theorem dX8_putNumber_14 : decode cX8_putNumber 14 = .ok (.if_icmp .ge 26, 3) := by decide +kernel
theorem dX8_putNumber_17 : decode cX8_putNumber 17 = .ok (.aload_n 0, 1) := by decide +kernel
theorem dX8_putNumber_18 : decode cX8_putNumber 18 = .ok (.getfield 9, 3) := by decide +kernel
theorem dX8_putNumber_21 : decode cX8_putNumber 21 = .ok (.aload_n 0, 1) := by decide +kernel
theorem dX8_putNumber_22 : decode cX8_putNumber 22 = .ok (.getfield 13, 3) := by decide +kernel
theorem dX8_putNumber_25 : decode cX8_putNumber 25 = .ok (.iload_n 1, 1) := by decide +kernel
theorem dX8_putNumber_26 : decode cX8_putNumber 26 = .ok (.iload_n 2, 1) := by decide +kernel
theorem dX8_putNumber_27 : decode cX8_putNumber 27 = .ok (.iushr, 1) := by decide +kernel
theorem dX8_putNumber_28 : decode cX8_putNumber 28 = .ok (.i2b, 1) := by decide +kernel
theorem dX8_putNumber_29 : decode cX8_putNumber 29 = .ok (.bastore, 1) := by decide +kernel
theorem dX8_putNumber_30 : decode cX8_putNumber 30 = .ok (.aload_n 0, 1) := by decide +kernel
theorem dX8_putNumber_31 : decode cX8_putNumber 31 = .ok (.dup, 1) := by decide +kernel
theorem dX8_putNumber_32 : decode cX8_putNumber 32 = .ok (.getfield 13, 3) := by decide +kernel
theorem dX8_putNumber_35 : decode cX8_putNumber 35 = .ok (.iconst 1, 1) := by decide +kernel
theorem dX8_putNumber_36 : decode cX8_putNumber 36 = .ok (.iadd, 1) := by decide +kernel
theorem dX8_putNumber_37 : decode cX8_putNumber 37 = .ok (.putfield 13, 3) := by decide +kernel
theorem dX8_putNumber_40 : decode cX8_putNumber 40 = .ok (.iinc 2 (-8), 3) := by decide +kernel
theorem dX8_putNumber_43 : decode cX8_putNumber 43 = .ok (.goto (-40), 3) := by decide +kernel
theorem dX8_putNumber_46 : decode cX8_putNumber 46 = .ok (.return_, 1) := by decide +kernel
theorem dX8_needSentence_0 : decode cX8_needSentence 0 = .ok (.aload_n 0, 1) := by decide +kernel
theorem dX8_needSentence_1 : decode cX8_needSentence 1 = .ok (.iload_n 1, 1) := by decide +kernel
theorem dX8_needSentence_2 : decode cX8_needSentence 2 = .ok (.ifCond .lt 18, 3) := by decide +kernel
theorem dX8_needSentence_5 : decode cX8_needSentence 5 = .ok (.iload_n 1, 1) := by decide +kernel
theorem dX8_needSentence_6 : decode cX8_needSentence 6 = .ok (.aload_n 0, 1) := by decide +kernel
theorem dX8_needSentence_7 : decode cX8_needSentence 7 = .ok (.getfield 27, 3) := by decide +kernel
theorem dX8_needSentence_10 : decode cX8_needSentence 10 = .ok (.getfield 111, 3) := by decide +kernel
theorem dX8_needSentence_13 : decode cX8_needSentence 13 = .ok (.if_icmp .ge 7, 3) := by decide +kernel
theorem dX8_needSentence_16 : decode cX8_needSentence 16 = .ok (.iconst 1, 1) := by decide +kernel
theorem dX8_needSentence_17 : decode cX8_needSentence 17 = .ok (.goto 4, 3) := by decide +kernel
theorem dX8_needSentence_20 : decode cX8_needSentence 20 = .ok (.iconst 0, 1) := by decide +kernel
theorem dX8_needSentence_21 : decode cX8_needSentence 21 = .ok (.invokevirtual 205, 3) := by decide +kernel
theorem dX8_needSentence_24 : decode cX8_needSentence 24 = .ok (.return_, 1) := by decide +kernel
theorem dX8_needWord_0 : decode cX8_needWord 0 = .ok (.aload_n 0, 1) := by decide +kernel
theorem dX8_needWord_1 : decode cX8_needWord 1 = .ok (.iload_n 1, 1) := by decide +kernel
theorem dX8_needWord_2 : decode cX8_needWord 2 = .ok (.ifCond .lt 18, 3) := by decide +kernel
theorem dX8_needWord_5 : decode cX8_needWord 5 = .ok (.iload_n 1, 1) := by decide +kernel
theorem dX8_needWord_6 : decode cX8_needWord 6 = .ok (.aload_n 0, 1) := by decide +kernel
theorem dX8_needWord_7 : decode cX8_needWord 7 = .ok (.getfield 27, 3) := by decide +kernel
theorem dX8_needWord_10 : decode cX8_needWord 10 = .ok (.getfield 167, 3) := by decide +kernel
theorem dX8_needWord_13 : decode cX8_needWord 13 = .ok (.if_icmp .ge 7, 3) := by decide +kernel
theorem dX8_needWord_16 : decode cX8_needWord 16 = .ok (.iconst 1, 1) := by decide +kernel
theorem dX8_needWord_17 : decode cX8_needWord 17 = .ok (.goto 4, 3) := by decide +kernel
theorem dX8_needWord_20 : decode cX8_needWord 20 = .ok (.iconst 0, 1) := by decide +kernel
theorem dX8_needWord_21 : decode cX8_needWord 21 = .ok (.invokevirtual 205, 3) := by decide +kernel
theorem dX8_needWord_24 : decode cX8_needWord 24 = .ok (.return_, 1) := by decide +kernel
theorem dX8_needElement_0 : decode cX8_needElement 0 = .ok (.iload_n 1, 1) := by decide +kernel
theorem dX8_needElement_1 : decode cX8_needElement 1 = .ok (.ifCond .ne 24, 3) := by decide +kernel
theorem dX8_needElement_4 : decode cX8_needElement 4 = .ok (.aload_n 0, 1) := by decide +kernel
theorem dX8_needElement_5 : decode cX8_needElement 5 = .ok (.getfield 20, 3) := by decide +kernel
theorem dX8_needElement_8 : decode cX8_needElement 8 = .ok (.iconst 0, 1) := by decide +kernel
theorem dX8_needElement_9 : decode cX8_needElement 9 = .ok (.dup2, 1) := by decide +kernel
theorem dX8_needElement_10 : decode cX8_needElement 10 = .ok (.iaload, 1) := by decide +kernel
theorem dX8_needElement_11 : decode cX8_needElement 11 = .ok (.iconst 1, 1) := by decide +kernel
theorem dX8_needElement_12 : decode cX8_needElement 12 = .ok (.iadd, 1) := by decide +kernel
theorem dX8_needElement_13 : decode cX8_needElement 13 = .ok (.iastore, 1) := by decide +kernel
theorem dX8_needElement_14 : decode cX8_needElement 14 = .ok (.new 282, 3) := by decide +kernel
theorem dX8_needElement_17 : decode cX8_needElement 17 = .ok (.dup, 1) := by decide +kernel
theorem dX8_needElement_18 : decode cX8_needElement 18 = .ok (.ldc_w 284, 3) := by decide +kernel
theorem dX8_needElement_21 : decode cX8_needElement 21 = .ok (.invokespecial 286, 3) := by decide +kernel
theorem dX8_needElement_24 : decode cX8_needElement 24 = .ok (.athrow, 1) := by decide +kernel
theorem dX8_needElement_25 : decode cX8_needElement 25 = .ok (.return_, 1) := by decide +kernel
theorem dX8_needNumber_0 : decode cX8_needNumber 0 = .ok (.iload_n 1, 1) := by decide +kernel
theorem dX8_needNumber_1 : decode cX8_needNumber 1 = .ok (.iload_n 2, 1) := by decide +kernel
theorem dX8_needNumber_2 : decode cX8_needNumber 2 = .ok (.if_icmp .lt 8, 3) := by decide +kernel
theorem dX8_needNumber_5 : decode cX8_needNumber 5 = .ok (.iload_n 1, 1) := by decide +kernel
theorem dX8_needNumber_6 : decode cX8_needNumber 6 = .ok (.iload_n 3, 1) := by decide +kernel
theorem dX8_needNumber_7 : decode cX8_needNumber 7 = .ok (.if_icmp .le 24, 3) := by decide +kernel
theorem dX8_needNumber_10 : decode cX8_needNumber 10 = .ok (.aload_n 0, 1) := by decide +kernel
theorem dX8_needNumber_11 : decode cX8_needNumber 11 = .ok (.getfield 20, 3) := by decide +kernel
theorem dX8_needNumber_14 : decode cX8_needNumber 14 = .ok (.iconst 1, 1) := by decide +kernel
theorem dX8_needNumber_15 : decode cX8_needNumber 15 = .ok (.dup2, 1) := by decide +kernel
theorem dX8_needNumber_16 : decode cX8_needNumber 16 = .ok (.iaload, 1) := by decide +kernel
theorem dX8_needNumber_17 : decode cX8_needNumber 17 = .ok (.iconst 1, 1) := by decide +kernel
theorem dX8_needNumber_18 : decode cX8_needNumber 18 = .ok (.iadd, 1) := by decide +kernel
theorem dX8_needNumber_19 : decode cX8_needNumber 19 = .ok (.iastore, 1) := by decide +kernel
theorem dX8_needNumber_20 : decode cX8_needNumber 20 = .ok (.new 289, 3) := by decide +kernel
theorem dX8_needNumber_23 : decode cX8_needNumber 23 = .ok (.dup, 1) := by decide +kernel
theorem dX8_needNumber_24 : decode cX8_needNumber 24 = .ok (.ldc_w 291, 3) := by decide +kernel
theorem dX8_needNumber_27 : decode cX8_needNumber 27 = .ok (.invokespecial 293, 3) := by decide +kernel
theorem dX8_needNumber_30 : decode cX8_needNumber 30 = .ok (.athrow, 1) := by decide +kernel
theorem dX8_needNumber_31 : decode cX8_needNumber 31 = .ok (.return_, 1) := by decide +kernel
theorem dX8_needState_0 : decode cX8_needState 0 = .ok (.iload_n 1, 1) := by decide +kernel
theorem dX8_needState_1 : decode cX8_needState 1 = .ok (.ifCond .ne 24, 3) := by decide +kernel
theorem dX8_needState_4 : decode cX8_needState 4 = .ok (.aload_n 0, 1) := by decide +kernel
theorem dX8_needState_5 : decode cX8_needState 5 = .ok (.getfield 20, 3) := by decide +kernel
theorem dX8_needState_8 : decode cX8_needState 8 = .ok (.iconst 2, 1) := by decide +kernel
theorem dX8_needState_9 : decode cX8_needState 9 = .ok (.dup2, 1) := by decide +kernel
theorem dX8_needState_10 : decode cX8_needState 10 = .ok (.iaload, 1) := by decide +kernel
theorem dX8_needState_11 : decode cX8_needState 11 = .ok (.iconst 1, 1) := by decide +kernel
theorem dX8_needState_12 : decode cX8_needState 12 = .ok (.iadd, 1) := by decide +kernel
theorem dX8_needState_13 : decode cX8_needState 13 = .ok (.iastore, 1) := by decide +kernel
theorem dX8_needState_14 : decode cX8_needState 14 = .ok (.new 294, 3) := by decide +kernel
theorem dX8_needState_17 : decode cX8_needState 17 = .ok (.dup, 1) := by decide +kernel
theorem dX8_needState_18 : decode cX8_needState 18 = .ok (.ldc_w 296, 3) := by decide +kernel
theorem dX8_needState_21 : decode cX8_needState 21 = .ok (.invokespecial 298, 3) := by decide +kernel
theorem dX8_needState_24 : decode cX8_needState 24 = .ok (.athrow, 1) := by decide +kernel
theorem dX8_needState_25 : decode cX8_needState 25 = .ok (.return_, 1) := by decide +kernel
theorem dX8_isIn_0 : decode cX8_isIn 0 = .ok (.iload_n 1, 1) := by decide +kernel
theorem dX8_isIn_1 : decode cX8_isIn 1 = .ok (.iload_n 0, 1) := by decide +kernel
theorem dX8_isIn_2 : decode cX8_isIn 2 = .ok (.iushr, 1) := by decide +kernel
theorem dX8_isIn_3 : decode cX8_isIn 3 = .ok (.iconst 1, 1) := by decide +kernel
theorem dX8_isIn_4 : decode cX8_isIn 4 = .ok (.iand, 1) := by decide +kernel
theorem dX8_isIn_5 : decode cX8_isIn 5 = .ok (.ifCond .eq 7, 3) := by decide +kernel
theorem dX8_isIn_8 : decode cX8_isIn 8 = .ok (.iconst 1, 1) := by decide +kernel
theorem dX8_isIn_9 : decode cX8_isIn 9 = .ok (.goto 4, 3) := by decide +kernel
theorem dX8_isIn_12 : decode cX8_isIn 12 = .ok (.iconst 0, 1) := by decide +kernel
theorem dX8_isIn_13 : decode cX8_isIn 13 = .ok (.ireturn, 1) := by decide +kernel
theorem dX8_isMoreFor_0 : decode cX8_isMoreFor 0 = .ok (.iload_n 0, 1) := by decide +kernel
theorem dX8_isMoreFor_1 : decode cX8_isMoreFor 1 = .ok (.i2l, 1) := by decide +kernel
theorem dX8_isMoreFor_2 : decode cX8_isMoreFor 2 = .ok (.iload_n 3, 1) := by decide +kernel
theorem dX8_isMoreFor_3 : decode cX8_isMoreFor 3 = .ok (.i2l, 1) := by decide +kernel
theorem dX8_isMoreFor_4 : decode cX8_isMoreFor 4 = .ok (.lmul, 1) := by decide +kernel
theorem dX8_isMoreFor_5 : decode cX8_isMoreFor 5 = .ok (.iload_n 2, 1) := by decide +kernel
theorem dX8_isMoreFor_6 : decode cX8_isMoreFor 6 = .ok (.i2l, 1) := by decide +kernel
theorem dX8_isMoreFor_7 : decode cX8_isMoreFor 7 = .ok (.iload_n 1, 1) := by decide +kernel
theorem dX8_isMoreFor_8 : decode cX8_isMoreFor 8 = .ok (.i2l, 1) := by decide +kernel
theorem dX8_isMoreFor_9 : decode cX8_isMoreFor 9 = .ok (.lmul, 1) := by decide +kernel
theorem dX8_isMoreFor_10 : decode cX8_isMoreFor 10 = .ok (.lcmp, 1) := by decide +kernel
theorem dX8_isMoreFor_11 : decode cX8_isMoreFor 11 = .ok (.ifCond .le 7, 3) := by decide +kernel
theorem dX8_isMoreFor_14 : decode cX8_isMoreFor 14 = .ok (.iconst 1, 1) := by decide +kernel
theorem dX8_isMoreFor_15 : decode cX8_isMoreFor 15 = .ok (.goto 4, 3) := by decide +kernel
theorem dX8_isMoreFor_18 : decode cX8_isMoreFor 18 = .ok (.iconst 0, 1) := by decide +kernel
theorem dX8_isMoreFor_19 : decode cX8_isMoreFor 19 = .ok (.ireturn, 1) := by decide +kernel
theorem dX8_commonDivisor_0 : decode cX8_commonDivisor 0 = .ok (.iload_n 0, 1) := by decide +kernel
theorem dX8_commonDivisor_1 : decode cX8_commonDivisor 1 = .ok (.istore_n 2, 1) := by decide +kernel
theorem dX8_commonDivisor_2 : decode cX8_commonDivisor 2 = .ok (.iload_n 1, 1) := by decide +kernel
theorem dX8_commonDivisor_3 : decode cX8_commonDivisor 3 = .ok (.istore_n 3, 1) := by decide +kernel
theorem dX8_commonDivisor_4 : decode cX8_commonDivisor 4 = .ok (.iconst 0, 1) := by decide +kernel
theorem dX8_commonDivisor_5 : decode cX8_commonDivisor 5 = .ok (.istore 4, 2) := by decide +kernel
theorem dX8_commonDivisor_7 : decode cX8_commonDivisor 7 = .ok (.iload 4, 2) := by decide +kernel
theorem dX8_commonDivisor_9 : decode cX8_commonDivisor 9 = .ok (.bipush 100, 2) := by decide +kernel
theorem dX8_commonDivisor_11 : decode cX8_commonDivisor 11 = .ok (.if_icmp .ge 23, 3) := by decide +kernel
theorem dX8_commonDivisor_14 : decode cX8_commonDivisor 14 = .ok (.iload_n 3, 1) := by decide +kernel
theorem dX8_commonDivisor_15 : decode cX8_commonDivisor 15 = .ok (.ifCond .eq 19, 3) := by decide +kernel
theorem dX8_commonDivisor_18 : decode cX8_commonDivisor 18 = .ok (.iload_n 2, 1) := by decide +kernel
theorem dX8_commonDivisor_19 : decode cX8_commonDivisor 19 = .ok (.iload_n 3, 1) := by decide +kernel
theorem dX8_commonDivisor_20 : decode cX8_commonDivisor 20 = .ok (.irem, 1) := by decide +kernel
theorem dX8_commonDivisor_21 : decode cX8_commonDivisor 21 = .ok (.istore 5, 2) := by decide +kernel
theorem dX8_commonDivisor_23 : decode cX8_commonDivisor 23 = .ok (.iload_n 3, 1) := by decide +kernel
theorem dX8_commonDivisor_24 : decode cX8_commonDivisor 24 = .ok (.istore_n 2, 1) := by decide +kernel
theorem dX8_commonDivisor_25 : decode cX8_commonDivisor 25 = .ok (.iload 5, 2) := by decide +kernel
theorem dX8_commonDivisor_27 : decode cX8_commonDivisor 27 = .ok (.istore_n 3, 1) := by decide +kernel
theorem dX8_commonDivisor_28 : decode cX8_commonDivisor 28 = .ok (.iinc 4 1, 3) := by decide +kernel
theorem dX8_commonDivisor_31 : decode cX8_commonDivisor 31 = .ok (.goto (-24), 3) := by decide +kernel
theorem dX8_commonDivisor_34 : decode cX8_commonDivisor 34 = .ok (.iload_n 2, 1) := by decide +kernel
theorem dX8_commonDivisor_35 : decode cX8_commonDivisor 35 = .ok (.ireturn, 1) := by decide +kernel
theorem dJ6_compare_7cf53_0 : decode cJ6_compare_7cf53 0 = .ok (.iload_n 0, 1) := by decide +kernel
theorem dJ6_compare_7cf53_1 : decode cJ6_compare_7cf53 1 = .ok (.iload_n 1, 1) := by decide +kernel
theorem dJ6_compare_7cf53_2 : decode cJ6_compare_7cf53 2 = .ok (.if_icmp .ge 7, 3) := by decide +kernel
theorem dJ6_compare_7cf53_5 : decode cJ6_compare_7cf53 5 = .ok (.iconst (-1), 1) := by decide +kernel
theorem dJ6_compare_7cf53_6 : decode cJ6_compare_7cf53 6 = .ok (.goto 13, 3) := by decide +kernel
theorem dJ6_compare_7cf53_9 : decode cJ6_compare_7cf53 9 = .ok (.iload_n 0, 1) := by decide +kernel
theorem dJ6_compare_7cf53_10 : decode cJ6_compare_7cf53 10 = .ok (.iload_n 1, 1) := by decide +kernel
theorem dJ6_compare_7cf53_11 : decode cJ6_compare_7cf53 11 = .ok (.if_icmp .ne 7, 3) := by decide +kernel
theorem dJ6_compare_7cf53_14 : decode cJ6_compare_7cf53 14 = .ok (.iconst 0, 1) := by decide +kernel
theorem dJ6_compare_7cf53_15 : decode cJ6_compare_7cf53 15 = .ok (.goto 4, 3) := by decide +kernel
theorem dJ6_compare_7cf53_18 : decode cJ6_compare_7cf53 18 = .ok (.iconst 1, 1) := by decide +kernel
theorem dJ6_compare_7cf53_19 : decode cJ6_compare_7cf53 19 = .ok (.ireturn, 1) := by decide +kernel
theorem dJ6_numberOfTrailingZeros_0f7a4_0 : decode cJ6_numberOfTrailingZeros_0f7a4 0 = .ok (.iload_n 0, 1) := by decide +kernel
theorem dJ6_numberOfTrailingZeros_0f7a4_1 : decode cJ6_numberOfTrailingZeros_0f7a4 1 = .ok (.iconst (-1), 1) := by decide +kernel
theorem dJ6_numberOfTrailingZeros_0f7a4_2 : decode cJ6_numberOfTrailingZeros_0f7a4 2 = .ok (.ixor, 1) := by decide +kernel
theorem dJ6_numberOfTrailingZeros_0f7a4_3 : decode cJ6_numberOfTrailingZeros_0f7a4 3 = .ok (.iload_n 0, 1) := by decide +kernel
theorem dJ6_numberOfTrailingZeros_0f7a4_4 : decode cJ6_numberOfTrailingZeros_0f7a4 4 = .ok (.iconst 1, 1) := by decide +kernel
theorem dJ6_numberOfTrailingZeros_0f7a4_5 : decode cJ6_numberOfTrailingZeros_0f7a4 5 = .ok (.isub, 1) := by decide +kernel
theorem dJ6_numberOfTrailingZeros_0f7a4_6 : decode cJ6_numberOfTrailingZeros_0f7a4 6 = .ok (.iand, 1) := by decide +kernel
theorem dJ6_numberOfTrailingZeros_0f7a4_7 : decode cJ6_numberOfTrailingZeros_0f7a4 7 = .ok (.istore_n 0, 1) := by decide +kernel
theorem dJ6_numberOfTrailingZeros_0f7a4_8 : decode cJ6_numberOfTrailingZeros_0f7a4 8 = .ok (.iload_n 0, 1) := by decide +kernel
theorem dJ6_numberOfTrailingZeros_0f7a4_9 : decode cJ6_numberOfTrailingZeros_0f7a4 9 = .ok (.ifCond .gt 8, 3) := by decide +kernel
theorem dJ6_numberOfTrailingZeros_0f7a4_12 : decode cJ6_numberOfTrailingZeros_0f7a4 12 = .ok (.iload_n 0, 1) := by decide +kernel
theorem dJ6_numberOfTrailingZeros_0f7a4_13 : decode cJ6_numberOfTrailingZeros_0f7a4 13 = .ok (.bipush 32, 2) := by decide +kernel
theorem dJ6_numberOfTrailingZeros_0f7a4_15 : decode cJ6_numberOfTrailingZeros_0f7a4 15 = .ok (.iand, 1) := by decide +kernel
theorem dJ6_numberOfTrailingZeros_0f7a4_16 : decode cJ6_numberOfTrailingZeros_0f7a4 16 = .ok (.ireturn, 1) := by decide +kernel
theorem dJ6_numberOfTrailingZeros_0f7a4_17 : decode cJ6_numberOfTrailingZeros_0f7a4 17 = .ok (.iconst 1, 1) := by decide +kernel
theorem dJ6_numberOfTrailingZeros_0f7a4_18 : decode cJ6_numberOfTrailingZeros_0f7a4 18 = .ok (.istore_n 1, 1) := by decide +kernel
theorem dJ6_numberOfTrailingZeros_0f7a4_19 : decode cJ6_numberOfTrailingZeros_0f7a4 19 = .ok (.iload_n 0, 1) := by decide +kernel
theorem dJ6_numberOfTrailingZeros_0f7a4_20 : decode cJ6_numberOfTrailingZeros_0f7a4 20 = .ok (.ldc_w 264, 3) := by decide +kernel
theorem dJ6_numberOfTrailingZeros_0f7a4_23 : decode cJ6_numberOfTrailingZeros_0f7a4 23 = .ok (.if_icmp .le 11, 3) := by decide +kernel
theorem dJ6_numberOfTrailingZeros_0f7a4_26 : decode cJ6_numberOfTrailingZeros_0f7a4 26 = .ok (.iinc 1 16, 3) := by decide +kernel
theorem dJ6_numberOfTrailingZeros_0f7a4_29 : decode cJ6_numberOfTrailingZeros_0f7a4 29 = .ok (.iload_n 0, 1) := by decide +kernel
theorem dJ6_numberOfTrailingZeros_0f7a4_30 : decode cJ6_numberOfTrailingZeros_0f7a4 30 = .ok (.bipush 16, 2) := by decide +kernel
theorem dJ6_numberOfTrailingZeros_0f7a4_32 : decode cJ6_numberOfTrailingZeros_0f7a4 32 = .ok (.iushr, 1) := by decide +kernel
theorem dJ6_numberOfTrailingZeros_0f7a4_33 : decode cJ6_numberOfTrailingZeros_0f7a4 33 = .ok (.istore_n 0, 1) := by decide +kernel
theorem dJ6_numberOfTrailingZeros_0f7a4_34 : decode cJ6_numberOfTrailingZeros_0f7a4 34 = .ok (.iload_n 0, 1) := by decide +kernel
theorem dJ6_numberOfTrailingZeros_0f7a4_35 : decode cJ6_numberOfTrailingZeros_0f7a4 35 = .ok (.sipush 256, 3) := by decide +kernel
theorem dJ6_numberOfTrailingZeros_0f7a4_38 : decode cJ6_numberOfTrailingZeros_0f7a4 38 = .ok (.if_icmp .le 11, 3) := by decide +kernel
theorem dJ6_numberOfTrailingZeros_0f7a4_41 : decode cJ6_numberOfTrailingZeros_0f7a4 41 = .ok (.iinc 1 8, 3) := by decide +kernel
theorem dJ6_numberOfTrailingZeros_0f7a4_44 : decode cJ6_numberOfTrailingZeros_0f7a4 44 = .ok (.iload_n 0, 1) := by decide +kernel
theorem dJ6_numberOfTrailingZeros_0f7a4_45 : decode cJ6_numberOfTrailingZeros_0f7a4 45 = .ok (.bipush 8, 2) := by decide +kernel
theorem dJ6_numberOfTrailingZeros_0f7a4_47 : decode cJ6_numberOfTrailingZeros_0f7a4 47 = .ok (.iushr, 1) := by decide +kernel
theorem dJ6_numberOfTrailingZeros_0f7a4_48 : decode cJ6_numberOfTrailingZeros_0f7a4 48 = .ok (.istore_n 0, 1) := by decide +kernel
theorem dJ6_numberOfTrailingZeros_0f7a4_49 : decode cJ6_numberOfTrailingZeros_0f7a4 49 = .ok (.iload_n 0, 1) := by decide +kernel
theorem dJ6_numberOfTrailingZeros_0f7a4_50 : decode cJ6_numberOfTrailingZeros_0f7a4 50 = .ok (.bipush 16, 2) := by decide +kernel
theorem dJ6_numberOfTrailingZeros_0f7a4_52 : decode cJ6_numberOfTrailingZeros_0f7a4 52 = .ok (.if_icmp .le 10, 3) := by decide +kernel
theorem dJ6_numberOfTrailingZeros_0f7a4_55 : decode cJ6_numberOfTrailingZeros_0f7a4 55 = .ok (.iinc 1 4, 3) := by decide +kernel
theorem dJ6_numberOfTrailingZeros_0f7a4_58 : decode cJ6_numberOfTrailingZeros_0f7a4 58 = .ok (.iload_n 0, 1) := by decide +kernel
theorem dJ6_numberOfTrailingZeros_0f7a4_59 : decode cJ6_numberOfTrailingZeros_0f7a4 59 = .ok (.iconst 4, 1) := by decide +kernel
theorem dJ6_numberOfTrailingZeros_0f7a4_60 : decode cJ6_numberOfTrailingZeros_0f7a4 60 = .ok (.iushr, 1) := by decide +kernel
theorem dJ6_numberOfTrailingZeros_0f7a4_61 : decode cJ6_numberOfTrailingZeros_0f7a4 61 = .ok (.istore_n 0, 1) := by decide +kernel
theorem dJ6_numberOfTrailingZeros_0f7a4_62 : decode cJ6_numberOfTrailingZeros_0f7a4 62 = .ok (.iload_n 0, 1) := by decide +kernel
theorem dJ6_numberOfTrailingZeros_0f7a4_63 : decode cJ6_numberOfTrailingZeros_0f7a4 63 = .ok (.iconst 4, 1) := by decide +kernel
theorem dJ6_numberOfTrailingZeros_0f7a4_64 : decode cJ6_numberOfTrailingZeros_0f7a4 64 = .ok (.if_icmp .le 10, 3) := by decide +kernel
theorem dJ6_numberOfTrailingZeros_0f7a4_67 : decode cJ6_numberOfTrailingZeros_0f7a4 67 = .ok (.iinc 1 2, 3) := by decide +kernel
theorem dJ6_numberOfTrailingZeros_0f7a4_70 : decode cJ6_numberOfTrailingZeros_0f7a4 70 = .ok (.iload_n 0, 1) := by decide +kernel
theorem dJ6_numberOfTrailingZeros_0f7a4_71 : decode cJ6_numberOfTrailingZeros_0f7a4 71 = .ok (.iconst 2, 1) := by decide +kernel
theorem dJ6_numberOfTrailingZeros_0f7a4_72 : decode cJ6_numberOfTrailingZeros_0f7a4 72 = .ok (.iushr, 1) := by decide +kernel
theorem dJ6_numberOfTrailingZeros_0f7a4_73 : decode cJ6_numberOfTrailingZeros_0f7a4 73 = .ok (.istore_n 0, 1) := by decide +kernel
theorem dJ6_numberOfTrailingZeros_0f7a4_74 : decode cJ6_numberOfTrailingZeros_0f7a4 74 = .ok (.iload_n 1, 1) := by decide +kernel
theorem dJ6_numberOfTrailingZeros_0f7a4_75 : decode cJ6_numberOfTrailingZeros_0f7a4 75 = .ok (.iload_n 0, 1) := by decide +kernel
theorem dJ6_numberOfTrailingZeros_0f7a4_76 : decode cJ6_numberOfTrailingZeros_0f7a4 76 = .ok (.iconst 1, 1) := by decide +kernel
theorem dJ6_numberOfTrailingZeros_0f7a4_77 : decode cJ6_numberOfTrailingZeros_0f7a4 77 = .ok (.iushr, 1) := by decide +kernel
theorem dJ6_numberOfTrailingZeros_0f7a4_78 : decode cJ6_numberOfTrailingZeros_0f7a4 78 = .ok (.iadd, 1) := by decide +kernel
theorem dJ6_numberOfTrailingZeros_0f7a4_79 : decode cJ6_numberOfTrailingZeros_0f7a4 79 = .ok (.ireturn, 1) := by decide +kernel
theorem dJ6_bitCount_0f7a4_0 : decode cJ6_bitCount_0f7a4 0 = .ok (.iload_n 0, 1) := by decide +kernel
theorem dJ6_bitCount_0f7a4_1 : decode cJ6_bitCount_0f7a4 1 = .ok (.iload_n 0, 1) := by decide +kernel
theorem dJ6_bitCount_0f7a4_2 : decode cJ6_bitCount_0f7a4 2 = .ok (.iconst 1, 1) := by decide +kernel
theorem dJ6_bitCount_0f7a4_3 : decode cJ6_bitCount_0f7a4 3 = .ok (.iushr, 1) := by decide +kernel
theorem dJ6_bitCount_0f7a4_4 : decode cJ6_bitCount_0f7a4 4 = .ok (.ldc_w 265, 3) := by decide +kernel
theorem dJ6_bitCount_0f7a4_7 : decode cJ6_bitCount_0f7a4 7 = .ok (.iand, 1) := by decide +kernel
theorem dJ6_bitCount_0f7a4_8 : decode cJ6_bitCount_0f7a4 8 = .ok (.isub, 1) := by decide +kernel
theorem dJ6_bitCount_0f7a4_9 : decode cJ6_bitCount_0f7a4 9 = .ok (.istore_n 0, 1) := by decide +kernel
theorem dJ6_bitCount_0f7a4_10 : decode cJ6_bitCount_0f7a4 10 = .ok (.iload_n 0, 1) := by decide +kernel
theorem dJ6_bitCount_0f7a4_11 : decode cJ6_bitCount_0f7a4 11 = .ok (.ldc_w 266, 3) := by decide +kernel
theorem dJ6_bitCount_0f7a4_14 : decode cJ6_bitCount_0f7a4 14 = .ok (.iand, 1) := by decide +kernel
theorem dJ6_bitCount_0f7a4_15 : decode cJ6_bitCount_0f7a4 15 = .ok (.iload_n 0, 1) := by decide +kernel
theorem dJ6_bitCount_0f7a4_16 : decode cJ6_bitCount_0f7a4 16 = .ok (.iconst 2, 1) := by decide +kernel
theorem dJ6_bitCount_0f7a4_17 : decode cJ6_bitCount_0f7a4 17 = .ok (.iushr, 1) := by decide +kernel
theorem dJ6_bitCount_0f7a4_18 : decode cJ6_bitCount_0f7a4 18 = .ok (.ldc_w 266, 3) := by decide +kernel
theorem dJ6_bitCount_0f7a4_21 : decode cJ6_bitCount_0f7a4 21 = .ok (.iand, 1) := by decide +kernel
theorem dJ6_bitCount_0f7a4_22 : decode cJ6_bitCount_0f7a4 22 = .ok (.iadd, 1) := by decide +kernel
theorem dJ6_bitCount_0f7a4_23 : decode cJ6_bitCount_0f7a4 23 = .ok (.istore_n 0, 1) := by decide +kernel
theorem dJ6_bitCount_0f7a4_24 : decode cJ6_bitCount_0f7a4 24 = .ok (.iload_n 0, 1) := by decide +kernel
theorem dJ6_bitCount_0f7a4_25 : decode cJ6_bitCount_0f7a4 25 = .ok (.iload_n 0, 1) := by decide +kernel
theorem dJ6_bitCount_0f7a4_26 : decode cJ6_bitCount_0f7a4 26 = .ok (.iconst 4, 1) := by decide +kernel
theorem dJ6_bitCount_0f7a4_27 : decode cJ6_bitCount_0f7a4 27 = .ok (.iushr, 1) := by decide +kernel
theorem dJ6_bitCount_0f7a4_28 : decode cJ6_bitCount_0f7a4 28 = .ok (.iadd, 1) := by decide +kernel
theorem dJ6_bitCount_0f7a4_29 : decode cJ6_bitCount_0f7a4 29 = .ok (.ldc_w 267, 3) := by decide +kernel
theorem dJ6_bitCount_0f7a4_32 : decode cJ6_bitCount_0f7a4 32 = .ok (.iand, 1) := by decide +kernel
theorem dJ6_bitCount_0f7a4_33 : decode cJ6_bitCount_0f7a4 33 = .ok (.istore_n 0, 1) := by decide +kernel
theorem dJ6_bitCount_0f7a4_34 : decode cJ6_bitCount_0f7a4 34 = .ok (.iload_n 0, 1) := by decide +kernel
theorem dJ6_bitCount_0f7a4_35 : decode cJ6_bitCount_0f7a4 35 = .ok (.iload_n 0, 1) := by decide +kernel
theorem dJ6_bitCount_0f7a4_36 : decode cJ6_bitCount_0f7a4 36 = .ok (.bipush 8, 2) := by decide +kernel
theorem dJ6_bitCount_0f7a4_38 : decode cJ6_bitCount_0f7a4 38 = .ok (.iushr, 1) := by decide +kernel
theorem dJ6_bitCount_0f7a4_39 : decode cJ6_bitCount_0f7a4 39 = .ok (.iadd, 1) := by decide +kernel
theorem dJ6_bitCount_0f7a4_40 : decode cJ6_bitCount_0f7a4 40 = .ok (.istore_n 0, 1) := by decide +kernel
theorem dJ6_bitCount_0f7a4_41 : decode cJ6_bitCount_0f7a4 41 = .ok (.iload_n 0, 1) := by decide +kernel
theorem dJ6_bitCount_0f7a4_42 : decode cJ6_bitCount_0f7a4 42 = .ok (.iload_n 0, 1) := by decide +kernel
theorem dJ6_bitCount_0f7a4_43 : decode cJ6_bitCount_0f7a4 43 = .ok (.bipush 16, 2) := by decide +kernel
theorem dJ6_bitCount_0f7a4_45 : decode cJ6_bitCount_0f7a4 45 = .ok (.iushr, 1) := by decide +kernel
theorem dJ6_bitCount_0f7a4_46 : decode cJ6_bitCount_0f7a4 46 = .ok (.iadd, 1) := by decide +kernel
theorem dJ6_bitCount_0f7a4_47 : decode cJ6_bitCount_0f7a4 47 = .ok (.istore_n 0, 1) := by decide +kernel
theorem dJ6_bitCount_0f7a4_48 : decode cJ6_bitCount_0f7a4 48 = .ok (.iload_n 0, 1) := by decide +kernel
theorem dJ6_bitCount_0f7a4_49 : decode cJ6_bitCount_0f7a4 49 = .ok (.bipush 63, 2) := by decide +kernel
theorem dJ6_bitCount_0f7a4_51 : decode cJ6_bitCount_0f7a4 51 = .ok (.iand, 1) := by decide +kernel
theorem dJ6_bitCount_0f7a4_52 : decode cJ6_bitCount_0f7a4 52 = .ok (.ireturn, 1) := by decide +kernel
theorem dJ13_numberOfTrailingZeros_95d88_0 : decode cJ13_numberOfTrailingZeros_95d88 0 = .ok (.lload_n 0, 1) := by decide +kernel
theorem dJ13_numberOfTrailingZeros_95d88_1 : decode cJ13_numberOfTrailingZeros_95d88 1 = .ok (.l2i, 1) := by decide +kernel
theorem dJ13_numberOfTrailingZeros_95d88_2 : decode cJ13_numberOfTrailingZeros_95d88 2 = .ok (.istore_n 2, 1) := by decide +kernel
theorem dJ13_numberOfTrailingZeros_95d88_3 : decode cJ13_numberOfTrailingZeros_95d88 3 = .ok (.iload_n 2, 1) := by decide +kernel
theorem dJ13_numberOfTrailingZeros_95d88_4 : decode cJ13_numberOfTrailingZeros_95d88 4 = .ok (.ifCond .ne 17, 3) := by decide +kernel
theorem dJ13_numberOfTrailingZeros_95d88_7 : decode cJ13_numberOfTrailingZeros_95d88 7 = .ok (.bipush 32, 2) := by decide +kernel
theorem dJ13_numberOfTrailingZeros_95d88_9 : decode cJ13_numberOfTrailingZeros_95d88 9 = .ok (.lload_n 0, 1) := by decide +kernel
theorem dJ13_numberOfTrailingZeros_95d88_10 : decode cJ13_numberOfTrailingZeros_95d88 10 = .ok (.bipush 32, 2) := by decide +kernel
theorem dJ13_numberOfTrailingZeros_95d88_12 : decode cJ13_numberOfTrailingZeros_95d88 12 = .ok (.lushr, 1) := by decide +kernel
theorem dJ13_numberOfTrailingZeros_95d88_13 : decode cJ13_numberOfTrailingZeros_95d88 13 = .ok (.l2i, 1) := by decide +kernel
theorem dJ13_numberOfTrailingZeros_95d88_14 : decode cJ13_numberOfTrailingZeros_95d88 14 = .ok (.invokestatic 311, 3) := by decide +kernel
theorem dJ13_numberOfTrailingZeros_95d88_17 : decode cJ13_numberOfTrailingZeros_95d88 17 = .ok (.iadd, 1) := by decide +kernel
theorem dJ13_numberOfTrailingZeros_95d88_18 : decode cJ13_numberOfTrailingZeros_95d88 18 = .ok (.goto 7, 3) := by decide +kernel
theorem dJ13_numberOfTrailingZeros_95d88_21 : decode cJ13_numberOfTrailingZeros_95d88 21 = .ok (.iload_n 2, 1) := by decide +kernel
theorem dJ13_numberOfTrailingZeros_95d88_22 : decode cJ13_numberOfTrailingZeros_95d88 22 = .ok (.invokestatic 311, 3) := by decide +kernel
theorem dJ13_numberOfTrailingZeros_95d88_25 : decode cJ13_numberOfTrailingZeros_95d88 25 = .ok (.ireturn, 1) := by decide +kernel
theorem dJ13_bitCount_95d88_0 : decode cJ13_bitCount_95d88 0 = .ok (.lload_n 0, 1) := by decide +kernel
theorem dJ13_bitCount_95d88_1 : decode cJ13_bitCount_95d88 1 = .ok (.lload_n 0, 1) := by decide +kernel
theorem dJ13_bitCount_95d88_2 : decode cJ13_bitCount_95d88 2 = .ok (.iconst 1, 1) := by decide +kernel
theorem dJ13_bitCount_95d88_3 : decode cJ13_bitCount_95d88 3 = .ok (.lushr, 1) := by decide +kernel
theorem dJ13_bitCount_95d88_4 : decode cJ13_bitCount_95d88 4 = .ok (.ldc2_w 314, 3) := by decide +kernel
theorem dJ13_bitCount_95d88_7 : decode cJ13_bitCount_95d88 7 = .ok (.land, 1) := by decide +kernel
theorem dJ13_bitCount_95d88_8 : decode cJ13_bitCount_95d88 8 = .ok (.lsub, 1) := by decide +kernel
theorem dJ13_bitCount_95d88_9 : decode cJ13_bitCount_95d88 9 = .ok (.lstore_n 0, 1) := by decide +kernel
theorem dJ13_bitCount_95d88_10 : decode cJ13_bitCount_95d88 10 = .ok (.lload_n 0, 1) := by decide +kernel
theorem dJ13_bitCount_95d88_11 : decode cJ13_bitCount_95d88 11 = .ok (.ldc2_w 316, 3) := by decide +kernel
theorem dJ13_bitCount_95d88_14 : decode cJ13_bitCount_95d88 14 = .ok (.land, 1) := by decide +kernel
theorem dJ13_bitCount_95d88_15 : decode cJ13_bitCount_95d88 15 = .ok (.lload_n 0, 1) := by decide +kernel
theorem dJ13_bitCount_95d88_16 : decode cJ13_bitCount_95d88 16 = .ok (.iconst 2, 1) := by decide +kernel
theorem dJ13_bitCount_95d88_17 : decode cJ13_bitCount_95d88 17 = .ok (.lushr, 1) := by decide +kernel
theorem dJ13_bitCount_95d88_18 : decode cJ13_bitCount_95d88 18 = .ok (.ldc2_w 316, 3) := by decide +kernel
theorem dJ13_bitCount_95d88_21 : decode cJ13_bitCount_95d88 21 = .ok (.land, 1) := by decide +kernel
theorem dJ13_bitCount_95d88_22 : decode cJ13_bitCount_95d88 22 = .ok (.ladd, 1) := by decide +kernel
theorem dJ13_bitCount_95d88_23 : decode cJ13_bitCount_95d88 23 = .ok (.lstore_n 0, 1) := by decide +kernel
theorem dJ13_bitCount_95d88_24 : decode cJ13_bitCount_95d88 24 = .ok (.lload_n 0, 1) := by decide +kernel
theorem dJ13_bitCount_95d88_25 : decode cJ13_bitCount_95d88 25 = .ok (.lload_n 0, 1) := by decide +kernel
theorem dJ13_bitCount_95d88_26 : decode cJ13_bitCount_95d88 26 = .ok (.iconst 4, 1) := by decide +kernel
theorem dJ13_bitCount_95d88_27 : decode cJ13_bitCount_95d88 27 = .ok (.lushr, 1) := by decide +kernel
theorem dJ13_bitCount_95d88_28 : decode cJ13_bitCount_95d88 28 = .ok (.ladd, 1) := by decide +kernel
theorem dJ13_bitCount_95d88_29 : decode cJ13_bitCount_95d88 29 = .ok (.ldc2_w 318, 3) := by decide +kernel
theorem dJ13_bitCount_95d88_32 : decode cJ13_bitCount_95d88 32 = .ok (.land, 1) := by decide +kernel
theorem dJ13_bitCount_95d88_33 : decode cJ13_bitCount_95d88 33 = .ok (.lstore_n 0, 1) := by decide +kernel
theorem dJ13_bitCount_95d88_34 : decode cJ13_bitCount_95d88 34 = .ok (.lload_n 0, 1) := by decide +kernel
theorem dJ13_bitCount_95d88_35 : decode cJ13_bitCount_95d88 35 = .ok (.lload_n 0, 1) := by decide +kernel
theorem dJ13_bitCount_95d88_36 : decode cJ13_bitCount_95d88 36 = .ok (.bipush 8, 2) := by decide +kernel
theorem dJ13_bitCount_95d88_38 : decode cJ13_bitCount_95d88 38 = .ok (.lushr, 1) := by decide +kernel
theorem dJ13_bitCount_95d88_39 : decode cJ13_bitCount_95d88 39 = .ok (.ladd, 1) := by decide +kernel
theorem dJ13_bitCount_95d88_40 : decode cJ13_bitCount_95d88 40 = .ok (.lstore_n 0, 1) := by decide +kernel
theorem dJ13_bitCount_95d88_41 : decode cJ13_bitCount_95d88 41 = .ok (.lload_n 0, 1) := by decide +kernel
theorem dJ13_bitCount_95d88_42 : decode cJ13_bitCount_95d88 42 = .ok (.lload_n 0, 1) := by decide +kernel
theorem dJ13_bitCount_95d88_43 : decode cJ13_bitCount_95d88 43 = .ok (.bipush 16, 2) := by decide +kernel
theorem dJ13_bitCount_95d88_45 : decode cJ13_bitCount_95d88 45 = .ok (.lushr, 1) := by decide +kernel
theorem dJ13_bitCount_95d88_46 : decode cJ13_bitCount_95d88 46 = .ok (.ladd, 1) := by decide +kernel
theorem dJ13_bitCount_95d88_47 : decode cJ13_bitCount_95d88 47 = .ok (.lstore_n 0, 1) := by decide +kernel
theorem dJ13_bitCount_95d88_48 : decode cJ13_bitCount_95d88 48 = .ok (.lload_n 0, 1) := by decide +kernel
theorem dJ13_bitCount_95d88_49 : decode cJ13_bitCount_95d88 49 = .ok (.lload_n 0, 1) := by decide +kernel
theorem dJ13_bitCount_95d88_50 : decode cJ13_bitCount_95d88 50 = .ok (.bipush 32, 2) := by decide +kernel
theorem dJ13_bitCount_95d88_52 : decode cJ13_bitCount_95d88 52 = .ok (.lushr, 1) := by decide +kernel
theorem dJ13_bitCount_95d88_53 : decode cJ13_bitCount_95d88 53 = .ok (.ladd, 1) := by decide +kernel
theorem dJ13_bitCount_95d88_54 : decode cJ13_bitCount_95d88 54 = .ok (.lstore_n 0, 1) := by decide +kernel
theorem dJ13_bitCount_95d88_55 : decode cJ13_bitCount_95d88 55 = .ok (.lload_n 0, 1) := by decide +kernel
theorem dJ13_bitCount_95d88_56 : decode cJ13_bitCount_95d88 56 = .ok (.l2i, 1) := by decide +kernel
theorem dJ13_bitCount_95d88_57 : decode cJ13_bitCount_95d88 57 = .ok (.bipush 127, 2) := by decide +kernel
theorem dJ13_bitCount_95d88_59 : decode cJ13_bitCount_95d88 59 = .ok (.iand, 1) := by decide +kernel
theorem dJ13_bitCount_95d88_60 : decode cJ13_bitCount_95d88 60 = .ok (.ireturn, 1) := by decide +kernel
end
section
theorem dX9_init_0 : decode cX9_init 0 = .ok (.aload_n 0, 1) := by decide +kernel
theorem dX9_init_1 : decode cX9_init 1 = .ok (.invokespecial 3, 3) := by decide +kernel
theorem dX9_init_4 : decode cX9_init 4 = .ok (.aload_n 0, 1) := by decide +kernel
theorem dX9_init_5 : decode cX9_init 5 = .ok (.iconst 3, 1) := by decide +kernel
theorem dX9_init_6 : decode cX9_init 6 = .ok (.newarray .int, 2) := by decide +kernel
theorem dX9_init_8 : decode cX9_init 8 = .ok (.putfield 9, 3) := by decide +kernel
theorem dX9_init_11 : decode cX9_init 11 = .ok (.aload_n 0, 1) := by decide +kernel
theorem dX9_init_12 : decode cX9_init 12 = .ok (.iconst (-1), 1) := by decide +kernel
theorem dX9_init_13 : decode cX9_init 13 = .ok (.putfield 13, 3) := by decide +kernel
theorem dX9_init_16 : decode cX9_init 16 = .ok (.aload_n 0, 1) := by decide +kernel
theorem dX9_init_17 : decode cX9_init 17 = .ok (.sipush 600, 3) := by decide +kernel
theorem dX9_init_20 : decode cX9_init 20 = .ok (.newarray .int, 2) := by decide +kernel
theorem dX9_init_22 : decode cX9_init 22 = .ok (.putfield 17, 3) := by decide +kernel
theorem dX9_init_25 : decode cX9_init 25 = .ok (.aload_n 0, 1) := by decide +kernel
theorem dX9_init_26 : decode cX9_init 26 = .ok (.sipush 645, 3) := by decide +kernel
theorem dX9_init_29 : decode cX9_init 29 = .ok (.newarray .long, 2) := by decide +kernel
theorem dX9_init_31 : decode cX9_init 31 = .ok (.putfield 20, 3) := by decide +kernel
theorem dX9_init_34 : decode cX9_init 34 = .ok (.aload_n 0, 1) := by decide +kernel
theorem dX9_init_35 : decode cX9_init 35 = .ok (.sipush 645, 3) := by decide +kernel
theorem dX9_init_38 : decode cX9_init 38 = .ok (.newarray .long, 2) := by decide +kernel
theorem dX9_init_40 : decode cX9_init 40 = .ok (.putfield 24, 3) := by decide +kernel
theorem dX9_init_43 : decode cX9_init 43 = .ok (.aload_n 0, 1) := by decide +kernel
theorem dX9_init_44 : decode cX9_init 44 = .ok (.bipush 8, 2) := by decide +kernel
theorem dX9_init_46 : decode cX9_init 46 = .ok (.sipush 645, 3) := by decide +kernel
theorem dX9_init_49 : decode cX9_init 49 = .ok (.multianewarray 27 2, 4) := by decide +kernel
theorem dX9_init_53 : decode cX9_init 53 = .ok (.putfield 29, 3) := by decide +kernel
theorem dX9_init_56 : decode cX9_init 56 = .ok (.aload_n 0, 1) := by decide +kernel
theorem dX9_init_57 : decode cX9_init 57 = .ok (.bipush 16, 2) := by decide +kernel
theorem dX9_init_59 : decode cX9_init 59 = .ok (.newarray .int, 2) := by decide +kernel
theorem dX9_init_61 : decode cX9_init 61 = .ok (.putfield 32, 3) := by decide +kernel
theorem dX9_init_64 : decode cX9_init 64 = .ok (.aload_n 0, 1) := by decide +kernel
theorem dX9_init_65 : decode cX9_init 65 = .ok (.bipush 16, 2) := by decide +kernel
theorem dX9_init_67 : decode cX9_init 67 = .ok (.newarray .int, 2) := by decide +kernel
theorem dX9_init_69 : decode cX9_init 69 = .ok (.putfield 35, 3) := by decide +kernel
theorem dX9_init_72 : decode cX9_init 72 = .ok (.aload_n 0, 1) := by decide +kernel
theorem dX9_init_73 : decode cX9_init 73 = .ok (.bipush 16, 2) := by decide +kernel
theorem dX9_init_75 : decode cX9_init 75 = .ok (.newarray .int, 2) := by decide +kernel
theorem dX9_init_77 : decode cX9_init 77 = .ok (.putfield 38, 3) := by decide +kernel
theorem dX9_init_80 : decode cX9_init 80 = .ok (.aload_n 0, 1) := by decide +kernel
theorem dX9_init_81 : decode cX9_init 81 = .ok (.bipush 16, 2) := by decide +kernel
theorem dX9_init_83 : decode cX9_init 83 = .ok (.newarray .boolean, 2) := by decide +kernel
theorem dX9_init_85 : decode cX9_init 85 = .ok (.putfield 41, 3) := by decide +kernel
theorem dX9_init_88 : decode cX9_init 88 = .ok (.aload_n 0, 1) := by decide +kernel
theorem dX9_init_89 : decode cX9_init 89 = .ok (.ldc 45, 2) := by decide +kernel
theorem dX9_init_91 : decode cX9_init 91 = .ok (.newarray .int, 2) := by decide +kernel
theorem dX9_init_93 : decode cX9_init 93 = .ok (.putfield 46, 3) := by decide +kernel
theorem dX9_init_96 : decode cX9_init 96 = .ok (.aload_n 0, 1) := by decide +kernel
theorem dX9_init_97 : decode cX9_init 97 = .ok (.ldc 45, 2) := by decide +kernel
theorem dX9_init_99 : decode cX9_init 99 = .ok (.newarray .int, 2) := by decide +kernel
theorem dX9_init_101 : decode cX9_init 101 = .ok (.putfield 49, 3) := by decide +kernel
theorem dX9_init_104 : decode cX9_init 104 = .ok (.aload_n 0, 1) := by decide +kernel
theorem dX9_init_105 : decode cX9_init 105 = .ok (.bipush 48, 2) := by decide +kernel
theorem dX9_init_107 : decode cX9_init 107 = .ok (.newarray .int, 2) := by decide +kernel
theorem dX9_init_109 : decode cX9_init 109 = .ok (.putfield 52, 3) := by decide +kernel
theorem dX9_init_112 : decode cX9_init 112 = .ok (.aload_n 0, 1) := by decide +kernel
theorem dX9_init_113 : decode cX9_init 113 = .ok (.bipush 16, 2) := by decide +kernel
theorem dX9_init_115 : decode cX9_init 115 = .ok (.newarray .int, 2) := by decide +kernel
theorem dX9_init_117 : decode cX9_init 117 = .ok (.putfield 55, 3) := by decide +kernel
theorem dX9_init_120 : decode cX9_init 120 = .ok (.aload_n 0, 1) := by decide +kernel
theorem dX9_init_121 : decode cX9_init 121 = .ok (.getfield 20, 3) := by decide +kernel
theorem dX9_init_124 : decode cX9_init 124 = .ok (.iconst 2, 1) := by decide +kernel
theorem dX9_init_125 : decode cX9_init 125 = .ok (.ldc2_w 58, 3) := by decide +kernel
theorem dX9_init_128 : decode cX9_init 128 = .ok (.lastore, 1) := by decide +kernel
theorem dX9_init_129 : decode cX9_init 129 = .ok (.return_, 1) := by decide +kernel
theorem dX9_thrown_0 : decode cX9_thrown 0 = .ok (.aload_n 0, 1) := by decide +kernel
theorem dX9_thrown_1 : decode cX9_thrown 1 = .ok (.getfield 60, 3) := by decide +kernel
theorem dX9_thrown_4 : decode cX9_thrown 4 = .ok (.ireturn, 1) := by decide +kernel
theorem dX9_bad_0 : decode cX9_bad 0 = .ok (.iload_n 1, 1) := by decide +kernel
theorem dX9_bad_1 : decode cX9_bad 1 = .ok (.ifCond .eq 25, 3) := by decide +kernel
theorem dX9_bad_4 : decode cX9_bad 4 = .ok (.aload_n 0, 1) := by decide +kernel
theorem dX9_bad_5 : decode cX9_bad 5 = .ok (.getfield 60, 3) := by decide +kernel
theorem dX9_bad_8 : decode cX9_bad 8 = .ok (.ifCond .ne 18, 3) := by decide +kernel
theorem dX9_bad_11 : decode cX9_bad 11 = .ok (.aload_n 0, 1) := by decide +kernel
theorem dX9_bad_12 : decode cX9_bad 12 = .ok (.iload_n 2, 1) := by decide +kernel
theorem dX9_bad_13 : decode cX9_bad 13 = .ok (.putfield 60, 3) := by decide +kernel
theorem dX9_bad_16 : decode cX9_bad 16 = .ok (.aload_n 0, 1) := by decide +kernel
theorem dX9_bad_17 : decode cX9_bad 17 = .ok (.getfield 9, 3) := by decide +kernel
theorem dX9_bad_20 : decode cX9_bad 20 = .ok (.iload_n 3, 1) := by decide +kernel
theorem dX9_bad_21 : decode cX9_bad 21 = .ok (.dup2, 1) := by decide +kernel
theorem dX9_bad_22 : decode cX9_bad 22 = .ok (.iaload, 1) := by decide +kernel
theorem dX9_bad_23 : decode cX9_bad 23 = .ok (.iconst 1, 1) := by decide +kernel
theorem dX9_bad_24 : decode cX9_bad 24 = .ok (.iadd, 1) := by decide +kernel
theorem dX9_bad_25 : decode cX9_bad 25 = .ok (.iastore, 1) := by decide +kernel
theorem dX9_bad_26 : decode cX9_bad 26 = .ok (.aload_n 0, 1) := by decide +kernel
theorem dX9_bad_27 : decode cX9_bad 27 = .ok (.getfield 60, 3) := by decide +kernel
theorem dX9_bad_30 : decode cX9_bad 30 = .ok (.ifCond .eq 7, 3) := by decide +kernel
theorem dX9_bad_33 : decode cX9_bad 33 = .ok (.iconst 1, 1) := by decide +kernel
theorem dX9_bad_34 : decode cX9_bad 34 = .ok (.goto 4, 3) := by decide +kernel
theorem dX9_bad_37 : decode cX9_bad 37 = .ok (.iconst 0, 1) := by decide +kernel
theorem dX9_bad_38 : decode cX9_bad 38 = .ok (.ireturn, 1) := by decide +kernel
theorem dX9_in_0 : decode cX9_in 0 = .ok (.iload_n 0, 1) := by decide +kernel
theorem dX9_in_1 : decode cX9_in 1 = .ok (.iload_n 1, 1) := by decide +kernel
theorem dX9_in_2 : decode cX9_in 2 = .ok (.if_icmp .lt 12, 3) := by decide +kernel
theorem dX9_in_5 : decode cX9_in 5 = .ok (.iload_n 0, 1) := by decide +kernel
theorem dX9_in_6 : decode cX9_in 6 = .ok (.iload_n 2, 1) := by decide +kernel
theorem dX9_in_7 : decode cX9_in 7 = .ok (.if_icmp .gt 7, 3) := by decide +kernel
theorem dX9_in_10 : decode cX9_in 10 = .ok (.iconst 1, 1) := by decide +kernel
theorem dX9_in_11 : decode cX9_in 11 = .ok (.goto 4, 3) := by decide +kernel
theorem dX9_in_14 : decode cX9_in 14 = .ok (.iconst 0, 1) := by decide +kernel
theorem dX9_in_15 : decode cX9_in 15 = .ok (.ireturn, 1) := by decide +kernel
theorem dX9_has_0 : decode cX9_has 0 = .ok (.lload_n 0, 1) := by decide +kernel
theorem dX9_has_1 : decode cX9_has 1 = .ok (.iload_n 2, 1) := by decide +kernel
theorem dX9_has_2 : decode cX9_has 2 = .ok (.lshr, 1) := by decide +kernel
theorem dX9_has_3 : decode cX9_has 3 = .ok (.lconst 1, 1) := by decide +kernel
theorem dX9_has_4 : decode cX9_has 4 = .ok (.land, 1) := by decide +kernel
theorem dX9_has_5 : decode cX9_has 5 = .ok (.lconst 1, 1) := by decide +kernel
theorem dX9_has_6 : decode cX9_has 6 = .ok (.lcmp, 1) := by decide +kernel
theorem dX9_has_7 : decode cX9_has 7 = .ok (.ifCond .ne 7, 3) := by decide +kernel
theorem dX9_has_10 : decode cX9_has 10 = .ok (.iconst 1, 1) := by decide +kernel
theorem dX9_has_11 : decode cX9_has 11 = .ok (.goto 4, 3) := by decide +kernel
theorem dX9_has_14 : decode cX9_has 14 = .ok (.iconst 0, 1) := by decide +kernel
theorem dX9_has_15 : decode cX9_has 15 = .ok (.ireturn, 1) := by decide +kernel
theorem dX9_ones_0 : decode cX9_ones 0 = .ok (.iconst 0, 1) := by decide +kernel
theorem dX9_ones_1 : decode cX9_ones 1 = .ok (.istore_n 2, 1) := by decide +kernel
theorem dX9_ones_2 : decode cX9_ones 2 = .ok (.lload_n 0, 1) := by decide +kernel
theorem dX9_ones_3 : decode cX9_ones 3 = .ok (.lstore_n 3, 1) := by decide +kernel
theorem dX9_ones_4 : decode cX9_ones 4 = .ok (.lload_n 3, 1) := by decide +kernel
theorem dX9_ones_5 : decode cX9_ones 5 = .ok (.lconst 0, 1) := by decide +kernel
theorem dX9_ones_6 : decode cX9_ones 6 = .ok (.lcmp, 1) := by decide +kernel
theorem dX9_ones_7 : decode cX9_ones 7 = .ok (.ifCond .eq 15, 3) := by decide +kernel
theorem dX9_ones_10 : decode cX9_ones 10 = .ok (.iinc 2 1, 3) := by decide +kernel
theorem dX9_ones_13 : decode cX9_ones 13 = .ok (.lload_n 3, 1) := by decide +kernel
theorem dX9_ones_14 : decode cX9_ones 14 = .ok (.lload_n 3, 1) := by decide +kernel
theorem dX9_ones_15 : decode cX9_ones 15 = .ok (.lconst 1, 1) := by decide +kernel
theorem dX9_ones_16 : decode cX9_ones 16 = .ok (.lsub, 1) := by decide +kernel
theorem dX9_ones_17 : decode cX9_ones 17 = .ok (.land, 1) := by decide +kernel
theorem dX9_ones_18 : decode cX9_ones 18 = .ok (.lstore_n 3, 1) := by decide +kernel
theorem dX9_ones_19 : decode cX9_ones 19 = .ok (.goto (-15), 3) := by decide +kernel
theorem dX9_ones_22 : decode cX9_ones 22 = .ok (.iload_n 2, 1) := by decide +kernel
theorem dX9_ones_23 : decode cX9_ones 23 = .ok (.ireturn, 1) := by decide +kernel
theorem dX9_feed_0 : decode cX9_feed 0 = .ok (.aload_n 0, 1) := by decide +kernel
theorem dX9_feed_1 : decode cX9_feed 1 = .ok (.iconst 0, 1) := by decide +kernel
theorem dX9_feed_2 : decode cX9_feed 2 = .ok (.putfield 60, 3) := by decide +kernel
theorem dX9_feed_5 : decode cX9_feed 5 = .ok (.aload_n 0, 1) := by decide +kernel
theorem dX9_feed_6 : decode cX9_feed 6 = .ok (.getfield 63, 3) := by decide +kernel
theorem dX9_feed_9 : decode cX9_feed 9 = .ok (.bipush 20, 2) := by decide +kernel
theorem dX9_feed_11 : decode cX9_feed 11 = .ok (.iadd, 1) := by decide +kernel
theorem dX9_feed_12 : decode cX9_feed 12 = .ok (.sipush 600, 3) := by decide +kernel
theorem dX9_feed_15 : decode cX9_feed 15 = .ok (.if_icmp .le 5, 3) := by decide +kernel
theorem dX9_feed_18 : decode cX9_feed 18 = .ok (.iconst (-1), 1) := by decide +kernel
theorem dX9_feed_19 : decode cX9_feed 19 = .ok (.ireturn, 1) := by decide +kernel
theorem dX9_feed_20 : decode cX9_feed 20 = .ok (.iconst 0, 1) := by decide +kernel
theorem dX9_feed_21 : decode cX9_feed 21 = .ok (.istore 6, 2) := by decide +kernel
theorem dX9_feed_23 : decode cX9_feed 23 = .ok (.iload 6, 2) := by decide +kernel
theorem dX9_feed_25 : decode cX9_feed 25 = .ok (.bipush 20, 2) := by decide +kernel
theorem dX9_feed_27 : decode cX9_feed 27 = .ok (.if_icmp .ge 93, 3) := by decide +kernel
theorem dX9_feed_30 : decode cX9_feed 30 = .ok (.iload 6, 2) := by decide +kernel
theorem dX9_feed_32 : decode cX9_feed 32 = .ok (.iconst 4, 1) := by decide +kernel
theorem dX9_feed_33 : decode cX9_feed 33 = .ok (.if_icmp .ge 7, 3) := by decide +kernel
theorem dX9_feed_36 : decode cX9_feed 36 = .ok (.iload_n 1, 1) := by decide +kernel
theorem dX9_feed_37 : decode cX9_feed 37 = .ok (.goto 39, 3) := by decide +kernel
theorem dX9_feed_40 : decode cX9_feed 40 = .ok (.iload 6, 2) := by decide +kernel
theorem dX9_feed_42 : decode cX9_feed 42 = .ok (.bipush 8, 2) := by decide +kernel
theorem dX9_feed_44 : decode cX9_feed 44 = .ok (.if_icmp .ge 7, 3) := by decide +kernel
theorem dX9_feed_47 : decode cX9_feed 47 = .ok (.iload_n 2, 1) := by decide +kernel
theorem dX9_feed_48 : decode cX9_feed 48 = .ok (.goto 28, 3) := by decide +kernel
theorem dX9_feed_51 : decode cX9_feed 51 = .ok (.iload 6, 2) := by decide +kernel
theorem dX9_feed_53 : decode cX9_feed 53 = .ok (.bipush 12, 2) := by decide +kernel
theorem dX9_feed_55 : decode cX9_feed 55 = .ok (.if_icmp .ge 7, 3) := by decide +kernel
theorem dX9_feed_58 : decode cX9_feed 58 = .ok (.iload_n 3, 1) := by decide +kernel
theorem dX9_feed_59 : decode cX9_feed 59 = .ok (.goto 17, 3) := by decide +kernel
theorem dX9_feed_62 : decode cX9_feed 62 = .ok (.iload 6, 2) := by decide +kernel
theorem dX9_feed_64 : decode cX9_feed 64 = .ok (.bipush 16, 2) := by decide +kernel
theorem dX9_feed_66 : decode cX9_feed 66 = .ok (.if_icmp .ge 8, 3) := by decide +kernel
theorem dX9_feed_69 : decode cX9_feed 69 = .ok (.iload 4, 2) := by decide +kernel
theorem dX9_feed_71 : decode cX9_feed 71 = .ok (.goto 5, 3) := by decide +kernel
theorem dX9_feed_74 : decode cX9_feed 74 = .ok (.iload 5, 2) := by decide +kernel
theorem dX9_feed_76 : decode cX9_feed 76 = .ok (.istore 7, 2) := by decide +kernel
theorem dX9_feed_78 : decode cX9_feed 78 = .ok (.aload_n 0, 1) := by decide +kernel
theorem dX9_feed_79 : decode cX9_feed 79 = .ok (.getfield 17, 3) := by decide +kernel
theorem dX9_feed_82 : decode cX9_feed 82 = .ok (.aload_n 0, 1) := by decide +kernel
theorem dX9_feed_83 : decode cX9_feed 83 = .ok (.getfield 63, 3) := by decide +kernel
theorem dX9_feed_86 : decode cX9_feed 86 = .ok (.iload 7, 2) := by decide +kernel
theorem dX9_feed_88 : decode cX9_feed 88 = .ok (.bipush 24, 2) := by decide +kernel
theorem dX9_feed_90 : decode cX9_feed 90 = .ok (.bipush 8, 2) := by decide +kernel
theorem dX9_feed_92 : decode cX9_feed 92 = .ok (.iload 6, 2) := by decide +kernel
theorem dX9_feed_94 : decode cX9_feed 94 = .ok (.iconst 4, 1) := by decide +kernel
theorem dX9_feed_95 : decode cX9_feed 95 = .ok (.irem, 1) := by decide +kernel
theorem dX9_feed_96 : decode cX9_feed 96 = .ok (.imul, 1) := by decide +kernel
theorem dX9_feed_97 : decode cX9_feed 97 = .ok (.isub, 1) := by decide +kernel
theorem dX9_feed_98 : decode cX9_feed 98 = .ok (.ishr, 1) := by decide +kernel
theorem dX9_feed_99 : decode cX9_feed 99 = .ok (.sipush 255, 3) := by decide +kernel
theorem dX9_feed_102 : decode cX9_feed 102 = .ok (.iand, 1) := by decide +kernel
theorem dX9_feed_103 : decode cX9_feed 103 = .ok (.iastore, 1) := by decide +kernel
theorem dX9_feed_104 : decode cX9_feed 104 = .ok (.aload_n 0, 1) := by decide +kernel
theorem dX9_feed_105 : decode cX9_feed 105 = .ok (.dup, 1) := by decide +kernel
theorem dX9_feed_106 : decode cX9_feed 106 = .ok (.getfield 63, 3) := by decide +kernel
theorem dX9_feed_109 : decode cX9_feed 109 = .ok (.iconst 1, 1) := by decide +kernel
theorem dX9_feed_110 : decode cX9_feed 110 = .ok (.iadd, 1) := by decide +kernel
theorem dX9_feed_111 : decode cX9_feed 111 = .ok (.putfield 63, 3) := by decide +kernel
theorem dX9_feed_114 : decode cX9_feed 114 = .ok (.iinc 6 1, 3) := by decide +kernel
theorem dX9_feed_117 : decode cX9_feed 117 = .ok (.goto (-94), 3) := by decide +kernel
theorem dX9_feed_120 : decode cX9_feed 120 = .ok (.aload_n 0, 1) := by decide +kernel
theorem dX9_feed_121 : decode cX9_feed 121 = .ok (.getfield 63, 3) := by decide +kernel
theorem dX9_feed_124 : decode cX9_feed 124 = .ok (.ireturn, 1) := by decide +kernel
theorem dX9_copies_0 : decode cX9_copies 0 = .ok (.iconst 0, 1) := by decide +kernel
theorem dX9_copies_1 : decode cX9_copies 1 = .ok (.istore_n 2, 1) := by decide +kernel
theorem dX9_copies_2 : decode cX9_copies 2 = .ok (.iload_n 2, 1) := by decide +kernel
theorem dX9_copies_3 : decode cX9_copies 3 = .ok (.sipush 645, 3) := by decide +kernel
theorem dX9_copies_6 : decode cX9_copies 6 = .ok (.if_icmp .ge 15, 3) := by decide +kernel
theorem dX9_copies_9 : decode cX9_copies 9 = .ok (.aload_n 1, 1) := by decide +kernel
theorem dX9_copies_10 : decode cX9_copies 10 = .ok (.iload_n 2, 1) := by decide +kernel
theorem dX9_copies_11 : decode cX9_copies 11 = .ok (.aload_n 0, 1) := by decide +kernel
theorem dX9_copies_12 : decode cX9_copies 12 = .ok (.iload_n 2, 1) := by decide +kernel
theorem dX9_copies_13 : decode cX9_copies 13 = .ok (.laload, 1) := by decide +kernel
theorem dX9_copies_14 : decode cX9_copies 14 = .ok (.lastore, 1) := by decide +kernel
theorem dX9_copies_15 : decode cX9_copies 15 = .ok (.iinc 2 1, 3) := by decide +kernel
theorem dX9_copies_18 : decode cX9_copies 18 = .ok (.goto (-16), 3) := by decide +kernel
theorem dX9_copies_21 : decode cX9_copies 21 = .ok (.return_, 1) := by decide +kernel
theorem dX9_sentenceAt_0 : decode cX9_sentenceAt 0 = .ok (.iconst 5, 1) := by decide +kernel
theorem dX9_sentenceAt_1 : decode cX9_sentenceAt 1 = .ok (.iconst 4, 1) := by decide +kernel
theorem dX9_sentenceAt_2 : decode cX9_sentenceAt 2 = .ok (.iload_n 0, 1) := by decide +kernel
theorem dX9_sentenceAt_3 : decode cX9_sentenceAt 3 = .ok (.imul, 1) := by decide +kernel
theorem dX9_sentenceAt_4 : decode cX9_sentenceAt 4 = .ok (.iadd, 1) := by decide +kernel
theorem dX9_sentenceAt_5 : decode cX9_sentenceAt 5 = .ok (.ireturn, 1) := by decide +kernel
theorem dX9_wordAt_0 : decode cX9_wordAt 0 = .ok (.bipush 69, 2) := by decide +kernel
theorem dX9_wordAt_2 : decode cX9_wordAt 2 = .ok (.bipush 12, 2) := by decide +kernel
theorem dX9_wordAt_4 : decode cX9_wordAt 4 = .ok (.iload_n 0, 1) := by decide +kernel
theorem dX9_wordAt_5 : decode cX9_wordAt 5 = .ok (.imul, 1) := by decide +kernel
theorem dX9_wordAt_6 : decode cX9_wordAt 6 = .ok (.iadd, 1) := by decide +kernel
theorem dX9_wordAt_7 : decode cX9_wordAt 7 = .ok (.ireturn, 1) := by decide +kernel
theorem dX9_many_0 : decode cX9_many 0 = .ok (.aload_n 0, 1) := by decide +kernel
theorem dX9_many_1 : decode cX9_many 1 = .ok (.getfield 20, 3) := by decide +kernel
theorem dX9_many_4 : decode cX9_many 4 = .ok (.iconst 0, 1) := by decide +kernel
theorem dX9_many_5 : decode cX9_many 5 = .ok (.laload, 1) := by decide +kernel
theorem dX9_many_6 : decode cX9_many 6 = .ok (.l2i, 1) := by decide +kernel
theorem dX9_many_7 : decode cX9_many 7 = .ok (.ireturn, 1) := by decide +kernel
theorem dX9_wordMany_0 : decode cX9_wordMany 0 = .ok (.aload_n 0, 1) := by decide +kernel
theorem dX9_wordMany_1 : decode cX9_wordMany 1 = .ok (.getfield 20, 3) := by decide +kernel
theorem dX9_wordMany_4 : decode cX9_wordMany 4 = .ok (.iconst 1, 1) := by decide +kernel
theorem dX9_wordMany_5 : decode cX9_wordMany 5 = .ok (.laload, 1) := by decide +kernel
theorem dX9_wordMany_6 : decode cX9_wordMany 6 = .ok (.l2i, 1) := by decide +kernel
theorem dX9_wordMany_7 : decode cX9_wordMany 7 = .ok (.ireturn, 1) := by decide +kernel
theorem dX9_wordsOf_0 : decode cX9_wordsOf 0 = .ok (.aload_n 0, 1) := by decide +kernel
theorem dX9_wordsOf_1 : decode cX9_wordsOf 1 = .ok (.getfield 20, 3) := by decide +kernel
theorem dX9_wordsOf_4 : decode cX9_wordsOf 4 = .ok (.iload_n 1, 1) := by decide +kernel
theorem dX9_wordsOf_5 : decode cX9_wordsOf 5 = .ok (.invokestatic 66, 3) := by decide +kernel
theorem dX9_wordsOf_8 : decode cX9_wordsOf 8 = .ok (.laload, 1) := by decide +kernel
theorem dX9_wordsOf_9 : decode cX9_wordsOf 9 = .ok (.lreturn, 1) := by decide +kernel
theorem dX9_lengthOf_0 : decode cX9_lengthOf 0 = .ok (.aload_n 0, 1) := by decide +kernel
theorem dX9_lengthOf_1 : decode cX9_lengthOf 1 = .ok (.getfield 20, 3) := by decide +kernel
theorem dX9_lengthOf_4 : decode cX9_lengthOf 4 = .ok (.iload_n 1, 1) := by decide +kernel
theorem dX9_lengthOf_5 : decode cX9_lengthOf 5 = .ok (.invokestatic 66, 3) := by decide +kernel
theorem dX9_lengthOf_8 : decode cX9_lengthOf 8 = .ok (.iconst 1, 1) := by decide +kernel
theorem dX9_lengthOf_9 : decode cX9_lengthOf 9 = .ok (.iadd, 1) := by decide +kernel
theorem dX9_lengthOf_10 : decode cX9_lengthOf 10 = .ok (.laload, 1) := by decide +kernel
theorem dX9_lengthOf_11 : decode cX9_lengthOf 11 = .ok (.l2i, 1) := by decide +kernel
theorem dX9_lengthOf_12 : decode cX9_lengthOf 12 = .ok (.ireturn, 1) := by decide +kernel
theorem dX9_byteAt_0 : decode cX9_byteAt 0 = .ok (.iload_n 1, 1) := by decide +kernel
theorem dX9_byteAt_1 : decode cX9_byteAt 1 = .ok (.aload_n 0, 1) := by decide +kernel
theorem dX9_byteAt_2 : decode cX9_byteAt 2 = .ok (.getfield 70, 3) := by decide +kernel
theorem dX9_byteAt_5 : decode cX9_byteAt 5 = .ok (.if_icmp .lt 7, 3) := by decide +kernel
theorem dX9_byteAt_8 : decode cX9_byteAt 8 = .ok (.iconst (-1), 1) := by decide +kernel
theorem dX9_byteAt_9 : decode cX9_byteAt 9 = .ok (.goto 9, 3) := by decide +kernel
theorem dX9_byteAt_12 : decode cX9_byteAt 12 = .ok (.aload_n 0, 1) := by decide +kernel
theorem dX9_byteAt_13 : decode cX9_byteAt 13 = .ok (.getfield 17, 3) := by decide +kernel
theorem dX9_byteAt_16 : decode cX9_byteAt 16 = .ok (.iload_n 1, 1) := by decide +kernel
theorem dX9_byteAt_17 : decode cX9_byteAt 17 = .ok (.iaload, 1) := by decide +kernel
theorem dX9_byteAt_18 : decode cX9_byteAt 18 = .ok (.ireturn, 1) := by decide +kernel
theorem dX9_here_0 : decode cX9_here 0 = .ok (.aload_n 0, 1) := by decide +kernel
theorem dX9_here_1 : decode cX9_here 1 = .ok (.aload_n 0, 1) := by decide +kernel
theorem dX9_here_2 : decode cX9_here 2 = .ok (.getfield 73, 3) := by decide +kernel
theorem dX9_here_5 : decode cX9_here 5 = .ok (.invokevirtual 76, 3) := by decide +kernel
theorem dX9_here_8 : decode cX9_here 8 = .ok (.bipush 32, 2) := by decide +kernel
theorem dX9_here_10 : decode cX9_here 10 = .ok (.if_icmp .ne 16, 3) := by decide +kernel
theorem dX9_here_13 : decode cX9_here 13 = .ok (.aload_n 0, 1) := by decide +kernel
theorem dX9_here_14 : decode cX9_here 14 = .ok (.dup, 1) := by decide +kernel
theorem dX9_here_15 : decode cX9_here 15 = .ok (.getfield 73, 3) := by decide +kernel
theorem dX9_here_18 : decode cX9_here 18 = .ok (.iconst 1, 1) := by decide +kernel
theorem dX9_here_19 : decode cX9_here 19 = .ok (.iadd, 1) := by decide +kernel
theorem dX9_here_20 : decode cX9_here 20 = .ok (.putfield 73, 3) := by decide +kernel
theorem dX9_here_23 : decode cX9_here 23 = .ok (.goto (-23), 3) := by decide +kernel
theorem dX9_here_26 : decode cX9_here 26 = .ok (.aload_n 0, 1) := by decide +kernel
theorem dX9_here_27 : decode cX9_here 27 = .ok (.aload_n 0, 1) := by decide +kernel
theorem dX9_here_28 : decode cX9_here 28 = .ok (.getfield 73, 3) := by decide +kernel
theorem dX9_here_31 : decode cX9_here 31 = .ok (.invokevirtual 76, 3) := by decide +kernel
theorem dX9_here_34 : decode cX9_here 34 = .ok (.ireturn, 1) := by decide +kernel
theorem dX9_fine_0 : decode cX9_fine 0 = .ok (.aload_n 0, 1) := by decide +kernel
theorem dX9_fine_1 : decode cX9_fine 1 = .ok (.getfield 79, 3) := by decide +kernel
theorem dX9_fine_4 : decode cX9_fine 4 = .ok (.ifCond .ne 7, 3) := by decide +kernel
theorem dX9_fine_7 : decode cX9_fine 7 = .ok (.iconst 1, 1) := by decide +kernel
theorem dX9_fine_8 : decode cX9_fine 8 = .ok (.goto 4, 3) := by decide +kernel
theorem dX9_fine_11 : decode cX9_fine 11 = .ok (.iconst 0, 1) := by decide +kernel
theorem dX9_fine_12 : decode cX9_fine 12 = .ok (.ireturn, 1) := by decide +kernel
theorem dX9_wrong_0 : decode cX9_wrong 0 = .ok (.aload_n 0, 1) := by decide +kernel
theorem dX9_wrong_1 : decode cX9_wrong 1 = .ok (.getfield 79, 3) := by decide +kernel
theorem dX9_wrong_4 : decode cX9_wrong 4 = .ok (.ifCond .ne 13, 3) := by decide +kernel
theorem dX9_wrong_7 : decode cX9_wrong 7 = .ok (.aload_n 0, 1) := by decide +kernel
theorem dX9_wrong_8 : decode cX9_wrong 8 = .ok (.iload_n 1, 1) := by decide +kernel
theorem dX9_wrong_9 : decode cX9_wrong 9 = .ok (.putfield 79, 3) := by decide +kernel
theorem dX9_wrong_12 : decode cX9_wrong 12 = .ok (.aload_n 0, 1) := by decide +kernel
theorem dX9_wrong_13 : decode cX9_wrong 13 = .ok (.iload_n 2, 1) := by decide +kernel
theorem dX9_wrong_14 : decode cX9_wrong 14 = .ok (.putfield 82, 3) := by decide +kernel
theorem dX9_wrong_17 : decode cX9_wrong 17 = .ok (.return_, 1) := by decide +kernel
theorem dX9_isSmall_0 : decode cX9_isSmall 0 = .ok (.iload_n 0, 1) := by decide +kernel
theorem dX9_isSmall_1 : decode cX9_isSmall 1 = .ok (.bipush 97, 2) := by decide +kernel
theorem dX9_isSmall_3 : decode cX9_isSmall 3 = .ok (.if_icmp .lt 13, 3) := by decide +kernel
theorem dX9_isSmall_6 : decode cX9_isSmall 6 = .ok (.iload_n 0, 1) := by decide +kernel
theorem dX9_isSmall_7 : decode cX9_isSmall 7 = .ok (.bipush 122, 2) := by decide +kernel
theorem dX9_isSmall_9 : decode cX9_isSmall 9 = .ok (.if_icmp .gt 7, 3) := by decide +kernel
theorem dX9_isSmall_12 : decode cX9_isSmall 12 = .ok (.iconst 1, 1) := by decide +kernel
theorem dX9_isSmall_13 : decode cX9_isSmall 13 = .ok (.goto 4, 3) := by decide +kernel
theorem dX9_isSmall_16 : decode cX9_isSmall 16 = .ok (.iconst 0, 1) := by decide +kernel
theorem dX9_isSmall_17 : decode cX9_isSmall 17 = .ok (.ireturn, 1) := by decide +kernel
theorem dX9_readsWord_0 : decode cX9_readsWord 0 = .ok (.aload_n 0, 1) := by decide +kernel
theorem dX9_readsWord_1 : decode cX9_readsWord 1 = .ok (.getfield 73, 3) := by decide +kernel
theorem dX9_readsWord_4 : decode cX9_readsWord 4 = .ok (.istore_n 2, 1) := by decide +kernel
theorem dX9_readsWord_5 : decode cX9_readsWord 5 = .ok (.iconst 0, 1) := by decide +kernel
theorem dX9_readsWord_6 : decode cX9_readsWord 6 = .ok (.istore_n 3, 1) := by decide +kernel
theorem dX9_readsWord_7 : decode cX9_readsWord 7 = .ok (.iload_n 1, 1) := by decide +kernel
theorem dX9_readsWord_8 : decode cX9_readsWord 8 = .ok (.invokestatic 66, 3) := by decide +kernel
theorem dX9_readsWord_11 : decode cX9_readsWord 11 = .ok (.istore 4, 2) := by decide +kernel
theorem dX9_readsWord_13 : decode cX9_readsWord 13 = .ok (.aload_n 0, 1) := by decide +kernel
theorem dX9_readsWord_14 : decode cX9_readsWord 14 = .ok (.aload_n 0, 1) := by decide +kernel
theorem dX9_readsWord_15 : decode cX9_readsWord 15 = .ok (.getfield 73, 3) := by decide +kernel
theorem dX9_readsWord_18 : decode cX9_readsWord 18 = .ok (.invokevirtual 76, 3) := by decide +kernel
theorem dX9_readsWord_21 : decode cX9_readsWord 21 = .ok (.invokestatic 85, 3) := by decide +kernel
theorem dX9_readsWord_24 : decode cX9_readsWord 24 = .ok (.ifCond .eq 19, 3) := by decide +kernel
theorem dX9_readsWord_27 : decode cX9_readsWord 27 = .ok (.aload_n 0, 1) := by decide +kernel
theorem dX9_readsWord_28 : decode cX9_readsWord 28 = .ok (.dup, 1) := by decide +kernel
theorem dX9_readsWord_29 : decode cX9_readsWord 29 = .ok (.getfield 73, 3) := by decide +kernel
theorem dX9_readsWord_32 : decode cX9_readsWord 32 = .ok (.iconst 1, 1) := by decide +kernel
theorem dX9_readsWord_33 : decode cX9_readsWord 33 = .ok (.iadd, 1) := by decide +kernel
theorem dX9_readsWord_34 : decode cX9_readsWord 34 = .ok (.putfield 73, 3) := by decide +kernel
theorem dX9_readsWord_37 : decode cX9_readsWord 37 = .ok (.iinc 3 1, 3) := by decide +kernel
theorem dX9_readsWord_40 : decode cX9_readsWord 40 = .ok (.goto (-27), 3) := by decide +kernel
theorem dX9_readsWord_43 : decode cX9_readsWord 43 = .ok (.iload_n 3, 1) := by decide +kernel
theorem dX9_readsWord_44 : decode cX9_readsWord 44 = .ok (.bipush 10, 2) := by decide +kernel
theorem dX9_readsWord_46 : decode cX9_readsWord 46 = .ok (.if_icmp .le 9, 3) := by decide +kernel
theorem dX9_readsWord_49 : decode cX9_readsWord 49 = .ok (.aload_n 0, 1) := by decide +kernel
theorem dX9_readsWord_50 : decode cX9_readsWord 50 = .ok (.iconst 2, 1) := by decide +kernel
theorem dX9_readsWord_51 : decode cX9_readsWord 51 = .ok (.iload_n 2, 1) := by decide +kernel
theorem dX9_readsWord_52 : decode cX9_readsWord 52 = .ok (.invokevirtual 89, 3) := by decide +kernel
theorem dX9_readsWord_55 : decode cX9_readsWord 55 = .ok (.aload_n 0, 1) := by decide +kernel
theorem dX9_readsWord_56 : decode cX9_readsWord 56 = .ok (.getfield 24, 3) := by decide +kernel
theorem dX9_readsWord_59 : decode cX9_readsWord 59 = .ok (.iload 4, 2) := by decide +kernel
theorem dX9_readsWord_61 : decode cX9_readsWord 61 = .ok (.iconst 2, 1) := by decide +kernel
theorem dX9_readsWord_62 : decode cX9_readsWord 62 = .ok (.iadd, 1) := by decide +kernel
theorem dX9_readsWord_63 : decode cX9_readsWord 63 = .ok (.laload, 1) := by decide +kernel
theorem dX9_readsWord_64 : decode cX9_readsWord 64 = .ok (.ldc2_w 93, 3) := by decide +kernel
theorem dX9_readsWord_67 : decode cX9_readsWord 67 = .ok (.lcmp, 1) := by decide +kernel
theorem dX9_readsWord_68 : decode cX9_readsWord 68 = .ok (.ifCond .ne 9, 3) := by decide +kernel
theorem dX9_readsWord_71 : decode cX9_readsWord 71 = .ok (.aload_n 0, 1) := by decide +kernel
theorem dX9_readsWord_72 : decode cX9_readsWord 72 = .ok (.iconst 3, 1) := by decide +kernel
theorem dX9_readsWord_73 : decode cX9_readsWord 73 = .ok (.iload_n 2, 1) := by decide +kernel
theorem dX9_readsWord_74 : decode cX9_readsWord 74 = .ok (.invokevirtual 89, 3) := by decide +kernel
theorem dX9_readsWord_77 : decode cX9_readsWord 77 = .ok (.aload_n 0, 1) := by decide +kernel
theorem dX9_readsWord_78 : decode cX9_readsWord 78 = .ok (.invokevirtual 95, 3) := by decide +kernel
theorem dX9_readsWord_81 : decode cX9_readsWord 81 = .ok (.ifCond .ne 4, 3) := by decide +kernel
theorem dX9_readsWord_84 : decode cX9_readsWord 84 = .ok (.return_, 1) := by decide +kernel
theorem dX9_readsWord_85 : decode cX9_readsWord 85 = .ok (.iconst 0, 1) := by decide +kernel
theorem dX9_readsWord_86 : decode cX9_readsWord 86 = .ok (.istore 5, 2) := by decide +kernel
theorem dX9_readsWord_88 : decode cX9_readsWord 88 = .ok (.iload 5, 2) := by decide +kernel
theorem dX9_readsWord_90 : decode cX9_readsWord 90 = .ok (.i2l, 1) := by decide +kernel
theorem dX9_readsWord_91 : decode cX9_readsWord 91 = .ok (.aload_n 0, 1) := by decide +kernel
theorem dX9_readsWord_92 : decode cX9_readsWord 92 = .ok (.getfield 24, 3) := by decide +kernel
theorem dX9_readsWord_95 : decode cX9_readsWord 95 = .ok (.iconst 1, 1) := by decide +kernel
theorem dX9_readsWord_96 : decode cX9_readsWord 96 = .ok (.laload, 1) := by decide +kernel
theorem dX9_readsWord_97 : decode cX9_readsWord 97 = .ok (.lcmp, 1) := by decide +kernel
theorem dX9_readsWord_98 : decode cX9_readsWord 98 = .ok (.ifCond .ge 20, 3) := by decide +kernel
theorem dX9_readsWord_101 : decode cX9_readsWord 101 = .ok (.aload_n 0, 1) := by decide +kernel
theorem dX9_readsWord_102 : decode cX9_readsWord 102 = .ok (.iload 5, 2) := by decide +kernel
theorem dX9_readsWord_104 : decode cX9_readsWord 104 = .ok (.iload_n 2, 1) := by decide +kernel
theorem dX9_readsWord_105 : decode cX9_readsWord 105 = .ok (.iload_n 3, 1) := by decide +kernel
theorem dX9_readsWord_106 : decode cX9_readsWord 106 = .ok (.invokevirtual 99, 3) := by decide +kernel
theorem dX9_readsWord_109 : decode cX9_readsWord 109 = .ok (.ifCond .ne 9, 3) := by decide +kernel
theorem dX9_readsWord_112 : decode cX9_readsWord 112 = .ok (.iinc 5 1, 3) := by decide +kernel
theorem dX9_readsWord_115 : decode cX9_readsWord 115 = .ok (.goto (-27), 3) := by decide +kernel
theorem dX9_readsWord_118 : decode cX9_readsWord 118 = .ok (.iload 5, 2) := by decide +kernel
theorem dX9_readsWord_120 : decode cX9_readsWord 120 = .ok (.bipush 48, 2) := by decide +kernel
theorem dX9_readsWord_122 : decode cX9_readsWord 122 = .ok (.if_icmp .ne 10, 3) := by decide +kernel
theorem dX9_readsWord_125 : decode cX9_readsWord 125 = .ok (.aload_n 0, 1) := by decide +kernel
theorem dX9_readsWord_126 : decode cX9_readsWord 126 = .ok (.iconst 3, 1) := by decide +kernel
theorem dX9_readsWord_127 : decode cX9_readsWord 127 = .ok (.iload_n 2, 1) := by decide +kernel
theorem dX9_readsWord_128 : decode cX9_readsWord 128 = .ok (.invokevirtual 89, 3) := by decide +kernel
theorem dX9_readsWord_131 : decode cX9_readsWord 131 = .ok (.return_, 1) := by decide +kernel
theorem dX9_readsWord_132 : decode cX9_readsWord 132 = .ok (.iload 5, 2) := by decide +kernel
theorem dX9_readsWord_134 : decode cX9_readsWord 134 = .ok (.i2l, 1) := by decide +kernel
theorem dX9_readsWord_135 : decode cX9_readsWord 135 = .ok (.aload_n 0, 1) := by decide +kernel
theorem dX9_readsWord_136 : decode cX9_readsWord 136 = .ok (.getfield 24, 3) := by decide +kernel
theorem dX9_readsWord_139 : decode cX9_readsWord 139 = .ok (.iconst 1, 1) := by decide +kernel
theorem dX9_readsWord_140 : decode cX9_readsWord 140 = .ok (.laload, 1) := by decide +kernel
theorem dX9_readsWord_141 : decode cX9_readsWord 141 = .ok (.lcmp, 1) := by decide +kernel
theorem dX9_readsWord_142 : decode cX9_readsWord 142 = .ok (.ifCond .ne 95, 3) := by decide +kernel
theorem dX9_readsWord_145 : decode cX9_readsWord 145 = .ok (.aload_n 0, 1) := by decide +kernel
theorem dX9_readsWord_146 : decode cX9_readsWord 146 = .ok (.getfield 24, 3) := by decide +kernel
theorem dX9_readsWord_149 : decode cX9_readsWord 149 = .ok (.iconst 1, 1) := by decide +kernel
theorem dX9_readsWord_150 : decode cX9_readsWord 150 = .ok (.dup2, 1) := by decide +kernel
theorem dX9_readsWord_151 : decode cX9_readsWord 151 = .ok (.laload, 1) := by decide +kernel
theorem dX9_readsWord_152 : decode cX9_readsWord 152 = .ok (.lconst 1, 1) := by decide +kernel
theorem dX9_readsWord_153 : decode cX9_readsWord 153 = .ok (.ladd, 1) := by decide +kernel
theorem dX9_readsWord_154 : decode cX9_readsWord 154 = .ok (.lastore, 1) := by decide +kernel
theorem dX9_readsWord_155 : decode cX9_readsWord 155 = .ok (.iconst 0, 1) := by decide +kernel
theorem dX9_readsWord_156 : decode cX9_readsWord 156 = .ok (.istore 6, 2) := by decide +kernel
theorem dX9_readsWord_158 : decode cX9_readsWord 158 = .ok (.iload 6, 2) := by decide +kernel
theorem dX9_readsWord_160 : decode cX9_readsWord 160 = .ok (.bipush 10, 2) := by decide +kernel
theorem dX9_readsWord_162 : decode cX9_readsWord 162 = .ok (.if_icmp .ge 42, 3) := by decide +kernel
theorem dX9_readsWord_165 : decode cX9_readsWord 165 = .ok (.aload_n 0, 1) := by decide +kernel
theorem dX9_readsWord_166 : decode cX9_readsWord 166 = .ok (.getfield 24, 3) := by decide +kernel
theorem dX9_readsWord_169 : decode cX9_readsWord 169 = .ok (.iload 5, 2) := by decide +kernel
theorem dX9_readsWord_171 : decode cX9_readsWord 171 = .ok (.invokestatic 103, 3) := by decide +kernel
theorem dX9_readsWord_174 : decode cX9_readsWord 174 = .ok (.iload 6, 2) := by decide +kernel
theorem dX9_readsWord_176 : decode cX9_readsWord 176 = .ok (.iadd, 1) := by decide +kernel
theorem dX9_readsWord_177 : decode cX9_readsWord 177 = .ok (.iload 6, 2) := by decide +kernel
theorem dX9_readsWord_179 : decode cX9_readsWord 179 = .ok (.iload_n 3, 1) := by decide +kernel
theorem dX9_readsWord_180 : decode cX9_readsWord 180 = .ok (.if_icmp .ge 16, 3) := by decide +kernel
theorem dX9_readsWord_183 : decode cX9_readsWord 183 = .ok (.aload_n 0, 1) := by decide +kernel
theorem dX9_readsWord_184 : decode cX9_readsWord 184 = .ok (.getfield 17, 3) := by decide +kernel
theorem dX9_readsWord_187 : decode cX9_readsWord 187 = .ok (.iload_n 2, 1) := by decide +kernel
theorem dX9_readsWord_188 : decode cX9_readsWord 188 = .ok (.iload 6, 2) := by decide +kernel
theorem dX9_readsWord_190 : decode cX9_readsWord 190 = .ok (.iadd, 1) := by decide +kernel
theorem dX9_readsWord_191 : decode cX9_readsWord 191 = .ok (.iaload, 1) := by decide +kernel
theorem dX9_readsWord_192 : decode cX9_readsWord 192 = .ok (.i2l, 1) := by decide +kernel
theorem dX9_readsWord_193 : decode cX9_readsWord 193 = .ok (.goto 4, 3) := by decide +kernel
theorem dX9_readsWord_196 : decode cX9_readsWord 196 = .ok (.lconst 0, 1) := by decide +kernel
theorem dX9_readsWord_197 : decode cX9_readsWord 197 = .ok (.lastore, 1) := by decide +kernel
theorem dX9_readsWord_198 : decode cX9_readsWord 198 = .ok (.iinc 6 1, 3) := by decide +kernel
theorem dX9_readsWord_201 : decode cX9_readsWord 201 = .ok (.goto (-43), 3) := by decide +kernel
theorem dX9_readsWord_204 : decode cX9_readsWord 204 = .ok (.aload_n 0, 1) := by decide +kernel
theorem dX9_readsWord_205 : decode cX9_readsWord 205 = .ok (.getfield 24, 3) := by decide +kernel
theorem dX9_readsWord_208 : decode cX9_readsWord 208 = .ok (.iload 5, 2) := by decide +kernel
theorem dX9_readsWord_210 : decode cX9_readsWord 210 = .ok (.invokestatic 103, 3) := by decide +kernel
theorem dX9_readsWord_213 : decode cX9_readsWord 213 = .ok (.bipush 10, 2) := by decide +kernel
theorem dX9_readsWord_215 : decode cX9_readsWord 215 = .ok (.iadd, 1) := by decide +kernel
theorem dX9_readsWord_216 : decode cX9_readsWord 216 = .ok (.iload_n 3, 1) := by decide +kernel
theorem dX9_readsWord_217 : decode cX9_readsWord 217 = .ok (.i2l, 1) := by decide +kernel
theorem dX9_readsWord_218 : decode cX9_readsWord 218 = .ok (.lastore, 1) := by decide +kernel
theorem dX9_readsWord_219 : decode cX9_readsWord 219 = .ok (.aload_n 0, 1) := by decide +kernel
theorem dX9_readsWord_220 : decode cX9_readsWord 220 = .ok (.getfield 24, 3) := by decide +kernel
theorem dX9_readsWord_223 : decode cX9_readsWord 223 = .ok (.iload 5, 2) := by decide +kernel
theorem dX9_readsWord_225 : decode cX9_readsWord 225 = .ok (.invokestatic 103, 3) := by decide +kernel
theorem dX9_readsWord_228 : decode cX9_readsWord 228 = .ok (.bipush 10, 2) := by decide +kernel
theorem dX9_readsWord_230 : decode cX9_readsWord 230 = .ok (.iadd, 1) := by decide +kernel
theorem dX9_readsWord_231 : decode cX9_readsWord 231 = .ok (.iconst 1, 1) := by decide +kernel
theorem dX9_readsWord_232 : decode cX9_readsWord 232 = .ok (.iadd, 1) := by decide +kernel
theorem dX9_readsWord_233 : decode cX9_readsWord 233 = .ok (.ldc2_w 106, 3) := by decide +kernel
theorem dX9_readsWord_236 : decode cX9_readsWord 236 = .ok (.lastore, 1) := by decide +kernel
theorem dX9_readsWord_237 : decode cX9_readsWord 237 = .ok (.aload_n 0, 1) := by decide +kernel
theorem dX9_readsWord_238 : decode cX9_readsWord 238 = .ok (.getfield 24, 3) := by decide +kernel
theorem dX9_readsWord_241 : decode cX9_readsWord 241 = .ok (.iload 4, 2) := by decide +kernel
theorem dX9_readsWord_243 : decode cX9_readsWord 243 = .ok (.iconst 2, 1) := by decide +kernel
theorem dX9_readsWord_244 : decode cX9_readsWord 244 = .ok (.iadd, 1) := by decide +kernel
theorem dX9_readsWord_245 : decode cX9_readsWord 245 = .ok (.laload, 1) := by decide +kernel
theorem dX9_readsWord_246 : decode cX9_readsWord 246 = .ok (.lconst 0, 1) := by decide +kernel
theorem dX9_readsWord_247 : decode cX9_readsWord 247 = .ok (.lcmp, 1) := by decide +kernel
theorem dX9_readsWord_248 : decode cX9_readsWord 248 = .ok (.ifCond .ne 15, 3) := by decide +kernel
theorem dX9_readsWord_251 : decode cX9_readsWord 251 = .ok (.aload_n 0, 1) := by decide +kernel
theorem dX9_readsWord_252 : decode cX9_readsWord 252 = .ok (.getfield 24, 3) := by decide +kernel
theorem dX9_readsWord_255 : decode cX9_readsWord 255 = .ok (.iload 4, 2) := by decide +kernel
theorem dX9_readsWord_257 : decode cX9_readsWord 257 = .ok (.iconst 3, 1) := by decide +kernel
theorem dX9_readsWord_258 : decode cX9_readsWord 258 = .ok (.iadd, 1) := by decide +kernel
theorem dX9_readsWord_259 : decode cX9_readsWord 259 = .ok (.iload 5, 2) := by decide +kernel
theorem dX9_readsWord_261 : decode cX9_readsWord 261 = .ok (.i2l, 1) := by decide +kernel
theorem dX9_readsWord_262 : decode cX9_readsWord 262 = .ok (.lastore, 1) := by decide +kernel
theorem dX9_readsWord_263 : decode cX9_readsWord 263 = .ok (.aload_n 0, 1) := by decide +kernel
theorem dX9_readsWord_264 : decode cX9_readsWord 264 = .ok (.getfield 24, 3) := by decide +kernel
theorem dX9_readsWord_267 : decode cX9_readsWord 267 = .ok (.iload 4, 2) := by decide +kernel
theorem dX9_readsWord_269 : decode cX9_readsWord 269 = .ok (.dup2, 1) := by decide +kernel
theorem dX9_readsWord_270 : decode cX9_readsWord 270 = .ok (.laload, 1) := by decide +kernel
theorem dX9_readsWord_271 : decode cX9_readsWord 271 = .ok (.lconst 1, 1) := by decide +kernel
theorem dX9_readsWord_272 : decode cX9_readsWord 272 = .ok (.iload 5, 2) := by decide +kernel
theorem dX9_readsWord_274 : decode cX9_readsWord 274 = .ok (.lshl, 1) := by decide +kernel
theorem dX9_readsWord_275 : decode cX9_readsWord 275 = .ok (.lor, 1) := by decide +kernel
theorem dX9_readsWord_276 : decode cX9_readsWord 276 = .ok (.lastore, 1) := by decide +kernel
theorem dX9_readsWord_277 : decode cX9_readsWord 277 = .ok (.aload_n 0, 1) := by decide +kernel
theorem dX9_readsWord_278 : decode cX9_readsWord 278 = .ok (.getfield 24, 3) := by decide +kernel
theorem dX9_readsWord_281 : decode cX9_readsWord 281 = .ok (.iload 4, 2) := by decide +kernel
theorem dX9_readsWord_283 : decode cX9_readsWord 283 = .ok (.iconst 1, 1) := by decide +kernel
theorem dX9_readsWord_284 : decode cX9_readsWord 284 = .ok (.iadd, 1) := by decide +kernel
theorem dX9_readsWord_285 : decode cX9_readsWord 285 = .ok (.dup2, 1) := by decide +kernel
theorem dX9_readsWord_286 : decode cX9_readsWord 286 = .ok (.laload, 1) := by decide +kernel
theorem dX9_readsWord_287 : decode cX9_readsWord 287 = .ok (.iload_n 3, 1) := by decide +kernel
theorem dX9_readsWord_288 : decode cX9_readsWord 288 = .ok (.iconst 1, 1) := by decide +kernel
theorem dX9_readsWord_289 : decode cX9_readsWord 289 = .ok (.iadd, 1) := by decide +kernel
theorem dX9_readsWord_290 : decode cX9_readsWord 290 = .ok (.i2l, 1) := by decide +kernel
theorem dX9_readsWord_291 : decode cX9_readsWord 291 = .ok (.ladd, 1) := by decide +kernel
theorem dX9_readsWord_292 : decode cX9_readsWord 292 = .ok (.lastore, 1) := by decide +kernel
theorem dX9_readsWord_293 : decode cX9_readsWord 293 = .ok (.aload_n 0, 1) := by decide +kernel
theorem dX9_readsWord_294 : decode cX9_readsWord 294 = .ok (.getfield 24, 3) := by decide +kernel
theorem dX9_readsWord_297 : decode cX9_readsWord 297 = .ok (.iload 4, 2) := by decide +kernel
theorem dX9_readsWord_299 : decode cX9_readsWord 299 = .ok (.iconst 2, 1) := by decide +kernel
theorem dX9_readsWord_300 : decode cX9_readsWord 300 = .ok (.iadd, 1) := by decide +kernel
theorem dX9_readsWord_301 : decode cX9_readsWord 301 = .ok (.dup2, 1) := by decide +kernel
theorem dX9_readsWord_302 : decode cX9_readsWord 302 = .ok (.laload, 1) := by decide +kernel
theorem dX9_readsWord_303 : decode cX9_readsWord 303 = .ok (.lconst 1, 1) := by decide +kernel
theorem dX9_readsWord_304 : decode cX9_readsWord 304 = .ok (.ladd, 1) := by decide +kernel
theorem dX9_readsWord_305 : decode cX9_readsWord 305 = .ok (.lastore, 1) := by decide +kernel
theorem dX9_readsWord_306 : decode cX9_readsWord 306 = .ok (.return_, 1) := by decide +kernel
theorem dX9_isWord_0 : decode cX9_isWord 0 = .ok (.aload_n 0, 1) := by decide +kernel
theorem dX9_isWord_1 : decode cX9_isWord 1 = .ok (.getfield 24, 3) := by decide +kernel
theorem dX9_isWord_4 : decode cX9_isWord 4 = .ok (.iload_n 1, 1) := by decide +kernel
theorem dX9_isWord_5 : decode cX9_isWord 5 = .ok (.invokestatic 103, 3) := by decide +kernel
theorem dX9_isWord_8 : decode cX9_isWord 8 = .ok (.bipush 10, 2) := by decide +kernel
theorem dX9_isWord_10 : decode cX9_isWord 10 = .ok (.iadd, 1) := by decide +kernel
theorem dX9_isWord_11 : decode cX9_isWord 11 = .ok (.laload, 1) := by decide +kernel
theorem dX9_isWord_12 : decode cX9_isWord 12 = .ok (.iload_n 3, 1) := by decide +kernel
theorem dX9_isWord_13 : decode cX9_isWord 13 = .ok (.i2l, 1) := by decide +kernel
theorem dX9_isWord_14 : decode cX9_isWord 14 = .ok (.lcmp, 1) := by decide +kernel
theorem dX9_isWord_15 : decode cX9_isWord 15 = .ok (.ifCond .ne 7, 3) := by decide +kernel
theorem dX9_isWord_18 : decode cX9_isWord 18 = .ok (.iconst 1, 1) := by decide +kernel
theorem dX9_isWord_19 : decode cX9_isWord 19 = .ok (.goto 4, 3) := by decide +kernel
theorem dX9_isWord_22 : decode cX9_isWord 22 = .ok (.iconst 0, 1) := by decide +kernel
theorem dX9_isWord_23 : decode cX9_isWord 23 = .ok (.istore 4, 2) := by decide +kernel
theorem dX9_isWord_25 : decode cX9_isWord 25 = .ok (.iconst 0, 1) := by decide +kernel
theorem dX9_isWord_26 : decode cX9_isWord 26 = .ok (.istore 5, 2) := by decide +kernel
theorem dX9_isWord_28 : decode cX9_isWord 28 = .ok (.iload 5, 2) := by decide +kernel
theorem dX9_isWord_30 : decode cX9_isWord 30 = .ok (.iload_n 3, 1) := by decide +kernel
theorem dX9_isWord_31 : decode cX9_isWord 31 = .ok (.if_icmp .ge 47, 3) := by decide +kernel
theorem dX9_isWord_34 : decode cX9_isWord 34 = .ok (.iload 4, 2) := by decide +kernel
theorem dX9_isWord_36 : decode cX9_isWord 36 = .ok (.ifCond .eq 42, 3) := by decide +kernel
theorem dX9_isWord_39 : decode cX9_isWord 39 = .ok (.aload_n 0, 1) := by decide +kernel
theorem dX9_isWord_40 : decode cX9_isWord 40 = .ok (.getfield 24, 3) := by decide +kernel
theorem dX9_isWord_43 : decode cX9_isWord 43 = .ok (.iload_n 1, 1) := by decide +kernel
theorem dX9_isWord_44 : decode cX9_isWord 44 = .ok (.invokestatic 103, 3) := by decide +kernel
theorem dX9_isWord_47 : decode cX9_isWord 47 = .ok (.iload 5, 2) := by decide +kernel
theorem dX9_isWord_49 : decode cX9_isWord 49 = .ok (.iadd, 1) := by decide +kernel
theorem dX9_isWord_50 : decode cX9_isWord 50 = .ok (.laload, 1) := by decide +kernel
theorem dX9_isWord_51 : decode cX9_isWord 51 = .ok (.aload_n 0, 1) := by decide +kernel
theorem dX9_isWord_52 : decode cX9_isWord 52 = .ok (.getfield 17, 3) := by decide +kernel
theorem dX9_isWord_55 : decode cX9_isWord 55 = .ok (.iload_n 2, 1) := by decide +kernel
theorem dX9_isWord_56 : decode cX9_isWord 56 = .ok (.iload 5, 2) := by decide +kernel
theorem dX9_isWord_58 : decode cX9_isWord 58 = .ok (.iadd, 1) := by decide +kernel
theorem dX9_isWord_59 : decode cX9_isWord 59 = .ok (.iaload, 1) := by decide +kernel
theorem dX9_isWord_60 : decode cX9_isWord 60 = .ok (.i2l, 1) := by decide +kernel
theorem dX9_isWord_61 : decode cX9_isWord 61 = .ok (.lcmp, 1) := by decide +kernel
theorem dX9_isWord_62 : decode cX9_isWord 62 = .ok (.ifCond .ne 7, 3) := by decide +kernel
theorem dX9_isWord_65 : decode cX9_isWord 65 = .ok (.iconst 1, 1) := by decide +kernel
theorem dX9_isWord_66 : decode cX9_isWord 66 = .ok (.goto 4, 3) := by decide +kernel
theorem dX9_isWord_69 : decode cX9_isWord 69 = .ok (.iconst 0, 1) := by decide +kernel
theorem dX9_isWord_70 : decode cX9_isWord 70 = .ok (.istore 4, 2) := by decide +kernel
theorem dX9_isWord_72 : decode cX9_isWord 72 = .ok (.iinc 5 1, 3) := by decide +kernel
theorem dX9_isWord_75 : decode cX9_isWord 75 = .ok (.goto (-47), 3) := by decide +kernel
theorem dX9_isWord_78 : decode cX9_isWord 78 = .ok (.iload 4, 2) := by decide +kernel
theorem dX9_isWord_80 : decode cX9_isWord 80 = .ok (.ireturn, 1) := by decide +kernel
theorem dX9_readsSentence_0 : decode cX9_readsSentence 0 = .ok (.aload_n 0, 1) := by decide +kernel
theorem dX9_readsSentence_1 : decode cX9_readsSentence 1 = .ok (.getfield 24, 3) := by decide +kernel
theorem dX9_readsSentence_4 : decode cX9_readsSentence 4 = .ok (.iconst 0, 1) := by decide +kernel
theorem dX9_readsSentence_5 : decode cX9_readsSentence 5 = .ok (.laload, 1) := by decide +kernel
theorem dX9_readsSentence_6 : decode cX9_readsSentence 6 = .ok (.l2i, 1) := by decide +kernel
theorem dX9_readsSentence_7 : decode cX9_readsSentence 7 = .ok (.istore_n 1, 1) := by decide +kernel
theorem dX9_readsSentence_8 : decode cX9_readsSentence 8 = .ok (.aload_n 0, 1) := by decide +kernel
theorem dX9_readsSentence_9 : decode cX9_readsSentence 9 = .ok (.getfield 73, 3) := by decide +kernel
theorem dX9_readsSentence_12 : decode cX9_readsSentence 12 = .ok (.istore_n 2, 1) := by decide +kernel
theorem dX9_readsSentence_13 : decode cX9_readsSentence 13 = .ok (.aload_n 0, 1) := by decide +kernel
theorem dX9_readsSentence_14 : decode cX9_readsSentence 14 = .ok (.invokevirtual 108, 3) := by decide +kernel
theorem dX9_readsSentence_17 : decode cX9_readsSentence 17 = .ok (.invokestatic 85, 3) := by decide +kernel
theorem dX9_readsSentence_20 : decode cX9_readsSentence 20 = .ok (.ifCond .ne 13, 3) := by decide +kernel
theorem dX9_readsSentence_23 : decode cX9_readsSentence 23 = .ok (.aload_n 0, 1) := by decide +kernel
theorem dX9_readsSentence_24 : decode cX9_readsSentence 24 = .ok (.iconst 1, 1) := by decide +kernel
theorem dX9_readsSentence_25 : decode cX9_readsSentence 25 = .ok (.aload_n 0, 1) := by decide +kernel
theorem dX9_readsSentence_26 : decode cX9_readsSentence 26 = .ok (.getfield 73, 3) := by decide +kernel
theorem dX9_readsSentence_29 : decode cX9_readsSentence 29 = .ok (.invokevirtual 89, 3) := by decide +kernel
theorem dX9_readsSentence_32 : decode cX9_readsSentence 32 = .ok (.return_, 1) := by decide +kernel
theorem dX9_readsSentence_33 : decode cX9_readsSentence 33 = .ok (.iload_n 1, 1) := by decide +kernel
theorem dX9_readsSentence_34 : decode cX9_readsSentence 34 = .ok (.bipush 16, 2) := by decide +kernel
theorem dX9_readsSentence_36 : decode cX9_readsSentence 36 = .ok (.if_icmp .ne 47, 3) := by decide +kernel
theorem dX9_readsSentence_39 : decode cX9_readsSentence 39 = .ok (.iconst 0, 1) := by decide +kernel
theorem dX9_readsSentence_40 : decode cX9_readsSentence 40 = .ok (.istore_n 3, 1) := by decide +kernel
theorem dX9_readsSentence_41 : decode cX9_readsSentence 41 = .ok (.aload_n 0, 1) := by decide +kernel
theorem dX9_readsSentence_42 : decode cX9_readsSentence 42 = .ok (.aload_n 0, 1) := by decide +kernel
theorem dX9_readsSentence_43 : decode cX9_readsSentence 43 = .ok (.getfield 73, 3) := by decide +kernel
theorem dX9_readsSentence_46 : decode cX9_readsSentence 46 = .ok (.iload_n 3, 1) := by decide +kernel
theorem dX9_readsSentence_47 : decode cX9_readsSentence 47 = .ok (.iadd, 1) := by decide +kernel
theorem dX9_readsSentence_48 : decode cX9_readsSentence 48 = .ok (.invokevirtual 76, 3) := by decide +kernel
theorem dX9_readsSentence_51 : decode cX9_readsSentence 51 = .ok (.invokestatic 85, 3) := by decide +kernel
theorem dX9_readsSentence_54 : decode cX9_readsSentence 54 = .ok (.ifCond .eq 9, 3) := by decide +kernel
theorem dX9_readsSentence_57 : decode cX9_readsSentence 57 = .ok (.iinc 3 1, 3) := by decide +kernel
theorem dX9_readsSentence_60 : decode cX9_readsSentence 60 = .ok (.goto (-19), 3) := by decide +kernel
theorem dX9_readsSentence_63 : decode cX9_readsSentence 63 = .ok (.aload_n 0, 1) := by decide +kernel
theorem dX9_readsSentence_64 : decode cX9_readsSentence 64 = .ok (.iload_n 3, 1) := by decide +kernel
theorem dX9_readsSentence_65 : decode cX9_readsSentence 65 = .ok (.bipush 10, 2) := by decide +kernel
theorem dX9_readsSentence_67 : decode cX9_readsSentence 67 = .ok (.if_icmp .le 7, 3) := by decide +kernel
theorem dX9_readsSentence_70 : decode cX9_readsSentence 70 = .ok (.iconst 2, 1) := by decide +kernel
theorem dX9_readsSentence_71 : decode cX9_readsSentence 71 = .ok (.goto 4, 3) := by decide +kernel
theorem dX9_readsSentence_74 : decode cX9_readsSentence 74 = .ok (.iconst 3, 1) := by decide +kernel
theorem dX9_readsSentence_75 : decode cX9_readsSentence 75 = .ok (.aload_n 0, 1) := by decide +kernel
theorem dX9_readsSentence_76 : decode cX9_readsSentence 76 = .ok (.getfield 73, 3) := by decide +kernel
theorem dX9_readsSentence_79 : decode cX9_readsSentence 79 = .ok (.invokevirtual 89, 3) := by decide +kernel
theorem dX9_readsSentence_82 : decode cX9_readsSentence 82 = .ok (.return_, 1) := by decide +kernel
theorem dX9_readsSentence_83 : decode cX9_readsSentence 83 = .ok (.iconst 0, 1) := by decide +kernel
theorem dX9_readsSentence_84 : decode cX9_readsSentence 84 = .ok (.istore_n 3, 1) := by decide +kernel
theorem dX9_readsSentence_85 : decode cX9_readsSentence 85 = .ok (.iload_n 3, 1) := by decide +kernel
theorem dX9_readsSentence_86 : decode cX9_readsSentence 86 = .ok (.iconst 4, 1) := by decide +kernel
theorem dX9_readsSentence_87 : decode cX9_readsSentence 87 = .ok (.if_icmp .ge 21, 3) := by decide +kernel
theorem dX9_readsSentence_90 : decode cX9_readsSentence 90 = .ok (.aload_n 0, 1) := by decide +kernel
theorem dX9_readsSentence_91 : decode cX9_readsSentence 91 = .ok (.getfield 24, 3) := by decide +kernel
theorem dX9_readsSentence_94 : decode cX9_readsSentence 94 = .ok (.iload_n 1, 1) := by decide +kernel
theorem dX9_readsSentence_95 : decode cX9_readsSentence 95 = .ok (.invokestatic 66, 3) := by decide +kernel
theorem dX9_readsSentence_98 : decode cX9_readsSentence 98 = .ok (.iload_n 3, 1) := by decide +kernel
theorem dX9_readsSentence_99 : decode cX9_readsSentence 99 = .ok (.iadd, 1) := by decide +kernel
theorem dX9_readsSentence_100 : decode cX9_readsSentence 100 = .ok (.lconst 0, 1) := by decide +kernel
theorem dX9_readsSentence_101 : decode cX9_readsSentence 101 = .ok (.lastore, 1) := by decide +kernel
theorem dX9_readsSentence_102 : decode cX9_readsSentence 102 = .ok (.iinc 3 1, 3) := by decide +kernel
theorem dX9_readsSentence_105 : decode cX9_readsSentence 105 = .ok (.goto (-20), 3) := by decide +kernel
theorem dX9_readsSentence_108 : decode cX9_readsSentence 108 = .ok (.aload_n 0, 1) := by decide +kernel
theorem dX9_readsSentence_109 : decode cX9_readsSentence 109 = .ok (.invokevirtual 95, 3) := by decide +kernel
theorem dX9_readsSentence_112 : decode cX9_readsSentence 112 = .ok (.ifCond .eq 21, 3) := by decide +kernel
theorem dX9_readsSentence_115 : decode cX9_readsSentence 115 = .ok (.aload_n 0, 1) := by decide +kernel
theorem dX9_readsSentence_116 : decode cX9_readsSentence 116 = .ok (.invokevirtual 108, 3) := by decide +kernel
theorem dX9_readsSentence_119 : decode cX9_readsSentence 119 = .ok (.invokestatic 85, 3) := by decide +kernel
theorem dX9_readsSentence_122 : decode cX9_readsSentence 122 = .ok (.ifCond .eq 11, 3) := by decide +kernel
theorem dX9_readsSentence_125 : decode cX9_readsSentence 125 = .ok (.aload_n 0, 1) := by decide +kernel
theorem dX9_readsSentence_126 : decode cX9_readsSentence 126 = .ok (.iload_n 1, 1) := by decide +kernel
theorem dX9_readsSentence_127 : decode cX9_readsSentence 127 = .ok (.invokevirtual 112, 3) := by decide +kernel
theorem dX9_readsSentence_130 : decode cX9_readsSentence 130 = .ok (.goto (-22), 3) := by decide +kernel
theorem dX9_readsSentence_133 : decode cX9_readsSentence 133 = .ok (.aload_n 0, 1) := by decide +kernel
theorem dX9_readsSentence_134 : decode cX9_readsSentence 134 = .ok (.invokevirtual 95, 3) := by decide +kernel
theorem dX9_readsSentence_137 : decode cX9_readsSentence 137 = .ok (.ifCond .eq 21, 3) := by decide +kernel
theorem dX9_readsSentence_140 : decode cX9_readsSentence 140 = .ok (.aload_n 0, 1) := by decide +kernel
theorem dX9_readsSentence_141 : decode cX9_readsSentence 141 = .ok (.invokevirtual 108, 3) := by decide +kernel
theorem dX9_readsSentence_144 : decode cX9_readsSentence 144 = .ok (.bipush 46, 2) := by decide +kernel
theorem dX9_readsSentence_146 : decode cX9_readsSentence 146 = .ok (.if_icmp .eq 12, 3) := by decide +kernel
theorem dX9_readsSentence_149 : decode cX9_readsSentence 149 = .ok (.aload_n 0, 1) := by decide +kernel
theorem dX9_readsSentence_150 : decode cX9_readsSentence 150 = .ok (.iconst 1, 1) := by decide +kernel
theorem dX9_readsSentence_151 : decode cX9_readsSentence 151 = .ok (.aload_n 0, 1) := by decide +kernel
theorem dX9_readsSentence_152 : decode cX9_readsSentence 152 = .ok (.getfield 73, 3) := by decide +kernel
theorem dX9_readsSentence_155 : decode cX9_readsSentence 155 = .ok (.invokevirtual 89, 3) := by decide +kernel
theorem dX9_readsSentence_158 : decode cX9_readsSentence 158 = .ok (.aload_n 0, 1) := by decide +kernel
theorem dX9_readsSentence_159 : decode cX9_readsSentence 159 = .ok (.dup, 1) := by decide +kernel
theorem dX9_readsSentence_160 : decode cX9_readsSentence 160 = .ok (.getfield 73, 3) := by decide +kernel
theorem dX9_readsSentence_163 : decode cX9_readsSentence 163 = .ok (.iconst 1, 1) := by decide +kernel
theorem dX9_readsSentence_164 : decode cX9_readsSentence 164 = .ok (.iadd, 1) := by decide +kernel
theorem dX9_readsSentence_165 : decode cX9_readsSentence 165 = .ok (.putfield 73, 3) := by decide +kernel
theorem dX9_readsSentence_168 : decode cX9_readsSentence 168 = .ok (.aload_n 0, 1) := by decide +kernel
theorem dX9_readsSentence_169 : decode cX9_readsSentence 169 = .ok (.getfield 24, 3) := by decide +kernel
theorem dX9_readsSentence_172 : decode cX9_readsSentence 172 = .ok (.iconst 0, 1) := by decide +kernel
theorem dX9_readsSentence_173 : decode cX9_readsSentence 173 = .ok (.dup2, 1) := by decide +kernel
theorem dX9_readsSentence_174 : decode cX9_readsSentence 174 = .ok (.laload, 1) := by decide +kernel
theorem dX9_readsSentence_175 : decode cX9_readsSentence 175 = .ok (.lconst 1, 1) := by decide +kernel
theorem dX9_readsSentence_176 : decode cX9_readsSentence 176 = .ok (.ladd, 1) := by decide +kernel
theorem dX9_readsSentence_177 : decode cX9_readsSentence 177 = .ok (.lastore, 1) := by decide +kernel
theorem dX9_readsSentence_178 : decode cX9_readsSentence 178 = .ok (.return_, 1) := by decide +kernel
theorem dX9_text_0 : decode cX9_text 0 = .ok (.aload_n 0, 1) := by decide +kernel
theorem dX9_text_1 : decode cX9_text 1 = .ok (.iconst 0, 1) := by decide +kernel
theorem dX9_text_2 : decode cX9_text 2 = .ok (.putfield 60, 3) := by decide +kernel
theorem dX9_text_5 : decode cX9_text 5 = .ok (.aload_n 0, 1) := by decide +kernel
theorem dX9_text_6 : decode cX9_text 6 = .ok (.iload_n 1, 1) := by decide +kernel
theorem dX9_text_7 : decode cX9_text 7 = .ok (.iconst 0, 1) := by decide +kernel
theorem dX9_text_8 : decode cX9_text 8 = .ok (.aload_n 0, 1) := by decide +kernel
theorem dX9_text_9 : decode cX9_text 9 = .ok (.getfield 63, 3) := by decide +kernel
theorem dX9_text_12 : decode cX9_text 12 = .ok (.invokestatic 116, 3) := by decide +kernel
theorem dX9_text_15 : decode cX9_text 15 = .ok (.ifCond .ne 7, 3) := by decide +kernel
theorem dX9_text_18 : decode cX9_text 18 = .ok (.iconst 1, 1) := by decide +kernel
theorem dX9_text_19 : decode cX9_text 19 = .ok (.goto 4, 3) := by decide +kernel
theorem dX9_text_22 : decode cX9_text 22 = .ok (.iconst 0, 1) := by decide +kernel
theorem dX9_text_23 : decode cX9_text 23 = .ok (.iconst 1, 1) := by decide +kernel
theorem dX9_text_24 : decode cX9_text 24 = .ok (.iconst 1, 1) := by decide +kernel
theorem dX9_text_25 : decode cX9_text 25 = .ok (.invokevirtual 119, 3) := by decide +kernel
theorem dX9_text_28 : decode cX9_text 28 = .ok (.ifCond .eq 5, 3) := by decide +kernel
theorem dX9_text_31 : decode cX9_text 31 = .ok (.iconst 0, 1) := by decide +kernel
theorem dX9_text_32 : decode cX9_text 32 = .ok (.ireturn, 1) := by decide +kernel
theorem dX9_text_33 : decode cX9_text 33 = .ok (.aload_n 0, 1) := by decide +kernel
theorem dX9_text_34 : decode cX9_text 34 = .ok (.iconst 0, 1) := by decide +kernel
theorem dX9_text_35 : decode cX9_text 35 = .ok (.putfield 63, 3) := by decide +kernel
theorem dX9_text_38 : decode cX9_text 38 = .ok (.aload_n 0, 1) := by decide +kernel
theorem dX9_text_39 : decode cX9_text 39 = .ok (.iload_n 1, 1) := by decide +kernel
theorem dX9_text_40 : decode cX9_text 40 = .ok (.putfield 70, 3) := by decide +kernel
theorem dX9_text_43 : decode cX9_text 43 = .ok (.aload_n 0, 1) := by decide +kernel
theorem dX9_text_44 : decode cX9_text 44 = .ok (.iconst 0, 1) := by decide +kernel
theorem dX9_text_45 : decode cX9_text 45 = .ok (.putfield 73, 3) := by decide +kernel
theorem dX9_text_48 : decode cX9_text 48 = .ok (.aload_n 0, 1) := by decide +kernel
theorem dX9_text_49 : decode cX9_text 49 = .ok (.iconst 0, 1) := by decide +kernel
theorem dX9_text_50 : decode cX9_text 50 = .ok (.putfield 79, 3) := by decide +kernel
theorem dX9_text_53 : decode cX9_text 53 = .ok (.aload_n 0, 1) := by decide +kernel
theorem dX9_text_54 : decode cX9_text 54 = .ok (.iconst (-1), 1) := by decide +kernel
theorem dX9_text_55 : decode cX9_text 55 = .ok (.putfield 82, 3) := by decide +kernel
theorem dX9_text_58 : decode cX9_text 58 = .ok (.iconst 0, 1) := by decide +kernel
theorem dX9_text_59 : decode cX9_text 59 = .ok (.istore_n 2, 1) := by decide +kernel
theorem dX9_text_60 : decode cX9_text 60 = .ok (.iload_n 2, 1) := by decide +kernel
theorem dX9_text_61 : decode cX9_text 61 = .ok (.sipush 645, 3) := by decide +kernel
theorem dX9_text_64 : decode cX9_text 64 = .ok (.if_icmp .ge 16, 3) := by decide +kernel
theorem dX9_text_67 : decode cX9_text 67 = .ok (.aload_n 0, 1) := by decide +kernel
theorem dX9_text_68 : decode cX9_text 68 = .ok (.getfield 24, 3) := by decide +kernel
theorem dX9_text_71 : decode cX9_text 71 = .ok (.iload_n 2, 1) := by decide +kernel
theorem dX9_text_72 : decode cX9_text 72 = .ok (.lconst 0, 1) := by decide +kernel
theorem dX9_text_73 : decode cX9_text 73 = .ok (.lastore, 1) := by decide +kernel
theorem dX9_text_74 : decode cX9_text 74 = .ok (.iinc 2 1, 3) := by decide +kernel
theorem dX9_text_77 : decode cX9_text 77 = .ok (.goto (-17), 3) := by decide +kernel
theorem dX9_text_80 : decode cX9_text 80 = .ok (.aload_n 0, 1) := by decide +kernel
theorem dX9_text_81 : decode cX9_text 81 = .ok (.getfield 24, 3) := by decide +kernel
theorem dX9_text_84 : decode cX9_text 84 = .ok (.iconst 2, 1) := by decide +kernel
theorem dX9_text_85 : decode cX9_text 85 = .ok (.aload_n 0, 1) := by decide +kernel
theorem dX9_text_86 : decode cX9_text 86 = .ok (.getfield 20, 3) := by decide +kernel
theorem dX9_text_89 : decode cX9_text 89 = .ok (.iconst 2, 1) := by decide +kernel
theorem dX9_text_90 : decode cX9_text 90 = .ok (.laload, 1) := by decide +kernel
theorem dX9_text_91 : decode cX9_text 91 = .ok (.lastore, 1) := by decide +kernel
theorem dX9_text_92 : decode cX9_text 92 = .ok (.aload_n 0, 1) := by decide +kernel
theorem dX9_text_93 : decode cX9_text 93 = .ok (.invokevirtual 95, 3) := by decide +kernel
theorem dX9_text_96 : decode cX9_text 96 = .ok (.ifCond .eq 18, 3) := by decide +kernel
theorem dX9_text_99 : decode cX9_text 99 = .ok (.aload_n 0, 1) := by decide +kernel
theorem dX9_text_100 : decode cX9_text 100 = .ok (.invokevirtual 108, 3) := by decide +kernel
theorem dX9_text_103 : decode cX9_text 103 = .ok (.iconst (-1), 1) := by decide +kernel
theorem dX9_text_104 : decode cX9_text 104 = .ok (.if_icmp .eq 10, 3) := by decide +kernel
theorem dX9_text_107 : decode cX9_text 107 = .ok (.aload_n 0, 1) := by decide +kernel
theorem dX9_text_108 : decode cX9_text 108 = .ok (.invokevirtual 123, 3) := by decide +kernel
theorem dX9_text_111 : decode cX9_text 111 = .ok (.goto (-19), 3) := by decide +kernel
theorem dX9_text_114 : decode cX9_text 114 = .ok (.aload_n 0, 1) := by decide +kernel
theorem dX9_text_115 : decode cX9_text 115 = .ok (.aload_n 0, 1) := by decide +kernel
theorem dX9_text_116 : decode cX9_text 116 = .ok (.getfield 82, 3) := by decide +kernel
theorem dX9_text_119 : decode cX9_text 119 = .ok (.putfield 13, 3) := by decide +kernel
theorem dX9_text_122 : decode cX9_text 122 = .ok (.aload_n 0, 1) := by decide +kernel
theorem dX9_text_123 : decode cX9_text 123 = .ok (.invokevirtual 95, 3) := by decide +kernel
theorem dX9_text_126 : decode cX9_text 126 = .ok (.ifCond .ne 11, 3) := by decide +kernel
theorem dX9_text_129 : decode cX9_text 129 = .ok (.aload_n 0, 1) := by decide +kernel
theorem dX9_text_130 : decode cX9_text 130 = .ok (.getfield 79, 3) := by decide +kernel
theorem dX9_text_133 : decode cX9_text 133 = .ok (.bipush 10, 2) := by decide +kernel
theorem dX9_text_135 : decode cX9_text 135 = .ok (.isub, 1) := by decide +kernel
theorem dX9_text_136 : decode cX9_text 136 = .ok (.ireturn, 1) := by decide +kernel
theorem dX9_text_137 : decode cX9_text 137 = .ok (.aload_n 0, 1) := by decide +kernel
theorem dX9_text_138 : decode cX9_text 138 = .ok (.invokevirtual 126, 3) := by decide +kernel
theorem dX9_text_141 : decode cX9_text 141 = .ok (.aload_n 0, 1) := by decide +kernel
theorem dX9_text_142 : decode cX9_text 142 = .ok (.getfield 24, 3) := by decide +kernel
theorem dX9_text_145 : decode cX9_text 145 = .ok (.aload_n 0, 1) := by decide +kernel
theorem dX9_text_146 : decode cX9_text 146 = .ok (.getfield 20, 3) := by decide +kernel
theorem dX9_text_149 : decode cX9_text 149 = .ok (.invokestatic 129, 3) := by decide +kernel
theorem dX9_text_152 : decode cX9_text 152 = .ok (.aload_n 0, 1) := by decide +kernel
theorem dX9_text_153 : decode cX9_text 153 = .ok (.invokevirtual 133, 3) := by decide +kernel
theorem dX9_text_156 : decode cX9_text 156 = .ok (.ireturn, 1) := by decide +kernel
theorem dX9_fault_0 : decode cX9_fault 0 = .ok (.aload_n 0, 1) := by decide +kernel
theorem dX9_fault_1 : decode cX9_fault 1 = .ok (.iconst 0, 1) := by decide +kernel
theorem dX9_fault_2 : decode cX9_fault 2 = .ok (.putfield 60, 3) := by decide +kernel
theorem dX9_fault_5 : decode cX9_fault 5 = .ok (.aload_n 0, 1) := by decide +kernel
theorem dX9_fault_6 : decode cX9_fault 6 = .ok (.getfield 13, 3) := by decide +kernel
theorem dX9_fault_9 : decode cX9_fault 9 = .ok (.ireturn, 1) := by decide +kernel
theorem dX9_standsIn_0 : decode cX9_standsIn 0 = .ok (.iconst 0, 1) := by decide +kernel
theorem dX9_standsIn_1 : decode cX9_standsIn 1 = .ok (.istore_n 2, 1) := by decide +kernel
theorem dX9_standsIn_2 : decode cX9_standsIn 2 = .ok (.iconst 0, 1) := by decide +kernel
theorem dX9_standsIn_3 : decode cX9_standsIn 3 = .ok (.istore_n 3, 1) := by decide +kernel
theorem dX9_standsIn_4 : decode cX9_standsIn 4 = .ok (.iload_n 3, 1) := by decide +kernel
theorem dX9_standsIn_5 : decode cX9_standsIn 5 = .ok (.aload_n 0, 1) := by decide +kernel
theorem dX9_standsIn_6 : decode cX9_standsIn 6 = .ok (.invokevirtual 133, 3) := by decide +kernel
theorem dX9_standsIn_9 : decode cX9_standsIn 9 = .ok (.if_icmp .ge 29, 3) := by decide +kernel
theorem dX9_standsIn_12 : decode cX9_standsIn 12 = .ok (.iload_n 2, 1) := by decide +kernel
theorem dX9_standsIn_13 : decode cX9_standsIn 13 = .ok (.aload_n 0, 1) := by decide +kernel
theorem dX9_standsIn_14 : decode cX9_standsIn 14 = .ok (.iload_n 3, 1) := by decide +kernel
theorem dX9_standsIn_15 : decode cX9_standsIn 15 = .ok (.invokevirtual 136, 3) := by decide +kernel
theorem dX9_standsIn_18 : decode cX9_standsIn 18 = .ok (.iload_n 1, 1) := by decide +kernel
theorem dX9_standsIn_19 : decode cX9_standsIn 19 = .ok (.invokestatic 140, 3) := by decide +kernel
theorem dX9_standsIn_22 : decode cX9_standsIn 22 = .ok (.ifCond .eq 7, 3) := by decide +kernel
theorem dX9_standsIn_25 : decode cX9_standsIn 25 = .ok (.iconst 1, 1) := by decide +kernel
theorem dX9_standsIn_26 : decode cX9_standsIn 26 = .ok (.goto 4, 3) := by decide +kernel
theorem dX9_standsIn_29 : decode cX9_standsIn 29 = .ok (.iconst 0, 1) := by decide +kernel
theorem dX9_standsIn_30 : decode cX9_standsIn 30 = .ok (.iadd, 1) := by decide +kernel
theorem dX9_standsIn_31 : decode cX9_standsIn 31 = .ok (.istore_n 2, 1) := by decide +kernel
theorem dX9_standsIn_32 : decode cX9_standsIn 32 = .ok (.iinc 3 1, 3) := by decide +kernel
theorem dX9_standsIn_35 : decode cX9_standsIn 35 = .ok (.goto (-31), 3) := by decide +kernel
theorem dX9_standsIn_38 : decode cX9_standsIn 38 = .ok (.iload_n 2, 1) := by decide +kernel
theorem dX9_standsIn_39 : decode cX9_standsIn 39 = .ok (.ireturn, 1) := by decide +kernel
theorem dX9_weightOf_0 : decode cX9_weightOf 0 = .ok (.aload_n 0, 1) := by decide +kernel
theorem dX9_weightOf_1 : decode cX9_weightOf 1 = .ok (.getfield 20, 3) := by decide +kernel
theorem dX9_weightOf_4 : decode cX9_weightOf 4 = .ok (.iload_n 1, 1) := by decide +kernel
theorem dX9_weightOf_5 : decode cX9_weightOf 5 = .ok (.invokestatic 103, 3) := by decide +kernel
theorem dX9_weightOf_8 : decode cX9_weightOf 8 = .ok (.bipush 10, 2) := by decide +kernel
theorem dX9_weightOf_10 : decode cX9_weightOf 10 = .ok (.iadd, 1) := by decide +kernel
theorem dX9_weightOf_11 : decode cX9_weightOf 11 = .ok (.iconst 1, 1) := by decide +kernel
theorem dX9_weightOf_12 : decode cX9_weightOf 12 = .ok (.iadd, 1) := by decide +kernel
theorem dX9_weightOf_13 : decode cX9_weightOf 13 = .ok (.laload, 1) := by decide +kernel
theorem dX9_weightOf_14 : decode cX9_weightOf 14 = .ok (.l2i, 1) := by decide +kernel
theorem dX9_weightOf_15 : decode cX9_weightOf 15 = .ok (.istore_n 2, 1) := by decide +kernel
theorem dX9_weightOf_16 : decode cX9_weightOf 16 = .ok (.iload_n 2, 1) := by decide +kernel
theorem dX9_weightOf_17 : decode cX9_weightOf 17 = .ok (.iconst (-1), 1) := by decide +kernel
theorem dX9_weightOf_18 : decode cX9_weightOf 18 = .ok (.if_icmp .ne 11, 3) := by decide +kernel
theorem dX9_weightOf_21 : decode cX9_weightOf 21 = .ok (.aload_n 0, 1) := by decide +kernel
theorem dX9_weightOf_22 : decode cX9_weightOf 22 = .ok (.iload_n 1, 1) := by decide +kernel
theorem dX9_weightOf_23 : decode cX9_weightOf 23 = .ok (.invokevirtual 144, 3) := by decide +kernel
theorem dX9_weightOf_26 : decode cX9_weightOf 26 = .ok (.goto 4, 3) := by decide +kernel
theorem dX9_weightOf_29 : decode cX9_weightOf 29 = .ok (.iload_n 2, 1) := by decide +kernel
theorem dX9_weightOf_30 : decode cX9_weightOf 30 = .ok (.ireturn, 1) := by decide +kernel
theorem dX9_weightsOf_0 : decode cX9_weightsOf 0 = .ok (.iconst 0, 1) := by decide +kernel
theorem dX9_weightsOf_1 : decode cX9_weightsOf 1 = .ok (.istore_n 3, 1) := by decide +kernel
theorem dX9_weightsOf_2 : decode cX9_weightsOf 2 = .ok (.iconst 0, 1) := by decide +kernel
theorem dX9_weightsOf_3 : decode cX9_weightsOf 3 = .ok (.istore 4, 2) := by decide +kernel
theorem dX9_weightsOf_5 : decode cX9_weightsOf 5 = .ok (.iload 4, 2) := by decide +kernel
theorem dX9_weightsOf_7 : decode cX9_weightsOf 7 = .ok (.aload_n 0, 1) := by decide +kernel
theorem dX9_weightsOf_8 : decode cX9_weightsOf 8 = .ok (.invokevirtual 147, 3) := by decide +kernel
theorem dX9_weightsOf_11 : decode cX9_weightsOf 11 = .ok (.if_icmp .ge 31, 3) := by decide +kernel
theorem dX9_weightsOf_14 : decode cX9_weightsOf 14 = .ok (.iload_n 3, 1) := by decide +kernel
theorem dX9_weightsOf_15 : decode cX9_weightsOf 15 = .ok (.lload_n 1, 1) := by decide +kernel
theorem dX9_weightsOf_16 : decode cX9_weightsOf 16 = .ok (.iload 4, 2) := by decide +kernel
theorem dX9_weightsOf_18 : decode cX9_weightsOf 18 = .ok (.invokestatic 140, 3) := by decide +kernel
theorem dX9_weightsOf_21 : decode cX9_weightsOf 21 = .ok (.ifCond .eq 12, 3) := by decide +kernel
theorem dX9_weightsOf_24 : decode cX9_weightsOf 24 = .ok (.aload_n 0, 1) := by decide +kernel
theorem dX9_weightsOf_25 : decode cX9_weightsOf 25 = .ok (.iload 4, 2) := by decide +kernel
theorem dX9_weightsOf_27 : decode cX9_weightsOf 27 = .ok (.invokevirtual 150, 3) := by decide +kernel
theorem dX9_weightsOf_30 : decode cX9_weightsOf 30 = .ok (.goto 4, 3) := by decide +kernel
theorem dX9_weightsOf_33 : decode cX9_weightsOf 33 = .ok (.iconst 0, 1) := by decide +kernel
theorem dX9_weightsOf_34 : decode cX9_weightsOf 34 = .ok (.iadd, 1) := by decide +kernel
theorem dX9_weightsOf_35 : decode cX9_weightsOf 35 = .ok (.istore_n 3, 1) := by decide +kernel
theorem dX9_weightsOf_36 : decode cX9_weightsOf 36 = .ok (.iinc 4 1, 3) := by decide +kernel
theorem dX9_weightsOf_39 : decode cX9_weightsOf 39 = .ok (.goto (-34), 3) := by decide +kernel
theorem dX9_weightsOf_42 : decode cX9_weightsOf 42 = .ok (.iload_n 3, 1) := by decide +kernel
theorem dX9_weightsOf_43 : decode cX9_weightsOf 43 = .ok (.ireturn, 1) := by decide +kernel
theorem dX9_chain_0 : decode cX9_chain 0 = .ok (.iconst 0, 1) := by decide +kernel
theorem dX9_chain_1 : decode cX9_chain 1 = .ok (.istore_n 2, 1) := by decide +kernel
theorem dX9_chain_2 : decode cX9_chain 2 = .ok (.iload_n 1, 1) := by decide +kernel
theorem dX9_chain_3 : decode cX9_chain 3 = .ok (.istore_n 3, 1) := by decide +kernel
theorem dX9_chain_4 : decode cX9_chain 4 = .ok (.iconst 1, 1) := by decide +kernel
theorem dX9_chain_5 : decode cX9_chain 5 = .ok (.istore 4, 2) := by decide +kernel
theorem dX9_chain_7 : decode cX9_chain 7 = .ok (.iload 4, 2) := by decide +kernel
theorem dX9_chain_9 : decode cX9_chain 9 = .ok (.ifCond .eq 50, 3) := by decide +kernel
theorem dX9_chain_12 : decode cX9_chain 12 = .ok (.iload_n 2, 1) := by decide +kernel
theorem dX9_chain_13 : decode cX9_chain 13 = .ok (.iconst 1, 1) := by decide +kernel
theorem dX9_chain_14 : decode cX9_chain 14 = .ok (.iload_n 3, 1) := by decide +kernel
theorem dX9_chain_15 : decode cX9_chain 15 = .ok (.ishl, 1) := by decide +kernel
theorem dX9_chain_16 : decode cX9_chain 16 = .ok (.ior, 1) := by decide +kernel
theorem dX9_chain_17 : decode cX9_chain 17 = .ok (.istore_n 2, 1) := by decide +kernel
theorem dX9_chain_18 : decode cX9_chain 18 = .ok (.iload_n 3, 1) := by decide +kernel
theorem dX9_chain_19 : decode cX9_chain 19 = .ok (.ifCond .le 31, 3) := by decide +kernel
theorem dX9_chain_22 : decode cX9_chain 22 = .ok (.aload_n 0, 1) := by decide +kernel
theorem dX9_chain_23 : decode cX9_chain 23 = .ok (.getfield 20, 3) := by decide +kernel
theorem dX9_chain_26 : decode cX9_chain 26 = .ok (.iconst 4, 1) := by decide +kernel
theorem dX9_chain_27 : decode cX9_chain 27 = .ok (.laload, 1) := by decide +kernel
theorem dX9_chain_28 : decode cX9_chain 28 = .ok (.aload_n 0, 1) := by decide +kernel
theorem dX9_chain_29 : decode cX9_chain 29 = .ok (.getfield 20, 3) := by decide +kernel
theorem dX9_chain_32 : decode cX9_chain 32 = .ok (.iload_n 3, 1) := by decide +kernel
theorem dX9_chain_33 : decode cX9_chain 33 = .ok (.invokestatic 66, 3) := by decide +kernel
theorem dX9_chain_36 : decode cX9_chain 36 = .ok (.iconst 3, 1) := by decide +kernel
theorem dX9_chain_37 : decode cX9_chain 37 = .ok (.iadd, 1) := by decide +kernel
theorem dX9_chain_38 : decode cX9_chain 38 = .ok (.laload, 1) := by decide +kernel
theorem dX9_chain_39 : decode cX9_chain 39 = .ok (.l2i, 1) := by decide +kernel
theorem dX9_chain_40 : decode cX9_chain 40 = .ok (.invokestatic 140, 3) := by decide +kernel
theorem dX9_chain_43 : decode cX9_chain 43 = .ok (.ifCond .eq 7, 3) := by decide +kernel
theorem dX9_chain_46 : decode cX9_chain 46 = .ok (.iconst 1, 1) := by decide +kernel
theorem dX9_chain_47 : decode cX9_chain 47 = .ok (.goto 4, 3) := by decide +kernel
theorem dX9_chain_50 : decode cX9_chain 50 = .ok (.iconst 0, 1) := by decide +kernel
theorem dX9_chain_51 : decode cX9_chain 51 = .ok (.istore 4, 2) := by decide +kernel
theorem dX9_chain_53 : decode cX9_chain 53 = .ok (.iinc 3 (-1), 3) := by decide +kernel
theorem dX9_chain_56 : decode cX9_chain 56 = .ok (.goto (-49), 3) := by decide +kernel
theorem dX9_chain_59 : decode cX9_chain 59 = .ok (.iload_n 2, 1) := by decide +kernel
theorem dX9_chain_60 : decode cX9_chain 60 = .ok (.ireturn, 1) := by decide +kernel
theorem dX9_wordsIn_0 : decode cX9_wordsIn 0 = .ok (.lconst 0, 1) := by decide +kernel
theorem dX9_wordsIn_1 : decode cX9_wordsIn 1 = .ok (.lstore_n 2, 1) := by decide +kernel
theorem dX9_wordsIn_2 : decode cX9_wordsIn 2 = .ok (.iconst 0, 1) := by decide +kernel
theorem dX9_wordsIn_3 : decode cX9_wordsIn 3 = .ok (.istore 4, 2) := by decide +kernel
theorem dX9_wordsIn_5 : decode cX9_wordsIn 5 = .ok (.iload 4, 2) := by decide +kernel
theorem dX9_wordsIn_7 : decode cX9_wordsIn 7 = .ok (.aload_n 0, 1) := by decide +kernel
theorem dX9_wordsIn_8 : decode cX9_wordsIn 8 = .ok (.invokevirtual 133, 3) := by decide +kernel
theorem dX9_wordsIn_11 : decode cX9_wordsIn 11 = .ok (.if_icmp .ge 28, 3) := by decide +kernel
theorem dX9_wordsIn_14 : decode cX9_wordsIn 14 = .ok (.iload_n 1, 1) := by decide +kernel
theorem dX9_wordsIn_15 : decode cX9_wordsIn 15 = .ok (.i2l, 1) := by decide +kernel
theorem dX9_wordsIn_16 : decode cX9_wordsIn 16 = .ok (.iload 4, 2) := by decide +kernel
theorem dX9_wordsIn_18 : decode cX9_wordsIn 18 = .ok (.invokestatic 140, 3) := by decide +kernel
theorem dX9_wordsIn_21 : decode cX9_wordsIn 21 = .ok (.ifCond .eq 12, 3) := by decide +kernel
theorem dX9_wordsIn_24 : decode cX9_wordsIn 24 = .ok (.lload_n 2, 1) := by decide +kernel
theorem dX9_wordsIn_25 : decode cX9_wordsIn 25 = .ok (.aload_n 0, 1) := by decide +kernel
theorem dX9_wordsIn_26 : decode cX9_wordsIn 26 = .ok (.iload 4, 2) := by decide +kernel
theorem dX9_wordsIn_28 : decode cX9_wordsIn 28 = .ok (.invokevirtual 136, 3) := by decide +kernel
theorem dX9_wordsIn_31 : decode cX9_wordsIn 31 = .ok (.lor, 1) := by decide +kernel
theorem dX9_wordsIn_32 : decode cX9_wordsIn 32 = .ok (.lstore_n 2, 1) := by decide +kernel
theorem dX9_wordsIn_33 : decode cX9_wordsIn 33 = .ok (.iinc 4 1, 3) := by decide +kernel
theorem dX9_wordsIn_36 : decode cX9_wordsIn 36 = .ok (.goto (-31), 3) := by decide +kernel
theorem dX9_wordsIn_39 : decode cX9_wordsIn 39 = .ok (.lload_n 2, 1) := by decide +kernel
theorem dX9_wordsIn_40 : decode cX9_wordsIn 40 = .ok (.lreturn, 1) := by decide +kernel
theorem dX9_covered_0 : decode cX9_covered 0 = .ok (.aload_n 0, 1) := by decide +kernel
theorem dX9_covered_1 : decode cX9_covered 1 = .ok (.aload_n 0, 1) := by decide +kernel
theorem dX9_covered_2 : decode cX9_covered 2 = .ok (.iload_n 1, 1) := by decide +kernel
theorem dX9_covered_3 : decode cX9_covered 3 = .ok (.invokevirtual 153, 3) := by decide +kernel
theorem dX9_covered_6 : decode cX9_covered 6 = .ok (.invokevirtual 156, 3) := by decide +kernel
theorem dX9_covered_9 : decode cX9_covered 9 = .ok (.ireturn, 1) := by decide +kernel
theorem dX9_length_0 : decode cX9_length 0 = .ok (.iconst 0, 1) := by decide +kernel
theorem dX9_length_1 : decode cX9_length 1 = .ok (.istore_n 2, 1) := by decide +kernel
theorem dX9_length_2 : decode cX9_length 2 = .ok (.iconst 0, 1) := by decide +kernel
theorem dX9_length_3 : decode cX9_length 3 = .ok (.istore_n 3, 1) := by decide +kernel
theorem dX9_length_4 : decode cX9_length 4 = .ok (.iload_n 3, 1) := by decide +kernel
theorem dX9_length_5 : decode cX9_length 5 = .ok (.aload_n 0, 1) := by decide +kernel
theorem dX9_length_6 : decode cX9_length 6 = .ok (.invokevirtual 133, 3) := by decide +kernel
theorem dX9_length_9 : decode cX9_length 9 = .ok (.if_icmp .ge 30, 3) := by decide +kernel
theorem dX9_length_12 : decode cX9_length 12 = .ok (.iload_n 2, 1) := by decide +kernel
theorem dX9_length_13 : decode cX9_length 13 = .ok (.iload_n 1, 1) := by decide +kernel
theorem dX9_length_14 : decode cX9_length 14 = .ok (.i2l, 1) := by decide +kernel
theorem dX9_length_15 : decode cX9_length 15 = .ok (.iload_n 3, 1) := by decide +kernel
theorem dX9_length_16 : decode cX9_length 16 = .ok (.invokestatic 140, 3) := by decide +kernel
theorem dX9_length_19 : decode cX9_length 19 = .ok (.ifCond .eq 11, 3) := by decide +kernel
theorem dX9_length_22 : decode cX9_length 22 = .ok (.aload_n 0, 1) := by decide +kernel
theorem dX9_length_23 : decode cX9_length 23 = .ok (.iload_n 3, 1) := by decide +kernel
theorem dX9_length_24 : decode cX9_length 24 = .ok (.invokevirtual 160, 3) := by decide +kernel
theorem dX9_length_27 : decode cX9_length 27 = .ok (.goto 4, 3) := by decide +kernel
theorem dX9_length_30 : decode cX9_length 30 = .ok (.iconst 0, 1) := by decide +kernel
theorem dX9_length_31 : decode cX9_length 31 = .ok (.iadd, 1) := by decide +kernel
theorem dX9_length_32 : decode cX9_length 32 = .ok (.istore_n 2, 1) := by decide +kernel
theorem dX9_length_33 : decode cX9_length 33 = .ok (.iinc 3 1, 3) := by decide +kernel
theorem dX9_length_36 : decode cX9_length 36 = .ok (.goto (-32), 3) := by decide +kernel
theorem dX9_length_39 : decode cX9_length 39 = .ok (.iload_n 2, 1) := by decide +kernel
theorem dX9_length_40 : decode cX9_length 40 = .ok (.ireturn, 1) := by decide +kernel
theorem dX9_gain_0 : decode cX9_gain 0 = .ok (.aload_n 0, 1) := by decide +kernel
theorem dX9_gain_1 : decode cX9_gain 1 = .ok (.aload_n 0, 1) := by decide +kernel
theorem dX9_gain_2 : decode cX9_gain 2 = .ok (.iload_n 1, 1) := by decide +kernel
theorem dX9_gain_3 : decode cX9_gain 3 = .ok (.aload_n 0, 1) := by decide +kernel
theorem dX9_gain_4 : decode cX9_gain 4 = .ok (.iload_n 2, 1) := by decide +kernel
theorem dX9_gain_5 : decode cX9_gain 5 = .ok (.invokevirtual 163, 3) := by decide +kernel
theorem dX9_gain_8 : decode cX9_gain 8 = .ok (.ior, 1) := by decide +kernel
theorem dX9_gain_9 : decode cX9_gain 9 = .ok (.invokevirtual 153, 3) := by decide +kernel
theorem dX9_gain_12 : decode cX9_gain 12 = .ok (.aload_n 0, 1) := by decide +kernel
theorem dX9_gain_13 : decode cX9_gain 13 = .ok (.iload_n 1, 1) := by decide +kernel
theorem dX9_gain_14 : decode cX9_gain 14 = .ok (.invokevirtual 153, 3) := by decide +kernel
theorem dX9_gain_17 : decode cX9_gain 17 = .ok (.ldc2_w 106, 3) := by decide +kernel
theorem dX9_gain_20 : decode cX9_gain 20 = .ok (.lxor, 1) := by decide +kernel
theorem dX9_gain_21 : decode cX9_gain 21 = .ok (.land, 1) := by decide +kernel
theorem dX9_gain_22 : decode cX9_gain 22 = .ok (.invokevirtual 156, 3) := by decide +kernel
theorem dX9_gain_25 : decode cX9_gain 25 = .ok (.ireturn, 1) := by decide +kernel
theorem dX9_cost_0 : decode cX9_cost 0 = .ok (.aload_n 0, 1) := by decide +kernel
theorem dX9_cost_1 : decode cX9_cost 1 = .ok (.aload_n 0, 1) := by decide +kernel
theorem dX9_cost_2 : decode cX9_cost 2 = .ok (.iload_n 2, 1) := by decide +kernel
theorem dX9_cost_3 : decode cX9_cost 3 = .ok (.invokevirtual 163, 3) := by decide +kernel
theorem dX9_cost_6 : decode cX9_cost 6 = .ok (.iload_n 1, 1) := by decide +kernel
theorem dX9_cost_7 : decode cX9_cost 7 = .ok (.iconst (-1), 1) := by decide +kernel
theorem dX9_cost_8 : decode cX9_cost 8 = .ok (.ixor, 1) := by decide +kernel
theorem dX9_cost_9 : decode cX9_cost 9 = .ok (.iand, 1) := by decide +kernel
theorem dX9_cost_10 : decode cX9_cost 10 = .ok (.invokevirtual 166, 3) := by decide +kernel
theorem dX9_cost_13 : decode cX9_cost 13 = .ok (.ireturn, 1) := by decide +kernel
theorem dX9_fits_0 : decode cX9_fits 0 = .ok (.iload_n 1, 1) := by decide +kernel
theorem dX9_fits_1 : decode cX9_fits 1 = .ok (.i2l, 1) := by decide +kernel
theorem dX9_fits_2 : decode cX9_fits 2 = .ok (.iload_n 2, 1) := by decide +kernel
theorem dX9_fits_3 : decode cX9_fits 3 = .ok (.invokestatic 140, 3) := by decide +kernel
theorem dX9_fits_6 : decode cX9_fits 6 = .ok (.ifCond .ne 30, 3) := by decide +kernel
theorem dX9_fits_9 : decode cX9_fits 9 = .ok (.aload_n 0, 1) := by decide +kernel
theorem dX9_fits_10 : decode cX9_fits 10 = .ok (.iload_n 1, 1) := by decide +kernel
theorem dX9_fits_11 : decode cX9_fits 11 = .ok (.invokevirtual 166, 3) := by decide +kernel
theorem dX9_fits_14 : decode cX9_fits 14 = .ok (.aload_n 0, 1) := by decide +kernel
theorem dX9_fits_15 : decode cX9_fits 15 = .ok (.iload_n 1, 1) := by decide +kernel
theorem dX9_fits_16 : decode cX9_fits 16 = .ok (.iload_n 2, 1) := by decide +kernel
theorem dX9_fits_17 : decode cX9_fits 17 = .ok (.invokevirtual 169, 3) := by decide +kernel
theorem dX9_fits_20 : decode cX9_fits 20 = .ok (.iadd, 1) := by decide +kernel
theorem dX9_fits_21 : decode cX9_fits 21 = .ok (.i2l, 1) := by decide +kernel
theorem dX9_fits_22 : decode cX9_fits 22 = .ok (.aload_n 0, 1) := by decide +kernel
theorem dX9_fits_23 : decode cX9_fits 23 = .ok (.getfield 20, 3) := by decide +kernel
theorem dX9_fits_26 : decode cX9_fits 26 = .ok (.iconst 2, 1) := by decide +kernel
theorem dX9_fits_27 : decode cX9_fits 27 = .ok (.laload, 1) := by decide +kernel
theorem dX9_fits_28 : decode cX9_fits 28 = .ok (.lcmp, 1) := by decide +kernel
theorem dX9_fits_29 : decode cX9_fits 29 = .ok (.ifCond .gt 7, 3) := by decide +kernel
theorem dX9_fits_32 : decode cX9_fits 32 = .ok (.iconst 1, 1) := by decide +kernel
theorem dX9_fits_33 : decode cX9_fits 33 = .ok (.goto 4, 3) := by decide +kernel
theorem dX9_fits_36 : decode cX9_fits 36 = .ok (.iconst 0, 1) := by decide +kernel
theorem dX9_fits_37 : decode cX9_fits 37 = .ok (.ireturn, 1) := by decide +kernel
theorem dX9_remembers_0 : decode cX9_remembers 0 = .ok (.aload_n 0, 1) := by decide +kernel
theorem dX9_remembers_1 : decode cX9_remembers 1 = .ok (.iconst 0, 1) := by decide +kernel
theorem dX9_remembers_2 : decode cX9_remembers 2 = .ok (.putfield 173, 3) := by decide +kernel
theorem dX9_remembers_5 : decode cX9_remembers 5 = .ok (.aload_n 0, 1) := by decide +kernel
theorem dX9_remembers_6 : decode cX9_remembers 6 = .ok (.getfield 177, 3) := by decide +kernel
theorem dX9_remembers_9 : decode cX9_remembers 9 = .ok (.bipush 8, 2) := by decide +kernel
theorem dX9_remembers_11 : decode cX9_remembers 11 = .ok (.if_icmp .ne 44, 3) := by decide +kernel
theorem dX9_remembers_14 : decode cX9_remembers 14 = .ok (.iconst 1, 1) := by decide +kernel
theorem dX9_remembers_15 : decode cX9_remembers 15 = .ok (.istore_n 1, 1) := by decide +kernel
theorem dX9_remembers_16 : decode cX9_remembers 16 = .ok (.iload_n 1, 1) := by decide +kernel
theorem dX9_remembers_17 : decode cX9_remembers 17 = .ok (.bipush 8, 2) := by decide +kernel
theorem dX9_remembers_19 : decode cX9_remembers 19 = .ok (.if_icmp .ge 26, 3) := by decide +kernel
theorem dX9_remembers_22 : decode cX9_remembers 22 = .ok (.aload_n 0, 1) := by decide +kernel
theorem dX9_remembers_23 : decode cX9_remembers 23 = .ok (.getfield 29, 3) := by decide +kernel
theorem dX9_remembers_26 : decode cX9_remembers 26 = .ok (.iload_n 1, 1) := by decide +kernel
theorem dX9_remembers_27 : decode cX9_remembers 27 = .ok (.aaload, 1) := by decide +kernel
theorem dX9_remembers_28 : decode cX9_remembers 28 = .ok (.aload_n 0, 1) := by decide +kernel
theorem dX9_remembers_29 : decode cX9_remembers 29 = .ok (.getfield 29, 3) := by decide +kernel
theorem dX9_remembers_32 : decode cX9_remembers 32 = .ok (.iload_n 1, 1) := by decide +kernel
theorem dX9_remembers_33 : decode cX9_remembers 33 = .ok (.iconst 1, 1) := by decide +kernel
theorem dX9_remembers_34 : decode cX9_remembers 34 = .ok (.isub, 1) := by decide +kernel
theorem dX9_remembers_35 : decode cX9_remembers 35 = .ok (.aaload, 1) := by decide +kernel
theorem dX9_remembers_36 : decode cX9_remembers 36 = .ok (.invokestatic 129, 3) := by decide +kernel
theorem dX9_remembers_39 : decode cX9_remembers 39 = .ok (.iinc 1 1, 3) := by decide +kernel
theorem dX9_remembers_42 : decode cX9_remembers 42 = .ok (.goto (-26), 3) := by decide +kernel
theorem dX9_remembers_45 : decode cX9_remembers 45 = .ok (.aload_n 0, 1) := by decide +kernel
theorem dX9_remembers_46 : decode cX9_remembers 46 = .ok (.dup, 1) := by decide +kernel
theorem dX9_remembers_47 : decode cX9_remembers 47 = .ok (.getfield 177, 3) := by decide +kernel
theorem dX9_remembers_50 : decode cX9_remembers 50 = .ok (.iconst 1, 1) := by decide +kernel
theorem dX9_remembers_51 : decode cX9_remembers 51 = .ok (.isub, 1) := by decide +kernel
theorem dX9_remembers_52 : decode cX9_remembers 52 = .ok (.putfield 177, 3) := by decide +kernel
theorem dX9_remembers_55 : decode cX9_remembers 55 = .ok (.aload_n 0, 1) := by decide +kernel
theorem dX9_remembers_56 : decode cX9_remembers 56 = .ok (.getfield 20, 3) := by decide +kernel
theorem dX9_remembers_59 : decode cX9_remembers 59 = .ok (.aload_n 0, 1) := by decide +kernel
theorem dX9_remembers_60 : decode cX9_remembers 60 = .ok (.getfield 29, 3) := by decide +kernel
theorem dX9_remembers_63 : decode cX9_remembers 63 = .ok (.aload_n 0, 1) := by decide +kernel
theorem dX9_remembers_64 : decode cX9_remembers 64 = .ok (.getfield 177, 3) := by decide +kernel
theorem dX9_remembers_67 : decode cX9_remembers 67 = .ok (.aaload, 1) := by decide +kernel
theorem dX9_remembers_68 : decode cX9_remembers 68 = .ok (.invokestatic 129, 3) := by decide +kernel
theorem dX9_remembers_71 : decode cX9_remembers 71 = .ok (.aload_n 0, 1) := by decide +kernel
theorem dX9_remembers_72 : decode cX9_remembers 72 = .ok (.dup, 1) := by decide +kernel
theorem dX9_remembers_73 : decode cX9_remembers 73 = .ok (.getfield 177, 3) := by decide +kernel
theorem dX9_remembers_76 : decode cX9_remembers 76 = .ok (.iconst 1, 1) := by decide +kernel
theorem dX9_remembers_77 : decode cX9_remembers 77 = .ok (.iadd, 1) := by decide +kernel
theorem dX9_remembers_78 : decode cX9_remembers 78 = .ok (.putfield 177, 3) := by decide +kernel
theorem dX9_remembers_81 : decode cX9_remembers 81 = .ok (.return_, 1) := by decide +kernel
theorem dX9_undo_0 : decode cX9_undo 0 = .ok (.aload_n 0, 1) := by decide +kernel
theorem dX9_undo_1 : decode cX9_undo 1 = .ok (.iconst 0, 1) := by decide +kernel
theorem dX9_undo_2 : decode cX9_undo 2 = .ok (.putfield 60, 3) := by decide +kernel
theorem dX9_undo_5 : decode cX9_undo 5 = .ok (.aload_n 0, 1) := by decide +kernel
theorem dX9_undo_6 : decode cX9_undo 6 = .ok (.getfield 177, 3) := by decide +kernel
theorem dX9_undo_9 : decode cX9_undo 9 = .ok (.ifCond .ne 5, 3) := by decide +kernel
theorem dX9_undo_12 : decode cX9_undo 12 = .ok (.iconst (-1), 1) := by decide +kernel
theorem dX9_undo_13 : decode cX9_undo 13 = .ok (.ireturn, 1) := by decide +kernel
theorem dX9_undo_14 : decode cX9_undo 14 = .ok (.aload_n 0, 1) := by decide +kernel
theorem dX9_undo_15 : decode cX9_undo 15 = .ok (.dup, 1) := by decide +kernel
theorem dX9_undo_16 : decode cX9_undo 16 = .ok (.getfield 177, 3) := by decide +kernel
theorem dX9_undo_19 : decode cX9_undo 19 = .ok (.iconst 1, 1) := by decide +kernel
theorem dX9_undo_20 : decode cX9_undo 20 = .ok (.isub, 1) := by decide +kernel
theorem dX9_undo_21 : decode cX9_undo 21 = .ok (.putfield 177, 3) := by decide +kernel
theorem dX9_undo_24 : decode cX9_undo 24 = .ok (.aload_n 0, 1) := by decide +kernel
theorem dX9_undo_25 : decode cX9_undo 25 = .ok (.getfield 29, 3) := by decide +kernel
theorem dX9_undo_28 : decode cX9_undo 28 = .ok (.aload_n 0, 1) := by decide +kernel
theorem dX9_undo_29 : decode cX9_undo 29 = .ok (.getfield 177, 3) := by decide +kernel
theorem dX9_undo_32 : decode cX9_undo 32 = .ok (.aaload, 1) := by decide +kernel
theorem dX9_undo_33 : decode cX9_undo 33 = .ok (.aload_n 0, 1) := by decide +kernel
theorem dX9_undo_34 : decode cX9_undo 34 = .ok (.getfield 20, 3) := by decide +kernel
theorem dX9_undo_37 : decode cX9_undo 37 = .ok (.invokestatic 129, 3) := by decide +kernel
theorem dX9_undo_40 : decode cX9_undo 40 = .ok (.aload_n 0, 1) := by decide +kernel
theorem dX9_undo_41 : decode cX9_undo 41 = .ok (.iconst 0, 1) := by decide +kernel
theorem dX9_undo_42 : decode cX9_undo 42 = .ok (.putfield 173, 3) := by decide +kernel
theorem dX9_undo_45 : decode cX9_undo 45 = .ok (.aload_n 0, 1) := by decide +kernel
theorem dX9_undo_46 : decode cX9_undo 46 = .ok (.getfield 177, 3) := by decide +kernel
theorem dX9_undo_49 : decode cX9_undo 49 = .ok (.ireturn, 1) := by decide +kernel
theorem dX9_isThere_0 : decode cX9_isThere 0 = .ok (.iload_n 1, 1) := by decide +kernel
theorem dX9_isThere_1 : decode cX9_isThere 1 = .ok (.iconst 0, 1) := by decide +kernel
theorem dX9_isThere_2 : decode cX9_isThere 2 = .ok (.aload_n 0, 1) := by decide +kernel
theorem dX9_isThere_3 : decode cX9_isThere 3 = .ok (.invokevirtual 147, 3) := by decide +kernel
theorem dX9_isThere_6 : decode cX9_isThere 6 = .ok (.iconst 1, 1) := by decide +kernel
theorem dX9_isThere_7 : decode cX9_isThere 7 = .ok (.isub, 1) := by decide +kernel
theorem dX9_isThere_8 : decode cX9_isThere 8 = .ok (.invokestatic 116, 3) := by decide +kernel
theorem dX9_isThere_11 : decode cX9_isThere 11 = .ok (.ireturn, 1) := by decide +kernel
theorem dX9_isSentence_0 : decode cX9_isSentence 0 = .ok (.iload_n 1, 1) := by decide +kernel
theorem dX9_isSentence_1 : decode cX9_isSentence 1 = .ok (.iconst 0, 1) := by decide +kernel
theorem dX9_isSentence_2 : decode cX9_isSentence 2 = .ok (.aload_n 0, 1) := by decide +kernel
theorem dX9_isSentence_3 : decode cX9_isSentence 3 = .ok (.invokevirtual 133, 3) := by decide +kernel
theorem dX9_isSentence_6 : decode cX9_isSentence 6 = .ok (.iconst 1, 1) := by decide +kernel
theorem dX9_isSentence_7 : decode cX9_isSentence 7 = .ok (.isub, 1) := by decide +kernel
theorem dX9_isSentence_8 : decode cX9_isSentence 8 = .ok (.invokestatic 116, 3) := by decide +kernel
theorem dX9_isSentence_11 : decode cX9_isSentence 11 = .ok (.ireturn, 1) := by decide +kernel
theorem dX9_weigh_0 : decode cX9_weigh 0 = .ok (.aload_n 0, 1) := by decide +kernel
theorem dX9_weigh_1 : decode cX9_weigh 1 = .ok (.iconst 0, 1) := by decide +kernel
theorem dX9_weigh_2 : decode cX9_weigh 2 = .ok (.putfield 60, 3) := by decide +kernel
theorem dX9_weigh_5 : decode cX9_weigh 5 = .ok (.aload_n 0, 1) := by decide +kernel
theorem dX9_weigh_6 : decode cX9_weigh 6 = .ok (.aload_n 0, 1) := by decide +kernel
theorem dX9_weigh_7 : decode cX9_weigh 7 = .ok (.iload_n 1, 1) := by decide +kernel
theorem dX9_weigh_8 : decode cX9_weigh 8 = .ok (.invokevirtual 180, 3) := by decide +kernel
theorem dX9_weigh_11 : decode cX9_weigh 11 = .ok (.ifCond .ne 7, 3) := by decide +kernel
theorem dX9_weigh_14 : decode cX9_weigh 14 = .ok (.iconst 1, 1) := by decide +kernel
theorem dX9_weigh_15 : decode cX9_weigh 15 = .ok (.goto 4, 3) := by decide +kernel
theorem dX9_weigh_18 : decode cX9_weigh 18 = .ok (.iconst 0, 1) := by decide +kernel
theorem dX9_weigh_19 : decode cX9_weigh 19 = .ok (.iconst 1, 1) := by decide +kernel
theorem dX9_weigh_20 : decode cX9_weigh 20 = .ok (.iconst 0, 1) := by decide +kernel
theorem dX9_weigh_21 : decode cX9_weigh 21 = .ok (.invokevirtual 119, 3) := by decide +kernel
theorem dX9_weigh_24 : decode cX9_weigh 24 = .ok (.ifCond .ne 28, 3) := by decide +kernel
theorem dX9_weigh_27 : decode cX9_weigh 27 = .ok (.aload_n 0, 1) := by decide +kernel
theorem dX9_weigh_28 : decode cX9_weigh 28 = .ok (.iload_n 2, 1) := by decide +kernel
theorem dX9_weigh_29 : decode cX9_weigh 29 = .ok (.iconst 0, 1) := by decide +kernel
theorem dX9_weigh_30 : decode cX9_weigh 30 = .ok (.sipush 1000, 3) := by decide +kernel
theorem dX9_weigh_33 : decode cX9_weigh 33 = .ok (.invokestatic 116, 3) := by decide +kernel
theorem dX9_weigh_36 : decode cX9_weigh 36 = .ok (.ifCond .ne 7, 3) := by decide +kernel
theorem dX9_weigh_39 : decode cX9_weigh 39 = .ok (.iconst 1, 1) := by decide +kernel
theorem dX9_weigh_40 : decode cX9_weigh 40 = .ok (.goto 4, 3) := by decide +kernel
theorem dX9_weigh_43 : decode cX9_weigh 43 = .ok (.iconst 0, 1) := by decide +kernel
theorem dX9_weigh_44 : decode cX9_weigh 44 = .ok (.iconst 2, 1) := by decide +kernel
theorem dX9_weigh_45 : decode cX9_weigh 45 = .ok (.iconst 1, 1) := by decide +kernel
theorem dX9_weigh_46 : decode cX9_weigh 46 = .ok (.invokevirtual 119, 3) := by decide +kernel
theorem dX9_weigh_49 : decode cX9_weigh 49 = .ok (.ifCond .eq 5, 3) := by decide +kernel
theorem dX9_weigh_52 : decode cX9_weigh 52 = .ok (.iconst 0, 1) := by decide +kernel
theorem dX9_weigh_53 : decode cX9_weigh 53 = .ok (.ireturn, 1) := by decide +kernel
theorem dX9_weigh_54 : decode cX9_weigh 54 = .ok (.aload_n 0, 1) := by decide +kernel
theorem dX9_weigh_55 : decode cX9_weigh 55 = .ok (.iload_n 1, 1) := by decide +kernel
theorem dX9_weigh_56 : decode cX9_weigh 56 = .ok (.invokevirtual 150, 3) := by decide +kernel
theorem dX9_weigh_59 : decode cX9_weigh 59 = .ok (.istore_n 3, 1) := by decide +kernel
theorem dX9_weigh_60 : decode cX9_weigh 60 = .ok (.aload_n 0, 1) := by decide +kernel
theorem dX9_weigh_61 : decode cX9_weigh 61 = .ok (.invokevirtual 126, 3) := by decide +kernel
theorem dX9_weigh_64 : decode cX9_weigh 64 = .ok (.aload_n 0, 1) := by decide +kernel
theorem dX9_weigh_65 : decode cX9_weigh 65 = .ok (.getfield 20, 3) := by decide +kernel
theorem dX9_weigh_68 : decode cX9_weigh 68 = .ok (.iload_n 1, 1) := by decide +kernel
theorem dX9_weigh_69 : decode cX9_weigh 69 = .ok (.invokestatic 103, 3) := by decide +kernel
theorem dX9_weigh_72 : decode cX9_weigh 72 = .ok (.bipush 10, 2) := by decide +kernel
theorem dX9_weigh_74 : decode cX9_weigh 74 = .ok (.iadd, 1) := by decide +kernel
theorem dX9_weigh_75 : decode cX9_weigh 75 = .ok (.iconst 1, 1) := by decide +kernel
theorem dX9_weigh_76 : decode cX9_weigh 76 = .ok (.iadd, 1) := by decide +kernel
theorem dX9_weigh_77 : decode cX9_weigh 77 = .ok (.iload_n 2, 1) := by decide +kernel
theorem dX9_weigh_78 : decode cX9_weigh 78 = .ok (.i2l, 1) := by decide +kernel
theorem dX9_weigh_79 : decode cX9_weigh 79 = .ok (.lastore, 1) := by decide +kernel
theorem dX9_weigh_80 : decode cX9_weigh 80 = .ok (.iload_n 3, 1) := by decide +kernel
theorem dX9_weigh_81 : decode cX9_weigh 81 = .ok (.ireturn, 1) := by decide +kernel
theorem dX9_lean_0 : decode cX9_lean 0 = .ok (.aload_n 0, 1) := by decide +kernel
theorem dX9_lean_1 : decode cX9_lean 1 = .ok (.iconst 0, 1) := by decide +kernel
theorem dX9_lean_2 : decode cX9_lean 2 = .ok (.putfield 60, 3) := by decide +kernel
theorem dX9_lean_5 : decode cX9_lean 5 = .ok (.aload_n 0, 1) := by decide +kernel
theorem dX9_lean_6 : decode cX9_lean 6 = .ok (.aload_n 0, 1) := by decide +kernel
theorem dX9_lean_7 : decode cX9_lean 7 = .ok (.iload_n 1, 1) := by decide +kernel
theorem dX9_lean_8 : decode cX9_lean 8 = .ok (.invokevirtual 180, 3) := by decide +kernel
theorem dX9_lean_11 : decode cX9_lean 11 = .ok (.ifCond .ne 7, 3) := by decide +kernel
theorem dX9_lean_14 : decode cX9_lean 14 = .ok (.iconst 1, 1) := by decide +kernel
theorem dX9_lean_15 : decode cX9_lean 15 = .ok (.goto 4, 3) := by decide +kernel
theorem dX9_lean_18 : decode cX9_lean 18 = .ok (.iconst 0, 1) := by decide +kernel
theorem dX9_lean_19 : decode cX9_lean 19 = .ok (.iconst 1, 1) := by decide +kernel
theorem dX9_lean_20 : decode cX9_lean 20 = .ok (.iconst 0, 1) := by decide +kernel
theorem dX9_lean_21 : decode cX9_lean 21 = .ok (.invokevirtual 119, 3) := by decide +kernel
theorem dX9_lean_24 : decode cX9_lean 24 = .ok (.ifCond .eq 5, 3) := by decide +kernel
theorem dX9_lean_27 : decode cX9_lean 27 = .ok (.iconst 0, 1) := by decide +kernel
theorem dX9_lean_28 : decode cX9_lean 28 = .ok (.ireturn, 1) := by decide +kernel
theorem dX9_lean_29 : decode cX9_lean 29 = .ok (.aload_n 0, 1) := by decide +kernel
theorem dX9_lean_30 : decode cX9_lean 30 = .ok (.getfield 20, 3) := by decide +kernel
theorem dX9_lean_33 : decode cX9_lean 33 = .ok (.iconst 4, 1) := by decide +kernel
theorem dX9_lean_34 : decode cX9_lean 34 = .ok (.laload, 1) := by decide +kernel
theorem dX9_lean_35 : decode cX9_lean 35 = .ok (.iload_n 1, 1) := by decide +kernel
theorem dX9_lean_36 : decode cX9_lean 36 = .ok (.invokestatic 140, 3) := by decide +kernel
theorem dX9_lean_39 : decode cX9_lean 39 = .ok (.istore_n 3, 1) := by decide +kernel
theorem dX9_lean_40 : decode cX9_lean 40 = .ok (.aload_n 0, 1) := by decide +kernel
theorem dX9_lean_41 : decode cX9_lean 41 = .ok (.invokevirtual 126, 3) := by decide +kernel
theorem dX9_lean_44 : decode cX9_lean 44 = .ok (.aload_n 0, 1) := by decide +kernel
theorem dX9_lean_45 : decode cX9_lean 45 = .ok (.getfield 20, 3) := by decide +kernel
theorem dX9_lean_48 : decode cX9_lean 48 = .ok (.iconst 4, 1) := by decide +kernel
theorem dX9_lean_49 : decode cX9_lean 49 = .ok (.iload_n 2, 1) := by decide +kernel
theorem dX9_lean_50 : decode cX9_lean 50 = .ok (.ifCond .eq 16, 3) := by decide +kernel
theorem dX9_lean_53 : decode cX9_lean 53 = .ok (.aload_n 0, 1) := by decide +kernel
theorem dX9_lean_54 : decode cX9_lean 54 = .ok (.getfield 20, 3) := by decide +kernel
theorem dX9_lean_57 : decode cX9_lean 57 = .ok (.iconst 4, 1) := by decide +kernel
theorem dX9_lean_58 : decode cX9_lean 58 = .ok (.laload, 1) := by decide +kernel
theorem dX9_lean_59 : decode cX9_lean 59 = .ok (.lconst 1, 1) := by decide +kernel
theorem dX9_lean_60 : decode cX9_lean 60 = .ok (.iload_n 1, 1) := by decide +kernel
theorem dX9_lean_61 : decode cX9_lean 61 = .ok (.lshl, 1) := by decide +kernel
theorem dX9_lean_62 : decode cX9_lean 62 = .ok (.lor, 1) := by decide +kernel
theorem dX9_lean_63 : decode cX9_lean 63 = .ok (.goto 17, 3) := by decide +kernel
theorem dX9_lean_66 : decode cX9_lean 66 = .ok (.aload_n 0, 1) := by decide +kernel
theorem dX9_lean_67 : decode cX9_lean 67 = .ok (.getfield 20, 3) := by decide +kernel
theorem dX9_lean_70 : decode cX9_lean 70 = .ok (.iconst 4, 1) := by decide +kernel
theorem dX9_lean_71 : decode cX9_lean 71 = .ok (.laload, 1) := by decide +kernel
theorem dX9_lean_72 : decode cX9_lean 72 = .ok (.lconst 1, 1) := by decide +kernel
theorem dX9_lean_73 : decode cX9_lean 73 = .ok (.iload_n 1, 1) := by decide +kernel
theorem dX9_lean_74 : decode cX9_lean 74 = .ok (.lshl, 1) := by decide +kernel
theorem dX9_lean_75 : decode cX9_lean 75 = .ok (.ldc2_w 106, 3) := by decide +kernel
theorem dX9_lean_78 : decode cX9_lean 78 = .ok (.lxor, 1) := by decide +kernel
theorem dX9_lean_79 : decode cX9_lean 79 = .ok (.land, 1) := by decide +kernel
theorem dX9_lean_80 : decode cX9_lean 80 = .ok (.lastore, 1) := by decide +kernel
theorem dX9_lean_81 : decode cX9_lean 81 = .ok (.iload_n 3, 1) := by decide +kernel
theorem dX9_lean_82 : decode cX9_lean 82 = .ok (.iload_n 2, 1) := by decide +kernel
theorem dX9_lean_83 : decode cX9_lean 83 = .ok (.if_icmp .ne 7, 3) := by decide +kernel
theorem dX9_lean_86 : decode cX9_lean 86 = .ok (.iconst 0, 1) := by decide +kernel
theorem dX9_lean_87 : decode cX9_lean 87 = .ok (.goto 4, 3) := by decide +kernel
theorem dX9_lean_90 : decode cX9_lean 90 = .ok (.iconst 1, 1) := by decide +kernel
theorem dX9_lean_91 : decode cX9_lean 91 = .ok (.ireturn, 1) := by decide +kernel
theorem dX9_budget_0 : decode cX9_budget 0 = .ok (.aload_n 0, 1) := by decide +kernel
theorem dX9_budget_1 : decode cX9_budget 1 = .ok (.iconst 0, 1) := by decide +kernel
theorem dX9_budget_2 : decode cX9_budget 2 = .ok (.putfield 60, 3) := by decide +kernel
theorem dX9_budget_5 : decode cX9_budget 5 = .ok (.aload_n 0, 1) := by decide +kernel
theorem dX9_budget_6 : decode cX9_budget 6 = .ok (.iload_n 1, 1) := by decide +kernel
theorem dX9_budget_7 : decode cX9_budget 7 = .ok (.iconst 0, 1) := by decide +kernel
theorem dX9_budget_8 : decode cX9_budget 8 = .ok (.sipush 9999, 3) := by decide +kernel
theorem dX9_budget_11 : decode cX9_budget 11 = .ok (.invokestatic 116, 3) := by decide +kernel
theorem dX9_budget_14 : decode cX9_budget 14 = .ok (.ifCond .ne 7, 3) := by decide +kernel
theorem dX9_budget_17 : decode cX9_budget 17 = .ok (.iconst 1, 1) := by decide +kernel
theorem dX9_budget_18 : decode cX9_budget 18 = .ok (.goto 4, 3) := by decide +kernel
theorem dX9_budget_21 : decode cX9_budget 21 = .ok (.iconst 0, 1) := by decide +kernel
theorem dX9_budget_22 : decode cX9_budget 22 = .ok (.iconst 1, 1) := by decide +kernel
theorem dX9_budget_23 : decode cX9_budget 23 = .ok (.iconst 1, 1) := by decide +kernel
theorem dX9_budget_24 : decode cX9_budget 24 = .ok (.invokevirtual 119, 3) := by decide +kernel
theorem dX9_budget_27 : decode cX9_budget 27 = .ok (.ifCond .eq 5, 3) := by decide +kernel
theorem dX9_budget_30 : decode cX9_budget 30 = .ok (.iconst 0, 1) := by decide +kernel
theorem dX9_budget_31 : decode cX9_budget 31 = .ok (.ireturn, 1) := by decide +kernel
theorem dX9_budget_32 : decode cX9_budget 32 = .ok (.aload_n 0, 1) := by decide +kernel
theorem dX9_budget_33 : decode cX9_budget 33 = .ok (.invokevirtual 126, 3) := by decide +kernel
theorem dX9_budget_36 : decode cX9_budget 36 = .ok (.aload_n 0, 1) := by decide +kernel
theorem dX9_budget_37 : decode cX9_budget 37 = .ok (.getfield 20, 3) := by decide +kernel
theorem dX9_budget_40 : decode cX9_budget 40 = .ok (.iconst 2, 1) := by decide +kernel
theorem dX9_budget_41 : decode cX9_budget 41 = .ok (.laload, 1) := by decide +kernel
theorem dX9_budget_42 : decode cX9_budget 42 = .ok (.l2i, 1) := by decide +kernel
theorem dX9_budget_43 : decode cX9_budget 43 = .ok (.istore_n 2, 1) := by decide +kernel
theorem dX9_budget_44 : decode cX9_budget 44 = .ok (.aload_n 0, 1) := by decide +kernel
theorem dX9_budget_45 : decode cX9_budget 45 = .ok (.getfield 20, 3) := by decide +kernel
theorem dX9_budget_48 : decode cX9_budget 48 = .ok (.iconst 2, 1) := by decide +kernel
theorem dX9_budget_49 : decode cX9_budget 49 = .ok (.iload_n 1, 1) := by decide +kernel
theorem dX9_budget_50 : decode cX9_budget 50 = .ok (.i2l, 1) := by decide +kernel
theorem dX9_budget_51 : decode cX9_budget 51 = .ok (.lastore, 1) := by decide +kernel
theorem dX9_budget_52 : decode cX9_budget 52 = .ok (.iload_n 2, 1) := by decide +kernel
theorem dX9_budget_53 : decode cX9_budget 53 = .ok (.ireturn, 1) := by decide +kernel
theorem dX9_takenNow_0 : decode cX9_takenNow 0 = .ok (.aload_n 0, 1) := by decide +kernel
theorem dX9_takenNow_1 : decode cX9_takenNow 1 = .ok (.getfield 20, 3) := by decide +kernel
theorem dX9_takenNow_4 : decode cX9_takenNow 4 = .ok (.iconst 3, 1) := by decide +kernel
theorem dX9_takenNow_5 : decode cX9_takenNow 5 = .ok (.laload, 1) := by decide +kernel
theorem dX9_takenNow_6 : decode cX9_takenNow 6 = .ok (.l2i, 1) := by decide +kernel
theorem dX9_takenNow_7 : decode cX9_takenNow 7 = .ok (.ireturn, 1) := by decide +kernel
theorem dX9_take_0 : decode cX9_take 0 = .ok (.aload_n 0, 1) := by decide +kernel
theorem dX9_take_1 : decode cX9_take 1 = .ok (.iconst 0, 1) := by decide +kernel
theorem dX9_take_2 : decode cX9_take 2 = .ok (.putfield 60, 3) := by decide +kernel
theorem dX9_take_5 : decode cX9_take 5 = .ok (.aload_n 0, 1) := by decide +kernel
theorem dX9_take_6 : decode cX9_take 6 = .ok (.aload_n 0, 1) := by decide +kernel
theorem dX9_take_7 : decode cX9_take 7 = .ok (.iload_n 1, 1) := by decide +kernel
theorem dX9_take_8 : decode cX9_take 8 = .ok (.invokevirtual 183, 3) := by decide +kernel
theorem dX9_take_11 : decode cX9_take 11 = .ok (.ifCond .ne 7, 3) := by decide +kernel
theorem dX9_take_14 : decode cX9_take 14 = .ok (.iconst 1, 1) := by decide +kernel
theorem dX9_take_15 : decode cX9_take 15 = .ok (.goto 4, 3) := by decide +kernel
theorem dX9_take_18 : decode cX9_take 18 = .ok (.iconst 0, 1) := by decide +kernel
theorem dX9_take_19 : decode cX9_take 19 = .ok (.iconst 1, 1) := by decide +kernel
theorem dX9_take_20 : decode cX9_take 20 = .ok (.iconst 0, 1) := by decide +kernel
theorem dX9_take_21 : decode cX9_take 21 = .ok (.invokevirtual 119, 3) := by decide +kernel
theorem dX9_take_24 : decode cX9_take 24 = .ok (.ifCond .ne 29, 3) := by decide +kernel
theorem dX9_take_27 : decode cX9_take 27 = .ok (.aload_n 0, 1) := by decide +kernel
theorem dX9_take_28 : decode cX9_take 28 = .ok (.aload_n 0, 1) := by decide +kernel
theorem dX9_take_29 : decode cX9_take 29 = .ok (.aload_n 0, 1) := by decide +kernel
theorem dX9_take_30 : decode cX9_take 30 = .ok (.invokevirtual 186, 3) := by decide +kernel
theorem dX9_take_33 : decode cX9_take 33 = .ok (.iload_n 1, 1) := by decide +kernel
theorem dX9_take_34 : decode cX9_take 34 = .ok (.invokevirtual 189, 3) := by decide +kernel
theorem dX9_take_37 : decode cX9_take 37 = .ok (.ifCond .ne 7, 3) := by decide +kernel
theorem dX9_take_40 : decode cX9_take 40 = .ok (.iconst 1, 1) := by decide +kernel
theorem dX9_take_41 : decode cX9_take 41 = .ok (.goto 4, 3) := by decide +kernel
theorem dX9_take_44 : decode cX9_take 44 = .ok (.iconst 0, 1) := by decide +kernel
theorem dX9_take_45 : decode cX9_take 45 = .ok (.iconst 2, 1) := by decide +kernel
theorem dX9_take_46 : decode cX9_take 46 = .ok (.iconst 2, 1) := by decide +kernel
theorem dX9_take_47 : decode cX9_take 47 = .ok (.invokevirtual 119, 3) := by decide +kernel
theorem dX9_take_50 : decode cX9_take 50 = .ok (.ifCond .eq 5, 3) := by decide +kernel
theorem dX9_take_53 : decode cX9_take 53 = .ok (.iconst 0, 1) := by decide +kernel
theorem dX9_take_54 : decode cX9_take 54 = .ok (.ireturn, 1) := by decide +kernel
theorem dX9_take_55 : decode cX9_take 55 = .ok (.aload_n 0, 1) := by decide +kernel
theorem dX9_take_56 : decode cX9_take 56 = .ok (.aload_n 0, 1) := by decide +kernel
theorem dX9_take_57 : decode cX9_take 57 = .ok (.invokevirtual 186, 3) := by decide +kernel
theorem dX9_take_60 : decode cX9_take 60 = .ok (.iload_n 1, 1) := by decide +kernel
theorem dX9_take_61 : decode cX9_take 61 = .ok (.invokevirtual 193, 3) := by decide +kernel
theorem dX9_take_64 : decode cX9_take 64 = .ok (.istore_n 2, 1) := by decide +kernel
theorem dX9_take_65 : decode cX9_take 65 = .ok (.aload_n 0, 1) := by decide +kernel
theorem dX9_take_66 : decode cX9_take 66 = .ok (.invokevirtual 126, 3) := by decide +kernel
theorem dX9_take_69 : decode cX9_take 69 = .ok (.aload_n 0, 1) := by decide +kernel
theorem dX9_take_70 : decode cX9_take 70 = .ok (.getfield 20, 3) := by decide +kernel
theorem dX9_take_73 : decode cX9_take 73 = .ok (.iconst 3, 1) := by decide +kernel
theorem dX9_take_74 : decode cX9_take 74 = .ok (.dup2, 1) := by decide +kernel
theorem dX9_take_75 : decode cX9_take 75 = .ok (.laload, 1) := by decide +kernel
theorem dX9_take_76 : decode cX9_take 76 = .ok (.aload_n 0, 1) := by decide +kernel
theorem dX9_take_77 : decode cX9_take 77 = .ok (.iload_n 1, 1) := by decide +kernel
theorem dX9_take_78 : decode cX9_take 78 = .ok (.invokevirtual 163, 3) := by decide +kernel
theorem dX9_take_81 : decode cX9_take 81 = .ok (.i2l, 1) := by decide +kernel
theorem dX9_take_82 : decode cX9_take 82 = .ok (.lor, 1) := by decide +kernel
theorem dX9_take_83 : decode cX9_take 83 = .ok (.lastore, 1) := by decide +kernel
theorem dX9_take_84 : decode cX9_take 84 = .ok (.iload_n 2, 1) := by decide +kernel
theorem dX9_take_85 : decode cX9_take 85 = .ok (.ireturn, 1) := by decide +kernel
theorem dX9_drop_0 : decode cX9_drop 0 = .ok (.aload_n 0, 1) := by decide +kernel
theorem dX9_drop_1 : decode cX9_drop 1 = .ok (.iconst 0, 1) := by decide +kernel
theorem dX9_drop_2 : decode cX9_drop 2 = .ok (.putfield 60, 3) := by decide +kernel
theorem dX9_drop_5 : decode cX9_drop 5 = .ok (.aload_n 0, 1) := by decide +kernel
theorem dX9_drop_6 : decode cX9_drop 6 = .ok (.aload_n 0, 1) := by decide +kernel
theorem dX9_drop_7 : decode cX9_drop 7 = .ok (.iload_n 1, 1) := by decide +kernel
theorem dX9_drop_8 : decode cX9_drop 8 = .ok (.invokevirtual 183, 3) := by decide +kernel
theorem dX9_drop_11 : decode cX9_drop 11 = .ok (.ifCond .ne 7, 3) := by decide +kernel
theorem dX9_drop_14 : decode cX9_drop 14 = .ok (.iconst 1, 1) := by decide +kernel
theorem dX9_drop_15 : decode cX9_drop 15 = .ok (.goto 4, 3) := by decide +kernel
theorem dX9_drop_18 : decode cX9_drop 18 = .ok (.iconst 0, 1) := by decide +kernel
theorem dX9_drop_19 : decode cX9_drop 19 = .ok (.iconst 1, 1) := by decide +kernel
theorem dX9_drop_20 : decode cX9_drop 20 = .ok (.iconst 0, 1) := by decide +kernel
theorem dX9_drop_21 : decode cX9_drop 21 = .ok (.invokevirtual 119, 3) := by decide +kernel
theorem dX9_drop_24 : decode cX9_drop 24 = .ok (.ifCond .ne 29, 3) := by decide +kernel
theorem dX9_drop_27 : decode cX9_drop 27 = .ok (.aload_n 0, 1) := by decide +kernel
theorem dX9_drop_28 : decode cX9_drop 28 = .ok (.aload_n 0, 1) := by decide +kernel
theorem dX9_drop_29 : decode cX9_drop 29 = .ok (.invokevirtual 186, 3) := by decide +kernel
theorem dX9_drop_32 : decode cX9_drop 32 = .ok (.i2l, 1) := by decide +kernel
theorem dX9_drop_33 : decode cX9_drop 33 = .ok (.iload_n 1, 1) := by decide +kernel
theorem dX9_drop_34 : decode cX9_drop 34 = .ok (.invokestatic 140, 3) := by decide +kernel
theorem dX9_drop_37 : decode cX9_drop 37 = .ok (.ifCond .ne 7, 3) := by decide +kernel
theorem dX9_drop_40 : decode cX9_drop 40 = .ok (.iconst 1, 1) := by decide +kernel
theorem dX9_drop_41 : decode cX9_drop 41 = .ok (.goto 4, 3) := by decide +kernel
theorem dX9_drop_44 : decode cX9_drop 44 = .ok (.iconst 0, 1) := by decide +kernel
theorem dX9_drop_45 : decode cX9_drop 45 = .ok (.iconst 2, 1) := by decide +kernel
theorem dX9_drop_46 : decode cX9_drop 46 = .ok (.iconst 2, 1) := by decide +kernel
theorem dX9_drop_47 : decode cX9_drop 47 = .ok (.invokevirtual 119, 3) := by decide +kernel
theorem dX9_drop_50 : decode cX9_drop 50 = .ok (.ifCond .eq 5, 3) := by decide +kernel
theorem dX9_drop_53 : decode cX9_drop 53 = .ok (.iconst 0, 1) := by decide +kernel
theorem dX9_drop_54 : decode cX9_drop 54 = .ok (.ireturn, 1) := by decide +kernel
theorem dX9_drop_55 : decode cX9_drop 55 = .ok (.aload_n 0, 1) := by decide +kernel
theorem dX9_drop_56 : decode cX9_drop 56 = .ok (.invokevirtual 126, 3) := by decide +kernel
theorem dX9_drop_59 : decode cX9_drop 59 = .ok (.aload_n 0, 1) := by decide +kernel
theorem dX9_drop_60 : decode cX9_drop 60 = .ok (.aload_n 0, 1) := by decide +kernel
theorem dX9_drop_61 : decode cX9_drop 61 = .ok (.invokevirtual 186, 3) := by decide +kernel
theorem dX9_drop_64 : decode cX9_drop 64 = .ok (.invokevirtual 196, 3) := by decide +kernel
theorem dX9_drop_67 : decode cX9_drop 67 = .ok (.istore_n 2, 1) := by decide +kernel
theorem dX9_drop_68 : decode cX9_drop 68 = .ok (.aload_n 0, 1) := by decide +kernel
theorem dX9_drop_69 : decode cX9_drop 69 = .ok (.invokevirtual 186, 3) := by decide +kernel
theorem dX9_drop_72 : decode cX9_drop 72 = .ok (.istore_n 3, 1) := by decide +kernel
theorem dX9_drop_73 : decode cX9_drop 73 = .ok (.iconst 0, 1) := by decide +kernel
theorem dX9_drop_74 : decode cX9_drop 74 = .ok (.istore 4, 2) := by decide +kernel
theorem dX9_drop_76 : decode cX9_drop 76 = .ok (.iload 4, 2) := by decide +kernel
theorem dX9_drop_78 : decode cX9_drop 78 = .ok (.aload_n 0, 1) := by decide +kernel
theorem dX9_drop_79 : decode cX9_drop 79 = .ok (.invokevirtual 133, 3) := by decide +kernel
theorem dX9_drop_82 : decode cX9_drop 82 = .ok (.if_icmp .ge 42, 3) := by decide +kernel
theorem dX9_drop_85 : decode cX9_drop 85 = .ok (.iload_n 3, 1) := by decide +kernel
theorem dX9_drop_86 : decode cX9_drop 86 = .ok (.i2l, 1) := by decide +kernel
theorem dX9_drop_87 : decode cX9_drop 87 = .ok (.iload 4, 2) := by decide +kernel
theorem dX9_drop_89 : decode cX9_drop 89 = .ok (.invokestatic 140, 3) := by decide +kernel
theorem dX9_drop_92 : decode cX9_drop 92 = .ok (.ifCond .eq 26, 3) := by decide +kernel
theorem dX9_drop_95 : decode cX9_drop 95 = .ok (.aload_n 0, 1) := by decide +kernel
theorem dX9_drop_96 : decode cX9_drop 96 = .ok (.iload 4, 2) := by decide +kernel
theorem dX9_drop_98 : decode cX9_drop 98 = .ok (.invokevirtual 163, 3) := by decide +kernel
theorem dX9_drop_101 : decode cX9_drop 101 = .ok (.i2l, 1) := by decide +kernel
theorem dX9_drop_102 : decode cX9_drop 102 = .ok (.iload_n 1, 1) := by decide +kernel
theorem dX9_drop_103 : decode cX9_drop 103 = .ok (.invokestatic 140, 3) := by decide +kernel
theorem dX9_drop_106 : decode cX9_drop 106 = .ok (.ifCond .eq 12, 3) := by decide +kernel
theorem dX9_drop_109 : decode cX9_drop 109 = .ok (.iload_n 3, 1) := by decide +kernel
theorem dX9_drop_110 : decode cX9_drop 110 = .ok (.iconst 1, 1) := by decide +kernel
theorem dX9_drop_111 : decode cX9_drop 111 = .ok (.iload 4, 2) := by decide +kernel
theorem dX9_drop_113 : decode cX9_drop 113 = .ok (.ishl, 1) := by decide +kernel
theorem dX9_drop_114 : decode cX9_drop 114 = .ok (.iconst (-1), 1) := by decide +kernel
theorem dX9_drop_115 : decode cX9_drop 115 = .ok (.ixor, 1) := by decide +kernel
theorem dX9_drop_116 : decode cX9_drop 116 = .ok (.iand, 1) := by decide +kernel
theorem dX9_drop_117 : decode cX9_drop 117 = .ok (.istore_n 3, 1) := by decide +kernel
theorem dX9_drop_118 : decode cX9_drop 118 = .ok (.iinc 4 1, 3) := by decide +kernel
theorem dX9_drop_121 : decode cX9_drop 121 = .ok (.goto (-45), 3) := by decide +kernel
theorem dX9_drop_124 : decode cX9_drop 124 = .ok (.aload_n 0, 1) := by decide +kernel
theorem dX9_drop_125 : decode cX9_drop 125 = .ok (.getfield 20, 3) := by decide +kernel
theorem dX9_drop_128 : decode cX9_drop 128 = .ok (.iconst 3, 1) := by decide +kernel
theorem dX9_drop_129 : decode cX9_drop 129 = .ok (.iload_n 3, 1) := by decide +kernel
theorem dX9_drop_130 : decode cX9_drop 130 = .ok (.i2l, 1) := by decide +kernel
theorem dX9_drop_131 : decode cX9_drop 131 = .ok (.lastore, 1) := by decide +kernel
theorem dX9_drop_132 : decode cX9_drop 132 = .ok (.iload_n 2, 1) := by decide +kernel
theorem dX9_drop_133 : decode cX9_drop 133 = .ok (.aload_n 0, 1) := by decide +kernel
theorem dX9_drop_134 : decode cX9_drop 134 = .ok (.iload_n 3, 1) := by decide +kernel
theorem dX9_drop_135 : decode cX9_drop 135 = .ok (.invokevirtual 196, 3) := by decide +kernel
theorem dX9_drop_138 : decode cX9_drop 138 = .ok (.isub, 1) := by decide +kernel
theorem dX9_drop_139 : decode cX9_drop 139 = .ok (.ireturn, 1) := by decide +kernel
theorem dX9_told_0 : decode cX9_told 0 = .ok (.aload_n 0, 1) := by decide +kernel
theorem dX9_told_1 : decode cX9_told 1 = .ok (.iconst 0, 1) := by decide +kernel
theorem dX9_told_2 : decode cX9_told 2 = .ok (.putfield 60, 3) := by decide +kernel
theorem dX9_told_5 : decode cX9_told 5 = .ok (.aload_n 0, 1) := by decide +kernel
theorem dX9_told_6 : decode cX9_told 6 = .ok (.iload_n 1, 1) := by decide +kernel
theorem dX9_told_7 : decode cX9_told 7 = .ok (.iconst 0, 1) := by decide +kernel
theorem dX9_told_8 : decode cX9_told 8 = .ok (.bipush 9, 2) := by decide +kernel
theorem dX9_told_10 : decode cX9_told 10 = .ok (.invokestatic 116, 3) := by decide +kernel
theorem dX9_told_13 : decode cX9_told 13 = .ok (.ifCond .ne 7, 3) := by decide +kernel
theorem dX9_told_16 : decode cX9_told 16 = .ok (.iconst 1, 1) := by decide +kernel
theorem dX9_told_17 : decode cX9_told 17 = .ok (.goto 4, 3) := by decide +kernel
theorem dX9_told_20 : decode cX9_told 20 = .ok (.iconst 0, 1) := by decide +kernel
theorem dX9_told_21 : decode cX9_told 21 = .ok (.iconst 1, 1) := by decide +kernel
theorem dX9_told_22 : decode cX9_told 22 = .ok (.iconst 1, 1) := by decide +kernel
theorem dX9_told_23 : decode cX9_told 23 = .ok (.invokevirtual 119, 3) := by decide +kernel
theorem dX9_told_26 : decode cX9_told 26 = .ok (.ifCond .eq 5, 3) := by decide +kernel
theorem dX9_told_29 : decode cX9_told 29 = .ok (.iconst 0, 1) := by decide +kernel
theorem dX9_told_30 : decode cX9_told 30 = .ok (.ireturn, 1) := by decide +kernel
theorem dX9_told_31 : decode cX9_told 31 = .ok (.iconst 1, 1) := by decide +kernel
theorem dX9_told_32 : decode cX9_told 32 = .ok (.aload_n 0, 1) := by decide +kernel
theorem dX9_told_33 : decode cX9_told 33 = .ok (.invokevirtual 133, 3) := by decide +kernel
theorem dX9_told_36 : decode cX9_told 36 = .ok (.ishl, 1) := by decide +kernel
theorem dX9_told_37 : decode cX9_told 37 = .ok (.iconst 1, 1) := by decide +kernel
theorem dX9_told_38 : decode cX9_told 38 = .ok (.isub, 1) := by decide +kernel
theorem dX9_told_39 : decode cX9_told 39 = .ok (.istore_n 2, 1) := by decide +kernel
theorem dX9_told_40 : decode cX9_told 40 = .ok (.iload_n 1, 1) := by decide +kernel
theorem dX9_told_41 : decode cX9_told 41 = .ok (.tableswitch 105 0 8 #[51, 56, 61, 69, 75, 81, 86, 91, 96], 51) := by decide +kernel
theorem dX9_told_92 : decode cX9_told 92 = .ok (.aload_n 0, 1) := by decide +kernel
theorem dX9_told_93 : decode cX9_told 93 = .ok (.invokevirtual 133, 3) := by decide +kernel
theorem dX9_told_96 : decode cX9_told 96 = .ok (.ireturn, 1) := by decide +kernel
theorem dX9_told_97 : decode cX9_told 97 = .ok (.aload_n 0, 1) := by decide +kernel
theorem dX9_told_98 : decode cX9_told 98 = .ok (.invokevirtual 147, 3) := by decide +kernel
theorem dX9_told_101 : decode cX9_told 101 = .ok (.ireturn, 1) := by decide +kernel
theorem dX9_told_102 : decode cX9_told 102 = .ok (.aload_n 0, 1) := by decide +kernel
theorem dX9_told_103 : decode cX9_told 103 = .ok (.getfield 20, 3) := by decide +kernel
theorem dX9_told_106 : decode cX9_told 106 = .ok (.iconst 2, 1) := by decide +kernel
theorem dX9_told_107 : decode cX9_told 107 = .ok (.laload, 1) := by decide +kernel
theorem dX9_told_108 : decode cX9_told 108 = .ok (.l2i, 1) := by decide +kernel
theorem dX9_told_109 : decode cX9_told 109 = .ok (.ireturn, 1) := by decide +kernel
theorem dX9_told_110 : decode cX9_told 110 = .ok (.aload_n 0, 1) := by decide +kernel
theorem dX9_told_111 : decode cX9_told 111 = .ok (.iload_n 2, 1) := by decide +kernel
theorem dX9_told_112 : decode cX9_told 112 = .ok (.invokevirtual 196, 3) := by decide +kernel
theorem dX9_told_115 : decode cX9_told 115 = .ok (.ireturn, 1) := by decide +kernel
theorem dX9_told_116 : decode cX9_told 116 = .ok (.aload_n 0, 1) := by decide +kernel
theorem dX9_told_117 : decode cX9_told 117 = .ok (.iload_n 2, 1) := by decide +kernel
theorem dX9_told_118 : decode cX9_told 118 = .ok (.invokevirtual 166, 3) := by decide +kernel
theorem dX9_told_121 : decode cX9_told 121 = .ok (.ireturn, 1) := by decide +kernel
theorem dX9_told_122 : decode cX9_told 122 = .ok (.aload_n 0, 1) := by decide +kernel
theorem dX9_told_123 : decode cX9_told 123 = .ok (.getfield 63, 3) := by decide +kernel
theorem dX9_told_126 : decode cX9_told 126 = .ok (.ireturn, 1) := by decide +kernel
theorem dX9_told_127 : decode cX9_told 127 = .ok (.aload_n 0, 1) := by decide +kernel
theorem dX9_told_128 : decode cX9_told 128 = .ok (.getfield 177, 3) := by decide +kernel
theorem dX9_told_131 : decode cX9_told 131 = .ok (.ireturn, 1) := by decide +kernel
theorem dX9_told_132 : decode cX9_told 132 = .ok (.aload_n 0, 1) := by decide +kernel
theorem dX9_told_133 : decode cX9_told 133 = .ok (.invokevirtual 186, 3) := by decide +kernel
theorem dX9_told_136 : decode cX9_told 136 = .ok (.ireturn, 1) := by decide +kernel
theorem dX9_told_137 : decode cX9_told 137 = .ok (.aload_n 0, 1) := by decide +kernel
theorem dX9_told_138 : decode cX9_told 138 = .ok (.aload_n 0, 1) := by decide +kernel
theorem dX9_told_139 : decode cX9_told 139 = .ok (.invokevirtual 186, 3) := by decide +kernel
theorem dX9_told_142 : decode cX9_told 142 = .ok (.invokevirtual 196, 3) := by decide +kernel
theorem dX9_told_145 : decode cX9_told 145 = .ok (.ireturn, 1) := by decide +kernel
theorem dX9_told_146 : decode cX9_told 146 = .ok (.aload_n 0, 1) := by decide +kernel
theorem dX9_told_147 : decode cX9_told 147 = .ok (.aload_n 0, 1) := by decide +kernel
theorem dX9_told_148 : decode cX9_told 148 = .ok (.invokevirtual 186, 3) := by decide +kernel
theorem dX9_told_151 : decode cX9_told 151 = .ok (.invokevirtual 166, 3) := by decide +kernel
theorem dX9_told_154 : decode cX9_told 154 = .ok (.ireturn, 1) := by decide +kernel
theorem dX9_sentence_0 : decode cX9_sentence 0 = .ok (.aload_n 0, 1) := by decide +kernel
theorem dX9_sentence_1 : decode cX9_sentence 1 = .ok (.iconst 0, 1) := by decide +kernel
theorem dX9_sentence_2 : decode cX9_sentence 2 = .ok (.putfield 60, 3) := by decide +kernel
theorem dX9_sentence_5 : decode cX9_sentence 5 = .ok (.aload_n 0, 1) := by decide +kernel
theorem dX9_sentence_6 : decode cX9_sentence 6 = .ok (.aload_n 0, 1) := by decide +kernel
theorem dX9_sentence_7 : decode cX9_sentence 7 = .ok (.iload_n 1, 1) := by decide +kernel
theorem dX9_sentence_8 : decode cX9_sentence 8 = .ok (.invokevirtual 183, 3) := by decide +kernel
theorem dX9_sentence_11 : decode cX9_sentence 11 = .ok (.ifCond .ne 7, 3) := by decide +kernel
theorem dX9_sentence_14 : decode cX9_sentence 14 = .ok (.iconst 1, 1) := by decide +kernel
theorem dX9_sentence_15 : decode cX9_sentence 15 = .ok (.goto 4, 3) := by decide +kernel
theorem dX9_sentence_18 : decode cX9_sentence 18 = .ok (.iconst 0, 1) := by decide +kernel
theorem dX9_sentence_19 : decode cX9_sentence 19 = .ok (.iconst 1, 1) := by decide +kernel
theorem dX9_sentence_20 : decode cX9_sentence 20 = .ok (.iconst 0, 1) := by decide +kernel
theorem dX9_sentence_21 : decode cX9_sentence 21 = .ok (.invokevirtual 119, 3) := by decide +kernel
theorem dX9_sentence_24 : decode cX9_sentence 24 = .ok (.ifCond .ne 27, 3) := by decide +kernel
theorem dX9_sentence_27 : decode cX9_sentence 27 = .ok (.aload_n 0, 1) := by decide +kernel
theorem dX9_sentence_28 : decode cX9_sentence 28 = .ok (.iload_n 2, 1) := by decide +kernel
theorem dX9_sentence_29 : decode cX9_sentence 29 = .ok (.iconst 0, 1) := by decide +kernel
theorem dX9_sentence_30 : decode cX9_sentence 30 = .ok (.bipush 7, 2) := by decide +kernel
theorem dX9_sentence_32 : decode cX9_sentence 32 = .ok (.invokestatic 116, 3) := by decide +kernel
theorem dX9_sentence_35 : decode cX9_sentence 35 = .ok (.ifCond .ne 7, 3) := by decide +kernel
theorem dX9_sentence_38 : decode cX9_sentence 38 = .ok (.iconst 1, 1) := by decide +kernel
theorem dX9_sentence_39 : decode cX9_sentence 39 = .ok (.goto 4, 3) := by decide +kernel
theorem dX9_sentence_42 : decode cX9_sentence 42 = .ok (.iconst 0, 1) := by decide +kernel
theorem dX9_sentence_43 : decode cX9_sentence 43 = .ok (.iconst 2, 1) := by decide +kernel
theorem dX9_sentence_44 : decode cX9_sentence 44 = .ok (.iconst 1, 1) := by decide +kernel
theorem dX9_sentence_45 : decode cX9_sentence 45 = .ok (.invokevirtual 119, 3) := by decide +kernel
theorem dX9_sentence_48 : decode cX9_sentence 48 = .ok (.ifCond .eq 5, 3) := by decide +kernel
theorem dX9_sentence_51 : decode cX9_sentence 51 = .ok (.iconst 0, 1) := by decide +kernel
theorem dX9_sentence_52 : decode cX9_sentence 52 = .ok (.ireturn, 1) := by decide +kernel
theorem dX9_sentence_53 : decode cX9_sentence 53 = .ok (.iload_n 2, 1) := by decide +kernel
theorem dX9_sentence_54 : decode cX9_sentence 54 = .ok (.tableswitch 106 0 6 #[42, 48, 61, 70, 80, 86, 96], 42) := by decide +kernel
theorem dX9_sentence_96 : decode cX9_sentence 96 = .ok (.aload_n 0, 1) := by decide +kernel
theorem dX9_sentence_97 : decode cX9_sentence 97 = .ok (.iload_n 1, 1) := by decide +kernel
theorem dX9_sentence_98 : decode cX9_sentence 98 = .ok (.invokevirtual 160, 3) := by decide +kernel
theorem dX9_sentence_101 : decode cX9_sentence 101 = .ok (.ireturn, 1) := by decide +kernel
theorem dX9_sentence_102 : decode cX9_sentence 102 = .ok (.aload_n 0, 1) := by decide +kernel
theorem dX9_sentence_103 : decode cX9_sentence 103 = .ok (.getfield 20, 3) := by decide +kernel
theorem dX9_sentence_106 : decode cX9_sentence 106 = .ok (.iload_n 1, 1) := by decide +kernel
theorem dX9_sentence_107 : decode cX9_sentence 107 = .ok (.invokestatic 66, 3) := by decide +kernel
theorem dX9_sentence_110 : decode cX9_sentence 110 = .ok (.iconst 2, 1) := by decide +kernel
theorem dX9_sentence_111 : decode cX9_sentence 111 = .ok (.iadd, 1) := by decide +kernel
theorem dX9_sentence_112 : decode cX9_sentence 112 = .ok (.laload, 1) := by decide +kernel
theorem dX9_sentence_113 : decode cX9_sentence 113 = .ok (.l2i, 1) := by decide +kernel
theorem dX9_sentence_114 : decode cX9_sentence 114 = .ok (.ireturn, 1) := by decide +kernel
theorem dX9_sentence_115 : decode cX9_sentence 115 = .ok (.aload_n 0, 1) := by decide +kernel
theorem dX9_sentence_116 : decode cX9_sentence 116 = .ok (.iload_n 1, 1) := by decide +kernel
theorem dX9_sentence_117 : decode cX9_sentence 117 = .ok (.invokevirtual 136, 3) := by decide +kernel
theorem dX9_sentence_120 : decode cX9_sentence 120 = .ok (.invokestatic 199, 3) := by decide +kernel
theorem dX9_sentence_123 : decode cX9_sentence 123 = .ok (.ireturn, 1) := by decide +kernel
theorem dX9_sentence_124 : decode cX9_sentence 124 = .ok (.aload_n 0, 1) := by decide +kernel
theorem dX9_sentence_125 : decode cX9_sentence 125 = .ok (.aload_n 0, 1) := by decide +kernel
theorem dX9_sentence_126 : decode cX9_sentence 126 = .ok (.iload_n 1, 1) := by decide +kernel
theorem dX9_sentence_127 : decode cX9_sentence 127 = .ok (.invokevirtual 136, 3) := by decide +kernel
theorem dX9_sentence_130 : decode cX9_sentence 130 = .ok (.invokevirtual 156, 3) := by decide +kernel
theorem dX9_sentence_133 : decode cX9_sentence 133 = .ok (.ireturn, 1) := by decide +kernel
theorem dX9_sentence_134 : decode cX9_sentence 134 = .ok (.aload_n 0, 1) := by decide +kernel
theorem dX9_sentence_135 : decode cX9_sentence 135 = .ok (.iload_n 1, 1) := by decide +kernel
theorem dX9_sentence_136 : decode cX9_sentence 136 = .ok (.invokevirtual 163, 3) := by decide +kernel
theorem dX9_sentence_139 : decode cX9_sentence 139 = .ok (.ireturn, 1) := by decide +kernel
theorem dX9_sentence_140 : decode cX9_sentence 140 = .ok (.aload_n 0, 1) := by decide +kernel
theorem dX9_sentence_141 : decode cX9_sentence 141 = .ok (.aload_n 0, 1) := by decide +kernel
theorem dX9_sentence_142 : decode cX9_sentence 142 = .ok (.invokevirtual 186, 3) := by decide +kernel
theorem dX9_sentence_145 : decode cX9_sentence 145 = .ok (.iload_n 1, 1) := by decide +kernel
theorem dX9_sentence_146 : decode cX9_sentence 146 = .ok (.invokevirtual 193, 3) := by decide +kernel
theorem dX9_sentence_149 : decode cX9_sentence 149 = .ok (.ireturn, 1) := by decide +kernel
theorem dX9_sentence_150 : decode cX9_sentence 150 = .ok (.aload_n 0, 1) := by decide +kernel
theorem dX9_sentence_151 : decode cX9_sentence 151 = .ok (.aload_n 0, 1) := by decide +kernel
theorem dX9_sentence_152 : decode cX9_sentence 152 = .ok (.invokevirtual 186, 3) := by decide +kernel
theorem dX9_sentence_155 : decode cX9_sentence 155 = .ok (.iload_n 1, 1) := by decide +kernel
theorem dX9_sentence_156 : decode cX9_sentence 156 = .ok (.invokevirtual 169, 3) := by decide +kernel
theorem dX9_sentence_159 : decode cX9_sentence 159 = .ok (.ireturn, 1) := by decide +kernel
theorem dX9_sentence_160 : decode cX9_sentence 160 = .ok (.aload_n 0, 1) := by decide +kernel
theorem dX9_sentence_161 : decode cX9_sentence 161 = .ok (.aload_n 0, 1) := by decide +kernel
theorem dX9_sentence_162 : decode cX9_sentence 162 = .ok (.invokevirtual 186, 3) := by decide +kernel
theorem dX9_sentence_165 : decode cX9_sentence 165 = .ok (.iload_n 1, 1) := by decide +kernel
theorem dX9_sentence_166 : decode cX9_sentence 166 = .ok (.invokevirtual 189, 3) := by decide +kernel
theorem dX9_sentence_169 : decode cX9_sentence 169 = .ok (.ifCond .eq 7, 3) := by decide +kernel
theorem dX9_sentence_172 : decode cX9_sentence 172 = .ok (.iconst 1, 1) := by decide +kernel
theorem dX9_sentence_173 : decode cX9_sentence 173 = .ok (.goto 4, 3) := by decide +kernel
theorem dX9_sentence_176 : decode cX9_sentence 176 = .ok (.iconst 0, 1) := by decide +kernel
theorem dX9_sentence_177 : decode cX9_sentence 177 = .ok (.ireturn, 1) := by decide +kernel
theorem dX9_words_0 : decode cX9_words 0 = .ok (.aload_n 0, 1) := by decide +kernel
theorem dX9_words_1 : decode cX9_words 1 = .ok (.iconst 0, 1) := by decide +kernel
theorem dX9_words_2 : decode cX9_words 2 = .ok (.putfield 60, 3) := by decide +kernel
theorem dX9_words_5 : decode cX9_words 5 = .ok (.aload_n 0, 1) := by decide +kernel
theorem dX9_words_6 : decode cX9_words 6 = .ok (.aload_n 0, 1) := by decide +kernel
theorem dX9_words_7 : decode cX9_words 7 = .ok (.iload_n 1, 1) := by decide +kernel
theorem dX9_words_8 : decode cX9_words 8 = .ok (.invokevirtual 183, 3) := by decide +kernel
theorem dX9_words_11 : decode cX9_words 11 = .ok (.ifCond .ne 7, 3) := by decide +kernel
theorem dX9_words_14 : decode cX9_words 14 = .ok (.iconst 1, 1) := by decide +kernel
theorem dX9_words_15 : decode cX9_words 15 = .ok (.goto 4, 3) := by decide +kernel
theorem dX9_words_18 : decode cX9_words 18 = .ok (.iconst 0, 1) := by decide +kernel
theorem dX9_words_19 : decode cX9_words 19 = .ok (.iconst 1, 1) := by decide +kernel
theorem dX9_words_20 : decode cX9_words 20 = .ok (.iconst 0, 1) := by decide +kernel
theorem dX9_words_21 : decode cX9_words 21 = .ok (.invokevirtual 119, 3) := by decide +kernel
theorem dX9_words_24 : decode cX9_words 24 = .ok (.ifCond .eq 7, 3) := by decide +kernel
theorem dX9_words_27 : decode cX9_words 27 = .ok (.lconst 0, 1) := by decide +kernel
theorem dX9_words_28 : decode cX9_words 28 = .ok (.goto 8, 3) := by decide +kernel
theorem dX9_words_31 : decode cX9_words 31 = .ok (.aload_n 0, 1) := by decide +kernel
theorem dX9_words_32 : decode cX9_words 32 = .ok (.iload_n 1, 1) := by decide +kernel
theorem dX9_words_33 : decode cX9_words 33 = .ok (.invokevirtual 136, 3) := by decide +kernel
theorem dX9_words_36 : decode cX9_words 36 = .ok (.lreturn, 1) := by decide +kernel
theorem dX9_word_0 : decode cX9_word 0 = .ok (.aload_n 0, 1) := by decide +kernel
theorem dX9_word_1 : decode cX9_word 1 = .ok (.iconst 0, 1) := by decide +kernel
theorem dX9_word_2 : decode cX9_word 2 = .ok (.putfield 60, 3) := by decide +kernel
theorem dX9_word_5 : decode cX9_word 5 = .ok (.aload_n 0, 1) := by decide +kernel
theorem dX9_word_6 : decode cX9_word 6 = .ok (.aload_n 0, 1) := by decide +kernel
theorem dX9_word_7 : decode cX9_word 7 = .ok (.iload_n 1, 1) := by decide +kernel
theorem dX9_word_8 : decode cX9_word 8 = .ok (.invokevirtual 180, 3) := by decide +kernel
theorem dX9_word_11 : decode cX9_word 11 = .ok (.ifCond .ne 7, 3) := by decide +kernel
theorem dX9_word_14 : decode cX9_word 14 = .ok (.iconst 1, 1) := by decide +kernel
theorem dX9_word_15 : decode cX9_word 15 = .ok (.goto 4, 3) := by decide +kernel
theorem dX9_word_18 : decode cX9_word 18 = .ok (.iconst 0, 1) := by decide +kernel
theorem dX9_word_19 : decode cX9_word 19 = .ok (.iconst 1, 1) := by decide +kernel
theorem dX9_word_20 : decode cX9_word 20 = .ok (.iconst 0, 1) := by decide +kernel
theorem dX9_word_21 : decode cX9_word 21 = .ok (.invokevirtual 119, 3) := by decide +kernel
theorem dX9_word_24 : decode cX9_word 24 = .ok (.ifCond .ne 26, 3) := by decide +kernel
theorem dX9_word_27 : decode cX9_word 27 = .ok (.aload_n 0, 1) := by decide +kernel
theorem dX9_word_28 : decode cX9_word 28 = .ok (.iload_n 2, 1) := by decide +kernel
theorem dX9_word_29 : decode cX9_word 29 = .ok (.iconst 0, 1) := by decide +kernel
theorem dX9_word_30 : decode cX9_word 30 = .ok (.iconst 3, 1) := by decide +kernel
theorem dX9_word_31 : decode cX9_word 31 = .ok (.invokestatic 116, 3) := by decide +kernel
theorem dX9_word_34 : decode cX9_word 34 = .ok (.ifCond .ne 7, 3) := by decide +kernel
theorem dX9_word_37 : decode cX9_word 37 = .ok (.iconst 1, 1) := by decide +kernel
theorem dX9_word_38 : decode cX9_word 38 = .ok (.goto 4, 3) := by decide +kernel
theorem dX9_word_41 : decode cX9_word 41 = .ok (.iconst 0, 1) := by decide +kernel
theorem dX9_word_42 : decode cX9_word 42 = .ok (.iconst 2, 1) := by decide +kernel
theorem dX9_word_43 : decode cX9_word 43 = .ok (.iconst 1, 1) := by decide +kernel
theorem dX9_word_44 : decode cX9_word 44 = .ok (.invokevirtual 119, 3) := by decide +kernel
theorem dX9_word_47 : decode cX9_word 47 = .ok (.ifCond .eq 5, 3) := by decide +kernel
theorem dX9_word_50 : decode cX9_word 50 = .ok (.iconst 0, 1) := by decide +kernel
theorem dX9_word_51 : decode cX9_word 51 = .ok (.ireturn, 1) := by decide +kernel
theorem dX9_word_52 : decode cX9_word 52 = .ok (.iload_n 2, 1) := by decide +kernel
theorem dX9_word_53 : decode cX9_word 53 = .ok (.ifCond .ne 11, 3) := by decide +kernel
theorem dX9_word_56 : decode cX9_word 56 = .ok (.aload_n 0, 1) := by decide +kernel
theorem dX9_word_57 : decode cX9_word 57 = .ok (.iload_n 1, 1) := by decide +kernel
theorem dX9_word_58 : decode cX9_word 58 = .ok (.invokevirtual 150, 3) := by decide +kernel
theorem dX9_word_61 : decode cX9_word 61 = .ok (.goto 55, 3) := by decide +kernel
theorem dX9_word_64 : decode cX9_word 64 = .ok (.iload_n 2, 1) := by decide +kernel
theorem dX9_word_65 : decode cX9_word 65 = .ok (.iconst 1, 1) := by decide +kernel
theorem dX9_word_66 : decode cX9_word 66 = .ok (.if_icmp .ne 19, 3) := by decide +kernel
theorem dX9_word_69 : decode cX9_word 69 = .ok (.aload_n 0, 1) := by decide +kernel
theorem dX9_word_70 : decode cX9_word 70 = .ok (.getfield 20, 3) := by decide +kernel
theorem dX9_word_73 : decode cX9_word 73 = .ok (.iload_n 1, 1) := by decide +kernel
theorem dX9_word_74 : decode cX9_word 74 = .ok (.invokestatic 103, 3) := by decide +kernel
theorem dX9_word_77 : decode cX9_word 77 = .ok (.bipush 10, 2) := by decide +kernel
theorem dX9_word_79 : decode cX9_word 79 = .ok (.iadd, 1) := by decide +kernel
theorem dX9_word_80 : decode cX9_word 80 = .ok (.laload, 1) := by decide +kernel
theorem dX9_word_81 : decode cX9_word 81 = .ok (.l2i, 1) := by decide +kernel
theorem dX9_word_82 : decode cX9_word 82 = .ok (.goto 34, 3) := by decide +kernel
theorem dX9_word_85 : decode cX9_word 85 = .ok (.iload_n 2, 1) := by decide +kernel
theorem dX9_word_86 : decode cX9_word 86 = .ok (.iconst 2, 1) := by decide +kernel
theorem dX9_word_87 : decode cX9_word 87 = .ok (.if_icmp .ne 11, 3) := by decide +kernel
theorem dX9_word_90 : decode cX9_word 90 = .ok (.aload_n 0, 1) := by decide +kernel
theorem dX9_word_91 : decode cX9_word 91 = .ok (.iload_n 1, 1) := by decide +kernel
theorem dX9_word_92 : decode cX9_word 92 = .ok (.invokevirtual 144, 3) := by decide +kernel
theorem dX9_word_95 : decode cX9_word 95 = .ok (.goto 21, 3) := by decide +kernel
theorem dX9_word_98 : decode cX9_word 98 = .ok (.aload_n 0, 1) := by decide +kernel
theorem dX9_word_99 : decode cX9_word 99 = .ok (.getfield 20, 3) := by decide +kernel
theorem dX9_word_102 : decode cX9_word 102 = .ok (.iconst 4, 1) := by decide +kernel
theorem dX9_word_103 : decode cX9_word 103 = .ok (.laload, 1) := by decide +kernel
theorem dX9_word_104 : decode cX9_word 104 = .ok (.iload_n 1, 1) := by decide +kernel
theorem dX9_word_105 : decode cX9_word 105 = .ok (.invokestatic 140, 3) := by decide +kernel
theorem dX9_word_108 : decode cX9_word 108 = .ok (.ifCond .eq 7, 3) := by decide +kernel
theorem dX9_word_111 : decode cX9_word 111 = .ok (.iconst 1, 1) := by decide +kernel
theorem dX9_word_112 : decode cX9_word 112 = .ok (.goto 4, 3) := by decide +kernel
end
section
theorem dX9_word_115 : decode cX9_word 115 = .ok (.iconst 0, 1) := by decide +kernel
theorem dX9_word_116 : decode cX9_word 116 = .ok (.ireturn, 1) := by decide +kernel
theorem dX9_letter_0 : decode cX9_letter 0 = .ok (.aload_n 0, 1) := by decide +kernel
theorem dX9_letter_1 : decode cX9_letter 1 = .ok (.iconst 0, 1) := by decide +kernel
theorem dX9_letter_2 : decode cX9_letter 2 = .ok (.putfield 60, 3) := by decide +kernel
theorem dX9_letter_5 : decode cX9_letter 5 = .ok (.aload_n 0, 1) := by decide +kernel
theorem dX9_letter_6 : decode cX9_letter 6 = .ok (.aload_n 0, 1) := by decide +kernel
theorem dX9_letter_7 : decode cX9_letter 7 = .ok (.iload_n 1, 1) := by decide +kernel
theorem dX9_letter_8 : decode cX9_letter 8 = .ok (.invokevirtual 180, 3) := by decide +kernel
theorem dX9_letter_11 : decode cX9_letter 11 = .ok (.ifCond .eq 38, 3) := by decide +kernel
theorem dX9_letter_14 : decode cX9_letter 14 = .ok (.iload_n 2, 1) := by decide +kernel
theorem dX9_letter_15 : decode cX9_letter 15 = .ok (.iconst 0, 1) := by decide +kernel
theorem dX9_letter_16 : decode cX9_letter 16 = .ok (.aload_n 0, 1) := by decide +kernel
theorem dX9_letter_17 : decode cX9_letter 17 = .ok (.getfield 20, 3) := by decide +kernel
theorem dX9_letter_20 : decode cX9_letter 20 = .ok (.aload_n 0, 1) := by decide +kernel
theorem dX9_letter_21 : decode cX9_letter 21 = .ok (.iload_n 1, 1) := by decide +kernel
theorem dX9_letter_22 : decode cX9_letter 22 = .ok (.invokevirtual 180, 3) := by decide +kernel
theorem dX9_letter_25 : decode cX9_letter 25 = .ok (.ifCond .eq 7, 3) := by decide +kernel
theorem dX9_letter_28 : decode cX9_letter 28 = .ok (.iload_n 1, 1) := by decide +kernel
theorem dX9_letter_29 : decode cX9_letter 29 = .ok (.goto 4, 3) := by decide +kernel
theorem dX9_letter_32 : decode cX9_letter 32 = .ok (.iconst 0, 1) := by decide +kernel
theorem dX9_letter_33 : decode cX9_letter 33 = .ok (.invokestatic 103, 3) := by decide +kernel
theorem dX9_letter_36 : decode cX9_letter 36 = .ok (.bipush 10, 2) := by decide +kernel
theorem dX9_letter_38 : decode cX9_letter 38 = .ok (.iadd, 1) := by decide +kernel
theorem dX9_letter_39 : decode cX9_letter 39 = .ok (.laload, 1) := by decide +kernel
theorem dX9_letter_40 : decode cX9_letter 40 = .ok (.l2i, 1) := by decide +kernel
theorem dX9_letter_41 : decode cX9_letter 41 = .ok (.iconst 1, 1) := by decide +kernel
theorem dX9_letter_42 : decode cX9_letter 42 = .ok (.isub, 1) := by decide +kernel
theorem dX9_letter_43 : decode cX9_letter 43 = .ok (.invokestatic 116, 3) := by decide +kernel
theorem dX9_letter_46 : decode cX9_letter 46 = .ok (.ifCond .ne 7, 3) := by decide +kernel
theorem dX9_letter_49 : decode cX9_letter 49 = .ok (.iconst 1, 1) := by decide +kernel
theorem dX9_letter_50 : decode cX9_letter 50 = .ok (.goto 4, 3) := by decide +kernel
theorem dX9_letter_53 : decode cX9_letter 53 = .ok (.iconst 0, 1) := by decide +kernel
theorem dX9_letter_54 : decode cX9_letter 54 = .ok (.iconst 1, 1) := by decide +kernel
theorem dX9_letter_55 : decode cX9_letter 55 = .ok (.iconst 0, 1) := by decide +kernel
theorem dX9_letter_56 : decode cX9_letter 56 = .ok (.invokevirtual 119, 3) := by decide +kernel
theorem dX9_letter_59 : decode cX9_letter 59 = .ok (.ifCond .eq 5, 3) := by decide +kernel
theorem dX9_letter_62 : decode cX9_letter 62 = .ok (.iconst 0, 1) := by decide +kernel
theorem dX9_letter_63 : decode cX9_letter 63 = .ok (.ireturn, 1) := by decide +kernel
theorem dX9_letter_64 : decode cX9_letter 64 = .ok (.aload_n 0, 1) := by decide +kernel
theorem dX9_letter_65 : decode cX9_letter 65 = .ok (.getfield 20, 3) := by decide +kernel
theorem dX9_letter_68 : decode cX9_letter 68 = .ok (.iload_n 1, 1) := by decide +kernel
theorem dX9_letter_69 : decode cX9_letter 69 = .ok (.invokestatic 103, 3) := by decide +kernel
theorem dX9_letter_72 : decode cX9_letter 72 = .ok (.iload_n 2, 1) := by decide +kernel
theorem dX9_letter_73 : decode cX9_letter 73 = .ok (.iadd, 1) := by decide +kernel
theorem dX9_letter_74 : decode cX9_letter 74 = .ok (.laload, 1) := by decide +kernel
theorem dX9_letter_75 : decode cX9_letter 75 = .ok (.l2i, 1) := by decide +kernel
theorem dX9_letter_76 : decode cX9_letter 76 = .ok (.ireturn, 1) := by decide +kernel
theorem dX9_isMore_0 : decode cX9_isMore 0 = .ok (.iload_n 0, 1) := by decide +kernel
theorem dX9_isMore_1 : decode cX9_isMore 1 = .ok (.ifCond .ne 16, 3) := by decide +kernel
theorem dX9_isMore_4 : decode cX9_isMore 4 = .ok (.iload_n 1, 1) := by decide +kernel
theorem dX9_isMore_5 : decode cX9_isMore 5 = .ok (.iload_n 3, 1) := by decide +kernel
theorem dX9_isMore_6 : decode cX9_isMore 6 = .ok (.if_icmp .le 7, 3) := by decide +kernel
theorem dX9_isMore_9 : decode cX9_isMore 9 = .ok (.iconst 1, 1) := by decide +kernel
theorem dX9_isMore_10 : decode cX9_isMore 10 = .ok (.goto 27, 3) := by decide +kernel
theorem dX9_isMore_13 : decode cX9_isMore 13 = .ok (.iconst 0, 1) := by decide +kernel
theorem dX9_isMore_14 : decode cX9_isMore 14 = .ok (.goto 23, 3) := by decide +kernel
theorem dX9_isMore_17 : decode cX9_isMore 17 = .ok (.iload_n 1, 1) := by decide +kernel
theorem dX9_isMore_18 : decode cX9_isMore 18 = .ok (.i2l, 1) := by decide +kernel
theorem dX9_isMore_19 : decode cX9_isMore 19 = .ok (.iload 4, 2) := by decide +kernel
theorem dX9_isMore_21 : decode cX9_isMore 21 = .ok (.i2l, 1) := by decide +kernel
theorem dX9_isMore_22 : decode cX9_isMore 22 = .ok (.lmul, 1) := by decide +kernel
theorem dX9_isMore_23 : decode cX9_isMore 23 = .ok (.iload_n 3, 1) := by decide +kernel
theorem dX9_isMore_24 : decode cX9_isMore 24 = .ok (.i2l, 1) := by decide +kernel
theorem dX9_isMore_25 : decode cX9_isMore 25 = .ok (.iload_n 2, 1) := by decide +kernel
theorem dX9_isMore_26 : decode cX9_isMore 26 = .ok (.i2l, 1) := by decide +kernel
theorem dX9_isMore_27 : decode cX9_isMore 27 = .ok (.lmul, 1) := by decide +kernel
theorem dX9_isMore_28 : decode cX9_isMore 28 = .ok (.lcmp, 1) := by decide +kernel
theorem dX9_isMore_29 : decode cX9_isMore 29 = .ok (.ifCond .le 7, 3) := by decide +kernel
theorem dX9_isMore_32 : decode cX9_isMore 32 = .ok (.iconst 1, 1) := by decide +kernel
theorem dX9_isMore_33 : decode cX9_isMore 33 = .ok (.goto 4, 3) := by decide +kernel
theorem dX9_isMore_36 : decode cX9_isMore 36 = .ok (.iconst 0, 1) := by decide +kernel
theorem dX9_isMore_37 : decode cX9_isMore 37 = .ok (.ireturn, 1) := by decide +kernel
theorem dX9_chosen_0 : decode cX9_chosen 0 = .ok (.iconst (-1), 1) := by decide +kernel
theorem dX9_chosen_1 : decode cX9_chosen 1 = .ok (.istore_n 3, 1) := by decide +kernel
theorem dX9_chosen_2 : decode cX9_chosen 2 = .ok (.iconst 0, 1) := by decide +kernel
theorem dX9_chosen_3 : decode cX9_chosen 3 = .ok (.istore 4, 2) := by decide +kernel
theorem dX9_chosen_5 : decode cX9_chosen 5 = .ok (.iconst 1, 1) := by decide +kernel
theorem dX9_chosen_6 : decode cX9_chosen 6 = .ok (.istore 5, 2) := by decide +kernel
theorem dX9_chosen_8 : decode cX9_chosen 8 = .ok (.iconst 0, 1) := by decide +kernel
theorem dX9_chosen_9 : decode cX9_chosen 9 = .ok (.istore 6, 2) := by decide +kernel
theorem dX9_chosen_11 : decode cX9_chosen 11 = .ok (.iload 6, 2) := by decide +kernel
theorem dX9_chosen_13 : decode cX9_chosen 13 = .ok (.aload_n 0, 1) := by decide +kernel
theorem dX9_chosen_14 : decode cX9_chosen 14 = .ok (.invokevirtual 133, 3) := by decide +kernel
theorem dX9_chosen_17 : decode cX9_chosen 17 = .ok (.if_icmp .ge 89, 3) := by decide +kernel
theorem dX9_chosen_20 : decode cX9_chosen 20 = .ok (.aload_n 0, 1) := by decide +kernel
theorem dX9_chosen_21 : decode cX9_chosen 21 = .ok (.iload_n 2, 1) := by decide +kernel
theorem dX9_chosen_22 : decode cX9_chosen 22 = .ok (.iload 6, 2) := by decide +kernel
theorem dX9_chosen_24 : decode cX9_chosen 24 = .ok (.invokevirtual 189, 3) := by decide +kernel
theorem dX9_chosen_27 : decode cX9_chosen 27 = .ok (.ifCond .ne 6, 3) := by decide +kernel
theorem dX9_chosen_30 : decode cX9_chosen 30 = .ok (.goto 70, 3) := by decide +kernel
theorem dX9_chosen_33 : decode cX9_chosen 33 = .ok (.aload_n 0, 1) := by decide +kernel
theorem dX9_chosen_34 : decode cX9_chosen 34 = .ok (.dup, 1) := by decide +kernel
theorem dX9_chosen_35 : decode cX9_chosen 35 = .ok (.getfield 202, 3) := by decide +kernel
theorem dX9_chosen_38 : decode cX9_chosen 38 = .ok (.iconst 1, 1) := by decide +kernel
theorem dX9_chosen_39 : decode cX9_chosen 39 = .ok (.iadd, 1) := by decide +kernel
theorem dX9_chosen_40 : decode cX9_chosen 40 = .ok (.putfield 202, 3) := by decide +kernel
theorem dX9_chosen_43 : decode cX9_chosen 43 = .ok (.aload_n 0, 1) := by decide +kernel
theorem dX9_chosen_44 : decode cX9_chosen 44 = .ok (.iload_n 2, 1) := by decide +kernel
theorem dX9_chosen_45 : decode cX9_chosen 45 = .ok (.iload 6, 2) := by decide +kernel
theorem dX9_chosen_47 : decode cX9_chosen 47 = .ok (.invokevirtual 193, 3) := by decide +kernel
theorem dX9_chosen_50 : decode cX9_chosen 50 = .ok (.istore 7, 2) := by decide +kernel
theorem dX9_chosen_52 : decode cX9_chosen 52 = .ok (.aload_n 0, 1) := by decide +kernel
theorem dX9_chosen_53 : decode cX9_chosen 53 = .ok (.iload_n 2, 1) := by decide +kernel
theorem dX9_chosen_54 : decode cX9_chosen 54 = .ok (.iload 6, 2) := by decide +kernel
theorem dX9_chosen_56 : decode cX9_chosen 56 = .ok (.invokevirtual 169, 3) := by decide +kernel
theorem dX9_chosen_59 : decode cX9_chosen 59 = .ok (.istore 8, 2) := by decide +kernel
theorem dX9_chosen_61 : decode cX9_chosen 61 = .ok (.iload 7, 2) := by decide +kernel
theorem dX9_chosen_63 : decode cX9_chosen 63 = .ok (.ifCond .eq 37, 3) := by decide +kernel
theorem dX9_chosen_66 : decode cX9_chosen 66 = .ok (.iload_n 3, 1) := by decide +kernel
theorem dX9_chosen_67 : decode cX9_chosen 67 = .ok (.iconst (-1), 1) := by decide +kernel
theorem dX9_chosen_68 : decode cX9_chosen 68 = .ok (.if_icmp .eq 21, 3) := by decide +kernel
theorem dX9_chosen_71 : decode cX9_chosen 71 = .ok (.iload_n 1, 1) := by decide +kernel
theorem dX9_chosen_72 : decode cX9_chosen 72 = .ok (.iload 7, 2) := by decide +kernel
theorem dX9_chosen_74 : decode cX9_chosen 74 = .ok (.iload 8, 2) := by decide +kernel
theorem dX9_chosen_76 : decode cX9_chosen 76 = .ok (.iload 4, 2) := by decide +kernel
theorem dX9_chosen_78 : decode cX9_chosen 78 = .ok (.iload 5, 2) := by decide +kernel
theorem dX9_chosen_80 : decode cX9_chosen 80 = .ok (.invokestatic 205, 3) := by decide +kernel
theorem dX9_chosen_83 : decode cX9_chosen 83 = .ok (.ifCond .ne 6, 3) := by decide +kernel
theorem dX9_chosen_86 : decode cX9_chosen 86 = .ok (.goto 14, 3) := by decide +kernel
theorem dX9_chosen_89 : decode cX9_chosen 89 = .ok (.iload 6, 2) := by decide +kernel
theorem dX9_chosen_91 : decode cX9_chosen 91 = .ok (.istore_n 3, 1) := by decide +kernel
theorem dX9_chosen_92 : decode cX9_chosen 92 = .ok (.iload 7, 2) := by decide +kernel
theorem dX9_chosen_94 : decode cX9_chosen 94 = .ok (.istore 4, 2) := by decide +kernel
theorem dX9_chosen_96 : decode cX9_chosen 96 = .ok (.iload 8, 2) := by decide +kernel
theorem dX9_chosen_98 : decode cX9_chosen 98 = .ok (.istore 5, 2) := by decide +kernel
theorem dX9_chosen_100 : decode cX9_chosen 100 = .ok (.iinc 6 1, 3) := by decide +kernel
theorem dX9_chosen_103 : decode cX9_chosen 103 = .ok (.goto (-92), 3) := by decide +kernel
theorem dX9_chosen_106 : decode cX9_chosen 106 = .ok (.iload_n 3, 1) := by decide +kernel
theorem dX9_chosen_107 : decode cX9_chosen 107 = .ok (.ireturn, 1) := by decide +kernel
theorem dX9_goes_0 : decode cX9_goes 0 = .ok (.aload_n 0, 1) := by decide +kernel
theorem dX9_goes_1 : decode cX9_goes 1 = .ok (.iconst 0, 1) := by decide +kernel
theorem dX9_goes_2 : decode cX9_goes 2 = .ok (.putfield 209, 3) := by decide +kernel
theorem dX9_goes_5 : decode cX9_goes 5 = .ok (.aload_n 0, 1) := by decide +kernel
theorem dX9_goes_6 : decode cX9_goes 6 = .ok (.iconst 0, 1) := by decide +kernel
theorem dX9_goes_7 : decode cX9_goes 7 = .ok (.putfield 212, 3) := by decide +kernel
theorem dX9_goes_10 : decode cX9_goes 10 = .ok (.aload_n 0, 1) := by decide +kernel
theorem dX9_goes_11 : decode cX9_goes 11 = .ok (.iconst 0, 1) := by decide +kernel
theorem dX9_goes_12 : decode cX9_goes 12 = .ok (.putfield 202, 3) := by decide +kernel
theorem dX9_goes_15 : decode cX9_goes 15 = .ok (.aload_n 0, 1) := by decide +kernel
theorem dX9_goes_16 : decode cX9_goes 16 = .ok (.iload_n 1, 1) := by decide +kernel
theorem dX9_goes_17 : decode cX9_goes 17 = .ok (.iconst 0, 1) := by decide +kernel
theorem dX9_goes_18 : decode cX9_goes 18 = .ok (.invokevirtual 215, 3) := by decide +kernel
theorem dX9_goes_21 : decode cX9_goes 21 = .ok (.istore_n 2, 1) := by decide +kernel
theorem dX9_goes_22 : decode cX9_goes 22 = .ok (.iload_n 2, 1) := by decide +kernel
theorem dX9_goes_23 : decode cX9_goes 23 = .ok (.iconst (-1), 1) := by decide +kernel
theorem dX9_goes_24 : decode cX9_goes 24 = .ok (.if_icmp .eq 50, 3) := by decide +kernel
theorem dX9_goes_27 : decode cX9_goes 27 = .ok (.aload_n 0, 1) := by decide +kernel
theorem dX9_goes_28 : decode cX9_goes 28 = .ok (.getfield 32, 3) := by decide +kernel
theorem dX9_goes_31 : decode cX9_goes 31 = .ok (.aload_n 0, 1) := by decide +kernel
theorem dX9_goes_32 : decode cX9_goes 32 = .ok (.getfield 209, 3) := by decide +kernel
theorem dX9_goes_35 : decode cX9_goes 35 = .ok (.iload_n 2, 1) := by decide +kernel
theorem dX9_goes_36 : decode cX9_goes 36 = .ok (.iastore, 1) := by decide +kernel
theorem dX9_goes_37 : decode cX9_goes 37 = .ok (.aload_n 0, 1) := by decide +kernel
theorem dX9_goes_38 : decode cX9_goes 38 = .ok (.dup, 1) := by decide +kernel
theorem dX9_goes_39 : decode cX9_goes 39 = .ok (.getfield 209, 3) := by decide +kernel
theorem dX9_goes_42 : decode cX9_goes 42 = .ok (.iconst 1, 1) := by decide +kernel
theorem dX9_goes_43 : decode cX9_goes 43 = .ok (.iadd, 1) := by decide +kernel
theorem dX9_goes_44 : decode cX9_goes 44 = .ok (.putfield 209, 3) := by decide +kernel
theorem dX9_goes_47 : decode cX9_goes 47 = .ok (.aload_n 0, 1) := by decide +kernel
theorem dX9_goes_48 : decode cX9_goes 48 = .ok (.dup, 1) := by decide +kernel
theorem dX9_goes_49 : decode cX9_goes 49 = .ok (.getfield 212, 3) := by decide +kernel
theorem dX9_goes_52 : decode cX9_goes 52 = .ok (.aload_n 0, 1) := by decide +kernel
theorem dX9_goes_53 : decode cX9_goes 53 = .ok (.iload_n 2, 1) := by decide +kernel
theorem dX9_goes_54 : decode cX9_goes 54 = .ok (.invokevirtual 163, 3) := by decide +kernel
theorem dX9_goes_57 : decode cX9_goes 57 = .ok (.ior, 1) := by decide +kernel
theorem dX9_goes_58 : decode cX9_goes 58 = .ok (.putfield 212, 3) := by decide +kernel
theorem dX9_goes_61 : decode cX9_goes 61 = .ok (.aload_n 0, 1) := by decide +kernel
theorem dX9_goes_62 : decode cX9_goes 62 = .ok (.iload_n 1, 1) := by decide +kernel
theorem dX9_goes_63 : decode cX9_goes 63 = .ok (.aload_n 0, 1) := by decide +kernel
theorem dX9_goes_64 : decode cX9_goes 64 = .ok (.getfield 212, 3) := by decide +kernel
theorem dX9_goes_67 : decode cX9_goes 67 = .ok (.invokevirtual 215, 3) := by decide +kernel
theorem dX9_goes_70 : decode cX9_goes 70 = .ok (.istore_n 2, 1) := by decide +kernel
theorem dX9_goes_71 : decode cX9_goes 71 = .ok (.goto (-49), 3) := by decide +kernel
theorem dX9_goes_74 : decode cX9_goes 74 = .ok (.return_, 1) := by decide +kernel
theorem dX9_single_0 : decode cX9_single 0 = .ok (.iconst (-1), 1) := by decide +kernel
theorem dX9_single_1 : decode cX9_single 1 = .ok (.istore_n 1, 1) := by decide +kernel
theorem dX9_single_2 : decode cX9_single 2 = .ok (.iconst 0, 1) := by decide +kernel
theorem dX9_single_3 : decode cX9_single 3 = .ok (.istore_n 2, 1) := by decide +kernel
theorem dX9_single_4 : decode cX9_single 4 = .ok (.iload_n 2, 1) := by decide +kernel
theorem dX9_single_5 : decode cX9_single 5 = .ok (.aload_n 0, 1) := by decide +kernel
theorem dX9_single_6 : decode cX9_single 6 = .ok (.invokevirtual 133, 3) := by decide +kernel
theorem dX9_single_9 : decode cX9_single 9 = .ok (.if_icmp .ge 44, 3) := by decide +kernel
theorem dX9_single_12 : decode cX9_single 12 = .ok (.aload_n 0, 1) := by decide +kernel
theorem dX9_single_13 : decode cX9_single 13 = .ok (.iconst 0, 1) := by decide +kernel
theorem dX9_single_14 : decode cX9_single 14 = .ok (.iload_n 2, 1) := by decide +kernel
theorem dX9_single_15 : decode cX9_single 15 = .ok (.invokevirtual 189, 3) := by decide +kernel
theorem dX9_single_18 : decode cX9_single 18 = .ok (.ifCond .eq 29, 3) := by decide +kernel
theorem dX9_single_21 : decode cX9_single 21 = .ok (.aload_n 0, 1) := by decide +kernel
theorem dX9_single_22 : decode cX9_single 22 = .ok (.iconst 0, 1) := by decide +kernel
theorem dX9_single_23 : decode cX9_single 23 = .ok (.iload_n 2, 1) := by decide +kernel
theorem dX9_single_24 : decode cX9_single 24 = .ok (.invokevirtual 193, 3) := by decide +kernel
theorem dX9_single_27 : decode cX9_single 27 = .ok (.iload_n 1, 1) := by decide +kernel
theorem dX9_single_28 : decode cX9_single 28 = .ok (.iconst (-1), 1) := by decide +kernel
theorem dX9_single_29 : decode cX9_single 29 = .ok (.if_icmp .ne 7, 3) := by decide +kernel
theorem dX9_single_32 : decode cX9_single 32 = .ok (.iconst 0, 1) := by decide +kernel
theorem dX9_single_33 : decode cX9_single 33 = .ok (.goto 9, 3) := by decide +kernel
theorem dX9_single_36 : decode cX9_single 36 = .ok (.aload_n 0, 1) := by decide +kernel
theorem dX9_single_37 : decode cX9_single 37 = .ok (.iconst 0, 1) := by decide +kernel
theorem dX9_single_38 : decode cX9_single 38 = .ok (.iload_n 1, 1) := by decide +kernel
theorem dX9_single_39 : decode cX9_single 39 = .ok (.invokevirtual 193, 3) := by decide +kernel
theorem dX9_single_42 : decode cX9_single 42 = .ok (.if_icmp .le 5, 3) := by decide +kernel
theorem dX9_single_45 : decode cX9_single 45 = .ok (.iload_n 2, 1) := by decide +kernel
theorem dX9_single_46 : decode cX9_single 46 = .ok (.istore_n 1, 1) := by decide +kernel
theorem dX9_single_47 : decode cX9_single 47 = .ok (.iinc 2 1, 3) := by decide +kernel
theorem dX9_single_50 : decode cX9_single 50 = .ok (.goto (-46), 3) := by decide +kernel
theorem dX9_single_53 : decode cX9_single 53 = .ok (.iload_n 1, 1) := by decide +kernel
theorem dX9_single_54 : decode cX9_single 54 = .ok (.ireturn, 1) := by decide +kernel
theorem dX9_lays_0 : decode cX9_lays 0 = .ok (.aload_n 0, 1) := by decide +kernel
theorem dX9_lays_1 : decode cX9_lays 1 = .ok (.iload_n 1, 1) := by decide +kernel
theorem dX9_lays_2 : decode cX9_lays 2 = .ok (.ifCond .ne 7, 3) := by decide +kernel
theorem dX9_lays_5 : decode cX9_lays 5 = .ok (.iconst 0, 1) := by decide +kernel
theorem dX9_lays_6 : decode cX9_lays 6 = .ok (.goto 4, 3) := by decide +kernel
theorem dX9_lays_9 : decode cX9_lays 9 = .ok (.iconst 1, 1) := by decide +kernel
theorem dX9_lays_10 : decode cX9_lays 10 = .ok (.invokevirtual 218, 3) := by decide +kernel
theorem dX9_lays_13 : decode cX9_lays 13 = .ok (.iload_n 1, 1) := by decide +kernel
theorem dX9_lays_14 : decode cX9_lays 14 = .ok (.iconst 2, 1) := by decide +kernel
theorem dX9_lays_15 : decode cX9_lays 15 = .ok (.if_icmp .ge 4, 3) := by decide +kernel
theorem dX9_lays_18 : decode cX9_lays 18 = .ok (.return_, 1) := by decide +kernel
theorem dX9_lays_19 : decode cX9_lays 19 = .ok (.aload_n 0, 1) := by decide +kernel
theorem dX9_lays_20 : decode cX9_lays 20 = .ok (.invokevirtual 221, 3) := by decide +kernel
theorem dX9_lays_23 : decode cX9_lays 23 = .ok (.istore_n 2, 1) := by decide +kernel
theorem dX9_lays_24 : decode cX9_lays 24 = .ok (.iload_n 2, 1) := by decide +kernel
theorem dX9_lays_25 : decode cX9_lays 25 = .ok (.iconst (-1), 1) := by decide +kernel
theorem dX9_lays_26 : decode cX9_lays 26 = .ok (.if_icmp .eq 23, 3) := by decide +kernel
theorem dX9_lays_29 : decode cX9_lays 29 = .ok (.aload_n 0, 1) := by decide +kernel
theorem dX9_lays_30 : decode cX9_lays 30 = .ok (.aload_n 0, 1) := by decide +kernel
theorem dX9_lays_31 : decode cX9_lays 31 = .ok (.iload_n 2, 1) := by decide +kernel
theorem dX9_lays_32 : decode cX9_lays 32 = .ok (.invokevirtual 163, 3) := by decide +kernel
theorem dX9_lays_35 : decode cX9_lays 35 = .ok (.invokevirtual 196, 3) := by decide +kernel
theorem dX9_lays_38 : decode cX9_lays 38 = .ok (.aload_n 0, 1) := by decide +kernel
theorem dX9_lays_39 : decode cX9_lays 39 = .ok (.aload_n 0, 1) := by decide +kernel
theorem dX9_lays_40 : decode cX9_lays 40 = .ok (.getfield 212, 3) := by decide +kernel
theorem dX9_lays_43 : decode cX9_lays 43 = .ok (.invokevirtual 196, 3) := by decide +kernel
theorem dX9_lays_46 : decode cX9_lays 46 = .ok (.if_icmp .gt 4, 3) := by decide +kernel
theorem dX9_lays_49 : decode cX9_lays 49 = .ok (.return_, 1) := by decide +kernel
theorem dX9_lays_50 : decode cX9_lays 50 = .ok (.aload_n 0, 1) := by decide +kernel
theorem dX9_lays_51 : decode cX9_lays 51 = .ok (.iconst 1, 1) := by decide +kernel
theorem dX9_lays_52 : decode cX9_lays 52 = .ok (.putfield 209, 3) := by decide +kernel
theorem dX9_lays_55 : decode cX9_lays 55 = .ok (.aload_n 0, 1) := by decide +kernel
theorem dX9_lays_56 : decode cX9_lays 56 = .ok (.getfield 32, 3) := by decide +kernel
theorem dX9_lays_59 : decode cX9_lays 59 = .ok (.iconst 0, 1) := by decide +kernel
theorem dX9_lays_60 : decode cX9_lays 60 = .ok (.iload_n 2, 1) := by decide +kernel
theorem dX9_lays_61 : decode cX9_lays 61 = .ok (.iastore, 1) := by decide +kernel
theorem dX9_lays_62 : decode cX9_lays 62 = .ok (.aload_n 0, 1) := by decide +kernel
theorem dX9_lays_63 : decode cX9_lays 63 = .ok (.aload_n 0, 1) := by decide +kernel
theorem dX9_lays_64 : decode cX9_lays 64 = .ok (.iload_n 2, 1) := by decide +kernel
theorem dX9_lays_65 : decode cX9_lays 65 = .ok (.invokevirtual 163, 3) := by decide +kernel
theorem dX9_lays_68 : decode cX9_lays 68 = .ok (.putfield 212, 3) := by decide +kernel
theorem dX9_lays_71 : decode cX9_lays 71 = .ok (.return_, 1) := by decide +kernel
theorem dX9_greedy_0 : decode cX9_greedy 0 = .ok (.aload_n 0, 1) := by decide +kernel
theorem dX9_greedy_1 : decode cX9_greedy 1 = .ok (.iconst 0, 1) := by decide +kernel
theorem dX9_greedy_2 : decode cX9_greedy 2 = .ok (.putfield 60, 3) := by decide +kernel
theorem dX9_greedy_5 : decode cX9_greedy 5 = .ok (.aload_n 0, 1) := by decide +kernel
theorem dX9_greedy_6 : decode cX9_greedy 6 = .ok (.iload_n 1, 1) := by decide +kernel
theorem dX9_greedy_7 : decode cX9_greedy 7 = .ok (.iconst 0, 1) := by decide +kernel
theorem dX9_greedy_8 : decode cX9_greedy 8 = .ok (.iconst 2, 1) := by decide +kernel
theorem dX9_greedy_9 : decode cX9_greedy 9 = .ok (.invokestatic 116, 3) := by decide +kernel
theorem dX9_greedy_12 : decode cX9_greedy 12 = .ok (.ifCond .eq 12, 3) := by decide +kernel
theorem dX9_greedy_15 : decode cX9_greedy 15 = .ok (.iload_n 2, 1) := by decide +kernel
theorem dX9_greedy_16 : decode cX9_greedy 16 = .ok (.iconst 0, 1) := by decide +kernel
theorem dX9_greedy_17 : decode cX9_greedy 17 = .ok (.iconst 3, 1) := by decide +kernel
theorem dX9_greedy_18 : decode cX9_greedy 18 = .ok (.invokestatic 116, 3) := by decide +kernel
theorem dX9_greedy_21 : decode cX9_greedy 21 = .ok (.ifCond .ne 7, 3) := by decide +kernel
theorem dX9_greedy_24 : decode cX9_greedy 24 = .ok (.iconst 1, 1) := by decide +kernel
theorem dX9_greedy_25 : decode cX9_greedy 25 = .ok (.goto 4, 3) := by decide +kernel
theorem dX9_greedy_28 : decode cX9_greedy 28 = .ok (.iconst 0, 1) := by decide +kernel
theorem dX9_greedy_29 : decode cX9_greedy 29 = .ok (.iconst 1, 1) := by decide +kernel
theorem dX9_greedy_30 : decode cX9_greedy 30 = .ok (.iconst 1, 1) := by decide +kernel
theorem dX9_greedy_31 : decode cX9_greedy 31 = .ok (.invokevirtual 119, 3) := by decide +kernel
theorem dX9_greedy_34 : decode cX9_greedy 34 = .ok (.ifCond .eq 5, 3) := by decide +kernel
theorem dX9_greedy_37 : decode cX9_greedy 37 = .ok (.iconst 0, 1) := by decide +kernel
theorem dX9_greedy_38 : decode cX9_greedy 38 = .ok (.ireturn, 1) := by decide +kernel
theorem dX9_greedy_39 : decode cX9_greedy 39 = .ok (.aload_n 0, 1) := by decide +kernel
theorem dX9_greedy_40 : decode cX9_greedy 40 = .ok (.iload_n 1, 1) := by decide +kernel
theorem dX9_greedy_41 : decode cX9_greedy 41 = .ok (.invokevirtual 224, 3) := by decide +kernel
theorem dX9_greedy_44 : decode cX9_greedy 44 = .ok (.iload_n 2, 1) := by decide +kernel
theorem dX9_greedy_45 : decode cX9_greedy 45 = .ok (.ifCond .ne 10, 3) := by decide +kernel
theorem dX9_greedy_48 : decode cX9_greedy 48 = .ok (.aload_n 0, 1) := by decide +kernel
theorem dX9_greedy_49 : decode cX9_greedy 49 = .ok (.getfield 212, 3) := by decide +kernel
theorem dX9_greedy_52 : decode cX9_greedy 52 = .ok (.goto 39, 3) := by decide +kernel
theorem dX9_greedy_55 : decode cX9_greedy 55 = .ok (.iload_n 2, 1) := by decide +kernel
theorem dX9_greedy_56 : decode cX9_greedy 56 = .ok (.iconst 1, 1) := by decide +kernel
theorem dX9_greedy_57 : decode cX9_greedy 57 = .ok (.if_icmp .ne 14, 3) := by decide +kernel
theorem dX9_greedy_60 : decode cX9_greedy 60 = .ok (.aload_n 0, 1) := by decide +kernel
theorem dX9_greedy_61 : decode cX9_greedy 61 = .ok (.aload_n 0, 1) := by decide +kernel
theorem dX9_greedy_62 : decode cX9_greedy 62 = .ok (.getfield 212, 3) := by decide +kernel
theorem dX9_greedy_65 : decode cX9_greedy 65 = .ok (.invokevirtual 196, 3) := by decide +kernel
theorem dX9_greedy_68 : decode cX9_greedy 68 = .ok (.goto 23, 3) := by decide +kernel
theorem dX9_greedy_71 : decode cX9_greedy 71 = .ok (.iload_n 2, 1) := by decide +kernel
theorem dX9_greedy_72 : decode cX9_greedy 72 = .ok (.iconst 2, 1) := by decide +kernel
theorem dX9_greedy_73 : decode cX9_greedy 73 = .ok (.if_icmp .ne 14, 3) := by decide +kernel
theorem dX9_greedy_76 : decode cX9_greedy 76 = .ok (.aload_n 0, 1) := by decide +kernel
theorem dX9_greedy_77 : decode cX9_greedy 77 = .ok (.aload_n 0, 1) := by decide +kernel
theorem dX9_greedy_78 : decode cX9_greedy 78 = .ok (.getfield 212, 3) := by decide +kernel
theorem dX9_greedy_81 : decode cX9_greedy 81 = .ok (.invokevirtual 166, 3) := by decide +kernel
theorem dX9_greedy_84 : decode cX9_greedy 84 = .ok (.goto 7, 3) := by decide +kernel
theorem dX9_greedy_87 : decode cX9_greedy 87 = .ok (.aload_n 0, 1) := by decide +kernel
theorem dX9_greedy_88 : decode cX9_greedy 88 = .ok (.getfield 209, 3) := by decide +kernel
theorem dX9_greedy_91 : decode cX9_greedy 91 = .ok (.ireturn, 1) := by decide +kernel
theorem dX9_step_0 : decode cX9_step 0 = .ok (.aload_n 0, 1) := by decide +kernel
theorem dX9_step_1 : decode cX9_step 1 = .ok (.iconst 0, 1) := by decide +kernel
theorem dX9_step_2 : decode cX9_step 2 = .ok (.putfield 60, 3) := by decide +kernel
theorem dX9_step_5 : decode cX9_step 5 = .ok (.aload_n 0, 1) := by decide +kernel
theorem dX9_step_6 : decode cX9_step 6 = .ok (.iload_n 1, 1) := by decide +kernel
theorem dX9_step_7 : decode cX9_step 7 = .ok (.iconst 0, 1) := by decide +kernel
theorem dX9_step_8 : decode cX9_step 8 = .ok (.iconst 2, 1) := by decide +kernel
theorem dX9_step_9 : decode cX9_step 9 = .ok (.invokestatic 116, 3) := by decide +kernel
theorem dX9_step_12 : decode cX9_step 12 = .ok (.ifCond .ne 7, 3) := by decide +kernel
theorem dX9_step_15 : decode cX9_step 15 = .ok (.iconst 1, 1) := by decide +kernel
theorem dX9_step_16 : decode cX9_step 16 = .ok (.goto 4, 3) := by decide +kernel
theorem dX9_step_19 : decode cX9_step 19 = .ok (.iconst 0, 1) := by decide +kernel
theorem dX9_step_20 : decode cX9_step 20 = .ok (.iconst 1, 1) := by decide +kernel
theorem dX9_step_21 : decode cX9_step 21 = .ok (.iconst 1, 1) := by decide +kernel
theorem dX9_step_22 : decode cX9_step 22 = .ok (.invokevirtual 119, 3) := by decide +kernel
theorem dX9_step_25 : decode cX9_step 25 = .ok (.ifCond .eq 5, 3) := by decide +kernel
theorem dX9_step_28 : decode cX9_step 28 = .ok (.iconst 0, 1) := by decide +kernel
theorem dX9_step_29 : decode cX9_step 29 = .ok (.ireturn, 1) := by decide +kernel
theorem dX9_step_30 : decode cX9_step 30 = .ok (.aload_n 0, 1) := by decide +kernel
theorem dX9_step_31 : decode cX9_step 31 = .ok (.iload_n 1, 1) := by decide +kernel
theorem dX9_step_32 : decode cX9_step 32 = .ok (.invokevirtual 224, 3) := by decide +kernel
theorem dX9_step_35 : decode cX9_step 35 = .ok (.aload_n 0, 1) := by decide +kernel
theorem dX9_step_36 : decode cX9_step 36 = .ok (.iload_n 2, 1) := by decide +kernel
theorem dX9_step_37 : decode cX9_step 37 = .ok (.iconst 0, 1) := by decide +kernel
theorem dX9_step_38 : decode cX9_step 38 = .ok (.aload_n 0, 1) := by decide +kernel
theorem dX9_step_39 : decode cX9_step 39 = .ok (.getfield 209, 3) := by decide +kernel
theorem dX9_step_42 : decode cX9_step 42 = .ok (.iconst 1, 1) := by decide +kernel
theorem dX9_step_43 : decode cX9_step 43 = .ok (.isub, 1) := by decide +kernel
theorem dX9_step_44 : decode cX9_step 44 = .ok (.invokestatic 116, 3) := by decide +kernel
theorem dX9_step_47 : decode cX9_step 47 = .ok (.ifCond .ne 7, 3) := by decide +kernel
theorem dX9_step_50 : decode cX9_step 50 = .ok (.iconst 1, 1) := by decide +kernel
theorem dX9_step_51 : decode cX9_step 51 = .ok (.goto 4, 3) := by decide +kernel
theorem dX9_step_54 : decode cX9_step 54 = .ok (.iconst 0, 1) := by decide +kernel
theorem dX9_step_55 : decode cX9_step 55 = .ok (.iconst 2, 1) := by decide +kernel
theorem dX9_step_56 : decode cX9_step 56 = .ok (.iconst 0, 1) := by decide +kernel
theorem dX9_step_57 : decode cX9_step 57 = .ok (.invokevirtual 119, 3) := by decide +kernel
theorem dX9_step_60 : decode cX9_step 60 = .ok (.ifCond .eq 7, 3) := by decide +kernel
theorem dX9_step_63 : decode cX9_step 63 = .ok (.iconst 0, 1) := by decide +kernel
theorem dX9_step_64 : decode cX9_step 64 = .ok (.goto 9, 3) := by decide +kernel
theorem dX9_step_67 : decode cX9_step 67 = .ok (.aload_n 0, 1) := by decide +kernel
theorem dX9_step_68 : decode cX9_step 68 = .ok (.getfield 32, 3) := by decide +kernel
theorem dX9_step_71 : decode cX9_step 71 = .ok (.iload_n 2, 1) := by decide +kernel
theorem dX9_step_72 : decode cX9_step 72 = .ok (.iaload, 1) := by decide +kernel
theorem dX9_step_73 : decode cX9_step 73 = .ok (.ireturn, 1) := by decide +kernel
theorem dX9_first_0 : decode cX9_first 0 = .ok (.iconst (-1), 1) := by decide +kernel
theorem dX9_first_1 : decode cX9_first 1 = .ok (.istore_n 1, 1) := by decide +kernel
theorem dX9_first_2 : decode cX9_first 2 = .ok (.iconst 0, 1) := by decide +kernel
theorem dX9_first_3 : decode cX9_first 3 = .ok (.istore_n 2, 1) := by decide +kernel
theorem dX9_first_4 : decode cX9_first 4 = .ok (.iload_n 2, 1) := by decide +kernel
theorem dX9_first_5 : decode cX9_first 5 = .ok (.aload_n 0, 1) := by decide +kernel
theorem dX9_first_6 : decode cX9_first 6 = .ok (.invokevirtual 133, 3) := by decide +kernel
theorem dX9_first_9 : decode cX9_first 9 = .ok (.if_icmp .ge 56, 3) := by decide +kernel
theorem dX9_first_12 : decode cX9_first 12 = .ok (.aload_n 0, 1) := by decide +kernel
theorem dX9_first_13 : decode cX9_first 13 = .ok (.getfield 41, 3) := by decide +kernel
theorem dX9_first_16 : decode cX9_first 16 = .ok (.iload_n 2, 1) := by decide +kernel
theorem dX9_first_17 : decode cX9_first 17 = .ok (.baload, 1) := by decide +kernel
theorem dX9_first_18 : decode cX9_first 18 = .ok (.ifCond .eq 41, 3) := by decide +kernel
theorem dX9_first_21 : decode cX9_first 21 = .ok (.iload_n 1, 1) := by decide +kernel
theorem dX9_first_22 : decode cX9_first 22 = .ok (.iconst (-1), 1) := by decide +kernel
theorem dX9_first_23 : decode cX9_first 23 = .ok (.if_icmp .eq 34, 3) := by decide +kernel
theorem dX9_first_26 : decode cX9_first 26 = .ok (.iconst 1, 1) := by decide +kernel
theorem dX9_first_27 : decode cX9_first 27 = .ok (.aload_n 0, 1) := by decide +kernel
theorem dX9_first_28 : decode cX9_first 28 = .ok (.getfield 35, 3) := by decide +kernel
theorem dX9_first_31 : decode cX9_first 31 = .ok (.iload_n 2, 1) := by decide +kernel
theorem dX9_first_32 : decode cX9_first 32 = .ok (.iaload, 1) := by decide +kernel
theorem dX9_first_33 : decode cX9_first 33 = .ok (.aload_n 0, 1) := by decide +kernel
theorem dX9_first_34 : decode cX9_first 34 = .ok (.getfield 38, 3) := by decide +kernel
theorem dX9_first_37 : decode cX9_first 37 = .ok (.iload_n 2, 1) := by decide +kernel
theorem dX9_first_38 : decode cX9_first 38 = .ok (.iaload, 1) := by decide +kernel
theorem dX9_first_39 : decode cX9_first 39 = .ok (.aload_n 0, 1) := by decide +kernel
theorem dX9_first_40 : decode cX9_first 40 = .ok (.getfield 35, 3) := by decide +kernel
theorem dX9_first_43 : decode cX9_first 43 = .ok (.iload_n 1, 1) := by decide +kernel
theorem dX9_first_44 : decode cX9_first 44 = .ok (.iaload, 1) := by decide +kernel
theorem dX9_first_45 : decode cX9_first 45 = .ok (.aload_n 0, 1) := by decide +kernel
theorem dX9_first_46 : decode cX9_first 46 = .ok (.getfield 38, 3) := by decide +kernel
theorem dX9_first_49 : decode cX9_first 49 = .ok (.iload_n 1, 1) := by decide +kernel
theorem dX9_first_50 : decode cX9_first 50 = .ok (.iaload, 1) := by decide +kernel
theorem dX9_first_51 : decode cX9_first 51 = .ok (.invokestatic 205, 3) := by decide +kernel
theorem dX9_first_54 : decode cX9_first 54 = .ok (.ifCond .eq 5, 3) := by decide +kernel
theorem dX9_first_57 : decode cX9_first 57 = .ok (.iload_n 2, 1) := by decide +kernel
theorem dX9_first_58 : decode cX9_first 58 = .ok (.istore_n 1, 1) := by decide +kernel
theorem dX9_first_59 : decode cX9_first 59 = .ok (.iinc 2 1, 3) := by decide +kernel
theorem dX9_first_62 : decode cX9_first 62 = .ok (.goto (-58), 3) := by decide +kernel
theorem dX9_first_65 : decode cX9_first 65 = .ok (.iload_n 1, 1) := by decide +kernel
theorem dX9_first_66 : decode cX9_first 66 = .ok (.ireturn, 1) := by decide +kernel
theorem dX9_asks_0 : decode cX9_asks 0 = .ok (.aload_n 0, 1) := by decide +kernel
theorem dX9_asks_1 : decode cX9_asks 1 = .ok (.getfield 35, 3) := by decide +kernel
theorem dX9_asks_4 : decode cX9_asks 4 = .ok (.iload_n 1, 1) := by decide +kernel
theorem dX9_asks_5 : decode cX9_asks 5 = .ok (.aload_n 0, 1) := by decide +kernel
theorem dX9_asks_6 : decode cX9_asks 6 = .ok (.aload_n 0, 1) := by decide +kernel
theorem dX9_asks_7 : decode cX9_asks 7 = .ok (.getfield 227, 3) := by decide +kernel
theorem dX9_asks_10 : decode cX9_asks 10 = .ok (.iload_n 1, 1) := by decide +kernel
theorem dX9_asks_11 : decode cX9_asks 11 = .ok (.invokevirtual 193, 3) := by decide +kernel
theorem dX9_asks_14 : decode cX9_asks 14 = .ok (.iastore, 1) := by decide +kernel
theorem dX9_asks_15 : decode cX9_asks 15 = .ok (.aload_n 0, 1) := by decide +kernel
theorem dX9_asks_16 : decode cX9_asks 16 = .ok (.getfield 38, 3) := by decide +kernel
theorem dX9_asks_19 : decode cX9_asks 19 = .ok (.iload_n 1, 1) := by decide +kernel
theorem dX9_asks_20 : decode cX9_asks 20 = .ok (.aload_n 0, 1) := by decide +kernel
theorem dX9_asks_21 : decode cX9_asks 21 = .ok (.aload_n 0, 1) := by decide +kernel
theorem dX9_asks_22 : decode cX9_asks 22 = .ok (.getfield 227, 3) := by decide +kernel
theorem dX9_asks_25 : decode cX9_asks 25 = .ok (.iload_n 1, 1) := by decide +kernel
theorem dX9_asks_26 : decode cX9_asks 26 = .ok (.invokevirtual 169, 3) := by decide +kernel
theorem dX9_asks_29 : decode cX9_asks 29 = .ok (.iastore, 1) := by decide +kernel
theorem dX9_asks_30 : decode cX9_asks 30 = .ok (.aload_n 0, 1) := by decide +kernel
theorem dX9_asks_31 : decode cX9_asks 31 = .ok (.dup, 1) := by decide +kernel
theorem dX9_asks_32 : decode cX9_asks 32 = .ok (.getfield 230, 3) := by decide +kernel
theorem dX9_asks_35 : decode cX9_asks 35 = .ok (.iconst 1, 1) := by decide +kernel
theorem dX9_asks_36 : decode cX9_asks 36 = .ok (.iadd, 1) := by decide +kernel
theorem dX9_asks_37 : decode cX9_asks 37 = .ok (.putfield 230, 3) := by decide +kernel
theorem dX9_asks_40 : decode cX9_asks 40 = .ok (.return_, 1) := by decide +kernel
theorem dX9_laysLazy_0 : decode cX9_laysLazy 0 = .ok (.aload_n 0, 1) := by decide +kernel
theorem dX9_laysLazy_1 : decode cX9_laysLazy 1 = .ok (.iconst 0, 1) := by decide +kernel
theorem dX9_laysLazy_2 : decode cX9_laysLazy 2 = .ok (.putfield 227, 3) := by decide +kernel
theorem dX9_laysLazy_5 : decode cX9_laysLazy 5 = .ok (.aload_n 0, 1) := by decide +kernel
theorem dX9_laysLazy_6 : decode cX9_laysLazy 6 = .ok (.iconst 0, 1) := by decide +kernel
theorem dX9_laysLazy_7 : decode cX9_laysLazy 7 = .ok (.putfield 230, 3) := by decide +kernel
theorem dX9_laysLazy_10 : decode cX9_laysLazy 10 = .ok (.iconst 0, 1) := by decide +kernel
theorem dX9_laysLazy_11 : decode cX9_laysLazy 11 = .ok (.istore_n 1, 1) := by decide +kernel
theorem dX9_laysLazy_12 : decode cX9_laysLazy 12 = .ok (.iload_n 1, 1) := by decide +kernel
theorem dX9_laysLazy_13 : decode cX9_laysLazy 13 = .ok (.aload_n 0, 1) := by decide +kernel
theorem dX9_laysLazy_14 : decode cX9_laysLazy 14 = .ok (.invokevirtual 133, 3) := by decide +kernel
theorem dX9_laysLazy_17 : decode cX9_laysLazy 17 = .ok (.if_icmp .ge 34, 3) := by decide +kernel
theorem dX9_laysLazy_20 : decode cX9_laysLazy 20 = .ok (.aload_n 0, 1) := by decide +kernel
theorem dX9_laysLazy_21 : decode cX9_laysLazy 21 = .ok (.iload_n 1, 1) := by decide +kernel
theorem dX9_laysLazy_22 : decode cX9_laysLazy 22 = .ok (.invokevirtual 233, 3) := by decide +kernel
theorem dX9_laysLazy_25 : decode cX9_laysLazy 25 = .ok (.aload_n 0, 1) := by decide +kernel
theorem dX9_laysLazy_26 : decode cX9_laysLazy 26 = .ok (.getfield 41, 3) := by decide +kernel
theorem dX9_laysLazy_29 : decode cX9_laysLazy 29 = .ok (.iload_n 1, 1) := by decide +kernel
theorem dX9_laysLazy_30 : decode cX9_laysLazy 30 = .ok (.aload_n 0, 1) := by decide +kernel
theorem dX9_laysLazy_31 : decode cX9_laysLazy 31 = .ok (.getfield 35, 3) := by decide +kernel
theorem dX9_laysLazy_34 : decode cX9_laysLazy 34 = .ok (.iload_n 1, 1) := by decide +kernel
theorem dX9_laysLazy_35 : decode cX9_laysLazy 35 = .ok (.iaload, 1) := by decide +kernel
theorem dX9_laysLazy_36 : decode cX9_laysLazy 36 = .ok (.ifCond .le 7, 3) := by decide +kernel
theorem dX9_laysLazy_39 : decode cX9_laysLazy 39 = .ok (.iconst 1, 1) := by decide +kernel
theorem dX9_laysLazy_40 : decode cX9_laysLazy 40 = .ok (.goto 4, 3) := by decide +kernel
theorem dX9_laysLazy_43 : decode cX9_laysLazy 43 = .ok (.iconst 0, 1) := by decide +kernel
theorem dX9_laysLazy_44 : decode cX9_laysLazy 44 = .ok (.bastore, 1) := by decide +kernel
theorem dX9_laysLazy_45 : decode cX9_laysLazy 45 = .ok (.iinc 1 1, 3) := by decide +kernel
theorem dX9_laysLazy_48 : decode cX9_laysLazy 48 = .ok (.goto (-36), 3) := by decide +kernel
theorem dX9_laysLazy_51 : decode cX9_laysLazy 51 = .ok (.aload_n 0, 1) := by decide +kernel
theorem dX9_laysLazy_52 : decode cX9_laysLazy 52 = .ok (.invokevirtual 236, 3) := by decide +kernel
theorem dX9_laysLazy_55 : decode cX9_laysLazy 55 = .ok (.istore_n 1, 1) := by decide +kernel
theorem dX9_laysLazy_56 : decode cX9_laysLazy 56 = .ok (.iload_n 1, 1) := by decide +kernel
theorem dX9_laysLazy_57 : decode cX9_laysLazy 57 = .ok (.iconst (-1), 1) := by decide +kernel
theorem dX9_laysLazy_58 : decode cX9_laysLazy 58 = .ok (.if_icmp .eq 86, 3) := by decide +kernel
theorem dX9_laysLazy_61 : decode cX9_laysLazy 61 = .ok (.aload_n 0, 1) := by decide +kernel
theorem dX9_laysLazy_62 : decode cX9_laysLazy 62 = .ok (.aload_n 0, 1) := by decide +kernel
theorem dX9_laysLazy_63 : decode cX9_laysLazy 63 = .ok (.getfield 227, 3) := by decide +kernel
theorem dX9_laysLazy_66 : decode cX9_laysLazy 66 = .ok (.iload_n 1, 1) := by decide +kernel
theorem dX9_laysLazy_67 : decode cX9_laysLazy 67 = .ok (.invokevirtual 189, 3) := by decide +kernel
theorem dX9_laysLazy_70 : decode cX9_laysLazy 70 = .ok (.ifCond .ne 13, 3) := by decide +kernel
theorem dX9_laysLazy_73 : decode cX9_laysLazy 73 = .ok (.aload_n 0, 1) := by decide +kernel
theorem dX9_laysLazy_74 : decode cX9_laysLazy 74 = .ok (.getfield 41, 3) := by decide +kernel
theorem dX9_laysLazy_77 : decode cX9_laysLazy 77 = .ok (.iload_n 1, 1) := by decide +kernel
theorem dX9_laysLazy_78 : decode cX9_laysLazy 78 = .ok (.iconst 0, 1) := by decide +kernel
theorem dX9_laysLazy_79 : decode cX9_laysLazy 79 = .ok (.bastore, 1) := by decide +kernel
theorem dX9_laysLazy_80 : decode cX9_laysLazy 80 = .ok (.goto 56, 3) := by decide +kernel
theorem dX9_laysLazy_83 : decode cX9_laysLazy 83 = .ok (.aload_n 0, 1) := by decide +kernel
theorem dX9_laysLazy_84 : decode cX9_laysLazy 84 = .ok (.iload_n 1, 1) := by decide +kernel
theorem dX9_laysLazy_85 : decode cX9_laysLazy 85 = .ok (.invokevirtual 233, 3) := by decide +kernel
theorem dX9_laysLazy_88 : decode cX9_laysLazy 88 = .ok (.aload_n 0, 1) := by decide +kernel
theorem dX9_laysLazy_89 : decode cX9_laysLazy 89 = .ok (.getfield 35, 3) := by decide +kernel
theorem dX9_laysLazy_92 : decode cX9_laysLazy 92 = .ok (.iload_n 1, 1) := by decide +kernel
theorem dX9_laysLazy_93 : decode cX9_laysLazy 93 = .ok (.iaload, 1) := by decide +kernel
theorem dX9_laysLazy_94 : decode cX9_laysLazy 94 = .ok (.ifCond .ne 13, 3) := by decide +kernel
theorem dX9_laysLazy_97 : decode cX9_laysLazy 97 = .ok (.aload_n 0, 1) := by decide +kernel
theorem dX9_laysLazy_98 : decode cX9_laysLazy 98 = .ok (.getfield 41, 3) := by decide +kernel
theorem dX9_laysLazy_101 : decode cX9_laysLazy 101 = .ok (.iload_n 1, 1) := by decide +kernel
theorem dX9_laysLazy_102 : decode cX9_laysLazy 102 = .ok (.iconst 0, 1) := by decide +kernel
theorem dX9_laysLazy_103 : decode cX9_laysLazy 103 = .ok (.bastore, 1) := by decide +kernel
theorem dX9_laysLazy_104 : decode cX9_laysLazy 104 = .ok (.goto 32, 3) := by decide +kernel
theorem dX9_laysLazy_107 : decode cX9_laysLazy 107 = .ok (.aload_n 0, 1) := by decide +kernel
theorem dX9_laysLazy_108 : decode cX9_laysLazy 108 = .ok (.invokevirtual 236, 3) := by decide +kernel
theorem dX9_laysLazy_111 : decode cX9_laysLazy 111 = .ok (.iload_n 1, 1) := by decide +kernel
theorem dX9_laysLazy_112 : decode cX9_laysLazy 112 = .ok (.if_icmp .ne 24, 3) := by decide +kernel
theorem dX9_laysLazy_115 : decode cX9_laysLazy 115 = .ok (.aload_n 0, 1) := by decide +kernel
theorem dX9_laysLazy_116 : decode cX9_laysLazy 116 = .ok (.getfield 41, 3) := by decide +kernel
theorem dX9_laysLazy_119 : decode cX9_laysLazy 119 = .ok (.iload_n 1, 1) := by decide +kernel
theorem dX9_laysLazy_120 : decode cX9_laysLazy 120 = .ok (.iconst 0, 1) := by decide +kernel
theorem dX9_laysLazy_121 : decode cX9_laysLazy 121 = .ok (.bastore, 1) := by decide +kernel
theorem dX9_laysLazy_122 : decode cX9_laysLazy 122 = .ok (.aload_n 0, 1) := by decide +kernel
theorem dX9_laysLazy_123 : decode cX9_laysLazy 123 = .ok (.dup, 1) := by decide +kernel
theorem dX9_laysLazy_124 : decode cX9_laysLazy 124 = .ok (.getfield 227, 3) := by decide +kernel
theorem dX9_laysLazy_127 : decode cX9_laysLazy 127 = .ok (.aload_n 0, 1) := by decide +kernel
theorem dX9_laysLazy_128 : decode cX9_laysLazy 128 = .ok (.iload_n 1, 1) := by decide +kernel
theorem dX9_laysLazy_129 : decode cX9_laysLazy 129 = .ok (.invokevirtual 163, 3) := by decide +kernel
theorem dX9_laysLazy_132 : decode cX9_laysLazy 132 = .ok (.ior, 1) := by decide +kernel
theorem dX9_laysLazy_133 : decode cX9_laysLazy 133 = .ok (.putfield 227, 3) := by decide +kernel
theorem dX9_laysLazy_136 : decode cX9_laysLazy 136 = .ok (.aload_n 0, 1) := by decide +kernel
theorem dX9_laysLazy_137 : decode cX9_laysLazy 137 = .ok (.invokevirtual 236, 3) := by decide +kernel
theorem dX9_laysLazy_140 : decode cX9_laysLazy 140 = .ok (.istore_n 1, 1) := by decide +kernel
theorem dX9_laysLazy_141 : decode cX9_laysLazy 141 = .ok (.goto (-85), 3) := by decide +kernel
theorem dX9_laysLazy_144 : decode cX9_laysLazy 144 = .ok (.return_, 1) := by decide +kernel
theorem dX9_lazy_0 : decode cX9_lazy 0 = .ok (.aload_n 0, 1) := by decide +kernel
theorem dX9_lazy_1 : decode cX9_lazy 1 = .ok (.iconst 0, 1) := by decide +kernel
theorem dX9_lazy_2 : decode cX9_lazy 2 = .ok (.putfield 60, 3) := by decide +kernel
theorem dX9_lazy_5 : decode cX9_lazy 5 = .ok (.aload_n 0, 1) := by decide +kernel
theorem dX9_lazy_6 : decode cX9_lazy 6 = .ok (.iload_n 1, 1) := by decide +kernel
theorem dX9_lazy_7 : decode cX9_lazy 7 = .ok (.iconst 0, 1) := by decide +kernel
theorem dX9_lazy_8 : decode cX9_lazy 8 = .ok (.iconst 2, 1) := by decide +kernel
theorem dX9_lazy_9 : decode cX9_lazy 9 = .ok (.invokestatic 116, 3) := by decide +kernel
theorem dX9_lazy_12 : decode cX9_lazy 12 = .ok (.ifCond .ne 7, 3) := by decide +kernel
theorem dX9_lazy_15 : decode cX9_lazy 15 = .ok (.iconst 1, 1) := by decide +kernel
theorem dX9_lazy_16 : decode cX9_lazy 16 = .ok (.goto 4, 3) := by decide +kernel
theorem dX9_lazy_19 : decode cX9_lazy 19 = .ok (.iconst 0, 1) := by decide +kernel
theorem dX9_lazy_20 : decode cX9_lazy 20 = .ok (.iconst 1, 1) := by decide +kernel
theorem dX9_lazy_21 : decode cX9_lazy 21 = .ok (.iconst 1, 1) := by decide +kernel
theorem dX9_lazy_22 : decode cX9_lazy 22 = .ok (.invokevirtual 119, 3) := by decide +kernel
theorem dX9_lazy_25 : decode cX9_lazy 25 = .ok (.ifCond .eq 5, 3) := by decide +kernel
theorem dX9_lazy_28 : decode cX9_lazy 28 = .ok (.iconst 0, 1) := by decide +kernel
theorem dX9_lazy_29 : decode cX9_lazy 29 = .ok (.ireturn, 1) := by decide +kernel
theorem dX9_lazy_30 : decode cX9_lazy 30 = .ok (.aload_n 0, 1) := by decide +kernel
theorem dX9_lazy_31 : decode cX9_lazy 31 = .ok (.invokevirtual 239, 3) := by decide +kernel
theorem dX9_lazy_34 : decode cX9_lazy 34 = .ok (.aload_n 0, 1) := by decide +kernel
theorem dX9_lazy_35 : decode cX9_lazy 35 = .ok (.iconst 1, 1) := by decide +kernel
theorem dX9_lazy_36 : decode cX9_lazy 36 = .ok (.invokevirtual 218, 3) := by decide +kernel
theorem dX9_lazy_39 : decode cX9_lazy 39 = .ok (.iload_n 1, 1) := by decide +kernel
theorem dX9_lazy_40 : decode cX9_lazy 40 = .ok (.ifCond .ne 10, 3) := by decide +kernel
theorem dX9_lazy_43 : decode cX9_lazy 43 = .ok (.aload_n 0, 1) := by decide +kernel
theorem dX9_lazy_44 : decode cX9_lazy 44 = .ok (.getfield 227, 3) := by decide +kernel
theorem dX9_lazy_47 : decode cX9_lazy 47 = .ok (.goto 19, 3) := by decide +kernel
theorem dX9_lazy_50 : decode cX9_lazy 50 = .ok (.iload_n 1, 1) := by decide +kernel
theorem dX9_lazy_51 : decode cX9_lazy 51 = .ok (.iconst 1, 1) := by decide +kernel
theorem dX9_lazy_52 : decode cX9_lazy 52 = .ok (.if_icmp .ne 10, 3) := by decide +kernel
theorem dX9_lazy_55 : decode cX9_lazy 55 = .ok (.aload_n 0, 1) := by decide +kernel
theorem dX9_lazy_56 : decode cX9_lazy 56 = .ok (.getfield 230, 3) := by decide +kernel
theorem dX9_lazy_59 : decode cX9_lazy 59 = .ok (.goto 7, 3) := by decide +kernel
theorem dX9_lazy_62 : decode cX9_lazy 62 = .ok (.aload_n 0, 1) := by decide +kernel
theorem dX9_lazy_63 : decode cX9_lazy 63 = .ok (.getfield 202, 3) := by decide +kernel
theorem dX9_lazy_66 : decode cX9_lazy 66 = .ok (.ireturn, 1) := by decide +kernel
theorem dX9_boundBy_0 : decode cX9_boundBy 0 = .ok (.aload_n 0, 1) := by decide +kernel
theorem dX9_boundBy_1 : decode cX9_boundBy 1 = .ok (.getfield 20, 3) := by decide +kernel
theorem dX9_boundBy_4 : decode cX9_boundBy 4 = .ok (.iconst 2, 1) := by decide +kernel
theorem dX9_boundBy_5 : decode cX9_boundBy 5 = .ok (.laload, 1) := by decide +kernel
theorem dX9_boundBy_6 : decode cX9_boundBy 6 = .ok (.l2i, 1) := by decide +kernel
theorem dX9_boundBy_7 : decode cX9_boundBy 7 = .ok (.istore_n 2, 1) := by decide +kernel
theorem dX9_boundBy_8 : decode cX9_boundBy 8 = .ok (.aload_n 0, 1) := by decide +kernel
theorem dX9_boundBy_9 : decode cX9_boundBy 9 = .ok (.iload_n 1, 1) := by decide +kernel
theorem dX9_boundBy_10 : decode cX9_boundBy 10 = .ok (.invokevirtual 196, 3) := by decide +kernel
theorem dX9_boundBy_13 : decode cX9_boundBy 13 = .ok (.istore_n 3, 1) := by decide +kernel
theorem dX9_boundBy_14 : decode cX9_boundBy 14 = .ok (.iload_n 1, 1) := by decide +kernel
theorem dX9_boundBy_15 : decode cX9_boundBy 15 = .ok (.istore 4, 2) := by decide +kernel
theorem dX9_boundBy_17 : decode cX9_boundBy 17 = .ok (.aload_n 0, 1) := by decide +kernel
theorem dX9_boundBy_18 : decode cX9_boundBy 18 = .ok (.iload_n 1, 1) := by decide +kernel
theorem dX9_boundBy_19 : decode cX9_boundBy 19 = .ok (.invokevirtual 153, 3) := by decide +kernel
theorem dX9_boundBy_22 : decode cX9_boundBy 22 = .ok (.lstore 5, 2) := by decide +kernel
theorem dX9_boundBy_24 : decode cX9_boundBy 24 = .ok (.iconst (-1), 1) := by decide +kernel
theorem dX9_boundBy_25 : decode cX9_boundBy 25 = .ok (.istore 7, 2) := by decide +kernel
theorem dX9_boundBy_27 : decode cX9_boundBy 27 = .ok (.iconst 0, 1) := by decide +kernel
theorem dX9_boundBy_28 : decode cX9_boundBy 28 = .ok (.istore 8, 2) := by decide +kernel
theorem dX9_boundBy_30 : decode cX9_boundBy 30 = .ok (.iload 8, 2) := by decide +kernel
theorem dX9_boundBy_32 : decode cX9_boundBy 32 = .ok (.aload_n 0, 1) := by decide +kernel
theorem dX9_boundBy_33 : decode cX9_boundBy 33 = .ok (.invokevirtual 133, 3) := by decide +kernel
theorem dX9_boundBy_36 : decode cX9_boundBy 36 = .ok (.if_icmp .ge 83, 3) := by decide +kernel
theorem dX9_boundBy_39 : decode cX9_boundBy 39 = .ok (.iload 4, 2) := by decide +kernel
theorem dX9_boundBy_41 : decode cX9_boundBy 41 = .ok (.i2l, 1) := by decide +kernel
theorem dX9_boundBy_42 : decode cX9_boundBy 42 = .ok (.iload 8, 2) := by decide +kernel
theorem dX9_boundBy_44 : decode cX9_boundBy 44 = .ok (.invokestatic 140, 3) := by decide +kernel
theorem dX9_boundBy_47 : decode cX9_boundBy 47 = .ok (.ifCond .ne 66, 3) := by decide +kernel
theorem dX9_boundBy_50 : decode cX9_boundBy 50 = .ok (.iload 7, 2) := by decide +kernel
theorem dX9_boundBy_52 : decode cX9_boundBy 52 = .ok (.iconst (-1), 1) := by decide +kernel
theorem dX9_boundBy_53 : decode cX9_boundBy 53 = .ok (.if_icmp .eq 56, 3) := by decide +kernel
theorem dX9_boundBy_56 : decode cX9_boundBy 56 = .ok (.iconst 1, 1) := by decide +kernel
theorem dX9_boundBy_57 : decode cX9_boundBy 57 = .ok (.aload_n 0, 1) := by decide +kernel
theorem dX9_boundBy_58 : decode cX9_boundBy 58 = .ok (.aload_n 0, 1) := by decide +kernel
theorem dX9_boundBy_59 : decode cX9_boundBy 59 = .ok (.iload 8, 2) := by decide +kernel
theorem dX9_boundBy_61 : decode cX9_boundBy 61 = .ok (.invokevirtual 136, 3) := by decide +kernel
theorem dX9_boundBy_64 : decode cX9_boundBy 64 = .ok (.lload 5, 2) := by decide +kernel
theorem dX9_boundBy_66 : decode cX9_boundBy 66 = .ok (.ldc2_w 106, 3) := by decide +kernel
theorem dX9_boundBy_69 : decode cX9_boundBy 69 = .ok (.lxor, 1) := by decide +kernel
theorem dX9_boundBy_70 : decode cX9_boundBy 70 = .ok (.land, 1) := by decide +kernel
theorem dX9_boundBy_71 : decode cX9_boundBy 71 = .ok (.invokevirtual 156, 3) := by decide +kernel
theorem dX9_boundBy_74 : decode cX9_boundBy 74 = .ok (.aload_n 0, 1) := by decide +kernel
theorem dX9_boundBy_75 : decode cX9_boundBy 75 = .ok (.iload 8, 2) := by decide +kernel
theorem dX9_boundBy_77 : decode cX9_boundBy 77 = .ok (.invokevirtual 160, 3) := by decide +kernel
theorem dX9_boundBy_80 : decode cX9_boundBy 80 = .ok (.aload_n 0, 1) := by decide +kernel
theorem dX9_boundBy_81 : decode cX9_boundBy 81 = .ok (.aload_n 0, 1) := by decide +kernel
theorem dX9_boundBy_82 : decode cX9_boundBy 82 = .ok (.iload 7, 2) := by decide +kernel
theorem dX9_boundBy_84 : decode cX9_boundBy 84 = .ok (.invokevirtual 136, 3) := by decide +kernel
theorem dX9_boundBy_87 : decode cX9_boundBy 87 = .ok (.lload 5, 2) := by decide +kernel
theorem dX9_boundBy_89 : decode cX9_boundBy 89 = .ok (.ldc2_w 106, 3) := by decide +kernel
theorem dX9_boundBy_92 : decode cX9_boundBy 92 = .ok (.lxor, 1) := by decide +kernel
theorem dX9_boundBy_93 : decode cX9_boundBy 93 = .ok (.land, 1) := by decide +kernel
theorem dX9_boundBy_94 : decode cX9_boundBy 94 = .ok (.invokevirtual 156, 3) := by decide +kernel
theorem dX9_boundBy_97 : decode cX9_boundBy 97 = .ok (.aload_n 0, 1) := by decide +kernel
theorem dX9_boundBy_98 : decode cX9_boundBy 98 = .ok (.iload 7, 2) := by decide +kernel
theorem dX9_boundBy_100 : decode cX9_boundBy 100 = .ok (.invokevirtual 160, 3) := by decide +kernel
theorem dX9_boundBy_103 : decode cX9_boundBy 103 = .ok (.invokestatic 205, 3) := by decide +kernel
theorem dX9_boundBy_106 : decode cX9_boundBy 106 = .ok (.ifCond .eq 7, 3) := by decide +kernel
theorem dX9_boundBy_109 : decode cX9_boundBy 109 = .ok (.iload 8, 2) := by decide +kernel
theorem dX9_boundBy_111 : decode cX9_boundBy 111 = .ok (.istore 7, 2) := by decide +kernel
theorem dX9_boundBy_113 : decode cX9_boundBy 113 = .ok (.iinc 8 1, 3) := by decide +kernel
theorem dX9_boundBy_116 : decode cX9_boundBy 116 = .ok (.goto (-86), 3) := by decide +kernel
theorem dX9_boundBy_119 : decode cX9_boundBy 119 = .ok (.iload 7, 2) := by decide +kernel
theorem dX9_boundBy_121 : decode cX9_boundBy 121 = .ok (.iconst (-1), 1) := by decide +kernel
theorem dX9_boundBy_122 : decode cX9_boundBy 122 = .ok (.if_icmp .ne 5, 3) := by decide +kernel
theorem dX9_boundBy_125 : decode cX9_boundBy 125 = .ok (.iload_n 3, 1) := by decide +kernel
theorem dX9_boundBy_126 : decode cX9_boundBy 126 = .ok (.ireturn, 1) := by decide +kernel
theorem dX9_boundBy_127 : decode cX9_boundBy 127 = .ok (.aload_n 0, 1) := by decide +kernel
theorem dX9_boundBy_128 : decode cX9_boundBy 128 = .ok (.aload_n 0, 1) := by decide +kernel
theorem dX9_boundBy_129 : decode cX9_boundBy 129 = .ok (.iload 7, 2) := by decide +kernel
theorem dX9_boundBy_131 : decode cX9_boundBy 131 = .ok (.invokevirtual 136, 3) := by decide +kernel
theorem dX9_boundBy_134 : decode cX9_boundBy 134 = .ok (.lload 5, 2) := by decide +kernel
theorem dX9_boundBy_136 : decode cX9_boundBy 136 = .ok (.ldc2_w 106, 3) := by decide +kernel
theorem dX9_boundBy_139 : decode cX9_boundBy 139 = .ok (.lxor, 1) := by decide +kernel
theorem dX9_boundBy_140 : decode cX9_boundBy 140 = .ok (.land, 1) := by decide +kernel
theorem dX9_boundBy_141 : decode cX9_boundBy 141 = .ok (.invokevirtual 156, 3) := by decide +kernel
theorem dX9_boundBy_144 : decode cX9_boundBy 144 = .ok (.istore 8, 2) := by decide +kernel
theorem dX9_boundBy_146 : decode cX9_boundBy 146 = .ok (.aload_n 0, 1) := by decide +kernel
theorem dX9_boundBy_147 : decode cX9_boundBy 147 = .ok (.iload 7, 2) := by decide +kernel
theorem dX9_boundBy_149 : decode cX9_boundBy 149 = .ok (.invokevirtual 160, 3) := by decide +kernel
theorem dX9_boundBy_152 : decode cX9_boundBy 152 = .ok (.istore 9, 2) := by decide +kernel
theorem dX9_boundBy_154 : decode cX9_boundBy 154 = .ok (.iload 9, 2) := by decide +kernel
theorem dX9_boundBy_156 : decode cX9_boundBy 156 = .ok (.iload_n 2, 1) := by decide +kernel
theorem dX9_boundBy_157 : decode cX9_boundBy 157 = .ok (.if_icmp .le 13, 3) := by decide +kernel
theorem dX9_boundBy_160 : decode cX9_boundBy 160 = .ok (.iload_n 3, 1) := by decide +kernel
theorem dX9_boundBy_161 : decode cX9_boundBy 161 = .ok (.iload 8, 2) := by decide +kernel
theorem dX9_boundBy_163 : decode cX9_boundBy 163 = .ok (.iload_n 2, 1) := by decide +kernel
theorem dX9_boundBy_164 : decode cX9_boundBy 164 = .ok (.imul, 1) := by decide +kernel
theorem dX9_boundBy_165 : decode cX9_boundBy 165 = .ok (.iload 9, 2) := by decide +kernel
theorem dX9_boundBy_167 : decode cX9_boundBy 167 = .ok (.idiv, 1) := by decide +kernel
theorem dX9_boundBy_168 : decode cX9_boundBy 168 = .ok (.iadd, 1) := by decide +kernel
theorem dX9_boundBy_169 : decode cX9_boundBy 169 = .ok (.ireturn, 1) := by decide +kernel
theorem dX9_boundBy_170 : decode cX9_boundBy 170 = .ok (.iload_n 3, 1) := by decide +kernel
theorem dX9_boundBy_171 : decode cX9_boundBy 171 = .ok (.iload 8, 2) := by decide +kernel
theorem dX9_boundBy_173 : decode cX9_boundBy 173 = .ok (.iadd, 1) := by decide +kernel
theorem dX9_boundBy_174 : decode cX9_boundBy 174 = .ok (.istore_n 3, 1) := by decide +kernel
theorem dX9_boundBy_175 : decode cX9_boundBy 175 = .ok (.iload_n 2, 1) := by decide +kernel
theorem dX9_boundBy_176 : decode cX9_boundBy 176 = .ok (.iload 9, 2) := by decide +kernel
theorem dX9_boundBy_178 : decode cX9_boundBy 178 = .ok (.isub, 1) := by decide +kernel
theorem dX9_boundBy_179 : decode cX9_boundBy 179 = .ok (.istore_n 2, 1) := by decide +kernel
theorem dX9_boundBy_180 : decode cX9_boundBy 180 = .ok (.iload 4, 2) := by decide +kernel
theorem dX9_boundBy_182 : decode cX9_boundBy 182 = .ok (.iconst 1, 1) := by decide +kernel
theorem dX9_boundBy_183 : decode cX9_boundBy 183 = .ok (.iload 7, 2) := by decide +kernel
theorem dX9_boundBy_185 : decode cX9_boundBy 185 = .ok (.ishl, 1) := by decide +kernel
theorem dX9_boundBy_186 : decode cX9_boundBy 186 = .ok (.ior, 1) := by decide +kernel
theorem dX9_boundBy_187 : decode cX9_boundBy 187 = .ok (.istore 4, 2) := by decide +kernel
theorem dX9_boundBy_189 : decode cX9_boundBy 189 = .ok (.goto (-165), 3) := by decide +kernel
theorem dX9_bound_0 : decode cX9_bound 0 = .ok (.aload_n 0, 1) := by decide +kernel
theorem dX9_bound_1 : decode cX9_bound 1 = .ok (.iconst 0, 1) := by decide +kernel
theorem dX9_bound_2 : decode cX9_bound 2 = .ok (.putfield 60, 3) := by decide +kernel
theorem dX9_bound_5 : decode cX9_bound 5 = .ok (.aload_n 0, 1) := by decide +kernel
theorem dX9_bound_6 : decode cX9_bound 6 = .ok (.iload_n 1, 1) := by decide +kernel
theorem dX9_bound_7 : decode cX9_bound 7 = .ok (.iconst 0, 1) := by decide +kernel
theorem dX9_bound_8 : decode cX9_bound 8 = .ok (.iconst 3, 1) := by decide +kernel
theorem dX9_bound_9 : decode cX9_bound 9 = .ok (.invokestatic 116, 3) := by decide +kernel
theorem dX9_bound_12 : decode cX9_bound 12 = .ok (.ifCond .ne 7, 3) := by decide +kernel
theorem dX9_bound_15 : decode cX9_bound 15 = .ok (.iconst 1, 1) := by decide +kernel
theorem dX9_bound_16 : decode cX9_bound 16 = .ok (.goto 4, 3) := by decide +kernel
theorem dX9_bound_19 : decode cX9_bound 19 = .ok (.iconst 0, 1) := by decide +kernel
theorem dX9_bound_20 : decode cX9_bound 20 = .ok (.iconst 1, 1) := by decide +kernel
theorem dX9_bound_21 : decode cX9_bound 21 = .ok (.iconst 1, 1) := by decide +kernel
theorem dX9_bound_22 : decode cX9_bound 22 = .ok (.invokevirtual 119, 3) := by decide +kernel
theorem dX9_bound_25 : decode cX9_bound 25 = .ok (.ifCond .eq 5, 3) := by decide +kernel
theorem dX9_bound_28 : decode cX9_bound 28 = .ok (.iconst 0, 1) := by decide +kernel
theorem dX9_bound_29 : decode cX9_bound 29 = .ok (.ireturn, 1) := by decide +kernel
theorem dX9_bound_30 : decode cX9_bound 30 = .ok (.iload_n 1, 1) := by decide +kernel
theorem dX9_bound_31 : decode cX9_bound 31 = .ok (.ifCond .ne 8, 3) := by decide +kernel
theorem dX9_bound_34 : decode cX9_bound 34 = .ok (.aload_n 0, 1) := by decide +kernel
theorem dX9_bound_35 : decode cX9_bound 35 = .ok (.invokevirtual 221, 3) := by decide +kernel
theorem dX9_bound_38 : decode cX9_bound 38 = .ok (.ireturn, 1) := by decide +kernel
theorem dX9_bound_39 : decode cX9_bound 39 = .ok (.aload_n 0, 1) := by decide +kernel
theorem dX9_bound_40 : decode cX9_bound 40 = .ok (.iconst 1, 1) := by decide +kernel
theorem dX9_bound_41 : decode cX9_bound 41 = .ok (.invokevirtual 218, 3) := by decide +kernel
theorem dX9_bound_44 : decode cX9_bound 44 = .ok (.aload_n 0, 1) := by decide +kernel
theorem dX9_bound_45 : decode cX9_bound 45 = .ok (.iconst 0, 1) := by decide +kernel
theorem dX9_bound_46 : decode cX9_bound 46 = .ok (.invokevirtual 242, 3) := by decide +kernel
theorem dX9_bound_49 : decode cX9_bound 49 = .ok (.istore_n 2, 1) := by decide +kernel
theorem dX9_bound_50 : decode cX9_bound 50 = .ok (.iconst 0, 1) := by decide +kernel
theorem dX9_bound_51 : decode cX9_bound 51 = .ok (.istore_n 3, 1) := by decide +kernel
theorem dX9_bound_52 : decode cX9_bound 52 = .ok (.iconst 0, 1) := by decide +kernel
theorem dX9_bound_53 : decode cX9_bound 53 = .ok (.istore 4, 2) := by decide +kernel
theorem dX9_bound_55 : decode cX9_bound 55 = .ok (.iconst 0, 1) := by decide +kernel
theorem dX9_bound_56 : decode cX9_bound 56 = .ok (.istore 5, 2) := by decide +kernel
theorem dX9_bound_58 : decode cX9_bound 58 = .ok (.iload 5, 2) := by decide +kernel
theorem dX9_bound_60 : decode cX9_bound 60 = .ok (.aload_n 0, 1) := by decide +kernel
theorem dX9_bound_61 : decode cX9_bound 61 = .ok (.getfield 209, 3) := by decide +kernel
theorem dX9_bound_64 : decode cX9_bound 64 = .ok (.if_icmp .ge 50, 3) := by decide +kernel
theorem dX9_bound_67 : decode cX9_bound 67 = .ok (.iload 4, 2) := by decide +kernel
theorem dX9_bound_69 : decode cX9_bound 69 = .ok (.aload_n 0, 1) := by decide +kernel
theorem dX9_bound_70 : decode cX9_bound 70 = .ok (.aload_n 0, 1) := by decide +kernel
theorem dX9_bound_71 : decode cX9_bound 71 = .ok (.getfield 32, 3) := by decide +kernel
theorem dX9_bound_74 : decode cX9_bound 74 = .ok (.iload 5, 2) := by decide +kernel
theorem dX9_bound_76 : decode cX9_bound 76 = .ok (.iaload, 1) := by decide +kernel
theorem dX9_bound_77 : decode cX9_bound 77 = .ok (.invokevirtual 163, 3) := by decide +kernel
theorem dX9_bound_80 : decode cX9_bound 80 = .ok (.ior, 1) := by decide +kernel
theorem dX9_bound_81 : decode cX9_bound 81 = .ok (.istore 4, 2) := by decide +kernel
theorem dX9_bound_83 : decode cX9_bound 83 = .ok (.aload_n 0, 1) := by decide +kernel
theorem dX9_bound_84 : decode cX9_bound 84 = .ok (.iload 4, 2) := by decide +kernel
theorem dX9_bound_86 : decode cX9_bound 86 = .ok (.invokevirtual 242, 3) := by decide +kernel
theorem dX9_bound_89 : decode cX9_bound 89 = .ok (.istore 6, 2) := by decide +kernel
theorem dX9_bound_91 : decode cX9_bound 91 = .ok (.iload 6, 2) := by decide +kernel
theorem dX9_bound_93 : decode cX9_bound 93 = .ok (.iload_n 2, 1) := by decide +kernel
theorem dX9_bound_94 : decode cX9_bound 94 = .ok (.if_icmp .lt 6, 3) := by decide +kernel
theorem dX9_bound_97 : decode cX9_bound 97 = .ok (.goto 11, 3) := by decide +kernel
theorem dX9_bound_100 : decode cX9_bound 100 = .ok (.iload 6, 2) := by decide +kernel
theorem dX9_bound_102 : decode cX9_bound 102 = .ok (.istore_n 2, 1) := by decide +kernel
theorem dX9_bound_103 : decode cX9_bound 103 = .ok (.iload 5, 2) := by decide +kernel
theorem dX9_bound_105 : decode cX9_bound 105 = .ok (.iconst 1, 1) := by decide +kernel
theorem dX9_bound_106 : decode cX9_bound 106 = .ok (.iadd, 1) := by decide +kernel
theorem dX9_bound_107 : decode cX9_bound 107 = .ok (.istore_n 3, 1) := by decide +kernel
theorem dX9_bound_108 : decode cX9_bound 108 = .ok (.iinc 5 1, 3) := by decide +kernel
theorem dX9_bound_111 : decode cX9_bound 111 = .ok (.goto (-53), 3) := by decide +kernel
theorem dX9_bound_114 : decode cX9_bound 114 = .ok (.iload_n 1, 1) := by decide +kernel
theorem dX9_bound_115 : decode cX9_bound 115 = .ok (.iconst 3, 1) := by decide +kernel
theorem dX9_bound_116 : decode cX9_bound 116 = .ok (.if_icmp .ge 14, 3) := by decide +kernel
theorem dX9_bound_119 : decode cX9_bound 119 = .ok (.iload_n 1, 1) := by decide +kernel
theorem dX9_bound_120 : decode cX9_bound 120 = .ok (.iconst 1, 1) := by decide +kernel
theorem dX9_bound_121 : decode cX9_bound 121 = .ok (.if_icmp .ne 7, 3) := by decide +kernel
theorem dX9_bound_124 : decode cX9_bound 124 = .ok (.iload_n 2, 1) := by decide +kernel
theorem dX9_bound_125 : decode cX9_bound 125 = .ok (.goto 4, 3) := by decide +kernel
theorem dX9_bound_128 : decode cX9_bound 128 = .ok (.iload_n 3, 1) := by decide +kernel
theorem dX9_bound_129 : decode cX9_bound 129 = .ok (.ireturn, 1) := by decide +kernel
theorem dX9_bound_130 : decode cX9_bound 130 = .ok (.aload_n 0, 1) := by decide +kernel
theorem dX9_bound_131 : decode cX9_bound 131 = .ok (.iconst 2, 1) := by decide +kernel
theorem dX9_bound_132 : decode cX9_bound 132 = .ok (.invokevirtual 224, 3) := by decide +kernel
theorem dX9_bound_135 : decode cX9_bound 135 = .ok (.iload_n 2, 1) := by decide +kernel
theorem dX9_bound_136 : decode cX9_bound 136 = .ok (.ifCond .ne 9, 3) := by decide +kernel
theorem dX9_bound_139 : decode cX9_bound 139 = .ok (.sipush 1000, 3) := by decide +kernel
theorem dX9_bound_142 : decode cX9_bound 142 = .ok (.goto 17, 3) := by decide +kernel
theorem dX9_bound_145 : decode cX9_bound 145 = .ok (.aload_n 0, 1) := by decide +kernel
theorem dX9_bound_146 : decode cX9_bound 146 = .ok (.aload_n 0, 1) := by decide +kernel
theorem dX9_bound_147 : decode cX9_bound 147 = .ok (.getfield 212, 3) := by decide +kernel
theorem dX9_bound_150 : decode cX9_bound 150 = .ok (.invokevirtual 196, 3) := by decide +kernel
theorem dX9_bound_153 : decode cX9_bound 153 = .ok (.sipush 1000, 3) := by decide +kernel
theorem dX9_bound_156 : decode cX9_bound 156 = .ok (.imul, 1) := by decide +kernel
theorem dX9_bound_157 : decode cX9_bound 157 = .ok (.iload_n 2, 1) := by decide +kernel
theorem dX9_bound_158 : decode cX9_bound 158 = .ok (.idiv, 1) := by decide +kernel
theorem dX9_bound_159 : decode cX9_bound 159 = .ok (.ireturn, 1) := by decide +kernel
theorem dX9_laysSets_0 : decode cX9_laysSets 0 = .ok (.aload_n 0, 1) := by decide +kernel
theorem dX9_laysSets_1 : decode cX9_laysSets 1 = .ok (.getfield 173, 3) := by decide +kernel
theorem dX9_laysSets_4 : decode cX9_laysSets 4 = .ok (.ifCond .eq 4, 3) := by decide +kernel
theorem dX9_laysSets_7 : decode cX9_laysSets 7 = .ok (.return_, 1) := by decide +kernel
theorem dX9_laysSets_8 : decode cX9_laysSets 8 = .ok (.aload_n 0, 1) := by decide +kernel
theorem dX9_laysSets_9 : decode cX9_laysSets 9 = .ok (.iconst 1, 1) := by decide +kernel
theorem dX9_laysSets_10 : decode cX9_laysSets 10 = .ok (.putfield 173, 3) := by decide +kernel
theorem dX9_laysSets_13 : decode cX9_laysSets 13 = .ok (.iconst 0, 1) := by decide +kernel
theorem dX9_laysSets_14 : decode cX9_laysSets 14 = .ok (.istore_n 1, 1) := by decide +kernel
theorem dX9_laysSets_15 : decode cX9_laysSets 15 = .ok (.iload_n 1, 1) := by decide +kernel
theorem dX9_laysSets_16 : decode cX9_laysSets 16 = .ok (.aload_n 0, 1) := by decide +kernel
theorem dX9_laysSets_17 : decode cX9_laysSets 17 = .ok (.invokevirtual 147, 3) := by decide +kernel
theorem dX9_laysSets_20 : decode cX9_laysSets 20 = .ok (.if_icmp .ge 20, 3) := by decide +kernel
theorem dX9_laysSets_23 : decode cX9_laysSets 23 = .ok (.aload_n 0, 1) := by decide +kernel
theorem dX9_laysSets_24 : decode cX9_laysSets 24 = .ok (.getfield 52, 3) := by decide +kernel
theorem dX9_laysSets_27 : decode cX9_laysSets 27 = .ok (.iload_n 1, 1) := by decide +kernel
theorem dX9_laysSets_28 : decode cX9_laysSets 28 = .ok (.aload_n 0, 1) := by decide +kernel
theorem dX9_laysSets_29 : decode cX9_laysSets 29 = .ok (.iload_n 1, 1) := by decide +kernel
theorem dX9_laysSets_30 : decode cX9_laysSets 30 = .ok (.invokevirtual 150, 3) := by decide +kernel
theorem dX9_laysSets_33 : decode cX9_laysSets 33 = .ok (.iastore, 1) := by decide +kernel
theorem dX9_laysSets_34 : decode cX9_laysSets 34 = .ok (.iinc 1 1, 3) := by decide +kernel
theorem dX9_laysSets_37 : decode cX9_laysSets 37 = .ok (.goto (-22), 3) := by decide +kernel
theorem dX9_laysSets_40 : decode cX9_laysSets 40 = .ok (.iconst 0, 1) := by decide +kernel
theorem dX9_laysSets_41 : decode cX9_laysSets 41 = .ok (.istore_n 1, 1) := by decide +kernel
theorem dX9_laysSets_42 : decode cX9_laysSets 42 = .ok (.iload_n 1, 1) := by decide +kernel
theorem dX9_laysSets_43 : decode cX9_laysSets 43 = .ok (.aload_n 0, 1) := by decide +kernel
theorem dX9_laysSets_44 : decode cX9_laysSets 44 = .ok (.invokevirtual 133, 3) := by decide +kernel
theorem dX9_laysSets_47 : decode cX9_laysSets 47 = .ok (.if_icmp .ge 20, 3) := by decide +kernel
theorem dX9_laysSets_50 : decode cX9_laysSets 50 = .ok (.aload_n 0, 1) := by decide +kernel
theorem dX9_laysSets_51 : decode cX9_laysSets 51 = .ok (.getfield 55, 3) := by decide +kernel
theorem dX9_laysSets_54 : decode cX9_laysSets 54 = .ok (.iload_n 1, 1) := by decide +kernel
theorem dX9_laysSets_55 : decode cX9_laysSets 55 = .ok (.aload_n 0, 1) := by decide +kernel
theorem dX9_laysSets_56 : decode cX9_laysSets 56 = .ok (.iload_n 1, 1) := by decide +kernel
theorem dX9_laysSets_57 : decode cX9_laysSets 57 = .ok (.invokevirtual 163, 3) := by decide +kernel
theorem dX9_laysSets_60 : decode cX9_laysSets 60 = .ok (.iastore, 1) := by decide +kernel
theorem dX9_laysSets_61 : decode cX9_laysSets 61 = .ok (.iinc 1 1, 3) := by decide +kernel
theorem dX9_laysSets_64 : decode cX9_laysSets 64 = .ok (.goto (-22), 3) := by decide +kernel
theorem dX9_laysSets_67 : decode cX9_laysSets 67 = .ok (.iconst 0, 1) := by decide +kernel
theorem dX9_laysSets_68 : decode cX9_laysSets 68 = .ok (.istore_n 1, 1) := by decide +kernel
theorem dX9_laysSets_69 : decode cX9_laysSets 69 = .ok (.iload_n 1, 1) := by decide +kernel
theorem dX9_laysSets_70 : decode cX9_laysSets 70 = .ok (.iconst 1, 1) := by decide +kernel
theorem dX9_laysSets_71 : decode cX9_laysSets 71 = .ok (.aload_n 0, 1) := by decide +kernel
theorem dX9_laysSets_72 : decode cX9_laysSets 72 = .ok (.invokevirtual 133, 3) := by decide +kernel
theorem dX9_laysSets_75 : decode cX9_laysSets 75 = .ok (.ishl, 1) := by decide +kernel
theorem dX9_laysSets_76 : decode cX9_laysSets 76 = .ok (.if_icmp .ge 144, 3) := by decide +kernel
theorem dX9_laysSets_79 : decode cX9_laysSets 79 = .ok (.iconst 1, 1) := by decide +kernel
theorem dX9_laysSets_80 : decode cX9_laysSets 80 = .ok (.istore_n 2, 1) := by decide +kernel
theorem dX9_laysSets_81 : decode cX9_laysSets 81 = .ok (.iconst 0, 1) := by decide +kernel
theorem dX9_laysSets_82 : decode cX9_laysSets 82 = .ok (.istore_n 3, 1) := by decide +kernel
theorem dX9_laysSets_83 : decode cX9_laysSets 83 = .ok (.iload_n 3, 1) := by decide +kernel
theorem dX9_laysSets_84 : decode cX9_laysSets 84 = .ok (.aload_n 0, 1) := by decide +kernel
theorem dX9_laysSets_85 : decode cX9_laysSets 85 = .ok (.invokevirtual 133, 3) := by decide +kernel
theorem dX9_laysSets_88 : decode cX9_laysSets 88 = .ok (.if_icmp .ge 41, 3) := by decide +kernel
theorem dX9_laysSets_91 : decode cX9_laysSets 91 = .ok (.iload_n 2, 1) := by decide +kernel
theorem dX9_laysSets_92 : decode cX9_laysSets 92 = .ok (.ifCond .eq 37, 3) := by decide +kernel
theorem dX9_laysSets_95 : decode cX9_laysSets 95 = .ok (.iload_n 1, 1) := by decide +kernel
theorem dX9_laysSets_96 : decode cX9_laysSets 96 = .ok (.i2l, 1) := by decide +kernel
theorem dX9_laysSets_97 : decode cX9_laysSets 97 = .ok (.iload_n 3, 1) := by decide +kernel
theorem dX9_laysSets_98 : decode cX9_laysSets 98 = .ok (.invokestatic 140, 3) := by decide +kernel
theorem dX9_laysSets_101 : decode cX9_laysSets 101 = .ok (.ifCond .eq 16, 3) := by decide +kernel
theorem dX9_laysSets_104 : decode cX9_laysSets 104 = .ok (.aload_n 0, 1) := by decide +kernel
theorem dX9_laysSets_105 : decode cX9_laysSets 105 = .ok (.getfield 55, 3) := by decide +kernel
theorem dX9_laysSets_108 : decode cX9_laysSets 108 = .ok (.iload_n 3, 1) := by decide +kernel
theorem dX9_laysSets_109 : decode cX9_laysSets 109 = .ok (.iaload, 1) := by decide +kernel
theorem dX9_laysSets_110 : decode cX9_laysSets 110 = .ok (.iload_n 1, 1) := by decide +kernel
theorem dX9_laysSets_111 : decode cX9_laysSets 111 = .ok (.iconst (-1), 1) := by decide +kernel
theorem dX9_laysSets_112 : decode cX9_laysSets 112 = .ok (.ixor, 1) := by decide +kernel
theorem dX9_laysSets_113 : decode cX9_laysSets 113 = .ok (.iand, 1) := by decide +kernel
theorem dX9_laysSets_114 : decode cX9_laysSets 114 = .ok (.ifCond .ne 7, 3) := by decide +kernel
theorem dX9_laysSets_117 : decode cX9_laysSets 117 = .ok (.iconst 1, 1) := by decide +kernel
theorem dX9_laysSets_118 : decode cX9_laysSets 118 = .ok (.goto 4, 3) := by decide +kernel
theorem dX9_laysSets_121 : decode cX9_laysSets 121 = .ok (.iconst 0, 1) := by decide +kernel
theorem dX9_laysSets_122 : decode cX9_laysSets 122 = .ok (.istore_n 2, 1) := by decide +kernel
theorem dX9_laysSets_123 : decode cX9_laysSets 123 = .ok (.iinc 3 1, 3) := by decide +kernel
theorem dX9_laysSets_126 : decode cX9_laysSets 126 = .ok (.goto (-43), 3) := by decide +kernel
theorem dX9_laysSets_129 : decode cX9_laysSets 129 = .ok (.aload_n 0, 1) := by decide +kernel
theorem dX9_laysSets_130 : decode cX9_laysSets 130 = .ok (.getfield 49, 3) := by decide +kernel
theorem dX9_laysSets_133 : decode cX9_laysSets 133 = .ok (.iload_n 1, 1) := by decide +kernel
theorem dX9_laysSets_134 : decode cX9_laysSets 134 = .ok (.aload_n 0, 1) := by decide +kernel
theorem dX9_laysSets_135 : decode cX9_laysSets 135 = .ok (.iload_n 1, 1) := by decide +kernel
theorem dX9_laysSets_136 : decode cX9_laysSets 136 = .ok (.invokevirtual 166, 3) := by decide +kernel
theorem dX9_laysSets_139 : decode cX9_laysSets 139 = .ok (.iastore, 1) := by decide +kernel
theorem dX9_laysSets_140 : decode cX9_laysSets 140 = .ok (.aload_n 0, 1) := by decide +kernel
theorem dX9_laysSets_141 : decode cX9_laysSets 141 = .ok (.getfield 46, 3) := by decide +kernel
theorem dX9_laysSets_144 : decode cX9_laysSets 144 = .ok (.iload_n 1, 1) := by decide +kernel
theorem dX9_laysSets_145 : decode cX9_laysSets 145 = .ok (.iconst (-1), 1) := by decide +kernel
theorem dX9_laysSets_146 : decode cX9_laysSets 146 = .ok (.iastore, 1) := by decide +kernel
theorem dX9_laysSets_147 : decode cX9_laysSets 147 = .ok (.iload_n 2, 1) := by decide +kernel
theorem dX9_laysSets_148 : decode cX9_laysSets 148 = .ok (.ifCond .ne 6, 3) := by decide +kernel
theorem dX9_laysSets_151 : decode cX9_laysSets 151 = .ok (.goto 63, 3) := by decide +kernel
theorem dX9_laysSets_154 : decode cX9_laysSets 154 = .ok (.aload_n 0, 1) := by decide +kernel
theorem dX9_laysSets_155 : decode cX9_laysSets 155 = .ok (.iload_n 1, 1) := by decide +kernel
theorem dX9_laysSets_156 : decode cX9_laysSets 156 = .ok (.invokevirtual 153, 3) := by decide +kernel
theorem dX9_laysSets_159 : decode cX9_laysSets 159 = .ok (.lstore_n 3, 1) := by decide +kernel
theorem dX9_laysSets_160 : decode cX9_laysSets 160 = .ok (.iconst 0, 1) := by decide +kernel
theorem dX9_laysSets_161 : decode cX9_laysSets 161 = .ok (.istore 5, 2) := by decide +kernel
theorem dX9_laysSets_163 : decode cX9_laysSets 163 = .ok (.iconst 0, 1) := by decide +kernel
theorem dX9_laysSets_164 : decode cX9_laysSets 164 = .ok (.istore 6, 2) := by decide +kernel
theorem dX9_laysSets_166 : decode cX9_laysSets 166 = .ok (.iload 6, 2) := by decide +kernel
theorem dX9_laysSets_168 : decode cX9_laysSets 168 = .ok (.aload_n 0, 1) := by decide +kernel
theorem dX9_laysSets_169 : decode cX9_laysSets 169 = .ok (.invokevirtual 147, 3) := by decide +kernel
theorem dX9_laysSets_172 : decode cX9_laysSets 172 = .ok (.if_icmp .ge 34, 3) := by decide +kernel
theorem dX9_laysSets_175 : decode cX9_laysSets 175 = .ok (.iload 5, 2) := by decide +kernel
theorem dX9_laysSets_177 : decode cX9_laysSets 177 = .ok (.lload_n 3, 1) := by decide +kernel
theorem dX9_laysSets_178 : decode cX9_laysSets 178 = .ok (.iload 6, 2) := by decide +kernel
theorem dX9_laysSets_180 : decode cX9_laysSets 180 = .ok (.invokestatic 140, 3) := by decide +kernel
theorem dX9_laysSets_183 : decode cX9_laysSets 183 = .ok (.ifCond .eq 13, 3) := by decide +kernel
theorem dX9_laysSets_186 : decode cX9_laysSets 186 = .ok (.aload_n 0, 1) := by decide +kernel
theorem dX9_laysSets_187 : decode cX9_laysSets 187 = .ok (.getfield 52, 3) := by decide +kernel
theorem dX9_laysSets_190 : decode cX9_laysSets 190 = .ok (.iload 6, 2) := by decide +kernel
theorem dX9_laysSets_192 : decode cX9_laysSets 192 = .ok (.iaload, 1) := by decide +kernel
theorem dX9_laysSets_193 : decode cX9_laysSets 193 = .ok (.goto 4, 3) := by decide +kernel
theorem dX9_laysSets_196 : decode cX9_laysSets 196 = .ok (.iconst 0, 1) := by decide +kernel
theorem dX9_laysSets_197 : decode cX9_laysSets 197 = .ok (.iadd, 1) := by decide +kernel
theorem dX9_laysSets_198 : decode cX9_laysSets 198 = .ok (.istore 5, 2) := by decide +kernel
theorem dX9_laysSets_200 : decode cX9_laysSets 200 = .ok (.iinc 6 1, 3) := by decide +kernel
theorem dX9_laysSets_203 : decode cX9_laysSets 203 = .ok (.goto (-37), 3) := by decide +kernel
theorem dX9_laysSets_206 : decode cX9_laysSets 206 = .ok (.aload_n 0, 1) := by decide +kernel
theorem dX9_laysSets_207 : decode cX9_laysSets 207 = .ok (.getfield 46, 3) := by decide +kernel
theorem dX9_laysSets_210 : decode cX9_laysSets 210 = .ok (.iload_n 1, 1) := by decide +kernel
theorem dX9_laysSets_211 : decode cX9_laysSets 211 = .ok (.iload 5, 2) := by decide +kernel
theorem dX9_laysSets_213 : decode cX9_laysSets 213 = .ok (.iastore, 1) := by decide +kernel
theorem dX9_laysSets_214 : decode cX9_laysSets 214 = .ok (.iinc 1 1, 3) := by decide +kernel
theorem dX9_laysSets_217 : decode cX9_laysSets 217 = .ok (.goto (-148), 3) := by decide +kernel
theorem dX9_laysSets_220 : decode cX9_laysSets 220 = .ok (.return_, 1) := by decide +kernel
theorem dX9_bestWithin_0 : decode cX9_bestWithin 0 = .ok (.iconst 0, 1) := by decide +kernel
theorem dX9_bestWithin_1 : decode cX9_bestWithin 1 = .ok (.istore_n 3, 1) := by decide +kernel
theorem dX9_bestWithin_2 : decode cX9_bestWithin 2 = .ok (.iconst 1, 1) := by decide +kernel
theorem dX9_bestWithin_3 : decode cX9_bestWithin 3 = .ok (.istore 4, 2) := by decide +kernel
theorem dX9_bestWithin_5 : decode cX9_bestWithin 5 = .ok (.iload 4, 2) := by decide +kernel
theorem dX9_bestWithin_7 : decode cX9_bestWithin 7 = .ok (.iconst 1, 1) := by decide +kernel
theorem dX9_bestWithin_8 : decode cX9_bestWithin 8 = .ok (.aload_n 0, 1) := by decide +kernel
theorem dX9_bestWithin_9 : decode cX9_bestWithin 9 = .ok (.invokevirtual 133, 3) := by decide +kernel
theorem dX9_bestWithin_12 : decode cX9_bestWithin 12 = .ok (.ishl, 1) := by decide +kernel
theorem dX9_bestWithin_13 : decode cX9_bestWithin 13 = .ok (.if_icmp .ge 100, 3) := by decide +kernel
theorem dX9_bestWithin_16 : decode cX9_bestWithin 16 = .ok (.aload_n 0, 1) := by decide +kernel
theorem dX9_bestWithin_17 : decode cX9_bestWithin 17 = .ok (.getfield 46, 3) := by decide +kernel
theorem dX9_bestWithin_20 : decode cX9_bestWithin 20 = .ok (.iload 4, 2) := by decide +kernel
theorem dX9_bestWithin_22 : decode cX9_bestWithin 22 = .ok (.iaload, 1) := by decide +kernel
theorem dX9_bestWithin_23 : decode cX9_bestWithin 23 = .ok (.iconst (-1), 1) := by decide +kernel
theorem dX9_bestWithin_24 : decode cX9_bestWithin 24 = .ok (.if_icmp .eq 83, 3) := by decide +kernel
theorem dX9_bestWithin_27 : decode cX9_bestWithin 27 = .ok (.aload_n 0, 1) := by decide +kernel
theorem dX9_bestWithin_28 : decode cX9_bestWithin 28 = .ok (.getfield 49, 3) := by decide +kernel
theorem dX9_bestWithin_31 : decode cX9_bestWithin 31 = .ok (.iload 4, 2) := by decide +kernel
theorem dX9_bestWithin_33 : decode cX9_bestWithin 33 = .ok (.iaload, 1) := by decide +kernel
theorem dX9_bestWithin_34 : decode cX9_bestWithin 34 = .ok (.iload_n 1, 1) := by decide +kernel
theorem dX9_bestWithin_35 : decode cX9_bestWithin 35 = .ok (.if_icmp .gt 72, 3) := by decide +kernel
theorem dX9_bestWithin_38 : decode cX9_bestWithin 38 = .ok (.iload_n 2, 1) := by decide +kernel
theorem dX9_bestWithin_39 : decode cX9_bestWithin 39 = .ok (.iconst (-1), 1) := by decide +kernel
theorem dX9_bestWithin_40 : decode cX9_bestWithin 40 = .ok (.if_icmp .eq 16, 3) := by decide +kernel
theorem dX9_bestWithin_43 : decode cX9_bestWithin 43 = .ok (.iload 4, 2) := by decide +kernel
theorem dX9_bestWithin_45 : decode cX9_bestWithin 45 = .ok (.i2l, 1) := by decide +kernel
theorem dX9_bestWithin_46 : decode cX9_bestWithin 46 = .ok (.iload_n 2, 1) := by decide +kernel
theorem dX9_bestWithin_47 : decode cX9_bestWithin 47 = .ok (.invokestatic 140, 3) := by decide +kernel
theorem dX9_bestWithin_50 : decode cX9_bestWithin 50 = .ok (.ifCond .eq 6, 3) := by decide +kernel
theorem dX9_bestWithin_53 : decode cX9_bestWithin 53 = .ok (.goto 54, 3) := by decide +kernel
theorem dX9_bestWithin_56 : decode cX9_bestWithin 56 = .ok (.aload_n 0, 1) := by decide +kernel
theorem dX9_bestWithin_57 : decode cX9_bestWithin 57 = .ok (.getfield 46, 3) := by decide +kernel
theorem dX9_bestWithin_60 : decode cX9_bestWithin 60 = .ok (.iload 4, 2) := by decide +kernel
theorem dX9_bestWithin_62 : decode cX9_bestWithin 62 = .ok (.iaload, 1) := by decide +kernel
theorem dX9_bestWithin_63 : decode cX9_bestWithin 63 = .ok (.aload_n 0, 1) := by decide +kernel
theorem dX9_bestWithin_64 : decode cX9_bestWithin 64 = .ok (.getfield 46, 3) := by decide +kernel
theorem dX9_bestWithin_67 : decode cX9_bestWithin 67 = .ok (.iload_n 3, 1) := by decide +kernel
theorem dX9_bestWithin_68 : decode cX9_bestWithin 68 = .ok (.iaload, 1) := by decide +kernel
theorem dX9_bestWithin_69 : decode cX9_bestWithin 69 = .ok (.if_icmp .gt 35, 3) := by decide +kernel
theorem dX9_bestWithin_72 : decode cX9_bestWithin 72 = .ok (.aload_n 0, 1) := by decide +kernel
theorem dX9_bestWithin_73 : decode cX9_bestWithin 73 = .ok (.getfield 46, 3) := by decide +kernel
theorem dX9_bestWithin_76 : decode cX9_bestWithin 76 = .ok (.iload 4, 2) := by decide +kernel
theorem dX9_bestWithin_78 : decode cX9_bestWithin 78 = .ok (.iaload, 1) := by decide +kernel
theorem dX9_bestWithin_79 : decode cX9_bestWithin 79 = .ok (.aload_n 0, 1) := by decide +kernel
theorem dX9_bestWithin_80 : decode cX9_bestWithin 80 = .ok (.getfield 46, 3) := by decide +kernel
theorem dX9_bestWithin_83 : decode cX9_bestWithin 83 = .ok (.iload_n 3, 1) := by decide +kernel
theorem dX9_bestWithin_84 : decode cX9_bestWithin 84 = .ok (.iaload, 1) := by decide +kernel
theorem dX9_bestWithin_85 : decode cX9_bestWithin 85 = .ok (.if_icmp .ne 22, 3) := by decide +kernel
theorem dX9_bestWithin_88 : decode cX9_bestWithin 88 = .ok (.aload_n 0, 1) := by decide +kernel
theorem dX9_bestWithin_89 : decode cX9_bestWithin 89 = .ok (.getfield 49, 3) := by decide +kernel
theorem dX9_bestWithin_92 : decode cX9_bestWithin 92 = .ok (.iload 4, 2) := by decide +kernel
theorem dX9_bestWithin_94 : decode cX9_bestWithin 94 = .ok (.iaload, 1) := by decide +kernel
theorem dX9_bestWithin_95 : decode cX9_bestWithin 95 = .ok (.aload_n 0, 1) := by decide +kernel
theorem dX9_bestWithin_96 : decode cX9_bestWithin 96 = .ok (.getfield 49, 3) := by decide +kernel
theorem dX9_bestWithin_99 : decode cX9_bestWithin 99 = .ok (.iload_n 3, 1) := by decide +kernel
theorem dX9_bestWithin_100 : decode cX9_bestWithin 100 = .ok (.iaload, 1) := by decide +kernel
theorem dX9_bestWithin_101 : decode cX9_bestWithin 101 = .ok (.if_icmp .ge 6, 3) := by decide +kernel
theorem dX9_bestWithin_104 : decode cX9_bestWithin 104 = .ok (.iload 4, 2) := by decide +kernel
theorem dX9_bestWithin_106 : decode cX9_bestWithin 106 = .ok (.istore_n 3, 1) := by decide +kernel
theorem dX9_bestWithin_107 : decode cX9_bestWithin 107 = .ok (.iinc 4 1, 3) := by decide +kernel
theorem dX9_bestWithin_110 : decode cX9_bestWithin 110 = .ok (.goto (-105), 3) := by decide +kernel
theorem dX9_bestWithin_113 : decode cX9_bestWithin 113 = .ok (.iload_n 3, 1) := by decide +kernel
theorem dX9_bestWithin_114 : decode cX9_bestWithin 114 = .ok (.ireturn, 1) := by decide +kernel
theorem dX9_best_0 : decode cX9_best 0 = .ok (.aload_n 0, 1) := by decide +kernel
theorem dX9_best_1 : decode cX9_best 1 = .ok (.iconst 0, 1) := by decide +kernel
theorem dX9_best_2 : decode cX9_best 2 = .ok (.putfield 60, 3) := by decide +kernel
theorem dX9_best_5 : decode cX9_best 5 = .ok (.aload_n 0, 1) := by decide +kernel
theorem dX9_best_6 : decode cX9_best 6 = .ok (.iload_n 1, 1) := by decide +kernel
theorem dX9_best_7 : decode cX9_best 7 = .ok (.iconst 0, 1) := by decide +kernel
theorem dX9_best_8 : decode cX9_best 8 = .ok (.sipush 9999, 3) := by decide +kernel
theorem dX9_best_11 : decode cX9_best 11 = .ok (.invokestatic 116, 3) := by decide +kernel
theorem dX9_best_14 : decode cX9_best 14 = .ok (.ifCond .eq 12, 3) := by decide +kernel
theorem dX9_best_17 : decode cX9_best 17 = .ok (.iload_n 2, 1) := by decide +kernel
theorem dX9_best_18 : decode cX9_best 18 = .ok (.iconst 0, 1) := by decide +kernel
theorem dX9_best_19 : decode cX9_best 19 = .ok (.iconst 2, 1) := by decide +kernel
theorem dX9_best_20 : decode cX9_best 20 = .ok (.invokestatic 116, 3) := by decide +kernel
theorem dX9_best_23 : decode cX9_best 23 = .ok (.ifCond .ne 7, 3) := by decide +kernel
theorem dX9_best_26 : decode cX9_best 26 = .ok (.iconst 1, 1) := by decide +kernel
theorem dX9_best_27 : decode cX9_best 27 = .ok (.goto 4, 3) := by decide +kernel
theorem dX9_best_30 : decode cX9_best 30 = .ok (.iconst 0, 1) := by decide +kernel
theorem dX9_best_31 : decode cX9_best 31 = .ok (.iconst 1, 1) := by decide +kernel
theorem dX9_best_32 : decode cX9_best 32 = .ok (.iconst 1, 1) := by decide +kernel
theorem dX9_best_33 : decode cX9_best 33 = .ok (.invokevirtual 119, 3) := by decide +kernel
theorem dX9_best_36 : decode cX9_best 36 = .ok (.ifCond .eq 5, 3) := by decide +kernel
theorem dX9_best_39 : decode cX9_best 39 = .ok (.iconst 0, 1) := by decide +kernel
theorem dX9_best_40 : decode cX9_best 40 = .ok (.ireturn, 1) := by decide +kernel
theorem dX9_best_41 : decode cX9_best 41 = .ok (.aload_n 0, 1) := by decide +kernel
theorem dX9_best_42 : decode cX9_best 42 = .ok (.invokevirtual 245, 3) := by decide +kernel
theorem dX9_best_45 : decode cX9_best 45 = .ok (.aload_n 0, 1) := by decide +kernel
theorem dX9_best_46 : decode cX9_best 46 = .ok (.iload_n 1, 1) := by decide +kernel
theorem dX9_best_47 : decode cX9_best 47 = .ok (.iconst (-1), 1) := by decide +kernel
theorem dX9_best_48 : decode cX9_best 48 = .ok (.invokevirtual 248, 3) := by decide +kernel
theorem dX9_best_51 : decode cX9_best 51 = .ok (.istore_n 3, 1) := by decide +kernel
theorem dX9_best_52 : decode cX9_best 52 = .ok (.iload_n 2, 1) := by decide +kernel
theorem dX9_best_53 : decode cX9_best 53 = .ok (.ifCond .ne 7, 3) := by decide +kernel
theorem dX9_best_56 : decode cX9_best 56 = .ok (.iload_n 3, 1) := by decide +kernel
theorem dX9_best_57 : decode cX9_best 57 = .ok (.goto 23, 3) := by decide +kernel
theorem dX9_best_60 : decode cX9_best 60 = .ok (.iload_n 2, 1) := by decide +kernel
theorem dX9_best_61 : decode cX9_best 61 = .ok (.iconst 1, 1) := by decide +kernel
theorem dX9_best_62 : decode cX9_best 62 = .ok (.if_icmp .ne 12, 3) := by decide +kernel
theorem dX9_best_65 : decode cX9_best 65 = .ok (.aload_n 0, 1) := by decide +kernel
theorem dX9_best_66 : decode cX9_best 66 = .ok (.getfield 46, 3) := by decide +kernel
theorem dX9_best_69 : decode cX9_best 69 = .ok (.iload_n 3, 1) := by decide +kernel
theorem dX9_best_70 : decode cX9_best 70 = .ok (.iaload, 1) := by decide +kernel
theorem dX9_best_71 : decode cX9_best 71 = .ok (.goto 9, 3) := by decide +kernel
theorem dX9_best_74 : decode cX9_best 74 = .ok (.aload_n 0, 1) := by decide +kernel
theorem dX9_best_75 : decode cX9_best 75 = .ok (.getfield 49, 3) := by decide +kernel
theorem dX9_best_78 : decode cX9_best 78 = .ok (.iload_n 3, 1) := by decide +kernel
theorem dX9_best_79 : decode cX9_best 79 = .ok (.iaload, 1) := by decide +kernel
theorem dX9_best_80 : decode cX9_best 80 = .ok (.ireturn, 1) := by decide +kernel
theorem dX9_fewest_0 : decode cX9_fewest 0 = .ok (.aload_n 0, 1) := by decide +kernel
theorem dX9_fewest_1 : decode cX9_fewest 1 = .ok (.iconst 0, 1) := by decide +kernel
theorem dX9_fewest_2 : decode cX9_fewest 2 = .ok (.putfield 60, 3) := by decide +kernel
theorem dX9_fewest_5 : decode cX9_fewest 5 = .ok (.aload_n 0, 1) := by decide +kernel
theorem dX9_fewest_6 : decode cX9_fewest 6 = .ok (.iload_n 1, 1) := by decide +kernel
theorem dX9_fewest_7 : decode cX9_fewest 7 = .ok (.iconst 0, 1) := by decide +kernel
theorem dX9_fewest_8 : decode cX9_fewest 8 = .ok (.iconst 2, 1) := by decide +kernel
theorem dX9_fewest_9 : decode cX9_fewest 9 = .ok (.invokestatic 116, 3) := by decide +kernel
theorem dX9_fewest_12 : decode cX9_fewest 12 = .ok (.ifCond .ne 7, 3) := by decide +kernel
theorem dX9_fewest_15 : decode cX9_fewest 15 = .ok (.iconst 1, 1) := by decide +kernel
theorem dX9_fewest_16 : decode cX9_fewest 16 = .ok (.goto 4, 3) := by decide +kernel
theorem dX9_fewest_19 : decode cX9_fewest 19 = .ok (.iconst 0, 1) := by decide +kernel
theorem dX9_fewest_20 : decode cX9_fewest 20 = .ok (.iconst 1, 1) := by decide +kernel
theorem dX9_fewest_21 : decode cX9_fewest 21 = .ok (.iconst 1, 1) := by decide +kernel
theorem dX9_fewest_22 : decode cX9_fewest 22 = .ok (.invokevirtual 119, 3) := by decide +kernel
theorem dX9_fewest_25 : decode cX9_fewest 25 = .ok (.ifCond .eq 5, 3) := by decide +kernel
theorem dX9_fewest_28 : decode cX9_fewest 28 = .ok (.iconst 0, 1) := by decide +kernel
theorem dX9_fewest_29 : decode cX9_fewest 29 = .ok (.ireturn, 1) := by decide +kernel
theorem dX9_fewest_30 : decode cX9_fewest 30 = .ok (.aload_n 0, 1) := by decide +kernel
theorem dX9_fewest_31 : decode cX9_fewest 31 = .ok (.invokevirtual 245, 3) := by decide +kernel
theorem dX9_fewest_34 : decode cX9_fewest 34 = .ok (.iconst 1, 1) := by decide +kernel
theorem dX9_fewest_35 : decode cX9_fewest 35 = .ok (.aload_n 0, 1) := by decide +kernel
theorem dX9_fewest_36 : decode cX9_fewest 36 = .ok (.invokevirtual 133, 3) := by decide +kernel
theorem dX9_fewest_39 : decode cX9_fewest 39 = .ok (.ishl, 1) := by decide +kernel
theorem dX9_fewest_40 : decode cX9_fewest 40 = .ok (.iconst 1, 1) := by decide +kernel
theorem dX9_fewest_41 : decode cX9_fewest 41 = .ok (.isub, 1) := by decide +kernel
theorem dX9_fewest_42 : decode cX9_fewest 42 = .ok (.istore_n 2, 1) := by decide +kernel
theorem dX9_fewest_43 : decode cX9_fewest 43 = .ok (.iload_n 2, 1) := by decide +kernel
theorem dX9_fewest_44 : decode cX9_fewest 44 = .ok (.istore_n 3, 1) := by decide +kernel
theorem dX9_fewest_45 : decode cX9_fewest 45 = .ok (.iconst 0, 1) := by decide +kernel
theorem dX9_fewest_46 : decode cX9_fewest 46 = .ok (.istore 4, 2) := by decide +kernel
theorem dX9_fewest_48 : decode cX9_fewest 48 = .ok (.iload 4, 2) := by decide +kernel
theorem dX9_fewest_50 : decode cX9_fewest 50 = .ok (.iload_n 2, 1) := by decide +kernel
theorem dX9_fewest_51 : decode cX9_fewest 51 = .ok (.if_icmp .ge 111, 3) := by decide +kernel
theorem dX9_fewest_54 : decode cX9_fewest 54 = .ok (.aload_n 0, 1) := by decide +kernel
theorem dX9_fewest_55 : decode cX9_fewest 55 = .ok (.getfield 46, 3) := by decide +kernel
theorem dX9_fewest_58 : decode cX9_fewest 58 = .ok (.iload 4, 2) := by decide +kernel
theorem dX9_fewest_60 : decode cX9_fewest 60 = .ok (.iaload, 1) := by decide +kernel
theorem dX9_fewest_61 : decode cX9_fewest 61 = .ok (.aload_n 0, 1) := by decide +kernel
theorem dX9_fewest_62 : decode cX9_fewest 62 = .ok (.getfield 46, 3) := by decide +kernel
theorem dX9_fewest_65 : decode cX9_fewest 65 = .ok (.iload_n 2, 1) := by decide +kernel
theorem dX9_fewest_66 : decode cX9_fewest 66 = .ok (.iaload, 1) := by decide +kernel
theorem dX9_fewest_67 : decode cX9_fewest 67 = .ok (.if_icmp .ne 89, 3) := by decide +kernel
theorem dX9_fewest_70 : decode cX9_fewest 70 = .ok (.iload 4, 2) := by decide +kernel
theorem dX9_fewest_72 : decode cX9_fewest 72 = .ok (.i2l, 1) := by decide +kernel
theorem dX9_fewest_73 : decode cX9_fewest 73 = .ok (.invokestatic 199, 3) := by decide +kernel
theorem dX9_fewest_76 : decode cX9_fewest 76 = .ok (.iload_n 3, 1) := by decide +kernel
theorem dX9_fewest_77 : decode cX9_fewest 77 = .ok (.i2l, 1) := by decide +kernel
theorem dX9_fewest_78 : decode cX9_fewest 78 = .ok (.invokestatic 199, 3) := by decide +kernel
theorem dX9_fewest_81 : decode cX9_fewest 81 = .ok (.if_icmp .gt 75, 3) := by decide +kernel
theorem dX9_fewest_84 : decode cX9_fewest 84 = .ok (.iload 4, 2) := by decide +kernel
theorem dX9_fewest_86 : decode cX9_fewest 86 = .ok (.i2l, 1) := by decide +kernel
theorem dX9_fewest_87 : decode cX9_fewest 87 = .ok (.invokestatic 199, 3) := by decide +kernel
theorem dX9_fewest_90 : decode cX9_fewest 90 = .ok (.iload_n 3, 1) := by decide +kernel
theorem dX9_fewest_91 : decode cX9_fewest 91 = .ok (.i2l, 1) := by decide +kernel
theorem dX9_fewest_92 : decode cX9_fewest 92 = .ok (.invokestatic 199, 3) := by decide +kernel
theorem dX9_fewest_95 : decode cX9_fewest 95 = .ok (.if_icmp .ne 22, 3) := by decide +kernel
theorem dX9_fewest_98 : decode cX9_fewest 98 = .ok (.aload_n 0, 1) := by decide +kernel
theorem dX9_fewest_99 : decode cX9_fewest 99 = .ok (.getfield 49, 3) := by decide +kernel
theorem dX9_fewest_102 : decode cX9_fewest 102 = .ok (.iload 4, 2) := by decide +kernel
theorem dX9_fewest_104 : decode cX9_fewest 104 = .ok (.iaload, 1) := by decide +kernel
theorem dX9_fewest_105 : decode cX9_fewest 105 = .ok (.aload_n 0, 1) := by decide +kernel
theorem dX9_fewest_106 : decode cX9_fewest 106 = .ok (.getfield 49, 3) := by decide +kernel
theorem dX9_fewest_109 : decode cX9_fewest 109 = .ok (.iload_n 3, 1) := by decide +kernel
theorem dX9_fewest_110 : decode cX9_fewest 110 = .ok (.iaload, 1) := by decide +kernel
theorem dX9_fewest_111 : decode cX9_fewest 111 = .ok (.if_icmp .le 6, 3) := by decide +kernel
theorem dX9_fewest_114 : decode cX9_fewest 114 = .ok (.goto 42, 3) := by decide +kernel
theorem dX9_fewest_117 : decode cX9_fewest 117 = .ok (.iload 4, 2) := by decide +kernel
theorem dX9_fewest_119 : decode cX9_fewest 119 = .ok (.i2l, 1) := by decide +kernel
theorem dX9_fewest_120 : decode cX9_fewest 120 = .ok (.invokestatic 199, 3) := by decide +kernel
theorem dX9_fewest_123 : decode cX9_fewest 123 = .ok (.iload_n 3, 1) := by decide +kernel
theorem dX9_fewest_124 : decode cX9_fewest 124 = .ok (.i2l, 1) := by decide +kernel
theorem dX9_fewest_125 : decode cX9_fewest 125 = .ok (.invokestatic 199, 3) := by decide +kernel
theorem dX9_fewest_128 : decode cX9_fewest 128 = .ok (.if_icmp .lt 25, 3) := by decide +kernel
theorem dX9_fewest_131 : decode cX9_fewest 131 = .ok (.aload_n 0, 1) := by decide +kernel
theorem dX9_fewest_132 : decode cX9_fewest 132 = .ok (.getfield 49, 3) := by decide +kernel
theorem dX9_fewest_135 : decode cX9_fewest 135 = .ok (.iload 4, 2) := by decide +kernel
theorem dX9_fewest_137 : decode cX9_fewest 137 = .ok (.iaload, 1) := by decide +kernel
theorem dX9_fewest_138 : decode cX9_fewest 138 = .ok (.aload_n 0, 1) := by decide +kernel
theorem dX9_fewest_139 : decode cX9_fewest 139 = .ok (.getfield 49, 3) := by decide +kernel
theorem dX9_fewest_142 : decode cX9_fewest 142 = .ok (.iload_n 3, 1) := by decide +kernel
theorem dX9_fewest_143 : decode cX9_fewest 143 = .ok (.iaload, 1) := by decide +kernel
theorem dX9_fewest_144 : decode cX9_fewest 144 = .ok (.if_icmp .lt 9, 3) := by decide +kernel
theorem dX9_fewest_147 : decode cX9_fewest 147 = .ok (.iload 4, 2) := by decide +kernel
theorem dX9_fewest_149 : decode cX9_fewest 149 = .ok (.iload_n 3, 1) := by decide +kernel
theorem dX9_fewest_150 : decode cX9_fewest 150 = .ok (.if_icmp .ge 6, 3) := by decide +kernel
theorem dX9_fewest_153 : decode cX9_fewest 153 = .ok (.iload 4, 2) := by decide +kernel
theorem dX9_fewest_155 : decode cX9_fewest 155 = .ok (.istore_n 3, 1) := by decide +kernel
theorem dX9_fewest_156 : decode cX9_fewest 156 = .ok (.iinc 4 1, 3) := by decide +kernel
theorem dX9_fewest_159 : decode cX9_fewest 159 = .ok (.goto (-111), 3) := by decide +kernel
theorem dX9_fewest_162 : decode cX9_fewest 162 = .ok (.iload_n 1, 1) := by decide +kernel
theorem dX9_fewest_163 : decode cX9_fewest 163 = .ok (.ifCond .ne 7, 3) := by decide +kernel
theorem dX9_fewest_166 : decode cX9_fewest 166 = .ok (.iload_n 3, 1) := by decide +kernel
theorem dX9_fewest_167 : decode cX9_fewest 167 = .ok (.goto 22, 3) := by decide +kernel
theorem dX9_fewest_170 : decode cX9_fewest 170 = .ok (.iload_n 1, 1) := by decide +kernel
theorem dX9_fewest_171 : decode cX9_fewest 171 = .ok (.iconst 1, 1) := by decide +kernel
theorem dX9_fewest_172 : decode cX9_fewest 172 = .ok (.if_icmp .ne 11, 3) := by decide +kernel
theorem dX9_fewest_175 : decode cX9_fewest 175 = .ok (.iload_n 3, 1) := by decide +kernel
theorem dX9_fewest_176 : decode cX9_fewest 176 = .ok (.i2l, 1) := by decide +kernel
theorem dX9_fewest_177 : decode cX9_fewest 177 = .ok (.invokestatic 199, 3) := by decide +kernel
theorem dX9_fewest_180 : decode cX9_fewest 180 = .ok (.goto 9, 3) := by decide +kernel
theorem dX9_fewest_183 : decode cX9_fewest 183 = .ok (.aload_n 0, 1) := by decide +kernel
theorem dX9_fewest_184 : decode cX9_fewest 184 = .ok (.getfield 49, 3) := by decide +kernel
theorem dX9_fewest_187 : decode cX9_fewest 187 = .ok (.iload_n 3, 1) := by decide +kernel
theorem dX9_fewest_188 : decode cX9_fewest 188 = .ok (.iaload, 1) := by decide +kernel
theorem dX9_fewest_189 : decode cX9_fewest 189 = .ok (.ireturn, 1) := by decide +kernel
theorem dX9_shortest_0 : decode cX9_shortest 0 = .ok (.aload_n 0, 1) := by decide +kernel
theorem dX9_shortest_1 : decode cX9_shortest 1 = .ok (.iconst 0, 1) := by decide +kernel
theorem dX9_shortest_2 : decode cX9_shortest 2 = .ok (.putfield 60, 3) := by decide +kernel
theorem dX9_shortest_5 : decode cX9_shortest 5 = .ok (.aload_n 0, 1) := by decide +kernel
theorem dX9_shortest_6 : decode cX9_shortest 6 = .ok (.iload_n 1, 1) := by decide +kernel
theorem dX9_shortest_7 : decode cX9_shortest 7 = .ok (.iconst 0, 1) := by decide +kernel
theorem dX9_shortest_8 : decode cX9_shortest 8 = .ok (.bipush 100, 2) := by decide +kernel
theorem dX9_shortest_10 : decode cX9_shortest 10 = .ok (.invokestatic 116, 3) := by decide +kernel
theorem dX9_shortest_13 : decode cX9_shortest 13 = .ok (.ifCond .eq 12, 3) := by decide +kernel
theorem dX9_shortest_16 : decode cX9_shortest 16 = .ok (.iload_n 2, 1) := by decide +kernel
theorem dX9_shortest_17 : decode cX9_shortest 17 = .ok (.iconst 0, 1) := by decide +kernel
theorem dX9_shortest_18 : decode cX9_shortest 18 = .ok (.iconst 2, 1) := by decide +kernel
theorem dX9_shortest_19 : decode cX9_shortest 19 = .ok (.invokestatic 116, 3) := by decide +kernel
theorem dX9_shortest_22 : decode cX9_shortest 22 = .ok (.ifCond .ne 7, 3) := by decide +kernel
theorem dX9_shortest_25 : decode cX9_shortest 25 = .ok (.iconst 1, 1) := by decide +kernel
theorem dX9_shortest_26 : decode cX9_shortest 26 = .ok (.goto 4, 3) := by decide +kernel
theorem dX9_shortest_29 : decode cX9_shortest 29 = .ok (.iconst 0, 1) := by decide +kernel
theorem dX9_shortest_30 : decode cX9_shortest 30 = .ok (.iconst 1, 1) := by decide +kernel
theorem dX9_shortest_31 : decode cX9_shortest 31 = .ok (.iconst 1, 1) := by decide +kernel
theorem dX9_shortest_32 : decode cX9_shortest 32 = .ok (.invokevirtual 119, 3) := by decide +kernel
theorem dX9_shortest_35 : decode cX9_shortest 35 = .ok (.ifCond .eq 5, 3) := by decide +kernel
theorem dX9_shortest_38 : decode cX9_shortest 38 = .ok (.iconst 0, 1) := by decide +kernel
theorem dX9_shortest_39 : decode cX9_shortest 39 = .ok (.ireturn, 1) := by decide +kernel
theorem dX9_shortest_40 : decode cX9_shortest 40 = .ok (.aload_n 0, 1) := by decide +kernel
theorem dX9_shortest_41 : decode cX9_shortest 41 = .ok (.invokevirtual 245, 3) := by decide +kernel
theorem dX9_shortest_44 : decode cX9_shortest 44 = .ok (.iconst 1, 1) := by decide +kernel
theorem dX9_shortest_45 : decode cX9_shortest 45 = .ok (.aload_n 0, 1) := by decide +kernel
theorem dX9_shortest_46 : decode cX9_shortest 46 = .ok (.invokevirtual 133, 3) := by decide +kernel
theorem dX9_shortest_49 : decode cX9_shortest 49 = .ok (.ishl, 1) := by decide +kernel
theorem dX9_shortest_50 : decode cX9_shortest 50 = .ok (.iconst 1, 1) := by decide +kernel
theorem dX9_shortest_51 : decode cX9_shortest 51 = .ok (.isub, 1) := by decide +kernel
theorem dX9_shortest_52 : decode cX9_shortest 52 = .ok (.istore_n 3, 1) := by decide +kernel
theorem dX9_shortest_53 : decode cX9_shortest 53 = .ok (.aload_n 0, 1) := by decide +kernel
theorem dX9_shortest_54 : decode cX9_shortest 54 = .ok (.getfield 46, 3) := by decide +kernel
theorem dX9_shortest_57 : decode cX9_shortest 57 = .ok (.iload_n 3, 1) := by decide +kernel
theorem dX9_shortest_58 : decode cX9_shortest 58 = .ok (.iaload, 1) := by decide +kernel
theorem dX9_shortest_59 : decode cX9_shortest 59 = .ok (.iload_n 1, 1) := by decide +kernel
theorem dX9_shortest_60 : decode cX9_shortest 60 = .ok (.imul, 1) := by decide +kernel
theorem dX9_shortest_61 : decode cX9_shortest 61 = .ok (.bipush 99, 2) := by decide +kernel
theorem dX9_shortest_63 : decode cX9_shortest 63 = .ok (.iadd, 1) := by decide +kernel
theorem dX9_shortest_64 : decode cX9_shortest 64 = .ok (.bipush 100, 2) := by decide +kernel
theorem dX9_shortest_66 : decode cX9_shortest 66 = .ok (.idiv, 1) := by decide +kernel
theorem dX9_shortest_67 : decode cX9_shortest 67 = .ok (.istore 4, 2) := by decide +kernel
theorem dX9_shortest_69 : decode cX9_shortest 69 = .ok (.iconst (-1), 1) := by decide +kernel
theorem dX9_shortest_70 : decode cX9_shortest 70 = .ok (.istore 5, 2) := by decide +kernel
theorem dX9_shortest_72 : decode cX9_shortest 72 = .ok (.iconst 0, 1) := by decide +kernel
theorem dX9_shortest_73 : decode cX9_shortest 73 = .ok (.istore 6, 2) := by decide +kernel
theorem dX9_shortest_75 : decode cX9_shortest 75 = .ok (.iload 6, 2) := by decide +kernel
theorem dX9_shortest_77 : decode cX9_shortest 77 = .ok (.iload_n 3, 1) := by decide +kernel
theorem dX9_shortest_78 : decode cX9_shortest 78 = .ok (.if_icmp .gt 96, 3) := by decide +kernel
theorem dX9_shortest_81 : decode cX9_shortest 81 = .ok (.aload_n 0, 1) := by decide +kernel
theorem dX9_shortest_82 : decode cX9_shortest 82 = .ok (.getfield 46, 3) := by decide +kernel
theorem dX9_shortest_85 : decode cX9_shortest 85 = .ok (.iload 6, 2) := by decide +kernel
theorem dX9_shortest_87 : decode cX9_shortest 87 = .ok (.iaload, 1) := by decide +kernel
theorem dX9_shortest_88 : decode cX9_shortest 88 = .ok (.iconst (-1), 1) := by decide +kernel
theorem dX9_shortest_89 : decode cX9_shortest 89 = .ok (.if_icmp .eq 79, 3) := by decide +kernel
theorem dX9_shortest_92 : decode cX9_shortest 92 = .ok (.aload_n 0, 1) := by decide +kernel
theorem dX9_shortest_93 : decode cX9_shortest 93 = .ok (.getfield 46, 3) := by decide +kernel
theorem dX9_shortest_96 : decode cX9_shortest 96 = .ok (.iload 6, 2) := by decide +kernel
theorem dX9_shortest_98 : decode cX9_shortest 98 = .ok (.iaload, 1) := by decide +kernel
theorem dX9_shortest_99 : decode cX9_shortest 99 = .ok (.iload 4, 2) := by decide +kernel
theorem dX9_shortest_101 : decode cX9_shortest 101 = .ok (.if_icmp .ge 6, 3) := by decide +kernel
theorem dX9_shortest_104 : decode cX9_shortest 104 = .ok (.goto 64, 3) := by decide +kernel
theorem dX9_shortest_107 : decode cX9_shortest 107 = .ok (.iload 5, 2) := by decide +kernel
theorem dX9_shortest_109 : decode cX9_shortest 109 = .ok (.iconst (-1), 1) := by decide +kernel
theorem dX9_shortest_110 : decode cX9_shortest 110 = .ok (.if_icmp .eq 54, 3) := by decide +kernel
theorem dX9_shortest_113 : decode cX9_shortest 113 = .ok (.aload_n 0, 1) := by decide +kernel
theorem dX9_shortest_114 : decode cX9_shortest 114 = .ok (.getfield 49, 3) := by decide +kernel
theorem dX9_shortest_117 : decode cX9_shortest 117 = .ok (.iload 6, 2) := by decide +kernel
theorem dX9_shortest_119 : decode cX9_shortest 119 = .ok (.iaload, 1) := by decide +kernel
theorem dX9_shortest_120 : decode cX9_shortest 120 = .ok (.aload_n 0, 1) := by decide +kernel
theorem dX9_shortest_121 : decode cX9_shortest 121 = .ok (.getfield 49, 3) := by decide +kernel
theorem dX9_shortest_124 : decode cX9_shortest 124 = .ok (.iload 5, 2) := by decide +kernel
theorem dX9_shortest_126 : decode cX9_shortest 126 = .ok (.iaload, 1) := by decide +kernel
theorem dX9_shortest_127 : decode cX9_shortest 127 = .ok (.if_icmp .lt 37, 3) := by decide +kernel
theorem dX9_shortest_130 : decode cX9_shortest 130 = .ok (.aload_n 0, 1) := by decide +kernel
theorem dX9_shortest_131 : decode cX9_shortest 131 = .ok (.getfield 49, 3) := by decide +kernel
theorem dX9_shortest_134 : decode cX9_shortest 134 = .ok (.iload 6, 2) := by decide +kernel
theorem dX9_shortest_136 : decode cX9_shortest 136 = .ok (.iaload, 1) := by decide +kernel
theorem dX9_shortest_137 : decode cX9_shortest 137 = .ok (.aload_n 0, 1) := by decide +kernel
theorem dX9_shortest_138 : decode cX9_shortest 138 = .ok (.getfield 49, 3) := by decide +kernel
theorem dX9_shortest_141 : decode cX9_shortest 141 = .ok (.iload 5, 2) := by decide +kernel
theorem dX9_shortest_143 : decode cX9_shortest 143 = .ok (.iaload, 1) := by decide +kernel
theorem dX9_shortest_144 : decode cX9_shortest 144 = .ok (.if_icmp .ne 24, 3) := by decide +kernel
theorem dX9_shortest_147 : decode cX9_shortest 147 = .ok (.aload_n 0, 1) := by decide +kernel
theorem dX9_shortest_148 : decode cX9_shortest 148 = .ok (.getfield 46, 3) := by decide +kernel
theorem dX9_shortest_151 : decode cX9_shortest 151 = .ok (.iload 6, 2) := by decide +kernel
theorem dX9_shortest_153 : decode cX9_shortest 153 = .ok (.iaload, 1) := by decide +kernel
theorem dX9_shortest_154 : decode cX9_shortest 154 = .ok (.aload_n 0, 1) := by decide +kernel
theorem dX9_shortest_155 : decode cX9_shortest 155 = .ok (.getfield 46, 3) := by decide +kernel
theorem dX9_shortest_158 : decode cX9_shortest 158 = .ok (.iload 5, 2) := by decide +kernel
theorem dX9_shortest_160 : decode cX9_shortest 160 = .ok (.iaload, 1) := by decide +kernel
theorem dX9_shortest_161 : decode cX9_shortest 161 = .ok (.if_icmp .le 7, 3) := by decide +kernel
theorem dX9_shortest_164 : decode cX9_shortest 164 = .ok (.iload 6, 2) := by decide +kernel
theorem dX9_shortest_166 : decode cX9_shortest 166 = .ok (.istore 5, 2) := by decide +kernel
theorem dX9_shortest_168 : decode cX9_shortest 168 = .ok (.iinc 6 1, 3) := by decide +kernel
theorem dX9_shortest_171 : decode cX9_shortest 171 = .ok (.goto (-96), 3) := by decide +kernel
theorem dX9_shortest_174 : decode cX9_shortest 174 = .ok (.iload_n 2, 1) := by decide +kernel
theorem dX9_shortest_175 : decode cX9_shortest 175 = .ok (.ifCond .ne 8, 3) := by decide +kernel
theorem dX9_shortest_178 : decode cX9_shortest 178 = .ok (.iload 5, 2) := by decide +kernel
theorem dX9_shortest_180 : decode cX9_shortest 180 = .ok (.goto 25, 3) := by decide +kernel
theorem dX9_shortest_183 : decode cX9_shortest 183 = .ok (.iload_n 2, 1) := by decide +kernel
theorem dX9_shortest_184 : decode cX9_shortest 184 = .ok (.iconst 1, 1) := by decide +kernel
theorem dX9_shortest_185 : decode cX9_shortest 185 = .ok (.if_icmp .ne 13, 3) := by decide +kernel
theorem dX9_shortest_188 : decode cX9_shortest 188 = .ok (.aload_n 0, 1) := by decide +kernel
theorem dX9_shortest_189 : decode cX9_shortest 189 = .ok (.getfield 46, 3) := by decide +kernel
theorem dX9_shortest_192 : decode cX9_shortest 192 = .ok (.iload 5, 2) := by decide +kernel
theorem dX9_shortest_194 : decode cX9_shortest 194 = .ok (.iaload, 1) := by decide +kernel
theorem dX9_shortest_195 : decode cX9_shortest 195 = .ok (.goto 10, 3) := by decide +kernel
theorem dX9_shortest_198 : decode cX9_shortest 198 = .ok (.aload_n 0, 1) := by decide +kernel
theorem dX9_shortest_199 : decode cX9_shortest 199 = .ok (.getfield 49, 3) := by decide +kernel
theorem dX9_shortest_202 : decode cX9_shortest 202 = .ok (.iload 5, 2) := by decide +kernel
theorem dX9_shortest_204 : decode cX9_shortest 204 = .ok (.iaload, 1) := by decide +kernel
theorem dX9_shortest_205 : decode cX9_shortest 205 = .ok (.ireturn, 1) := by decide +kernel
theorem dX9_worth_0 : decode cX9_worth 0 = .ok (.aload_n 0, 1) := by decide +kernel
theorem dX9_worth_1 : decode cX9_worth 1 = .ok (.iconst 0, 1) := by decide +kernel
theorem dX9_worth_2 : decode cX9_worth 2 = .ok (.putfield 60, 3) := by decide +kernel
theorem dX9_worth_5 : decode cX9_worth 5 = .ok (.aload_n 0, 1) := by decide +kernel
theorem dX9_worth_6 : decode cX9_worth 6 = .ok (.aload_n 0, 1) := by decide +kernel
theorem dX9_worth_7 : decode cX9_worth 7 = .ok (.iload_n 1, 1) := by decide +kernel
theorem dX9_worth_8 : decode cX9_worth 8 = .ok (.invokevirtual 183, 3) := by decide +kernel
theorem dX9_worth_11 : decode cX9_worth 11 = .ok (.ifCond .ne 7, 3) := by decide +kernel
theorem dX9_worth_14 : decode cX9_worth 14 = .ok (.iconst 1, 1) := by decide +kernel
theorem dX9_worth_15 : decode cX9_worth 15 = .ok (.goto 4, 3) := by decide +kernel
theorem dX9_worth_18 : decode cX9_worth 18 = .ok (.iconst 0, 1) := by decide +kernel
theorem dX9_worth_19 : decode cX9_worth 19 = .ok (.iconst 1, 1) := by decide +kernel
theorem dX9_worth_20 : decode cX9_worth 20 = .ok (.iconst 0, 1) := by decide +kernel
theorem dX9_worth_21 : decode cX9_worth 21 = .ok (.invokevirtual 119, 3) := by decide +kernel
theorem dX9_worth_24 : decode cX9_worth 24 = .ok (.ifCond .eq 5, 3) := by decide +kernel
theorem dX9_worth_27 : decode cX9_worth 27 = .ok (.iconst 0, 1) := by decide +kernel
theorem dX9_worth_28 : decode cX9_worth 28 = .ok (.ireturn, 1) := by decide +kernel
theorem dX9_worth_29 : decode cX9_worth 29 = .ok (.aload_n 0, 1) := by decide +kernel
theorem dX9_worth_30 : decode cX9_worth 30 = .ok (.invokevirtual 245, 3) := by decide +kernel
theorem dX9_worth_33 : decode cX9_worth 33 = .ok (.aload_n 0, 1) := by decide +kernel
theorem dX9_worth_34 : decode cX9_worth 34 = .ok (.getfield 20, 3) := by decide +kernel
theorem dX9_worth_37 : decode cX9_worth 37 = .ok (.iconst 2, 1) := by decide +kernel
theorem dX9_worth_38 : decode cX9_worth 38 = .ok (.laload, 1) := by decide +kernel
theorem dX9_worth_39 : decode cX9_worth 39 = .ok (.l2i, 1) := by decide +kernel
theorem dX9_worth_40 : decode cX9_worth 40 = .ok (.istore_n 2, 1) := by decide +kernel
theorem dX9_worth_41 : decode cX9_worth 41 = .ok (.aload_n 0, 1) := by decide +kernel
theorem dX9_worth_42 : decode cX9_worth 42 = .ok (.getfield 46, 3) := by decide +kernel
theorem dX9_worth_45 : decode cX9_worth 45 = .ok (.aload_n 0, 1) := by decide +kernel
theorem dX9_worth_46 : decode cX9_worth 46 = .ok (.iload_n 2, 1) := by decide +kernel
theorem dX9_worth_47 : decode cX9_worth 47 = .ok (.iconst (-1), 1) := by decide +kernel
theorem dX9_worth_48 : decode cX9_worth 48 = .ok (.invokevirtual 248, 3) := by decide +kernel
theorem dX9_worth_51 : decode cX9_worth 51 = .ok (.iaload, 1) := by decide +kernel
theorem dX9_worth_52 : decode cX9_worth 52 = .ok (.aload_n 0, 1) := by decide +kernel
theorem dX9_worth_53 : decode cX9_worth 53 = .ok (.getfield 46, 3) := by decide +kernel
theorem dX9_worth_56 : decode cX9_worth 56 = .ok (.aload_n 0, 1) := by decide +kernel
theorem dX9_worth_57 : decode cX9_worth 57 = .ok (.iload_n 2, 1) := by decide +kernel
theorem dX9_worth_58 : decode cX9_worth 58 = .ok (.iload_n 1, 1) := by decide +kernel
theorem dX9_worth_59 : decode cX9_worth 59 = .ok (.invokevirtual 248, 3) := by decide +kernel
theorem dX9_worth_62 : decode cX9_worth 62 = .ok (.iaload, 1) := by decide +kernel
theorem dX9_worth_63 : decode cX9_worth 63 = .ok (.isub, 1) := by decide +kernel
theorem dX9_worth_64 : decode cX9_worth 64 = .ok (.ireturn, 1) := by decide +kernel
theorem dX9_exchange_0 : decode cX9_exchange 0 = .ok (.aload_n 0, 1) := by decide +kernel
theorem dX9_exchange_1 : decode cX9_exchange 1 = .ok (.iconst 0, 1) := by decide +kernel
theorem dX9_exchange_2 : decode cX9_exchange 2 = .ok (.putfield 60, 3) := by decide +kernel
theorem dX9_exchange_5 : decode cX9_exchange 5 = .ok (.aload_n 0, 1) := by decide +kernel
theorem dX9_exchange_6 : decode cX9_exchange 6 = .ok (.iload_n 1, 1) := by decide +kernel
theorem dX9_exchange_7 : decode cX9_exchange 7 = .ok (.iconst 0, 1) := by decide +kernel
theorem dX9_exchange_8 : decode cX9_exchange 8 = .ok (.iconst 2, 1) := by decide +kernel
theorem dX9_exchange_9 : decode cX9_exchange 9 = .ok (.invokestatic 116, 3) := by decide +kernel
theorem dX9_exchange_12 : decode cX9_exchange 12 = .ok (.ifCond .ne 7, 3) := by decide +kernel
theorem dX9_exchange_15 : decode cX9_exchange 15 = .ok (.iconst 1, 1) := by decide +kernel
theorem dX9_exchange_16 : decode cX9_exchange 16 = .ok (.goto 4, 3) := by decide +kernel
theorem dX9_exchange_19 : decode cX9_exchange 19 = .ok (.iconst 0, 1) := by decide +kernel
theorem dX9_exchange_20 : decode cX9_exchange 20 = .ok (.iconst 1, 1) := by decide +kernel
theorem dX9_exchange_21 : decode cX9_exchange 21 = .ok (.iconst 1, 1) := by decide +kernel
theorem dX9_exchange_22 : decode cX9_exchange 22 = .ok (.invokevirtual 119, 3) := by decide +kernel
theorem dX9_exchange_25 : decode cX9_exchange 25 = .ok (.ifCond .eq 5, 3) := by decide +kernel
theorem dX9_exchange_28 : decode cX9_exchange 28 = .ok (.iconst 0, 1) := by decide +kernel
theorem dX9_exchange_29 : decode cX9_exchange 29 = .ok (.ireturn, 1) := by decide +kernel
theorem dX9_exchange_30 : decode cX9_exchange 30 = .ok (.aload_n 0, 1) := by decide +kernel
theorem dX9_exchange_31 : decode cX9_exchange 31 = .ok (.invokevirtual 245, 3) := by decide +kernel
theorem dX9_exchange_34 : decode cX9_exchange 34 = .ok (.iconst (-1), 1) := by decide +kernel
theorem dX9_exchange_35 : decode cX9_exchange 35 = .ok (.istore_n 2, 1) := by decide +kernel
theorem dX9_exchange_36 : decode cX9_exchange 36 = .ok (.iconst (-1), 1) := by decide +kernel
theorem dX9_exchange_37 : decode cX9_exchange 37 = .ok (.istore_n 3, 1) := by decide +kernel
theorem dX9_exchange_38 : decode cX9_exchange 38 = .ok (.aload_n 0, 1) := by decide +kernel
theorem dX9_exchange_39 : decode cX9_exchange 39 = .ok (.aload_n 0, 1) := by decide +kernel
theorem dX9_exchange_40 : decode cX9_exchange 40 = .ok (.invokevirtual 186, 3) := by decide +kernel
theorem dX9_exchange_43 : decode cX9_exchange 43 = .ok (.invokevirtual 196, 3) := by decide +kernel
theorem dX9_exchange_46 : decode cX9_exchange 46 = .ok (.istore 4, 2) := by decide +kernel
theorem dX9_exchange_48 : decode cX9_exchange 48 = .ok (.iconst 0, 1) := by decide +kernel
theorem dX9_exchange_49 : decode cX9_exchange 49 = .ok (.istore 5, 2) := by decide +kernel
theorem dX9_exchange_51 : decode cX9_exchange 51 = .ok (.iload 5, 2) := by decide +kernel
theorem dX9_exchange_53 : decode cX9_exchange 53 = .ok (.aload_n 0, 1) := by decide +kernel
theorem dX9_exchange_54 : decode cX9_exchange 54 = .ok (.invokevirtual 133, 3) := by decide +kernel
theorem dX9_exchange_57 : decode cX9_exchange 57 = .ok (.if_icmp .ge 122, 3) := by decide +kernel
theorem dX9_exchange_60 : decode cX9_exchange 60 = .ok (.iconst 0, 1) := by decide +kernel
theorem dX9_exchange_61 : decode cX9_exchange 61 = .ok (.istore 6, 2) := by decide +kernel
theorem dX9_exchange_63 : decode cX9_exchange 63 = .ok (.iload 6, 2) := by decide +kernel
theorem dX9_exchange_65 : decode cX9_exchange 65 = .ok (.aload_n 0, 1) := by decide +kernel
theorem dX9_exchange_66 : decode cX9_exchange 66 = .ok (.invokevirtual 133, 3) := by decide +kernel
theorem dX9_exchange_69 : decode cX9_exchange 69 = .ok (.if_icmp .ge 104, 3) := by decide +kernel
theorem dX9_exchange_72 : decode cX9_exchange 72 = .ok (.aload_n 0, 1) := by decide +kernel
theorem dX9_exchange_73 : decode cX9_exchange 73 = .ok (.invokevirtual 186, 3) := by decide +kernel
theorem dX9_exchange_76 : decode cX9_exchange 76 = .ok (.i2l, 1) := by decide +kernel
theorem dX9_exchange_77 : decode cX9_exchange 77 = .ok (.iload 5, 2) := by decide +kernel
theorem dX9_exchange_79 : decode cX9_exchange 79 = .ok (.invokestatic 140, 3) := by decide +kernel
theorem dX9_exchange_82 : decode cX9_exchange 82 = .ok (.ifCond .eq 85, 3) := by decide +kernel
theorem dX9_exchange_85 : decode cX9_exchange 85 = .ok (.aload_n 0, 1) := by decide +kernel
theorem dX9_exchange_86 : decode cX9_exchange 86 = .ok (.invokevirtual 186, 3) := by decide +kernel
theorem dX9_exchange_89 : decode cX9_exchange 89 = .ok (.i2l, 1) := by decide +kernel
theorem dX9_exchange_90 : decode cX9_exchange 90 = .ok (.iload 6, 2) := by decide +kernel
theorem dX9_exchange_92 : decode cX9_exchange 92 = .ok (.invokestatic 140, 3) := by decide +kernel
theorem dX9_exchange_95 : decode cX9_exchange 95 = .ok (.ifCond .eq 6, 3) := by decide +kernel
theorem dX9_exchange_98 : decode cX9_exchange 98 = .ok (.goto 69, 3) := by decide +kernel
theorem dX9_exchange_101 : decode cX9_exchange 101 = .ok (.aload_n 0, 1) := by decide +kernel
theorem dX9_exchange_102 : decode cX9_exchange 102 = .ok (.invokevirtual 186, 3) := by decide +kernel
theorem dX9_exchange_105 : decode cX9_exchange 105 = .ok (.iconst 1, 1) := by decide +kernel
theorem dX9_exchange_106 : decode cX9_exchange 106 = .ok (.iload 5, 2) := by decide +kernel
theorem dX9_exchange_108 : decode cX9_exchange 108 = .ok (.ishl, 1) := by decide +kernel
theorem dX9_exchange_109 : decode cX9_exchange 109 = .ok (.iconst (-1), 1) := by decide +kernel
theorem dX9_exchange_110 : decode cX9_exchange 110 = .ok (.ixor, 1) := by decide +kernel
theorem dX9_exchange_111 : decode cX9_exchange 111 = .ok (.iand, 1) := by decide +kernel
theorem dX9_exchange_112 : decode cX9_exchange 112 = .ok (.iconst 1, 1) := by decide +kernel
theorem dX9_exchange_113 : decode cX9_exchange 113 = .ok (.iload 6, 2) := by decide +kernel
theorem dX9_exchange_115 : decode cX9_exchange 115 = .ok (.ishl, 1) := by decide +kernel
theorem dX9_exchange_116 : decode cX9_exchange 116 = .ok (.ior, 1) := by decide +kernel
theorem dX9_exchange_117 : decode cX9_exchange 117 = .ok (.istore 7, 2) := by decide +kernel
theorem dX9_exchange_119 : decode cX9_exchange 119 = .ok (.aload_n 0, 1) := by decide +kernel
theorem dX9_exchange_120 : decode cX9_exchange 120 = .ok (.getfield 46, 3) := by decide +kernel
theorem dX9_exchange_123 : decode cX9_exchange 123 = .ok (.iload 7, 2) := by decide +kernel
theorem dX9_exchange_125 : decode cX9_exchange 125 = .ok (.iaload, 1) := by decide +kernel
theorem dX9_exchange_126 : decode cX9_exchange 126 = .ok (.iload 4, 2) := by decide +kernel
theorem dX9_exchange_128 : decode cX9_exchange 128 = .ok (.if_icmp .le 39, 3) := by decide +kernel
theorem dX9_exchange_131 : decode cX9_exchange 131 = .ok (.aload_n 0, 1) := by decide +kernel
theorem dX9_exchange_132 : decode cX9_exchange 132 = .ok (.getfield 49, 3) := by decide +kernel
theorem dX9_exchange_135 : decode cX9_exchange 135 = .ok (.iload 7, 2) := by decide +kernel
theorem dX9_exchange_137 : decode cX9_exchange 137 = .ok (.iaload, 1) := by decide +kernel
theorem dX9_exchange_138 : decode cX9_exchange 138 = .ok (.i2l, 1) := by decide +kernel
theorem dX9_exchange_139 : decode cX9_exchange 139 = .ok (.aload_n 0, 1) := by decide +kernel
theorem dX9_exchange_140 : decode cX9_exchange 140 = .ok (.getfield 20, 3) := by decide +kernel
theorem dX9_exchange_143 : decode cX9_exchange 143 = .ok (.iconst 2, 1) := by decide +kernel
theorem dX9_exchange_144 : decode cX9_exchange 144 = .ok (.laload, 1) := by decide +kernel
theorem dX9_exchange_145 : decode cX9_exchange 145 = .ok (.lcmp, 1) := by decide +kernel
theorem dX9_exchange_146 : decode cX9_exchange 146 = .ok (.ifCond .le 6, 3) := by decide +kernel
theorem dX9_exchange_149 : decode cX9_exchange 149 = .ok (.goto 18, 3) := by decide +kernel
theorem dX9_exchange_152 : decode cX9_exchange 152 = .ok (.aload_n 0, 1) := by decide +kernel
theorem dX9_exchange_153 : decode cX9_exchange 153 = .ok (.getfield 46, 3) := by decide +kernel
theorem dX9_exchange_156 : decode cX9_exchange 156 = .ok (.iload 7, 2) := by decide +kernel
theorem dX9_exchange_158 : decode cX9_exchange 158 = .ok (.iaload, 1) := by decide +kernel
theorem dX9_exchange_159 : decode cX9_exchange 159 = .ok (.istore 4, 2) := by decide +kernel
theorem dX9_exchange_161 : decode cX9_exchange 161 = .ok (.iload 5, 2) := by decide +kernel
theorem dX9_exchange_163 : decode cX9_exchange 163 = .ok (.istore_n 2, 1) := by decide +kernel
theorem dX9_exchange_164 : decode cX9_exchange 164 = .ok (.iload 6, 2) := by decide +kernel
theorem dX9_exchange_166 : decode cX9_exchange 166 = .ok (.istore_n 3, 1) := by decide +kernel
theorem dX9_exchange_167 : decode cX9_exchange 167 = .ok (.iinc 6 1, 3) := by decide +kernel
theorem dX9_exchange_170 : decode cX9_exchange 170 = .ok (.goto (-107), 3) := by decide +kernel
theorem dX9_exchange_173 : decode cX9_exchange 173 = .ok (.iinc 5 1, 3) := by decide +kernel
theorem dX9_exchange_176 : decode cX9_exchange 176 = .ok (.goto (-125), 3) := by decide +kernel
theorem dX9_exchange_179 : decode cX9_exchange 179 = .ok (.iload_n 2, 1) := by decide +kernel
theorem dX9_exchange_180 : decode cX9_exchange 180 = .ok (.iconst (-1), 1) := by decide +kernel
theorem dX9_exchange_181 : decode cX9_exchange 181 = .ok (.if_icmp .ne 7, 3) := by decide +kernel
theorem dX9_exchange_184 : decode cX9_exchange 184 = .ok (.iconst (-1), 1) := by decide +kernel
theorem dX9_exchange_185 : decode cX9_exchange 185 = .ok (.goto 22, 3) := by decide +kernel
theorem dX9_exchange_188 : decode cX9_exchange 188 = .ok (.iload_n 1, 1) := by decide +kernel
theorem dX9_exchange_189 : decode cX9_exchange 189 = .ok (.ifCond .ne 7, 3) := by decide +kernel
theorem dX9_exchange_192 : decode cX9_exchange 192 = .ok (.iload_n 2, 1) := by decide +kernel
theorem dX9_exchange_193 : decode cX9_exchange 193 = .ok (.goto 14, 3) := by decide +kernel
theorem dX9_exchange_196 : decode cX9_exchange 196 = .ok (.iload_n 1, 1) := by decide +kernel
theorem dX9_exchange_197 : decode cX9_exchange 197 = .ok (.iconst 1, 1) := by decide +kernel
theorem dX9_exchange_198 : decode cX9_exchange 198 = .ok (.if_icmp .ne 7, 3) := by decide +kernel
theorem dX9_exchange_201 : decode cX9_exchange 201 = .ok (.iload_n 3, 1) := by decide +kernel
theorem dX9_exchange_202 : decode cX9_exchange 202 = .ok (.goto 5, 3) := by decide +kernel
theorem dX9_exchange_205 : decode cX9_exchange 205 = .ok (.iload 4, 2) := by decide +kernel
theorem dX9_exchange_207 : decode cX9_exchange 207 = .ok (.ireturn, 1) := by decide +kernel
theorem dX9_next_0 : decode cX9_next 0 = .ok (.aload_n 0, 1) := by decide +kernel
theorem dX9_next_1 : decode cX9_next 1 = .ok (.iconst 0, 1) := by decide +kernel
theorem dX9_next_2 : decode cX9_next 2 = .ok (.putfield 60, 3) := by decide +kernel
theorem dX9_next_5 : decode cX9_next 5 = .ok (.aload_n 0, 1) := by decide +kernel
theorem dX9_next_6 : decode cX9_next 6 = .ok (.iload_n 1, 1) := by decide +kernel
theorem dX9_next_7 : decode cX9_next 7 = .ok (.iconst 0, 1) := by decide +kernel
theorem dX9_next_8 : decode cX9_next 8 = .ok (.sipush 9999, 3) := by decide +kernel
theorem dX9_next_11 : decode cX9_next 11 = .ok (.invokestatic 116, 3) := by decide +kernel
theorem dX9_next_14 : decode cX9_next 14 = .ok (.ifCond .ne 7, 3) := by decide +kernel
theorem dX9_next_17 : decode cX9_next 17 = .ok (.iconst 1, 1) := by decide +kernel
theorem dX9_next_18 : decode cX9_next 18 = .ok (.goto 4, 3) := by decide +kernel
theorem dX9_next_21 : decode cX9_next 21 = .ok (.iconst 0, 1) := by decide +kernel
theorem dX9_next_22 : decode cX9_next 22 = .ok (.iconst 1, 1) := by decide +kernel
theorem dX9_next_23 : decode cX9_next 23 = .ok (.iconst 1, 1) := by decide +kernel
theorem dX9_next_24 : decode cX9_next 24 = .ok (.invokevirtual 119, 3) := by decide +kernel
theorem dX9_next_27 : decode cX9_next 27 = .ok (.ifCond .eq 5, 3) := by decide +kernel
theorem dX9_next_30 : decode cX9_next 30 = .ok (.iconst 0, 1) := by decide +kernel
theorem dX9_next_31 : decode cX9_next 31 = .ok (.ireturn, 1) := by decide +kernel
theorem dX9_next_32 : decode cX9_next 32 = .ok (.aload_n 0, 1) := by decide +kernel
theorem dX9_next_33 : decode cX9_next 33 = .ok (.invokevirtual 245, 3) := by decide +kernel
theorem dX9_next_36 : decode cX9_next 36 = .ok (.aload_n 0, 1) := by decide +kernel
theorem dX9_next_37 : decode cX9_next 37 = .ok (.getfield 46, 3) := by decide +kernel
theorem dX9_next_40 : decode cX9_next 40 = .ok (.aload_n 0, 1) := by decide +kernel
theorem dX9_next_41 : decode cX9_next 41 = .ok (.iload_n 1, 1) := by decide +kernel
theorem dX9_next_42 : decode cX9_next 42 = .ok (.iconst (-1), 1) := by decide +kernel
theorem dX9_next_43 : decode cX9_next 43 = .ok (.invokevirtual 248, 3) := by decide +kernel
theorem dX9_next_46 : decode cX9_next 46 = .ok (.iaload, 1) := by decide +kernel
theorem dX9_next_47 : decode cX9_next 47 = .ok (.istore_n 2, 1) := by decide +kernel
theorem dX9_next_48 : decode cX9_next 48 = .ok (.iconst (-1), 1) := by decide +kernel
theorem dX9_next_49 : decode cX9_next 49 = .ok (.istore_n 3, 1) := by decide +kernel
theorem dX9_next_50 : decode cX9_next 50 = .ok (.iconst 0, 1) := by decide +kernel
theorem dX9_next_51 : decode cX9_next 51 = .ok (.istore 4, 2) := by decide +kernel
theorem dX9_next_53 : decode cX9_next 53 = .ok (.iload 4, 2) := by decide +kernel
theorem dX9_next_55 : decode cX9_next 55 = .ok (.iconst 1, 1) := by decide +kernel
theorem dX9_next_56 : decode cX9_next 56 = .ok (.aload_n 0, 1) := by decide +kernel
theorem dX9_next_57 : decode cX9_next 57 = .ok (.invokevirtual 133, 3) := by decide +kernel
theorem dX9_next_60 : decode cX9_next 60 = .ok (.ishl, 1) := by decide +kernel
theorem dX9_next_61 : decode cX9_next 61 = .ok (.if_icmp .ge 44, 3) := by decide +kernel
theorem dX9_next_64 : decode cX9_next 64 = .ok (.aload_n 0, 1) := by decide +kernel
theorem dX9_next_65 : decode cX9_next 65 = .ok (.getfield 46, 3) := by decide +kernel
theorem dX9_next_68 : decode cX9_next 68 = .ok (.iload 4, 2) := by decide +kernel
theorem dX9_next_70 : decode cX9_next 70 = .ok (.iaload, 1) := by decide +kernel
theorem dX9_next_71 : decode cX9_next 71 = .ok (.iload_n 2, 1) := by decide +kernel
theorem dX9_next_72 : decode cX9_next 72 = .ok (.if_icmp .le 27, 3) := by decide +kernel
theorem dX9_next_75 : decode cX9_next 75 = .ok (.iload_n 3, 1) := by decide +kernel
theorem dX9_next_76 : decode cX9_next 76 = .ok (.iconst (-1), 1) := by decide +kernel
theorem dX9_next_77 : decode cX9_next 77 = .ok (.if_icmp .eq 14, 3) := by decide +kernel
theorem dX9_next_80 : decode cX9_next 80 = .ok (.aload_n 0, 1) := by decide +kernel
theorem dX9_next_81 : decode cX9_next 81 = .ok (.getfield 49, 3) := by decide +kernel
theorem dX9_next_84 : decode cX9_next 84 = .ok (.iload 4, 2) := by decide +kernel
theorem dX9_next_86 : decode cX9_next 86 = .ok (.iaload, 1) := by decide +kernel
theorem dX9_next_87 : decode cX9_next 87 = .ok (.iload_n 3, 1) := by decide +kernel
theorem dX9_next_88 : decode cX9_next 88 = .ok (.if_icmp .ge 11, 3) := by decide +kernel
theorem dX9_next_91 : decode cX9_next 91 = .ok (.aload_n 0, 1) := by decide +kernel
theorem dX9_next_92 : decode cX9_next 92 = .ok (.getfield 49, 3) := by decide +kernel
theorem dX9_next_95 : decode cX9_next 95 = .ok (.iload 4, 2) := by decide +kernel
theorem dX9_next_97 : decode cX9_next 97 = .ok (.iaload, 1) := by decide +kernel
theorem dX9_next_98 : decode cX9_next 98 = .ok (.istore_n 3, 1) := by decide +kernel
theorem dX9_next_99 : decode cX9_next 99 = .ok (.iinc 4 1, 3) := by decide +kernel
theorem dX9_next_102 : decode cX9_next 102 = .ok (.goto (-49), 3) := by decide +kernel
theorem dX9_next_105 : decode cX9_next 105 = .ok (.iload_n 3, 1) := by decide +kernel
theorem dX9_next_106 : decode cX9_next 106 = .ok (.ireturn, 1) := by decide +kernel
theorem dX9_divisor_0 : decode cX9_divisor 0 = .ok (.iload_n 0, 1) := by decide +kernel
theorem dX9_divisor_1 : decode cX9_divisor 1 = .ok (.istore_n 2, 1) := by decide +kernel
theorem dX9_divisor_2 : decode cX9_divisor 2 = .ok (.iload_n 1, 1) := by decide +kernel
theorem dX9_divisor_3 : decode cX9_divisor 3 = .ok (.istore_n 3, 1) := by decide +kernel
theorem dX9_divisor_4 : decode cX9_divisor 4 = .ok (.iload_n 3, 1) := by decide +kernel
theorem dX9_divisor_5 : decode cX9_divisor 5 = .ok (.ifCond .eq 16, 3) := by decide +kernel
theorem dX9_divisor_8 : decode cX9_divisor 8 = .ok (.iload_n 2, 1) := by decide +kernel
theorem dX9_divisor_9 : decode cX9_divisor 9 = .ok (.iload_n 3, 1) := by decide +kernel
theorem dX9_divisor_10 : decode cX9_divisor 10 = .ok (.irem, 1) := by decide +kernel
theorem dX9_divisor_11 : decode cX9_divisor 11 = .ok (.istore 4, 2) := by decide +kernel
theorem dX9_divisor_13 : decode cX9_divisor 13 = .ok (.iload_n 3, 1) := by decide +kernel
theorem dX9_divisor_14 : decode cX9_divisor 14 = .ok (.istore_n 2, 1) := by decide +kernel
theorem dX9_divisor_15 : decode cX9_divisor 15 = .ok (.iload 4, 2) := by decide +kernel
theorem dX9_divisor_17 : decode cX9_divisor 17 = .ok (.istore_n 3, 1) := by decide +kernel
theorem dX9_divisor_18 : decode cX9_divisor 18 = .ok (.goto (-14), 3) := by decide +kernel
theorem dX9_divisor_21 : decode cX9_divisor 21 = .ok (.iload_n 2, 1) := by decide +kernel
theorem dX9_divisor_22 : decode cX9_divisor 22 = .ok (.ireturn, 1) := by decide +kernel
theorem dX9_likeness_0 : decode cX9_likeness 0 = .ok (.aload_n 0, 1) := by decide +kernel
theorem dX9_likeness_1 : decode cX9_likeness 1 = .ok (.iconst 0, 1) := by decide +kernel
theorem dX9_likeness_2 : decode cX9_likeness 2 = .ok (.putfield 60, 3) := by decide +kernel
theorem dX9_likeness_5 : decode cX9_likeness 5 = .ok (.aload_n 0, 1) := by decide +kernel
theorem dX9_likeness_6 : decode cX9_likeness 6 = .ok (.aload_n 0, 1) := by decide +kernel
theorem dX9_likeness_7 : decode cX9_likeness 7 = .ok (.iload_n 1, 1) := by decide +kernel
theorem dX9_likeness_8 : decode cX9_likeness 8 = .ok (.invokevirtual 183, 3) := by decide +kernel
theorem dX9_likeness_11 : decode cX9_likeness 11 = .ok (.ifCond .eq 11, 3) := by decide +kernel
theorem dX9_likeness_14 : decode cX9_likeness 14 = .ok (.aload_n 0, 1) := by decide +kernel
theorem dX9_likeness_15 : decode cX9_likeness 15 = .ok (.iload_n 2, 1) := by decide +kernel
theorem dX9_likeness_16 : decode cX9_likeness 16 = .ok (.invokevirtual 183, 3) := by decide +kernel
theorem dX9_likeness_19 : decode cX9_likeness 19 = .ok (.ifCond .ne 7, 3) := by decide +kernel
theorem dX9_likeness_22 : decode cX9_likeness 22 = .ok (.iconst 1, 1) := by decide +kernel
theorem dX9_likeness_23 : decode cX9_likeness 23 = .ok (.goto 4, 3) := by decide +kernel
theorem dX9_likeness_26 : decode cX9_likeness 26 = .ok (.iconst 0, 1) := by decide +kernel
theorem dX9_likeness_27 : decode cX9_likeness 27 = .ok (.iconst 1, 1) := by decide +kernel
theorem dX9_likeness_28 : decode cX9_likeness 28 = .ok (.iconst 0, 1) := by decide +kernel
theorem dX9_likeness_29 : decode cX9_likeness 29 = .ok (.invokevirtual 119, 3) := by decide +kernel
theorem dX9_likeness_32 : decode cX9_likeness 32 = .ok (.ifCond .ne 26, 3) := by decide +kernel
theorem dX9_likeness_35 : decode cX9_likeness 35 = .ok (.aload_n 0, 1) := by decide +kernel
theorem dX9_likeness_36 : decode cX9_likeness 36 = .ok (.iload_n 3, 1) := by decide +kernel
theorem dX9_likeness_37 : decode cX9_likeness 37 = .ok (.iconst 0, 1) := by decide +kernel
theorem dX9_likeness_38 : decode cX9_likeness 38 = .ok (.iconst 1, 1) := by decide +kernel
theorem dX9_likeness_39 : decode cX9_likeness 39 = .ok (.invokestatic 116, 3) := by decide +kernel
theorem dX9_likeness_42 : decode cX9_likeness 42 = .ok (.ifCond .ne 7, 3) := by decide +kernel
theorem dX9_likeness_45 : decode cX9_likeness 45 = .ok (.iconst 1, 1) := by decide +kernel
theorem dX9_likeness_46 : decode cX9_likeness 46 = .ok (.goto 4, 3) := by decide +kernel
theorem dX9_likeness_49 : decode cX9_likeness 49 = .ok (.iconst 0, 1) := by decide +kernel
theorem dX9_likeness_50 : decode cX9_likeness 50 = .ok (.iconst 2, 1) := by decide +kernel
theorem dX9_likeness_51 : decode cX9_likeness 51 = .ok (.iconst 1, 1) := by decide +kernel
theorem dX9_likeness_52 : decode cX9_likeness 52 = .ok (.invokevirtual 119, 3) := by decide +kernel
theorem dX9_likeness_55 : decode cX9_likeness 55 = .ok (.ifCond .eq 5, 3) := by decide +kernel
theorem dX9_likeness_58 : decode cX9_likeness 58 = .ok (.iconst 0, 1) := by decide +kernel
theorem dX9_likeness_59 : decode cX9_likeness 59 = .ok (.ireturn, 1) := by decide +kernel
theorem dX9_likeness_60 : decode cX9_likeness 60 = .ok (.aload_n 0, 1) := by decide +kernel
theorem dX9_likeness_61 : decode cX9_likeness 61 = .ok (.aload_n 0, 1) := by decide +kernel
theorem dX9_likeness_62 : decode cX9_likeness 62 = .ok (.iload_n 1, 1) := by decide +kernel
theorem dX9_likeness_63 : decode cX9_likeness 63 = .ok (.invokevirtual 136, 3) := by decide +kernel
theorem dX9_likeness_66 : decode cX9_likeness 66 = .ok (.aload_n 0, 1) := by decide +kernel
theorem dX9_likeness_67 : decode cX9_likeness 67 = .ok (.iload_n 2, 1) := by decide +kernel
theorem dX9_likeness_68 : decode cX9_likeness 68 = .ok (.invokevirtual 136, 3) := by decide +kernel
theorem dX9_likeness_71 : decode cX9_likeness 71 = .ok (.land, 1) := by decide +kernel
theorem dX9_likeness_72 : decode cX9_likeness 72 = .ok (.invokevirtual 156, 3) := by decide +kernel
theorem dX9_likeness_75 : decode cX9_likeness 75 = .ok (.istore 4, 2) := by decide +kernel
theorem dX9_likeness_77 : decode cX9_likeness 77 = .ok (.aload_n 0, 1) := by decide +kernel
theorem dX9_likeness_78 : decode cX9_likeness 78 = .ok (.aload_n 0, 1) := by decide +kernel
theorem dX9_likeness_79 : decode cX9_likeness 79 = .ok (.iload_n 1, 1) := by decide +kernel
theorem dX9_likeness_80 : decode cX9_likeness 80 = .ok (.invokevirtual 136, 3) := by decide +kernel
theorem dX9_likeness_83 : decode cX9_likeness 83 = .ok (.aload_n 0, 1) := by decide +kernel
theorem dX9_likeness_84 : decode cX9_likeness 84 = .ok (.iload_n 2, 1) := by decide +kernel
theorem dX9_likeness_85 : decode cX9_likeness 85 = .ok (.invokevirtual 136, 3) := by decide +kernel
theorem dX9_likeness_88 : decode cX9_likeness 88 = .ok (.lor, 1) := by decide +kernel
theorem dX9_likeness_89 : decode cX9_likeness 89 = .ok (.invokevirtual 156, 3) := by decide +kernel
theorem dX9_likeness_92 : decode cX9_likeness 92 = .ok (.istore 5, 2) := by decide +kernel
theorem dX9_likeness_94 : decode cX9_likeness 94 = .ok (.iload 4, 2) := by decide +kernel
theorem dX9_likeness_96 : decode cX9_likeness 96 = .ok (.ifCond .ne 5, 3) := by decide +kernel
theorem dX9_likeness_99 : decode cX9_likeness 99 = .ok (.iload_n 3, 1) := by decide +kernel
theorem dX9_likeness_100 : decode cX9_likeness 100 = .ok (.ireturn, 1) := by decide +kernel
theorem dX9_likeness_101 : decode cX9_likeness 101 = .ok (.iload_n 3, 1) := by decide +kernel
theorem dX9_likeness_102 : decode cX9_likeness 102 = .ok (.ifCond .ne 8, 3) := by decide +kernel
theorem dX9_likeness_105 : decode cX9_likeness 105 = .ok (.iload 4, 2) := by decide +kernel
theorem dX9_likeness_107 : decode cX9_likeness 107 = .ok (.goto 5, 3) := by decide +kernel
theorem dX9_likeness_110 : decode cX9_likeness 110 = .ok (.iload 5, 2) := by decide +kernel
theorem dX9_likeness_112 : decode cX9_likeness 112 = .ok (.iload 4, 2) := by decide +kernel
theorem dX9_likeness_114 : decode cX9_likeness 114 = .ok (.iload 5, 2) := by decide +kernel
theorem dX9_likeness_116 : decode cX9_likeness 116 = .ok (.invokestatic 251, 3) := by decide +kernel
theorem dX9_likeness_119 : decode cX9_likeness 119 = .ok (.idiv, 1) := by decide +kernel
theorem dX9_likeness_120 : decode cX9_likeness 120 = .ok (.ireturn, 1) := by decide +kernel
theorem dX9_print_0 : decode cX9_print 0 = .ok (.aload_n 0, 1) := by decide +kernel
theorem dX9_print_1 : decode cX9_print 1 = .ok (.iconst 0, 1) := by decide +kernel
theorem dX9_print_2 : decode cX9_print 2 = .ok (.putfield 60, 3) := by decide +kernel
theorem dX9_print_5 : decode cX9_print 5 = .ok (.lconst 0, 1) := by decide +kernel
theorem dX9_print_6 : decode cX9_print 6 = .ok (.lstore_n 1, 1) := by decide +kernel
theorem dX9_print_7 : decode cX9_print 7 = .ok (.iconst 0, 1) := by decide +kernel
theorem dX9_print_8 : decode cX9_print 8 = .ok (.istore_n 3, 1) := by decide +kernel
theorem dX9_print_9 : decode cX9_print 9 = .ok (.iload_n 3, 1) := by decide +kernel
theorem dX9_print_10 : decode cX9_print 10 = .ok (.aload_n 0, 1) := by decide +kernel
theorem dX9_print_11 : decode cX9_print 11 = .ok (.invokevirtual 133, 3) := by decide +kernel
theorem dX9_print_14 : decode cX9_print 14 = .ok (.if_icmp .ge 41, 3) := by decide +kernel
theorem dX9_print_17 : decode cX9_print 17 = .ok (.ldc2_w 254, 3) := by decide +kernel
theorem dX9_print_20 : decode cX9_print 20 = .ok (.ldc2_w 254, 3) := by decide +kernel
theorem dX9_print_23 : decode cX9_print 23 = .ok (.lload_n 1, 1) := by decide +kernel
theorem dX9_print_24 : decode cX9_print 24 = .ok (.lmul, 1) := by decide +kernel
theorem dX9_print_25 : decode cX9_print 25 = .ok (.aload_n 0, 1) := by decide +kernel
theorem dX9_print_26 : decode cX9_print 26 = .ok (.aload_n 0, 1) := by decide +kernel
theorem dX9_print_27 : decode cX9_print 27 = .ok (.iload_n 3, 1) := by decide +kernel
theorem dX9_print_28 : decode cX9_print 28 = .ok (.invokevirtual 136, 3) := by decide +kernel
theorem dX9_print_31 : decode cX9_print 31 = .ok (.invokevirtual 156, 3) := by decide +kernel
theorem dX9_print_34 : decode cX9_print 34 = .ok (.i2l, 1) := by decide +kernel
theorem dX9_print_35 : decode cX9_print 35 = .ok (.ladd, 1) := by decide +kernel
theorem dX9_print_36 : decode cX9_print 36 = .ok (.lmul, 1) := by decide +kernel
theorem dX9_print_37 : decode cX9_print 37 = .ok (.aload_n 0, 1) := by decide +kernel
theorem dX9_print_38 : decode cX9_print 38 = .ok (.aload_n 0, 1) := by decide +kernel
theorem dX9_print_39 : decode cX9_print 39 = .ok (.invokevirtual 186, 3) := by decide +kernel
theorem dX9_print_42 : decode cX9_print 42 = .ok (.iload_n 3, 1) := by decide +kernel
theorem dX9_print_43 : decode cX9_print 43 = .ok (.invokevirtual 193, 3) := by decide +kernel
theorem dX9_print_46 : decode cX9_print 46 = .ok (.i2l, 1) := by decide +kernel
theorem dX9_print_47 : decode cX9_print 47 = .ok (.ladd, 1) := by decide +kernel
theorem dX9_print_48 : decode cX9_print 48 = .ok (.lstore_n 1, 1) := by decide +kernel
theorem dX9_print_49 : decode cX9_print 49 = .ok (.iinc 3 1, 3) := by decide +kernel
theorem dX9_print_52 : decode cX9_print 52 = .ok (.goto (-43), 3) := by decide +kernel
theorem dX9_print_55 : decode cX9_print 55 = .ok (.lload_n 1, 1) := by decide +kernel
theorem dX9_print_56 : decode cX9_print 56 = .ok (.lreturn, 1) := by decide +kernel
theorem dX9_status_0 : decode cX9_status 0 = .ok (.aload_n 0, 1) := by decide +kernel
theorem dX9_status_1 : decode cX9_status 1 = .ok (.iconst 0, 1) := by decide +kernel
theorem dX9_status_2 : decode cX9_status 2 = .ok (.putfield 60, 3) := by decide +kernel
theorem dX9_status_5 : decode cX9_status 5 = .ok (.iload_n 1, 1) := by decide +kernel
theorem dX9_status_6 : decode cX9_status 6 = .ok (.iconst 0, 1) := by decide +kernel
theorem dX9_status_7 : decode cX9_status 7 = .ok (.iconst 2, 1) := by decide +kernel
theorem dX9_status_8 : decode cX9_status 8 = .ok (.invokestatic 116, 3) := by decide +kernel
theorem dX9_status_11 : decode cX9_status 11 = .ok (.ifCond .eq 12, 3) := by decide +kernel
theorem dX9_status_14 : decode cX9_status 14 = .ok (.aload_n 0, 1) := by decide +kernel
theorem dX9_status_15 : decode cX9_status 15 = .ok (.getfield 9, 3) := by decide +kernel
theorem dX9_status_18 : decode cX9_status 18 = .ok (.iload_n 1, 1) := by decide +kernel
theorem dX9_status_19 : decode cX9_status 19 = .ok (.iaload, 1) := by decide +kernel
theorem dX9_status_20 : decode cX9_status 20 = .ok (.goto 4, 3) := by decide +kernel
theorem dX9_status_23 : decode cX9_status 23 = .ok (.iconst (-1), 1) := by decide +kernel
theorem dX9_status_24 : decode cX9_status 24 = .ok (.ireturn, 1) := by decide +kernel
end
section
theorem dL_text_0 : decode cL_text 0 = .ok (.aload_n 2, 1) := by decide +kernel
theorem dL_text_1 : decode cL_text 1 = .ok (.iconst 0, 1) := by decide +kernel
theorem dL_text_2 : decode cL_text 2 = .ok (.aload_n 0, 1) := by decide +kernel
theorem dL_text_3 : decode cL_text 3 = .ok (.iload_n 1, 1) := by decide +kernel
theorem dL_text_4 : decode cL_text 4 = .ok (.invokevirtual 7, 3) := by decide +kernel
theorem dL_text_7 : decode cL_text 7 = .ok (.i2l, 1) := by decide +kernel
theorem dL_text_8 : decode cL_text 8 = .ok (.lastore, 1) := by decide +kernel
theorem dL_text_9 : decode cL_text 9 = .ok (.goto 6, 3) := by decide +kernel
theorem dL_text_12 : decode cL_text 12 = .ok (.astore_n 3, 1) := by decide +kernel
theorem dL_text_13 : decode cL_text 13 = .ok (.iconst 1, 1) := by decide +kernel
theorem dL_text_14 : decode cL_text 14 = .ok (.ireturn, 1) := by decide +kernel
theorem dL_text_15 : decode cL_text 15 = .ok (.iconst 0, 1) := by decide +kernel
theorem dL_text_16 : decode cL_text 16 = .ok (.ireturn, 1) := by decide +kernel
theorem dL_weigh_0 : decode cL_weigh 0 = .ok (.aload_n 3, 1) := by decide +kernel
theorem dL_weigh_1 : decode cL_weigh 1 = .ok (.iconst 0, 1) := by decide +kernel
theorem dL_weigh_2 : decode cL_weigh 2 = .ok (.aload_n 0, 1) := by decide +kernel
theorem dL_weigh_3 : decode cL_weigh 3 = .ok (.iload_n 1, 1) := by decide +kernel
theorem dL_weigh_4 : decode cL_weigh 4 = .ok (.iload_n 2, 1) := by decide +kernel
theorem dL_weigh_5 : decode cL_weigh 5 = .ok (.invokevirtual 15, 3) := by decide +kernel
theorem dL_weigh_8 : decode cL_weigh 8 = .ok (.i2l, 1) := by decide +kernel
theorem dL_weigh_9 : decode cL_weigh 9 = .ok (.lastore, 1) := by decide +kernel
theorem dL_weigh_10 : decode cL_weigh 10 = .ok (.goto 11, 3) := by decide +kernel
theorem dL_weigh_13 : decode cL_weigh 13 = .ok (.astore 4, 2) := by decide +kernel
theorem dL_weigh_15 : decode cL_weigh 15 = .ok (.iconst 1, 1) := by decide +kernel
theorem dL_weigh_16 : decode cL_weigh 16 = .ok (.ireturn, 1) := by decide +kernel
theorem dL_weigh_17 : decode cL_weigh 17 = .ok (.astore 4, 2) := by decide +kernel
theorem dL_weigh_19 : decode cL_weigh 19 = .ok (.iconst 2, 1) := by decide +kernel
theorem dL_weigh_20 : decode cL_weigh 20 = .ok (.ireturn, 1) := by decide +kernel
theorem dL_weigh_21 : decode cL_weigh 21 = .ok (.iconst 0, 1) := by decide +kernel
theorem dL_weigh_22 : decode cL_weigh 22 = .ok (.ireturn, 1) := by decide +kernel
theorem dL_lean_0 : decode cL_lean 0 = .ok (.aload_n 3, 1) := by decide +kernel
theorem dL_lean_1 : decode cL_lean 1 = .ok (.iconst 0, 1) := by decide +kernel
theorem dL_lean_2 : decode cL_lean 2 = .ok (.aload_n 0, 1) := by decide +kernel
theorem dL_lean_3 : decode cL_lean 3 = .ok (.iload_n 1, 1) := by decide +kernel
theorem dL_lean_4 : decode cL_lean 4 = .ok (.iload_n 2, 1) := by decide +kernel
theorem dL_lean_5 : decode cL_lean 5 = .ok (.invokevirtual 21, 3) := by decide +kernel
theorem dL_lean_8 : decode cL_lean 8 = .ok (.i2l, 1) := by decide +kernel
theorem dL_lean_9 : decode cL_lean 9 = .ok (.lastore, 1) := by decide +kernel
theorem dL_lean_10 : decode cL_lean 10 = .ok (.goto 7, 3) := by decide +kernel
theorem dL_lean_13 : decode cL_lean 13 = .ok (.astore 4, 2) := by decide +kernel
theorem dL_lean_15 : decode cL_lean 15 = .ok (.iconst 1, 1) := by decide +kernel
theorem dL_lean_16 : decode cL_lean 16 = .ok (.ireturn, 1) := by decide +kernel
theorem dL_lean_17 : decode cL_lean 17 = .ok (.iconst 0, 1) := by decide +kernel
theorem dL_lean_18 : decode cL_lean 18 = .ok (.ireturn, 1) := by decide +kernel
theorem dL_budget_0 : decode cL_budget 0 = .ok (.aload_n 2, 1) := by decide +kernel
theorem dL_budget_1 : decode cL_budget 1 = .ok (.iconst 0, 1) := by decide +kernel
theorem dL_budget_2 : decode cL_budget 2 = .ok (.aload_n 0, 1) := by decide +kernel
theorem dL_budget_3 : decode cL_budget 3 = .ok (.iload_n 1, 1) := by decide +kernel
theorem dL_budget_4 : decode cL_budget 4 = .ok (.invokevirtual 25, 3) := by decide +kernel
theorem dL_budget_7 : decode cL_budget 7 = .ok (.i2l, 1) := by decide +kernel
theorem dL_budget_8 : decode cL_budget 8 = .ok (.lastore, 1) := by decide +kernel
theorem dL_budget_9 : decode cL_budget 9 = .ok (.goto 6, 3) := by decide +kernel
theorem dL_budget_12 : decode cL_budget 12 = .ok (.astore_n 3, 1) := by decide +kernel
theorem dL_budget_13 : decode cL_budget 13 = .ok (.iconst 1, 1) := by decide +kernel
theorem dL_budget_14 : decode cL_budget 14 = .ok (.ireturn, 1) := by decide +kernel
theorem dL_budget_15 : decode cL_budget 15 = .ok (.iconst 0, 1) := by decide +kernel
theorem dL_budget_16 : decode cL_budget 16 = .ok (.ireturn, 1) := by decide +kernel
theorem dL_take_0 : decode cL_take 0 = .ok (.aload_n 2, 1) := by decide +kernel
theorem dL_take_1 : decode cL_take 1 = .ok (.iconst 0, 1) := by decide +kernel
theorem dL_take_2 : decode cL_take 2 = .ok (.aload_n 0, 1) := by decide +kernel
theorem dL_take_3 : decode cL_take 3 = .ok (.iload_n 1, 1) := by decide +kernel
theorem dL_take_4 : decode cL_take 4 = .ok (.invokevirtual 28, 3) := by decide +kernel
theorem dL_take_7 : decode cL_take 7 = .ok (.i2l, 1) := by decide +kernel
theorem dL_take_8 : decode cL_take 8 = .ok (.lastore, 1) := by decide +kernel
theorem dL_take_9 : decode cL_take 9 = .ok (.goto 9, 3) := by decide +kernel
theorem dL_take_12 : decode cL_take 12 = .ok (.astore_n 3, 1) := by decide +kernel
theorem dL_take_13 : decode cL_take 13 = .ok (.iconst 1, 1) := by decide +kernel
theorem dL_take_14 : decode cL_take 14 = .ok (.ireturn, 1) := by decide +kernel
theorem dL_take_15 : decode cL_take 15 = .ok (.astore_n 3, 1) := by decide +kernel
theorem dL_take_16 : decode cL_take 16 = .ok (.iconst 2, 1) := by decide +kernel
theorem dL_take_17 : decode cL_take 17 = .ok (.ireturn, 1) := by decide +kernel
theorem dL_take_18 : decode cL_take 18 = .ok (.iconst 0, 1) := by decide +kernel
theorem dL_take_19 : decode cL_take 19 = .ok (.ireturn, 1) := by decide +kernel
theorem dL_drop_0 : decode cL_drop 0 = .ok (.aload_n 2, 1) := by decide +kernel
theorem dL_drop_1 : decode cL_drop 1 = .ok (.iconst 0, 1) := by decide +kernel
theorem dL_drop_2 : decode cL_drop 2 = .ok (.aload_n 0, 1) := by decide +kernel
theorem dL_drop_3 : decode cL_drop 3 = .ok (.iload_n 1, 1) := by decide +kernel
theorem dL_drop_4 : decode cL_drop 4 = .ok (.invokevirtual 33, 3) := by decide +kernel
theorem dL_drop_7 : decode cL_drop 7 = .ok (.i2l, 1) := by decide +kernel
theorem dL_drop_8 : decode cL_drop 8 = .ok (.lastore, 1) := by decide +kernel
theorem dL_drop_9 : decode cL_drop 9 = .ok (.goto 9, 3) := by decide +kernel
theorem dL_drop_12 : decode cL_drop 12 = .ok (.astore_n 3, 1) := by decide +kernel
theorem dL_drop_13 : decode cL_drop 13 = .ok (.iconst 1, 1) := by decide +kernel
theorem dL_drop_14 : decode cL_drop 14 = .ok (.ireturn, 1) := by decide +kernel
theorem dL_drop_15 : decode cL_drop 15 = .ok (.astore_n 3, 1) := by decide +kernel
theorem dL_drop_16 : decode cL_drop 16 = .ok (.iconst 2, 1) := by decide +kernel
theorem dL_drop_17 : decode cL_drop 17 = .ok (.ireturn, 1) := by decide +kernel
theorem dL_drop_18 : decode cL_drop 18 = .ok (.iconst 0, 1) := by decide +kernel
theorem dL_drop_19 : decode cL_drop 19 = .ok (.ireturn, 1) := by decide +kernel
theorem dL_told_0 : decode cL_told 0 = .ok (.aload_n 2, 1) := by decide +kernel
theorem dL_told_1 : decode cL_told 1 = .ok (.iconst 0, 1) := by decide +kernel
theorem dL_told_2 : decode cL_told 2 = .ok (.aload_n 0, 1) := by decide +kernel
theorem dL_told_3 : decode cL_told 3 = .ok (.iload_n 1, 1) := by decide +kernel
theorem dL_told_4 : decode cL_told 4 = .ok (.invokevirtual 36, 3) := by decide +kernel
theorem dL_told_7 : decode cL_told 7 = .ok (.i2l, 1) := by decide +kernel
theorem dL_told_8 : decode cL_told 8 = .ok (.lastore, 1) := by decide +kernel
theorem dL_told_9 : decode cL_told 9 = .ok (.goto 6, 3) := by decide +kernel
theorem dL_told_12 : decode cL_told 12 = .ok (.astore_n 3, 1) := by decide +kernel
theorem dL_told_13 : decode cL_told 13 = .ok (.iconst 1, 1) := by decide +kernel
theorem dL_told_14 : decode cL_told 14 = .ok (.ireturn, 1) := by decide +kernel
theorem dL_told_15 : decode cL_told 15 = .ok (.iconst 0, 1) := by decide +kernel
theorem dL_told_16 : decode cL_told 16 = .ok (.ireturn, 1) := by decide +kernel
theorem dL_sentence_0 : decode cL_sentence 0 = .ok (.aload_n 3, 1) := by decide +kernel
theorem dL_sentence_1 : decode cL_sentence 1 = .ok (.iconst 0, 1) := by decide +kernel
theorem dL_sentence_2 : decode cL_sentence 2 = .ok (.aload_n 0, 1) := by decide +kernel
theorem dL_sentence_3 : decode cL_sentence 3 = .ok (.iload_n 1, 1) := by decide +kernel
theorem dL_sentence_4 : decode cL_sentence 4 = .ok (.iload_n 2, 1) := by decide +kernel
theorem dL_sentence_5 : decode cL_sentence 5 = .ok (.invokevirtual 39, 3) := by decide +kernel
theorem dL_sentence_8 : decode cL_sentence 8 = .ok (.i2l, 1) := by decide +kernel
theorem dL_sentence_9 : decode cL_sentence 9 = .ok (.lastore, 1) := by decide +kernel
theorem dL_sentence_10 : decode cL_sentence 10 = .ok (.goto 11, 3) := by decide +kernel
theorem dL_sentence_13 : decode cL_sentence 13 = .ok (.astore 4, 2) := by decide +kernel
theorem dL_sentence_15 : decode cL_sentence 15 = .ok (.iconst 1, 1) := by decide +kernel
theorem dL_sentence_16 : decode cL_sentence 16 = .ok (.ireturn, 1) := by decide +kernel
theorem dL_sentence_17 : decode cL_sentence 17 = .ok (.astore 4, 2) := by decide +kernel
theorem dL_sentence_19 : decode cL_sentence 19 = .ok (.iconst 2, 1) := by decide +kernel
theorem dL_sentence_20 : decode cL_sentence 20 = .ok (.ireturn, 1) := by decide +kernel
theorem dL_sentence_21 : decode cL_sentence 21 = .ok (.iconst 0, 1) := by decide +kernel
theorem dL_sentence_22 : decode cL_sentence 22 = .ok (.ireturn, 1) := by decide +kernel
theorem dL_words_0 : decode cL_words 0 = .ok (.aload_n 2, 1) := by decide +kernel
theorem dL_words_1 : decode cL_words 1 = .ok (.iconst 0, 1) := by decide +kernel
theorem dL_words_2 : decode cL_words 2 = .ok (.aload_n 0, 1) := by decide +kernel
theorem dL_words_3 : decode cL_words 3 = .ok (.iload_n 1, 1) := by decide +kernel
theorem dL_words_4 : decode cL_words 4 = .ok (.invokevirtual 42, 3) := by decide +kernel
theorem dL_words_7 : decode cL_words 7 = .ok (.lastore, 1) := by decide +kernel
theorem dL_words_8 : decode cL_words 8 = .ok (.goto 6, 3) := by decide +kernel
theorem dL_words_11 : decode cL_words 11 = .ok (.astore_n 3, 1) := by decide +kernel
theorem dL_words_12 : decode cL_words 12 = .ok (.iconst 1, 1) := by decide +kernel
theorem dL_words_13 : decode cL_words 13 = .ok (.ireturn, 1) := by decide +kernel
theorem dL_words_14 : decode cL_words 14 = .ok (.iconst 0, 1) := by decide +kernel
theorem dL_words_15 : decode cL_words 15 = .ok (.ireturn, 1) := by decide +kernel
theorem dL_word_0 : decode cL_word 0 = .ok (.aload_n 3, 1) := by decide +kernel
theorem dL_word_1 : decode cL_word 1 = .ok (.iconst 0, 1) := by decide +kernel
theorem dL_word_2 : decode cL_word 2 = .ok (.aload_n 0, 1) := by decide +kernel
theorem dL_word_3 : decode cL_word 3 = .ok (.iload_n 1, 1) := by decide +kernel
theorem dL_word_4 : decode cL_word 4 = .ok (.iload_n 2, 1) := by decide +kernel
theorem dL_word_5 : decode cL_word 5 = .ok (.invokevirtual 46, 3) := by decide +kernel
theorem dL_word_8 : decode cL_word 8 = .ok (.i2l, 1) := by decide +kernel
theorem dL_word_9 : decode cL_word 9 = .ok (.lastore, 1) := by decide +kernel
theorem dL_word_10 : decode cL_word 10 = .ok (.goto 11, 3) := by decide +kernel
theorem dL_word_13 : decode cL_word 13 = .ok (.astore 4, 2) := by decide +kernel
theorem dL_word_15 : decode cL_word 15 = .ok (.iconst 1, 1) := by decide +kernel
theorem dL_word_16 : decode cL_word 16 = .ok (.ireturn, 1) := by decide +kernel
theorem dL_word_17 : decode cL_word 17 = .ok (.astore 4, 2) := by decide +kernel
theorem dL_word_19 : decode cL_word 19 = .ok (.iconst 2, 1) := by decide +kernel
theorem dL_word_20 : decode cL_word 20 = .ok (.ireturn, 1) := by decide +kernel
theorem dL_word_21 : decode cL_word 21 = .ok (.iconst 0, 1) := by decide +kernel
theorem dL_word_22 : decode cL_word 22 = .ok (.ireturn, 1) := by decide +kernel
theorem dL_letter_0 : decode cL_letter 0 = .ok (.aload_n 3, 1) := by decide +kernel
theorem dL_letter_1 : decode cL_letter 1 = .ok (.iconst 0, 1) := by decide +kernel
theorem dL_letter_2 : decode cL_letter 2 = .ok (.aload_n 0, 1) := by decide +kernel
theorem dL_letter_3 : decode cL_letter 3 = .ok (.iload_n 1, 1) := by decide +kernel
theorem dL_letter_4 : decode cL_letter 4 = .ok (.iload_n 2, 1) := by decide +kernel
theorem dL_letter_5 : decode cL_letter 5 = .ok (.invokevirtual 49, 3) := by decide +kernel
theorem dL_letter_8 : decode cL_letter 8 = .ok (.i2l, 1) := by decide +kernel
theorem dL_letter_9 : decode cL_letter 9 = .ok (.lastore, 1) := by decide +kernel
theorem dL_letter_10 : decode cL_letter 10 = .ok (.goto 7, 3) := by decide +kernel
theorem dL_letter_13 : decode cL_letter 13 = .ok (.astore 4, 2) := by decide +kernel
theorem dL_letter_15 : decode cL_letter 15 = .ok (.iconst 1, 1) := by decide +kernel
theorem dL_letter_16 : decode cL_letter 16 = .ok (.ireturn, 1) := by decide +kernel
theorem dL_letter_17 : decode cL_letter 17 = .ok (.iconst 0, 1) := by decide +kernel
theorem dL_letter_18 : decode cL_letter 18 = .ok (.ireturn, 1) := by decide +kernel
theorem dL_greedy_0 : decode cL_greedy 0 = .ok (.aload_n 3, 1) := by decide +kernel
theorem dL_greedy_1 : decode cL_greedy 1 = .ok (.iconst 0, 1) := by decide +kernel
theorem dL_greedy_2 : decode cL_greedy 2 = .ok (.aload_n 0, 1) := by decide +kernel
theorem dL_greedy_3 : decode cL_greedy 3 = .ok (.iload_n 1, 1) := by decide +kernel
theorem dL_greedy_4 : decode cL_greedy 4 = .ok (.iload_n 2, 1) := by decide +kernel
theorem dL_greedy_5 : decode cL_greedy 5 = .ok (.invokevirtual 52, 3) := by decide +kernel
theorem dL_greedy_8 : decode cL_greedy 8 = .ok (.i2l, 1) := by decide +kernel
theorem dL_greedy_9 : decode cL_greedy 9 = .ok (.lastore, 1) := by decide +kernel
theorem dL_greedy_10 : decode cL_greedy 10 = .ok (.goto 7, 3) := by decide +kernel
theorem dL_greedy_13 : decode cL_greedy 13 = .ok (.astore 4, 2) := by decide +kernel
theorem dL_greedy_15 : decode cL_greedy 15 = .ok (.iconst 1, 1) := by decide +kernel
theorem dL_greedy_16 : decode cL_greedy 16 = .ok (.ireturn, 1) := by decide +kernel
theorem dL_greedy_17 : decode cL_greedy 17 = .ok (.iconst 0, 1) := by decide +kernel
theorem dL_greedy_18 : decode cL_greedy 18 = .ok (.ireturn, 1) := by decide +kernel
theorem dL_step_0 : decode cL_step 0 = .ok (.aload_n 3, 1) := by decide +kernel
theorem dL_step_1 : decode cL_step 1 = .ok (.iconst 0, 1) := by decide +kernel
theorem dL_step_2 : decode cL_step 2 = .ok (.aload_n 0, 1) := by decide +kernel
theorem dL_step_3 : decode cL_step 3 = .ok (.iload_n 1, 1) := by decide +kernel
theorem dL_step_4 : decode cL_step 4 = .ok (.iload_n 2, 1) := by decide +kernel
theorem dL_step_5 : decode cL_step 5 = .ok (.invokevirtual 55, 3) := by decide +kernel
theorem dL_step_8 : decode cL_step 8 = .ok (.i2l, 1) := by decide +kernel
theorem dL_step_9 : decode cL_step 9 = .ok (.lastore, 1) := by decide +kernel
theorem dL_step_10 : decode cL_step 10 = .ok (.goto 11, 3) := by decide +kernel
theorem dL_step_13 : decode cL_step 13 = .ok (.astore 4, 2) := by decide +kernel
theorem dL_step_15 : decode cL_step 15 = .ok (.iconst 1, 1) := by decide +kernel
theorem dL_step_16 : decode cL_step 16 = .ok (.ireturn, 1) := by decide +kernel
theorem dL_step_17 : decode cL_step 17 = .ok (.astore 4, 2) := by decide +kernel
theorem dL_step_19 : decode cL_step 19 = .ok (.iconst 2, 1) := by decide +kernel
theorem dL_step_20 : decode cL_step 20 = .ok (.ireturn, 1) := by decide +kernel
theorem dL_step_21 : decode cL_step 21 = .ok (.iconst 0, 1) := by decide +kernel
theorem dL_step_22 : decode cL_step 22 = .ok (.ireturn, 1) := by decide +kernel
theorem dL_lazy_0 : decode cL_lazy 0 = .ok (.aload_n 2, 1) := by decide +kernel
theorem dL_lazy_1 : decode cL_lazy 1 = .ok (.iconst 0, 1) := by decide +kernel
theorem dL_lazy_2 : decode cL_lazy 2 = .ok (.aload_n 0, 1) := by decide +kernel
theorem dL_lazy_3 : decode cL_lazy 3 = .ok (.iload_n 1, 1) := by decide +kernel
theorem dL_lazy_4 : decode cL_lazy 4 = .ok (.invokevirtual 58, 3) := by decide +kernel
theorem dL_lazy_7 : decode cL_lazy 7 = .ok (.i2l, 1) := by decide +kernel
theorem dL_lazy_8 : decode cL_lazy 8 = .ok (.lastore, 1) := by decide +kernel
theorem dL_lazy_9 : decode cL_lazy 9 = .ok (.goto 6, 3) := by decide +kernel
theorem dL_lazy_12 : decode cL_lazy 12 = .ok (.astore_n 3, 1) := by decide +kernel
theorem dL_lazy_13 : decode cL_lazy 13 = .ok (.iconst 1, 1) := by decide +kernel
theorem dL_lazy_14 : decode cL_lazy 14 = .ok (.ireturn, 1) := by decide +kernel
theorem dL_lazy_15 : decode cL_lazy 15 = .ok (.iconst 0, 1) := by decide +kernel
theorem dL_lazy_16 : decode cL_lazy 16 = .ok (.ireturn, 1) := by decide +kernel
theorem dL_bound_0 : decode cL_bound 0 = .ok (.aload_n 2, 1) := by decide +kernel
theorem dL_bound_1 : decode cL_bound 1 = .ok (.iconst 0, 1) := by decide +kernel
theorem dL_bound_2 : decode cL_bound 2 = .ok (.aload_n 0, 1) := by decide +kernel
theorem dL_bound_3 : decode cL_bound 3 = .ok (.iload_n 1, 1) := by decide +kernel
theorem dL_bound_4 : decode cL_bound 4 = .ok (.invokevirtual 61, 3) := by decide +kernel
theorem dL_bound_7 : decode cL_bound 7 = .ok (.i2l, 1) := by decide +kernel
theorem dL_bound_8 : decode cL_bound 8 = .ok (.lastore, 1) := by decide +kernel
theorem dL_bound_9 : decode cL_bound 9 = .ok (.goto 6, 3) := by decide +kernel
theorem dL_bound_12 : decode cL_bound 12 = .ok (.astore_n 3, 1) := by decide +kernel
theorem dL_bound_13 : decode cL_bound 13 = .ok (.iconst 1, 1) := by decide +kernel
theorem dL_bound_14 : decode cL_bound 14 = .ok (.ireturn, 1) := by decide +kernel
theorem dL_bound_15 : decode cL_bound 15 = .ok (.iconst 0, 1) := by decide +kernel
theorem dL_bound_16 : decode cL_bound 16 = .ok (.ireturn, 1) := by decide +kernel
theorem dL_best_0 : decode cL_best 0 = .ok (.aload_n 3, 1) := by decide +kernel
theorem dL_best_1 : decode cL_best 1 = .ok (.iconst 0, 1) := by decide +kernel
theorem dL_best_2 : decode cL_best 2 = .ok (.aload_n 0, 1) := by decide +kernel
theorem dL_best_3 : decode cL_best 3 = .ok (.iload_n 1, 1) := by decide +kernel
theorem dL_best_4 : decode cL_best 4 = .ok (.iload_n 2, 1) := by decide +kernel
theorem dL_best_5 : decode cL_best 5 = .ok (.invokevirtual 64, 3) := by decide +kernel
theorem dL_best_8 : decode cL_best 8 = .ok (.i2l, 1) := by decide +kernel
theorem dL_best_9 : decode cL_best 9 = .ok (.lastore, 1) := by decide +kernel
theorem dL_best_10 : decode cL_best 10 = .ok (.goto 7, 3) := by decide +kernel
theorem dL_best_13 : decode cL_best 13 = .ok (.astore 4, 2) := by decide +kernel
theorem dL_best_15 : decode cL_best 15 = .ok (.iconst 1, 1) := by decide +kernel
theorem dL_best_16 : decode cL_best 16 = .ok (.ireturn, 1) := by decide +kernel
theorem dL_best_17 : decode cL_best 17 = .ok (.iconst 0, 1) := by decide +kernel
theorem dL_best_18 : decode cL_best 18 = .ok (.ireturn, 1) := by decide +kernel
theorem dL_fewest_0 : decode cL_fewest 0 = .ok (.aload_n 2, 1) := by decide +kernel
theorem dL_fewest_1 : decode cL_fewest 1 = .ok (.iconst 0, 1) := by decide +kernel
theorem dL_fewest_2 : decode cL_fewest 2 = .ok (.aload_n 0, 1) := by decide +kernel
theorem dL_fewest_3 : decode cL_fewest 3 = .ok (.iload_n 1, 1) := by decide +kernel
theorem dL_fewest_4 : decode cL_fewest 4 = .ok (.invokevirtual 67, 3) := by decide +kernel
theorem dL_fewest_7 : decode cL_fewest 7 = .ok (.i2l, 1) := by decide +kernel
theorem dL_fewest_8 : decode cL_fewest 8 = .ok (.lastore, 1) := by decide +kernel
theorem dL_fewest_9 : decode cL_fewest 9 = .ok (.goto 6, 3) := by decide +kernel
theorem dL_fewest_12 : decode cL_fewest 12 = .ok (.astore_n 3, 1) := by decide +kernel
theorem dL_fewest_13 : decode cL_fewest 13 = .ok (.iconst 1, 1) := by decide +kernel
theorem dL_fewest_14 : decode cL_fewest 14 = .ok (.ireturn, 1) := by decide +kernel
theorem dL_fewest_15 : decode cL_fewest 15 = .ok (.iconst 0, 1) := by decide +kernel
theorem dL_fewest_16 : decode cL_fewest 16 = .ok (.ireturn, 1) := by decide +kernel
theorem dL_shortest_0 : decode cL_shortest 0 = .ok (.aload_n 3, 1) := by decide +kernel
theorem dL_shortest_1 : decode cL_shortest 1 = .ok (.iconst 0, 1) := by decide +kernel
theorem dL_shortest_2 : decode cL_shortest 2 = .ok (.aload_n 0, 1) := by decide +kernel
theorem dL_shortest_3 : decode cL_shortest 3 = .ok (.iload_n 1, 1) := by decide +kernel
theorem dL_shortest_4 : decode cL_shortest 4 = .ok (.iload_n 2, 1) := by decide +kernel
theorem dL_shortest_5 : decode cL_shortest 5 = .ok (.invokevirtual 70, 3) := by decide +kernel
theorem dL_shortest_8 : decode cL_shortest 8 = .ok (.i2l, 1) := by decide +kernel
theorem dL_shortest_9 : decode cL_shortest 9 = .ok (.lastore, 1) := by decide +kernel
theorem dL_shortest_10 : decode cL_shortest 10 = .ok (.goto 7, 3) := by decide +kernel
theorem dL_shortest_13 : decode cL_shortest 13 = .ok (.astore 4, 2) := by decide +kernel
theorem dL_shortest_15 : decode cL_shortest 15 = .ok (.iconst 1, 1) := by decide +kernel
theorem dL_shortest_16 : decode cL_shortest 16 = .ok (.ireturn, 1) := by decide +kernel
theorem dL_shortest_17 : decode cL_shortest 17 = .ok (.iconst 0, 1) := by decide +kernel
theorem dL_shortest_18 : decode cL_shortest 18 = .ok (.ireturn, 1) := by decide +kernel
theorem dL_worth_0 : decode cL_worth 0 = .ok (.aload_n 2, 1) := by decide +kernel
theorem dL_worth_1 : decode cL_worth 1 = .ok (.iconst 0, 1) := by decide +kernel
theorem dL_worth_2 : decode cL_worth 2 = .ok (.aload_n 0, 1) := by decide +kernel
theorem dL_worth_3 : decode cL_worth 3 = .ok (.iload_n 1, 1) := by decide +kernel
theorem dL_worth_4 : decode cL_worth 4 = .ok (.invokevirtual 73, 3) := by decide +kernel
theorem dL_worth_7 : decode cL_worth 7 = .ok (.i2l, 1) := by decide +kernel
theorem dL_worth_8 : decode cL_worth 8 = .ok (.lastore, 1) := by decide +kernel
theorem dL_worth_9 : decode cL_worth 9 = .ok (.goto 6, 3) := by decide +kernel
theorem dL_worth_12 : decode cL_worth 12 = .ok (.astore_n 3, 1) := by decide +kernel
theorem dL_worth_13 : decode cL_worth 13 = .ok (.iconst 1, 1) := by decide +kernel
theorem dL_worth_14 : decode cL_worth 14 = .ok (.ireturn, 1) := by decide +kernel
theorem dL_worth_15 : decode cL_worth 15 = .ok (.iconst 0, 1) := by decide +kernel
theorem dL_worth_16 : decode cL_worth 16 = .ok (.ireturn, 1) := by decide +kernel
theorem dL_exchange_0 : decode cL_exchange 0 = .ok (.aload_n 2, 1) := by decide +kernel
theorem dL_exchange_1 : decode cL_exchange 1 = .ok (.iconst 0, 1) := by decide +kernel
theorem dL_exchange_2 : decode cL_exchange 2 = .ok (.aload_n 0, 1) := by decide +kernel
theorem dL_exchange_3 : decode cL_exchange 3 = .ok (.iload_n 1, 1) := by decide +kernel
theorem dL_exchange_4 : decode cL_exchange 4 = .ok (.invokevirtual 76, 3) := by decide +kernel
theorem dL_exchange_7 : decode cL_exchange 7 = .ok (.i2l, 1) := by decide +kernel
theorem dL_exchange_8 : decode cL_exchange 8 = .ok (.lastore, 1) := by decide +kernel
theorem dL_exchange_9 : decode cL_exchange 9 = .ok (.goto 6, 3) := by decide +kernel
theorem dL_exchange_12 : decode cL_exchange 12 = .ok (.astore_n 3, 1) := by decide +kernel
theorem dL_exchange_13 : decode cL_exchange 13 = .ok (.iconst 1, 1) := by decide +kernel
theorem dL_exchange_14 : decode cL_exchange 14 = .ok (.ireturn, 1) := by decide +kernel
theorem dL_exchange_15 : decode cL_exchange 15 = .ok (.iconst 0, 1) := by decide +kernel
theorem dL_exchange_16 : decode cL_exchange 16 = .ok (.ireturn, 1) := by decide +kernel
theorem dL_next_0 : decode cL_next 0 = .ok (.aload_n 2, 1) := by decide +kernel
theorem dL_next_1 : decode cL_next 1 = .ok (.iconst 0, 1) := by decide +kernel
theorem dL_next_2 : decode cL_next 2 = .ok (.aload_n 0, 1) := by decide +kernel
theorem dL_next_3 : decode cL_next 3 = .ok (.iload_n 1, 1) := by decide +kernel
theorem dL_next_4 : decode cL_next 4 = .ok (.invokevirtual 79, 3) := by decide +kernel
theorem dL_next_7 : decode cL_next 7 = .ok (.i2l, 1) := by decide +kernel
theorem dL_next_8 : decode cL_next 8 = .ok (.lastore, 1) := by decide +kernel
theorem dL_next_9 : decode cL_next 9 = .ok (.goto 6, 3) := by decide +kernel
theorem dL_next_12 : decode cL_next 12 = .ok (.astore_n 3, 1) := by decide +kernel
theorem dL_next_13 : decode cL_next 13 = .ok (.iconst 1, 1) := by decide +kernel
theorem dL_next_14 : decode cL_next 14 = .ok (.ireturn, 1) := by decide +kernel
theorem dL_next_15 : decode cL_next 15 = .ok (.iconst 0, 1) := by decide +kernel
theorem dL_next_16 : decode cL_next 16 = .ok (.ireturn, 1) := by decide +kernel
theorem dL_likeness_0 : decode cL_likeness 0 = .ok (.aload 4, 2) := by decide +kernel
theorem dL_likeness_2 : decode cL_likeness 2 = .ok (.iconst 0, 1) := by decide +kernel
theorem dL_likeness_3 : decode cL_likeness 3 = .ok (.aload_n 0, 1) := by decide +kernel
theorem dL_likeness_4 : decode cL_likeness 4 = .ok (.iload_n 1, 1) := by decide +kernel
theorem dL_likeness_5 : decode cL_likeness 5 = .ok (.iload_n 2, 1) := by decide +kernel
theorem dL_likeness_6 : decode cL_likeness 6 = .ok (.iload_n 3, 1) := by decide +kernel
theorem dL_likeness_7 : decode cL_likeness 7 = .ok (.invokevirtual 82, 3) := by decide +kernel
theorem dL_likeness_10 : decode cL_likeness 10 = .ok (.i2l, 1) := by decide +kernel
theorem dL_likeness_11 : decode cL_likeness 11 = .ok (.lastore, 1) := by decide +kernel
theorem dL_likeness_12 : decode cL_likeness 12 = .ok (.goto 11, 3) := by decide +kernel
theorem dL_likeness_15 : decode cL_likeness 15 = .ok (.astore 5, 2) := by decide +kernel
theorem dL_likeness_17 : decode cL_likeness 17 = .ok (.iconst 1, 1) := by decide +kernel
theorem dL_likeness_18 : decode cL_likeness 18 = .ok (.ireturn, 1) := by decide +kernel
theorem dL_likeness_19 : decode cL_likeness 19 = .ok (.astore 5, 2) := by decide +kernel
theorem dL_likeness_21 : decode cL_likeness 21 = .ok (.iconst 2, 1) := by decide +kernel
theorem dL_likeness_22 : decode cL_likeness 22 = .ok (.ireturn, 1) := by decide +kernel
theorem dL_likeness_23 : decode cL_likeness 23 = .ok (.iconst 0, 1) := by decide +kernel
theorem dL_likeness_24 : decode cL_likeness 24 = .ok (.ireturn, 1) := by decide +kernel
theorem dL_law_0 : decode cL_law 0 = .ok (.new 8, 3) := by decide +kernel
theorem dL_law_3 : decode cL_law 3 = .ok (.dup, 1) := by decide +kernel
theorem dL_law_4 : decode cL_law 4 = .ok (.invokespecial 86, 3) := by decide +kernel
theorem dL_law_7 : decode cL_law 7 = .ok (.astore_n 1, 1) := by decide +kernel
theorem dL_law_8 : decode cL_law 8 = .ok (.new 87, 3) := by decide +kernel
theorem dL_law_11 : decode cL_law 11 = .ok (.dup, 1) := by decide +kernel
theorem dL_law_12 : decode cL_law 12 = .ok (.invokespecial 89, 3) := by decide +kernel
theorem dL_law_15 : decode cL_law 15 = .ok (.astore_n 2, 1) := by decide +kernel
theorem dL_law_16 : decode cL_law 16 = .ok (.iconst 1, 1) := by decide +kernel
theorem dL_law_17 : decode cL_law 17 = .ok (.newarray .long, 2) := by decide +kernel
theorem dL_law_19 : decode cL_law 19 = .ok (.astore_n 3, 1) := by decide +kernel
theorem dL_law_20 : decode cL_law 20 = .ok (.iconst 0, 1) := by decide +kernel
theorem dL_law_21 : decode cL_law 21 = .ok (.istore 4, 2) := by decide +kernel
theorem dL_law_23 : decode cL_law 23 = .ok (.iload 4, 2) := by decide +kernel
theorem dL_law_25 : decode cL_law 25 = .ok (.aload_n 0, 1) := by decide +kernel
theorem dL_law_26 : decode cL_law 26 = .ok (.arraylength, 1) := by decide +kernel
theorem dL_law_27 : decode cL_law 27 = .ok (.bipush 6, 2) := by decide +kernel
theorem dL_law_29 : decode cL_law 29 = .ok (.isub, 1) := by decide +kernel
theorem dL_law_30 : decode cL_law 30 = .ok (.if_icmp .gt 1657, 3) := by decide +kernel
theorem dL_law_33 : decode cL_law 33 = .ok (.aload_n 0, 1) := by decide +kernel
theorem dL_law_34 : decode cL_law 34 = .ok (.iload 4, 2) := by decide +kernel
theorem dL_law_36 : decode cL_law 36 = .ok (.iaload, 1) := by decide +kernel
theorem dL_law_37 : decode cL_law 37 = .ok (.bipush 31, 2) := by decide +kernel
theorem dL_law_39 : decode cL_law 39 = .ok (.iand, 1) := by decide +kernel
theorem dL_law_40 : decode cL_law 40 = .ok (.tableswitch 1641 0 26 #[124, 197, 253, 266, 334, 418, 474, 530, 586, 599, 655, 723, 778, 846, 914, 982, 1050, 1106, 1162, 1230, 1286, 1354, 1410, 1466, 1522, 1602, 1616], 124) := by decide +kernel
theorem dL_law_164 : decode cL_law 164 = .ok (.aload_n 1, 1) := by decide +kernel
theorem dL_law_165 : decode cL_law 165 = .ok (.aload_n 0, 1) := by decide +kernel
theorem dL_law_166 : decode cL_law 166 = .ok (.iload 4, 2) := by decide +kernel
theorem dL_law_168 : decode cL_law 168 = .ok (.iconst 1, 1) := by decide +kernel
theorem dL_law_169 : decode cL_law 169 = .ok (.iadd, 1) := by decide +kernel
theorem dL_law_170 : decode cL_law 170 = .ok (.iaload, 1) := by decide +kernel
theorem dL_law_171 : decode cL_law 171 = .ok (.aload_n 0, 1) := by decide +kernel
theorem dL_law_172 : decode cL_law 172 = .ok (.iload 4, 2) := by decide +kernel
theorem dL_law_174 : decode cL_law 174 = .ok (.iconst 2, 1) := by decide +kernel
theorem dL_law_175 : decode cL_law 175 = .ok (.iadd, 1) := by decide +kernel
theorem dL_law_176 : decode cL_law 176 = .ok (.iaload, 1) := by decide +kernel
theorem dL_law_177 : decode cL_law 177 = .ok (.aload_n 0, 1) := by decide +kernel
theorem dL_law_178 : decode cL_law 178 = .ok (.iload 4, 2) := by decide +kernel
theorem dL_law_180 : decode cL_law 180 = .ok (.iconst 3, 1) := by decide +kernel
theorem dL_law_181 : decode cL_law 181 = .ok (.iadd, 1) := by decide +kernel
theorem dL_law_182 : decode cL_law 182 = .ok (.iaload, 1) := by decide +kernel
theorem dL_law_183 : decode cL_law 183 = .ok (.aload_n 0, 1) := by decide +kernel
theorem dL_law_184 : decode cL_law 184 = .ok (.iload 4, 2) := by decide +kernel
theorem dL_law_186 : decode cL_law 186 = .ok (.iconst 4, 1) := by decide +kernel
theorem dL_law_187 : decode cL_law 187 = .ok (.iadd, 1) := by decide +kernel
theorem dL_law_188 : decode cL_law 188 = .ok (.iaload, 1) := by decide +kernel
theorem dL_law_189 : decode cL_law 189 = .ok (.aload_n 0, 1) := by decide +kernel
theorem dL_law_190 : decode cL_law 190 = .ok (.iload 4, 2) := by decide +kernel
theorem dL_law_192 : decode cL_law 192 = .ok (.iconst 5, 1) := by decide +kernel
theorem dL_law_193 : decode cL_law 193 = .ok (.iadd, 1) := by decide +kernel
theorem dL_law_194 : decode cL_law 194 = .ok (.iaload, 1) := by decide +kernel
theorem dL_law_195 : decode cL_law 195 = .ok (.invokevirtual 90, 3) := by decide +kernel
theorem dL_law_198 : decode cL_law 198 = .ok (.aload_n 2, 1) := by decide +kernel
theorem dL_law_199 : decode cL_law 199 = .ok (.aload_n 0, 1) := by decide +kernel
theorem dL_law_200 : decode cL_law 200 = .ok (.iload 4, 2) := by decide +kernel
theorem dL_law_202 : decode cL_law 202 = .ok (.iconst 1, 1) := by decide +kernel
theorem dL_law_203 : decode cL_law 203 = .ok (.iadd, 1) := by decide +kernel
theorem dL_law_204 : decode cL_law 204 = .ok (.iaload, 1) := by decide +kernel
theorem dL_law_205 : decode cL_law 205 = .ok (.aload_n 0, 1) := by decide +kernel
theorem dL_law_206 : decode cL_law 206 = .ok (.iload 4, 2) := by decide +kernel
theorem dL_law_208 : decode cL_law 208 = .ok (.iconst 2, 1) := by decide +kernel
theorem dL_law_209 : decode cL_law 209 = .ok (.iadd, 1) := by decide +kernel
theorem dL_law_210 : decode cL_law 210 = .ok (.iaload, 1) := by decide +kernel
theorem dL_law_211 : decode cL_law 211 = .ok (.aload_n 0, 1) := by decide +kernel
theorem dL_law_212 : decode cL_law 212 = .ok (.iload 4, 2) := by decide +kernel
theorem dL_law_214 : decode cL_law 214 = .ok (.iconst 3, 1) := by decide +kernel
theorem dL_law_215 : decode cL_law 215 = .ok (.iadd, 1) := by decide +kernel
theorem dL_law_216 : decode cL_law 216 = .ok (.iaload, 1) := by decide +kernel
theorem dL_law_217 : decode cL_law 217 = .ok (.aload_n 0, 1) := by decide +kernel
theorem dL_law_218 : decode cL_law 218 = .ok (.iload 4, 2) := by decide +kernel
theorem dL_law_220 : decode cL_law 220 = .ok (.iconst 4, 1) := by decide +kernel
theorem dL_law_221 : decode cL_law 221 = .ok (.iadd, 1) := by decide +kernel
theorem dL_law_222 : decode cL_law 222 = .ok (.iaload, 1) := by decide +kernel
theorem dL_law_223 : decode cL_law 223 = .ok (.aload_n 0, 1) := by decide +kernel
theorem dL_law_224 : decode cL_law 224 = .ok (.iload 4, 2) := by decide +kernel
theorem dL_law_226 : decode cL_law 226 = .ok (.iconst 5, 1) := by decide +kernel
theorem dL_law_227 : decode cL_law 227 = .ok (.iadd, 1) := by decide +kernel
theorem dL_law_228 : decode cL_law 228 = .ok (.iaload, 1) := by decide +kernel
theorem dL_law_229 : decode cL_law 229 = .ok (.invokevirtual 94, 3) := by decide +kernel
theorem dL_law_232 : decode cL_law 232 = .ok (.if_icmp .eq 1449, 3) := by decide +kernel
theorem dL_law_235 : decode cL_law 235 = .ok (.iconst 0, 1) := by decide +kernel
theorem dL_law_236 : decode cL_law 236 = .ok (.ireturn, 1) := by decide +kernel
theorem dL_law_237 : decode cL_law 237 = .ok (.aload_n 1, 1) := by decide +kernel
theorem dL_law_238 : decode cL_law 238 = .ok (.aload_n 0, 1) := by decide +kernel
theorem dL_law_239 : decode cL_law 239 = .ok (.iload 4, 2) := by decide +kernel
theorem dL_law_241 : decode cL_law 241 = .ok (.iconst 1, 1) := by decide +kernel
theorem dL_law_242 : decode cL_law 242 = .ok (.iadd, 1) := by decide +kernel
theorem dL_law_243 : decode cL_law 243 = .ok (.iaload, 1) := by decide +kernel
theorem dL_law_244 : decode cL_law 244 = .ok (.aload_n 3, 1) := by decide +kernel
theorem dL_law_245 : decode cL_law 245 = .ok (.invokestatic 95, 3) := by decide +kernel
theorem dL_law_248 : decode cL_law 248 = .ok (.istore 5, 2) := by decide +kernel
theorem dL_law_250 : decode cL_law 250 = .ok (.aload_n 2, 1) := by decide +kernel
theorem dL_law_251 : decode cL_law 251 = .ok (.aload_n 0, 1) := by decide +kernel
theorem dL_law_252 : decode cL_law 252 = .ok (.iload 4, 2) := by decide +kernel
theorem dL_law_254 : decode cL_law 254 = .ok (.iconst 1, 1) := by decide +kernel
theorem dL_law_255 : decode cL_law 255 = .ok (.iadd, 1) := by decide +kernel
theorem dL_law_256 : decode cL_law 256 = .ok (.iaload, 1) := by decide +kernel
theorem dL_law_257 : decode cL_law 257 = .ok (.invokevirtual 100, 3) := by decide +kernel
theorem dL_law_260 : decode cL_law 260 = .ok (.istore 6, 2) := by decide +kernel
theorem dL_law_262 : decode cL_law 262 = .ok (.aload_n 2, 1) := by decide +kernel
theorem dL_law_263 : decode cL_law 263 = .ok (.invokevirtual 101, 3) := by decide +kernel
theorem dL_law_266 : decode cL_law 266 = .ok (.iload 5, 2) := by decide +kernel
theorem dL_law_268 : decode cL_law 268 = .ok (.if_icmp .eq 5, 3) := by decide +kernel
theorem dL_law_271 : decode cL_law 271 = .ok (.iconst 0, 1) := by decide +kernel
theorem dL_law_272 : decode cL_law 272 = .ok (.ireturn, 1) := by decide +kernel
theorem dL_law_273 : decode cL_law 273 = .ok (.iload 5, 2) := by decide +kernel
theorem dL_law_275 : decode cL_law 275 = .ok (.ifCond .ne 15, 3) := by decide +kernel
theorem dL_law_278 : decode cL_law 278 = .ok (.aload_n 3, 1) := by decide +kernel
theorem dL_law_279 : decode cL_law 279 = .ok (.iconst 0, 1) := by decide +kernel
theorem dL_law_280 : decode cL_law 280 = .ok (.laload, 1) := by decide +kernel
theorem dL_law_281 : decode cL_law 281 = .ok (.iload 6, 2) := by decide +kernel
theorem dL_law_283 : decode cL_law 283 = .ok (.i2l, 1) := by decide +kernel
theorem dL_law_284 : decode cL_law 284 = .ok (.lcmp, 1) := by decide +kernel
theorem dL_law_285 : decode cL_law 285 = .ok (.ifCond .eq 5, 3) := by decide +kernel
theorem dL_law_288 : decode cL_law 288 = .ok (.iconst 0, 1) := by decide +kernel
theorem dL_law_289 : decode cL_law 289 = .ok (.ireturn, 1) := by decide +kernel
theorem dL_law_290 : decode cL_law 290 = .ok (.goto 1391, 3) := by decide +kernel
theorem dL_law_293 : decode cL_law 293 = .ok (.aload_n 1, 1) := by decide +kernel
theorem dL_law_294 : decode cL_law 294 = .ok (.invokevirtual 105, 3) := by decide +kernel
theorem dL_law_297 : decode cL_law 297 = .ok (.aload_n 2, 1) := by decide +kernel
theorem dL_law_298 : decode cL_law 298 = .ok (.invokevirtual 108, 3) := by decide +kernel
theorem dL_law_301 : decode cL_law 301 = .ok (.if_icmp .eq 1380, 3) := by decide +kernel
theorem dL_law_304 : decode cL_law 304 = .ok (.iconst 0, 1) := by decide +kernel
theorem dL_law_305 : decode cL_law 305 = .ok (.ireturn, 1) := by decide +kernel
theorem dL_law_306 : decode cL_law 306 = .ok (.aload_n 1, 1) := by decide +kernel
theorem dL_law_307 : decode cL_law 307 = .ok (.aload_n 0, 1) := by decide +kernel
theorem dL_law_308 : decode cL_law 308 = .ok (.iload 4, 2) := by decide +kernel
theorem dL_law_310 : decode cL_law 310 = .ok (.iconst 1, 1) := by decide +kernel
theorem dL_law_311 : decode cL_law 311 = .ok (.iadd, 1) := by decide +kernel
theorem dL_law_312 : decode cL_law 312 = .ok (.iaload, 1) := by decide +kernel
theorem dL_law_313 : decode cL_law 313 = .ok (.aload_n 0, 1) := by decide +kernel
theorem dL_law_314 : decode cL_law 314 = .ok (.iload 4, 2) := by decide +kernel
theorem dL_law_316 : decode cL_law 316 = .ok (.iconst 2, 1) := by decide +kernel
theorem dL_law_317 : decode cL_law 317 = .ok (.iadd, 1) := by decide +kernel
theorem dL_law_318 : decode cL_law 318 = .ok (.iaload, 1) := by decide +kernel
theorem dL_law_319 : decode cL_law 319 = .ok (.aload_n 3, 1) := by decide +kernel
theorem dL_law_320 : decode cL_law 320 = .ok (.invokestatic 109, 3) := by decide +kernel
theorem dL_law_323 : decode cL_law 323 = .ok (.istore 5, 2) := by decide +kernel
theorem dL_law_325 : decode cL_law 325 = .ok (.aload_n 2, 1) := by decide +kernel
theorem dL_law_326 : decode cL_law 326 = .ok (.aload_n 0, 1) := by decide +kernel
theorem dL_law_327 : decode cL_law 327 = .ok (.iload 4, 2) := by decide +kernel
theorem dL_law_329 : decode cL_law 329 = .ok (.iconst 1, 1) := by decide +kernel
theorem dL_law_330 : decode cL_law 330 = .ok (.iadd, 1) := by decide +kernel
theorem dL_law_331 : decode cL_law 331 = .ok (.iaload, 1) := by decide +kernel
theorem dL_law_332 : decode cL_law 332 = .ok (.aload_n 0, 1) := by decide +kernel
theorem dL_law_333 : decode cL_law 333 = .ok (.iload 4, 2) := by decide +kernel
theorem dL_law_335 : decode cL_law 335 = .ok (.iconst 2, 1) := by decide +kernel
theorem dL_law_336 : decode cL_law 336 = .ok (.iadd, 1) := by decide +kernel
theorem dL_law_337 : decode cL_law 337 = .ok (.iaload, 1) := by decide +kernel
theorem dL_law_338 : decode cL_law 338 = .ok (.invokevirtual 112, 3) := by decide +kernel
theorem dL_law_341 : decode cL_law 341 = .ok (.istore 6, 2) := by decide +kernel
theorem dL_law_343 : decode cL_law 343 = .ok (.aload_n 2, 1) := by decide +kernel
theorem dL_law_344 : decode cL_law 344 = .ok (.invokevirtual 101, 3) := by decide +kernel
theorem dL_law_347 : decode cL_law 347 = .ok (.iload 5, 2) := by decide +kernel
theorem dL_law_349 : decode cL_law 349 = .ok (.if_icmp .eq 5, 3) := by decide +kernel
theorem dL_law_352 : decode cL_law 352 = .ok (.iconst 0, 1) := by decide +kernel
theorem dL_law_353 : decode cL_law 353 = .ok (.ireturn, 1) := by decide +kernel
theorem dL_law_354 : decode cL_law 354 = .ok (.iload 5, 2) := by decide +kernel
theorem dL_law_356 : decode cL_law 356 = .ok (.ifCond .ne 15, 3) := by decide +kernel
theorem dL_law_359 : decode cL_law 359 = .ok (.aload_n 3, 1) := by decide +kernel
theorem dL_law_360 : decode cL_law 360 = .ok (.iconst 0, 1) := by decide +kernel
theorem dL_law_361 : decode cL_law 361 = .ok (.laload, 1) := by decide +kernel
theorem dL_law_362 : decode cL_law 362 = .ok (.iload 6, 2) := by decide +kernel
theorem dL_law_364 : decode cL_law 364 = .ok (.i2l, 1) := by decide +kernel
theorem dL_law_365 : decode cL_law 365 = .ok (.lcmp, 1) := by decide +kernel
theorem dL_law_366 : decode cL_law 366 = .ok (.ifCond .eq 5, 3) := by decide +kernel
theorem dL_law_369 : decode cL_law 369 = .ok (.iconst 0, 1) := by decide +kernel
theorem dL_law_370 : decode cL_law 370 = .ok (.ireturn, 1) := by decide +kernel
theorem dL_law_371 : decode cL_law 371 = .ok (.goto 1310, 3) := by decide +kernel
theorem dL_law_374 : decode cL_law 374 = .ok (.aload_n 1, 1) := by decide +kernel
theorem dL_law_375 : decode cL_law 375 = .ok (.aload_n 0, 1) := by decide +kernel
theorem dL_law_376 : decode cL_law 376 = .ok (.iload 4, 2) := by decide +kernel
theorem dL_law_378 : decode cL_law 378 = .ok (.iconst 1, 1) := by decide +kernel
theorem dL_law_379 : decode cL_law 379 = .ok (.iadd, 1) := by decide +kernel
theorem dL_law_380 : decode cL_law 380 = .ok (.iaload, 1) := by decide +kernel
theorem dL_law_381 : decode cL_law 381 = .ok (.aload_n 0, 1) := by decide +kernel
theorem dL_law_382 : decode cL_law 382 = .ok (.iload 4, 2) := by decide +kernel
theorem dL_law_384 : decode cL_law 384 = .ok (.iconst 2, 1) := by decide +kernel
theorem dL_law_385 : decode cL_law 385 = .ok (.iadd, 1) := by decide +kernel
theorem dL_law_386 : decode cL_law 386 = .ok (.iaload, 1) := by decide +kernel
theorem dL_law_387 : decode cL_law 387 = .ok (.ifCond .eq 7, 3) := by decide +kernel
theorem dL_law_390 : decode cL_law 390 = .ok (.iconst 1, 1) := by decide +kernel
theorem dL_law_391 : decode cL_law 391 = .ok (.goto 4, 3) := by decide +kernel
theorem dL_law_394 : decode cL_law 394 = .ok (.iconst 0, 1) := by decide +kernel
theorem dL_law_395 : decode cL_law 395 = .ok (.aload_n 3, 1) := by decide +kernel
theorem dL_law_396 : decode cL_law 396 = .ok (.invokestatic 113, 3) := by decide +kernel
theorem dL_law_399 : decode cL_law 399 = .ok (.istore 5, 2) := by decide +kernel
theorem dL_law_401 : decode cL_law 401 = .ok (.aload_n 2, 1) := by decide +kernel
theorem dL_law_402 : decode cL_law 402 = .ok (.aload_n 0, 1) := by decide +kernel
theorem dL_law_403 : decode cL_law 403 = .ok (.iload 4, 2) := by decide +kernel
theorem dL_law_405 : decode cL_law 405 = .ok (.iconst 1, 1) := by decide +kernel
theorem dL_law_406 : decode cL_law 406 = .ok (.iadd, 1) := by decide +kernel
theorem dL_law_407 : decode cL_law 407 = .ok (.iaload, 1) := by decide +kernel
theorem dL_law_408 : decode cL_law 408 = .ok (.aload_n 0, 1) := by decide +kernel
theorem dL_law_409 : decode cL_law 409 = .ok (.iload 4, 2) := by decide +kernel
theorem dL_law_411 : decode cL_law 411 = .ok (.iconst 2, 1) := by decide +kernel
theorem dL_law_412 : decode cL_law 412 = .ok (.iadd, 1) := by decide +kernel
theorem dL_law_413 : decode cL_law 413 = .ok (.iaload, 1) := by decide +kernel
theorem dL_law_414 : decode cL_law 414 = .ok (.ifCond .eq 7, 3) := by decide +kernel
theorem dL_law_417 : decode cL_law 417 = .ok (.iconst 1, 1) := by decide +kernel
theorem dL_law_418 : decode cL_law 418 = .ok (.goto 4, 3) := by decide +kernel
theorem dL_law_421 : decode cL_law 421 = .ok (.iconst 0, 1) := by decide +kernel
theorem dL_law_422 : decode cL_law 422 = .ok (.invokevirtual 116, 3) := by decide +kernel
theorem dL_law_425 : decode cL_law 425 = .ok (.istore 6, 2) := by decide +kernel
theorem dL_law_427 : decode cL_law 427 = .ok (.aload_n 2, 1) := by decide +kernel
theorem dL_law_428 : decode cL_law 428 = .ok (.invokevirtual 101, 3) := by decide +kernel
theorem dL_law_431 : decode cL_law 431 = .ok (.iload 5, 2) := by decide +kernel
theorem dL_law_433 : decode cL_law 433 = .ok (.if_icmp .eq 5, 3) := by decide +kernel
theorem dL_law_436 : decode cL_law 436 = .ok (.iconst 0, 1) := by decide +kernel
theorem dL_law_437 : decode cL_law 437 = .ok (.ireturn, 1) := by decide +kernel
theorem dL_law_438 : decode cL_law 438 = .ok (.iload 5, 2) := by decide +kernel
theorem dL_law_440 : decode cL_law 440 = .ok (.ifCond .ne 15, 3) := by decide +kernel
theorem dL_law_443 : decode cL_law 443 = .ok (.aload_n 3, 1) := by decide +kernel
theorem dL_law_444 : decode cL_law 444 = .ok (.iconst 0, 1) := by decide +kernel
theorem dL_law_445 : decode cL_law 445 = .ok (.laload, 1) := by decide +kernel
theorem dL_law_446 : decode cL_law 446 = .ok (.iload 6, 2) := by decide +kernel
theorem dL_law_448 : decode cL_law 448 = .ok (.i2l, 1) := by decide +kernel
theorem dL_law_449 : decode cL_law 449 = .ok (.lcmp, 1) := by decide +kernel
theorem dL_law_450 : decode cL_law 450 = .ok (.ifCond .eq 5, 3) := by decide +kernel
theorem dL_law_453 : decode cL_law 453 = .ok (.iconst 0, 1) := by decide +kernel
theorem dL_law_454 : decode cL_law 454 = .ok (.ireturn, 1) := by decide +kernel
theorem dL_law_455 : decode cL_law 455 = .ok (.goto 1226, 3) := by decide +kernel
theorem dL_law_458 : decode cL_law 458 = .ok (.aload_n 1, 1) := by decide +kernel
theorem dL_law_459 : decode cL_law 459 = .ok (.aload_n 0, 1) := by decide +kernel
theorem dL_law_460 : decode cL_law 460 = .ok (.iload 4, 2) := by decide +kernel
theorem dL_law_462 : decode cL_law 462 = .ok (.iconst 1, 1) := by decide +kernel
theorem dL_law_463 : decode cL_law 463 = .ok (.iadd, 1) := by decide +kernel
theorem dL_law_464 : decode cL_law 464 = .ok (.iaload, 1) := by decide +kernel
theorem dL_law_465 : decode cL_law 465 = .ok (.aload_n 3, 1) := by decide +kernel
theorem dL_law_466 : decode cL_law 466 = .ok (.invokestatic 117, 3) := by decide +kernel
theorem dL_law_469 : decode cL_law 469 = .ok (.istore 5, 2) := by decide +kernel
theorem dL_law_471 : decode cL_law 471 = .ok (.aload_n 2, 1) := by decide +kernel
theorem dL_law_472 : decode cL_law 472 = .ok (.aload_n 0, 1) := by decide +kernel
theorem dL_law_473 : decode cL_law 473 = .ok (.iload 4, 2) := by decide +kernel
theorem dL_law_475 : decode cL_law 475 = .ok (.iconst 1, 1) := by decide +kernel
theorem dL_law_476 : decode cL_law 476 = .ok (.iadd, 1) := by decide +kernel
theorem dL_law_477 : decode cL_law 477 = .ok (.iaload, 1) := by decide +kernel
theorem dL_law_478 : decode cL_law 478 = .ok (.invokevirtual 119, 3) := by decide +kernel
theorem dL_law_481 : decode cL_law 481 = .ok (.istore 6, 2) := by decide +kernel
theorem dL_law_483 : decode cL_law 483 = .ok (.aload_n 2, 1) := by decide +kernel
theorem dL_law_484 : decode cL_law 484 = .ok (.invokevirtual 101, 3) := by decide +kernel
theorem dL_law_487 : decode cL_law 487 = .ok (.iload 5, 2) := by decide +kernel
theorem dL_law_489 : decode cL_law 489 = .ok (.if_icmp .eq 5, 3) := by decide +kernel
theorem dL_law_492 : decode cL_law 492 = .ok (.iconst 0, 1) := by decide +kernel
theorem dL_law_493 : decode cL_law 493 = .ok (.ireturn, 1) := by decide +kernel
theorem dL_law_494 : decode cL_law 494 = .ok (.iload 5, 2) := by decide +kernel
theorem dL_law_496 : decode cL_law 496 = .ok (.ifCond .ne 15, 3) := by decide +kernel
theorem dL_law_499 : decode cL_law 499 = .ok (.aload_n 3, 1) := by decide +kernel
theorem dL_law_500 : decode cL_law 500 = .ok (.iconst 0, 1) := by decide +kernel
theorem dL_law_501 : decode cL_law 501 = .ok (.laload, 1) := by decide +kernel
theorem dL_law_502 : decode cL_law 502 = .ok (.iload 6, 2) := by decide +kernel
theorem dL_law_504 : decode cL_law 504 = .ok (.i2l, 1) := by decide +kernel
theorem dL_law_505 : decode cL_law 505 = .ok (.lcmp, 1) := by decide +kernel
theorem dL_law_506 : decode cL_law 506 = .ok (.ifCond .eq 5, 3) := by decide +kernel
theorem dL_law_509 : decode cL_law 509 = .ok (.iconst 0, 1) := by decide +kernel
theorem dL_law_510 : decode cL_law 510 = .ok (.ireturn, 1) := by decide +kernel
theorem dL_law_511 : decode cL_law 511 = .ok (.goto 1170, 3) := by decide +kernel
theorem dL_law_514 : decode cL_law 514 = .ok (.aload_n 1, 1) := by decide +kernel
theorem dL_law_515 : decode cL_law 515 = .ok (.aload_n 0, 1) := by decide +kernel
theorem dL_law_516 : decode cL_law 516 = .ok (.iload 4, 2) := by decide +kernel
theorem dL_law_518 : decode cL_law 518 = .ok (.iconst 1, 1) := by decide +kernel
theorem dL_law_519 : decode cL_law 519 = .ok (.iadd, 1) := by decide +kernel
theorem dL_law_520 : decode cL_law 520 = .ok (.iaload, 1) := by decide +kernel
theorem dL_law_521 : decode cL_law 521 = .ok (.aload_n 3, 1) := by decide +kernel
theorem dL_law_522 : decode cL_law 522 = .ok (.invokestatic 120, 3) := by decide +kernel
theorem dL_law_525 : decode cL_law 525 = .ok (.istore 5, 2) := by decide +kernel
theorem dL_law_527 : decode cL_law 527 = .ok (.aload_n 2, 1) := by decide +kernel
theorem dL_law_528 : decode cL_law 528 = .ok (.aload_n 0, 1) := by decide +kernel
theorem dL_law_529 : decode cL_law 529 = .ok (.iload 4, 2) := by decide +kernel
theorem dL_law_531 : decode cL_law 531 = .ok (.iconst 1, 1) := by decide +kernel
theorem dL_law_532 : decode cL_law 532 = .ok (.iadd, 1) := by decide +kernel
theorem dL_law_533 : decode cL_law 533 = .ok (.iaload, 1) := by decide +kernel
theorem dL_law_534 : decode cL_law 534 = .ok (.invokevirtual 122, 3) := by decide +kernel
theorem dL_law_537 : decode cL_law 537 = .ok (.istore 6, 2) := by decide +kernel
theorem dL_law_539 : decode cL_law 539 = .ok (.aload_n 2, 1) := by decide +kernel
theorem dL_law_540 : decode cL_law 540 = .ok (.invokevirtual 101, 3) := by decide +kernel
theorem dL_law_543 : decode cL_law 543 = .ok (.iload 5, 2) := by decide +kernel
theorem dL_law_545 : decode cL_law 545 = .ok (.if_icmp .eq 5, 3) := by decide +kernel
theorem dL_law_548 : decode cL_law 548 = .ok (.iconst 0, 1) := by decide +kernel
theorem dL_law_549 : decode cL_law 549 = .ok (.ireturn, 1) := by decide +kernel
theorem dL_law_550 : decode cL_law 550 = .ok (.iload 5, 2) := by decide +kernel
theorem dL_law_552 : decode cL_law 552 = .ok (.ifCond .ne 15, 3) := by decide +kernel
theorem dL_law_555 : decode cL_law 555 = .ok (.aload_n 3, 1) := by decide +kernel
theorem dL_law_556 : decode cL_law 556 = .ok (.iconst 0, 1) := by decide +kernel
theorem dL_law_557 : decode cL_law 557 = .ok (.laload, 1) := by decide +kernel
theorem dL_law_558 : decode cL_law 558 = .ok (.iload 6, 2) := by decide +kernel
theorem dL_law_560 : decode cL_law 560 = .ok (.i2l, 1) := by decide +kernel
theorem dL_law_561 : decode cL_law 561 = .ok (.lcmp, 1) := by decide +kernel
theorem dL_law_562 : decode cL_law 562 = .ok (.ifCond .eq 5, 3) := by decide +kernel
theorem dL_law_565 : decode cL_law 565 = .ok (.iconst 0, 1) := by decide +kernel
theorem dL_law_566 : decode cL_law 566 = .ok (.ireturn, 1) := by decide +kernel
theorem dL_law_567 : decode cL_law 567 = .ok (.goto 1114, 3) := by decide +kernel
theorem dL_law_570 : decode cL_law 570 = .ok (.aload_n 1, 1) := by decide +kernel
theorem dL_law_571 : decode cL_law 571 = .ok (.aload_n 0, 1) := by decide +kernel
theorem dL_law_572 : decode cL_law 572 = .ok (.iload 4, 2) := by decide +kernel
theorem dL_law_574 : decode cL_law 574 = .ok (.iconst 1, 1) := by decide +kernel
theorem dL_law_575 : decode cL_law 575 = .ok (.iadd, 1) := by decide +kernel
theorem dL_law_576 : decode cL_law 576 = .ok (.iaload, 1) := by decide +kernel
theorem dL_law_577 : decode cL_law 577 = .ok (.aload_n 3, 1) := by decide +kernel
theorem dL_law_578 : decode cL_law 578 = .ok (.invokestatic 123, 3) := by decide +kernel
theorem dL_law_581 : decode cL_law 581 = .ok (.istore 5, 2) := by decide +kernel
theorem dL_law_583 : decode cL_law 583 = .ok (.aload_n 2, 1) := by decide +kernel
theorem dL_law_584 : decode cL_law 584 = .ok (.aload_n 0, 1) := by decide +kernel
theorem dL_law_585 : decode cL_law 585 = .ok (.iload 4, 2) := by decide +kernel
theorem dL_law_587 : decode cL_law 587 = .ok (.iconst 1, 1) := by decide +kernel
theorem dL_law_588 : decode cL_law 588 = .ok (.iadd, 1) := by decide +kernel
theorem dL_law_589 : decode cL_law 589 = .ok (.iaload, 1) := by decide +kernel
theorem dL_law_590 : decode cL_law 590 = .ok (.invokevirtual 125, 3) := by decide +kernel
theorem dL_law_593 : decode cL_law 593 = .ok (.istore 6, 2) := by decide +kernel
theorem dL_law_595 : decode cL_law 595 = .ok (.aload_n 2, 1) := by decide +kernel
theorem dL_law_596 : decode cL_law 596 = .ok (.invokevirtual 101, 3) := by decide +kernel
theorem dL_law_599 : decode cL_law 599 = .ok (.iload 5, 2) := by decide +kernel
theorem dL_law_601 : decode cL_law 601 = .ok (.if_icmp .eq 5, 3) := by decide +kernel
theorem dL_law_604 : decode cL_law 604 = .ok (.iconst 0, 1) := by decide +kernel
theorem dL_law_605 : decode cL_law 605 = .ok (.ireturn, 1) := by decide +kernel
theorem dL_law_606 : decode cL_law 606 = .ok (.iload 5, 2) := by decide +kernel
theorem dL_law_608 : decode cL_law 608 = .ok (.ifCond .ne 15, 3) := by decide +kernel
theorem dL_law_611 : decode cL_law 611 = .ok (.aload_n 3, 1) := by decide +kernel
theorem dL_law_612 : decode cL_law 612 = .ok (.iconst 0, 1) := by decide +kernel
theorem dL_law_613 : decode cL_law 613 = .ok (.laload, 1) := by decide +kernel
theorem dL_law_614 : decode cL_law 614 = .ok (.iload 6, 2) := by decide +kernel
theorem dL_law_616 : decode cL_law 616 = .ok (.i2l, 1) := by decide +kernel
theorem dL_law_617 : decode cL_law 617 = .ok (.lcmp, 1) := by decide +kernel
theorem dL_law_618 : decode cL_law 618 = .ok (.ifCond .eq 5, 3) := by decide +kernel
theorem dL_law_621 : decode cL_law 621 = .ok (.iconst 0, 1) := by decide +kernel
theorem dL_law_622 : decode cL_law 622 = .ok (.ireturn, 1) := by decide +kernel
theorem dL_law_623 : decode cL_law 623 = .ok (.goto 1058, 3) := by decide +kernel
theorem dL_law_626 : decode cL_law 626 = .ok (.aload_n 1, 1) := by decide +kernel
theorem dL_law_627 : decode cL_law 627 = .ok (.invokevirtual 126, 3) := by decide +kernel
theorem dL_law_630 : decode cL_law 630 = .ok (.aload_n 2, 1) := by decide +kernel
theorem dL_law_631 : decode cL_law 631 = .ok (.invokevirtual 129, 3) := by decide +kernel
theorem dL_law_634 : decode cL_law 634 = .ok (.if_icmp .eq 1047, 3) := by decide +kernel
theorem dL_law_637 : decode cL_law 637 = .ok (.iconst 0, 1) := by decide +kernel
theorem dL_law_638 : decode cL_law 638 = .ok (.ireturn, 1) := by decide +kernel
theorem dL_law_639 : decode cL_law 639 = .ok (.aload_n 1, 1) := by decide +kernel
theorem dL_law_640 : decode cL_law 640 = .ok (.aload_n 0, 1) := by decide +kernel
theorem dL_law_641 : decode cL_law 641 = .ok (.iload 4, 2) := by decide +kernel
theorem dL_law_643 : decode cL_law 643 = .ok (.iconst 1, 1) := by decide +kernel
theorem dL_law_644 : decode cL_law 644 = .ok (.iadd, 1) := by decide +kernel
theorem dL_law_645 : decode cL_law 645 = .ok (.iaload, 1) := by decide +kernel
theorem dL_law_646 : decode cL_law 646 = .ok (.aload_n 3, 1) := by decide +kernel
theorem dL_law_647 : decode cL_law 647 = .ok (.invokestatic 130, 3) := by decide +kernel
theorem dL_law_650 : decode cL_law 650 = .ok (.istore 5, 2) := by decide +kernel
theorem dL_law_652 : decode cL_law 652 = .ok (.aload_n 2, 1) := by decide +kernel
theorem dL_law_653 : decode cL_law 653 = .ok (.aload_n 0, 1) := by decide +kernel
theorem dL_law_654 : decode cL_law 654 = .ok (.iload 4, 2) := by decide +kernel
theorem dL_law_656 : decode cL_law 656 = .ok (.iconst 1, 1) := by decide +kernel
theorem dL_law_657 : decode cL_law 657 = .ok (.iadd, 1) := by decide +kernel
theorem dL_law_658 : decode cL_law 658 = .ok (.iaload, 1) := by decide +kernel
theorem dL_law_659 : decode cL_law 659 = .ok (.invokevirtual 132, 3) := by decide +kernel
theorem dL_law_662 : decode cL_law 662 = .ok (.istore 6, 2) := by decide +kernel
theorem dL_law_664 : decode cL_law 664 = .ok (.aload_n 2, 1) := by decide +kernel
theorem dL_law_665 : decode cL_law 665 = .ok (.invokevirtual 101, 3) := by decide +kernel
theorem dL_law_668 : decode cL_law 668 = .ok (.iload 5, 2) := by decide +kernel
theorem dL_law_670 : decode cL_law 670 = .ok (.if_icmp .eq 5, 3) := by decide +kernel
theorem dL_law_673 : decode cL_law 673 = .ok (.iconst 0, 1) := by decide +kernel
theorem dL_law_674 : decode cL_law 674 = .ok (.ireturn, 1) := by decide +kernel
theorem dL_law_675 : decode cL_law 675 = .ok (.iload 5, 2) := by decide +kernel
theorem dL_law_677 : decode cL_law 677 = .ok (.ifCond .ne 15, 3) := by decide +kernel
theorem dL_law_680 : decode cL_law 680 = .ok (.aload_n 3, 1) := by decide +kernel
theorem dL_law_681 : decode cL_law 681 = .ok (.iconst 0, 1) := by decide +kernel
theorem dL_law_682 : decode cL_law 682 = .ok (.laload, 1) := by decide +kernel
theorem dL_law_683 : decode cL_law 683 = .ok (.iload 6, 2) := by decide +kernel
theorem dL_law_685 : decode cL_law 685 = .ok (.i2l, 1) := by decide +kernel
theorem dL_law_686 : decode cL_law 686 = .ok (.lcmp, 1) := by decide +kernel
theorem dL_law_687 : decode cL_law 687 = .ok (.ifCond .eq 5, 3) := by decide +kernel
theorem dL_law_690 : decode cL_law 690 = .ok (.iconst 0, 1) := by decide +kernel
theorem dL_law_691 : decode cL_law 691 = .ok (.ireturn, 1) := by decide +kernel
theorem dL_law_692 : decode cL_law 692 = .ok (.goto 989, 3) := by decide +kernel
theorem dL_law_695 : decode cL_law 695 = .ok (.aload_n 1, 1) := by decide +kernel
theorem dL_law_696 : decode cL_law 696 = .ok (.aload_n 0, 1) := by decide +kernel
theorem dL_law_697 : decode cL_law 697 = .ok (.iload 4, 2) := by decide +kernel
theorem dL_law_699 : decode cL_law 699 = .ok (.iconst 1, 1) := by decide +kernel
theorem dL_law_700 : decode cL_law 700 = .ok (.iadd, 1) := by decide +kernel
theorem dL_law_701 : decode cL_law 701 = .ok (.iaload, 1) := by decide +kernel
theorem dL_law_702 : decode cL_law 702 = .ok (.aload_n 0, 1) := by decide +kernel
theorem dL_law_703 : decode cL_law 703 = .ok (.iload 4, 2) := by decide +kernel
theorem dL_law_705 : decode cL_law 705 = .ok (.iconst 2, 1) := by decide +kernel
theorem dL_law_706 : decode cL_law 706 = .ok (.iadd, 1) := by decide +kernel
theorem dL_law_707 : decode cL_law 707 = .ok (.iaload, 1) := by decide +kernel
theorem dL_law_708 : decode cL_law 708 = .ok (.aload_n 3, 1) := by decide +kernel
theorem dL_law_709 : decode cL_law 709 = .ok (.invokestatic 133, 3) := by decide +kernel
theorem dL_law_712 : decode cL_law 712 = .ok (.istore 5, 2) := by decide +kernel
theorem dL_law_714 : decode cL_law 714 = .ok (.aload_n 2, 1) := by decide +kernel
theorem dL_law_715 : decode cL_law 715 = .ok (.aload_n 0, 1) := by decide +kernel
theorem dL_law_716 : decode cL_law 716 = .ok (.iload 4, 2) := by decide +kernel
theorem dL_law_718 : decode cL_law 718 = .ok (.iconst 1, 1) := by decide +kernel
theorem dL_law_719 : decode cL_law 719 = .ok (.iadd, 1) := by decide +kernel
theorem dL_law_720 : decode cL_law 720 = .ok (.iaload, 1) := by decide +kernel
theorem dL_law_721 : decode cL_law 721 = .ok (.aload_n 0, 1) := by decide +kernel
theorem dL_law_722 : decode cL_law 722 = .ok (.iload 4, 2) := by decide +kernel
theorem dL_law_724 : decode cL_law 724 = .ok (.iconst 2, 1) := by decide +kernel
theorem dL_law_725 : decode cL_law 725 = .ok (.iadd, 1) := by decide +kernel
theorem dL_law_726 : decode cL_law 726 = .ok (.iaload, 1) := by decide +kernel
theorem dL_law_727 : decode cL_law 727 = .ok (.invokevirtual 135, 3) := by decide +kernel
theorem dL_law_730 : decode cL_law 730 = .ok (.istore 6, 2) := by decide +kernel
theorem dL_law_732 : decode cL_law 732 = .ok (.aload_n 2, 1) := by decide +kernel
theorem dL_law_733 : decode cL_law 733 = .ok (.invokevirtual 101, 3) := by decide +kernel
theorem dL_law_736 : decode cL_law 736 = .ok (.iload 5, 2) := by decide +kernel
theorem dL_law_738 : decode cL_law 738 = .ok (.if_icmp .eq 5, 3) := by decide +kernel
theorem dL_law_741 : decode cL_law 741 = .ok (.iconst 0, 1) := by decide +kernel
theorem dL_law_742 : decode cL_law 742 = .ok (.ireturn, 1) := by decide +kernel
theorem dL_law_743 : decode cL_law 743 = .ok (.iload 5, 2) := by decide +kernel
theorem dL_law_745 : decode cL_law 745 = .ok (.ifCond .ne 15, 3) := by decide +kernel
theorem dL_law_748 : decode cL_law 748 = .ok (.aload_n 3, 1) := by decide +kernel
theorem dL_law_749 : decode cL_law 749 = .ok (.iconst 0, 1) := by decide +kernel
theorem dL_law_750 : decode cL_law 750 = .ok (.laload, 1) := by decide +kernel
theorem dL_law_751 : decode cL_law 751 = .ok (.iload 6, 2) := by decide +kernel
theorem dL_law_753 : decode cL_law 753 = .ok (.i2l, 1) := by decide +kernel
theorem dL_law_754 : decode cL_law 754 = .ok (.lcmp, 1) := by decide +kernel
theorem dL_law_755 : decode cL_law 755 = .ok (.ifCond .eq 5, 3) := by decide +kernel
theorem dL_law_758 : decode cL_law 758 = .ok (.iconst 0, 1) := by decide +kernel
theorem dL_law_759 : decode cL_law 759 = .ok (.ireturn, 1) := by decide +kernel
theorem dL_law_760 : decode cL_law 760 = .ok (.goto 921, 3) := by decide +kernel
theorem dL_law_763 : decode cL_law 763 = .ok (.aload_n 1, 1) := by decide +kernel
theorem dL_law_764 : decode cL_law 764 = .ok (.aload_n 0, 1) := by decide +kernel
theorem dL_law_765 : decode cL_law 765 = .ok (.iload 4, 2) := by decide +kernel
theorem dL_law_767 : decode cL_law 767 = .ok (.iconst 1, 1) := by decide +kernel
theorem dL_law_768 : decode cL_law 768 = .ok (.iadd, 1) := by decide +kernel
theorem dL_law_769 : decode cL_law 769 = .ok (.iaload, 1) := by decide +kernel
theorem dL_law_770 : decode cL_law 770 = .ok (.aload_n 3, 1) := by decide +kernel
theorem dL_law_771 : decode cL_law 771 = .ok (.invokestatic 136, 3) := by decide +kernel
theorem dL_law_774 : decode cL_law 774 = .ok (.istore 5, 2) := by decide +kernel
theorem dL_law_776 : decode cL_law 776 = .ok (.aload_n 2, 1) := by decide +kernel
theorem dL_law_777 : decode cL_law 777 = .ok (.aload_n 0, 1) := by decide +kernel
theorem dL_law_778 : decode cL_law 778 = .ok (.iload 4, 2) := by decide +kernel
theorem dL_law_780 : decode cL_law 780 = .ok (.iconst 1, 1) := by decide +kernel
theorem dL_law_781 : decode cL_law 781 = .ok (.iadd, 1) := by decide +kernel
theorem dL_law_782 : decode cL_law 782 = .ok (.iaload, 1) := by decide +kernel
theorem dL_law_783 : decode cL_law 783 = .ok (.invokevirtual 138, 3) := by decide +kernel
theorem dL_law_786 : decode cL_law 786 = .ok (.lstore 6, 2) := by decide +kernel
theorem dL_law_788 : decode cL_law 788 = .ok (.aload_n 2, 1) := by decide +kernel
theorem dL_law_789 : decode cL_law 789 = .ok (.invokevirtual 101, 3) := by decide +kernel
theorem dL_law_792 : decode cL_law 792 = .ok (.iload 5, 2) := by decide +kernel
theorem dL_law_794 : decode cL_law 794 = .ok (.if_icmp .eq 5, 3) := by decide +kernel
theorem dL_law_797 : decode cL_law 797 = .ok (.iconst 0, 1) := by decide +kernel
theorem dL_law_798 : decode cL_law 798 = .ok (.ireturn, 1) := by decide +kernel
theorem dL_law_799 : decode cL_law 799 = .ok (.iload 5, 2) := by decide +kernel
theorem dL_law_801 : decode cL_law 801 = .ok (.ifCond .ne 14, 3) := by decide +kernel
theorem dL_law_804 : decode cL_law 804 = .ok (.aload_n 3, 1) := by decide +kernel
theorem dL_law_805 : decode cL_law 805 = .ok (.iconst 0, 1) := by decide +kernel
theorem dL_law_806 : decode cL_law 806 = .ok (.laload, 1) := by decide +kernel
theorem dL_law_807 : decode cL_law 807 = .ok (.lload 6, 2) := by decide +kernel
theorem dL_law_809 : decode cL_law 809 = .ok (.lcmp, 1) := by decide +kernel
theorem dL_law_810 : decode cL_law 810 = .ok (.ifCond .eq 5, 3) := by decide +kernel
theorem dL_law_813 : decode cL_law 813 = .ok (.iconst 0, 1) := by decide +kernel
theorem dL_law_814 : decode cL_law 814 = .ok (.ireturn, 1) := by decide +kernel
theorem dL_law_815 : decode cL_law 815 = .ok (.goto 866, 3) := by decide +kernel
theorem dL_law_818 : decode cL_law 818 = .ok (.aload_n 1, 1) := by decide +kernel
theorem dL_law_819 : decode cL_law 819 = .ok (.aload_n 0, 1) := by decide +kernel
theorem dL_law_820 : decode cL_law 820 = .ok (.iload 4, 2) := by decide +kernel
theorem dL_law_822 : decode cL_law 822 = .ok (.iconst 1, 1) := by decide +kernel
theorem dL_law_823 : decode cL_law 823 = .ok (.iadd, 1) := by decide +kernel
theorem dL_law_824 : decode cL_law 824 = .ok (.iaload, 1) := by decide +kernel
theorem dL_law_825 : decode cL_law 825 = .ok (.aload_n 0, 1) := by decide +kernel
theorem dL_law_826 : decode cL_law 826 = .ok (.iload 4, 2) := by decide +kernel
theorem dL_law_828 : decode cL_law 828 = .ok (.iconst 2, 1) := by decide +kernel
theorem dL_law_829 : decode cL_law 829 = .ok (.iadd, 1) := by decide +kernel
theorem dL_law_830 : decode cL_law 830 = .ok (.iaload, 1) := by decide +kernel
theorem dL_law_831 : decode cL_law 831 = .ok (.aload_n 3, 1) := by decide +kernel
theorem dL_law_832 : decode cL_law 832 = .ok (.invokestatic 139, 3) := by decide +kernel
theorem dL_law_835 : decode cL_law 835 = .ok (.istore 5, 2) := by decide +kernel
theorem dL_law_837 : decode cL_law 837 = .ok (.aload_n 2, 1) := by decide +kernel
theorem dL_law_838 : decode cL_law 838 = .ok (.aload_n 0, 1) := by decide +kernel
theorem dL_law_839 : decode cL_law 839 = .ok (.iload 4, 2) := by decide +kernel
theorem dL_law_841 : decode cL_law 841 = .ok (.iconst 1, 1) := by decide +kernel
theorem dL_law_842 : decode cL_law 842 = .ok (.iadd, 1) := by decide +kernel
theorem dL_law_843 : decode cL_law 843 = .ok (.iaload, 1) := by decide +kernel
theorem dL_law_844 : decode cL_law 844 = .ok (.aload_n 0, 1) := by decide +kernel
theorem dL_law_845 : decode cL_law 845 = .ok (.iload 4, 2) := by decide +kernel
theorem dL_law_847 : decode cL_law 847 = .ok (.iconst 2, 1) := by decide +kernel
theorem dL_law_848 : decode cL_law 848 = .ok (.iadd, 1) := by decide +kernel
theorem dL_law_849 : decode cL_law 849 = .ok (.iaload, 1) := by decide +kernel
theorem dL_law_850 : decode cL_law 850 = .ok (.invokevirtual 141, 3) := by decide +kernel
theorem dL_law_853 : decode cL_law 853 = .ok (.istore 6, 2) := by decide +kernel
theorem dL_law_855 : decode cL_law 855 = .ok (.aload_n 2, 1) := by decide +kernel
theorem dL_law_856 : decode cL_law 856 = .ok (.invokevirtual 101, 3) := by decide +kernel
theorem dL_law_859 : decode cL_law 859 = .ok (.iload 5, 2) := by decide +kernel
theorem dL_law_861 : decode cL_law 861 = .ok (.if_icmp .eq 5, 3) := by decide +kernel
theorem dL_law_864 : decode cL_law 864 = .ok (.iconst 0, 1) := by decide +kernel
theorem dL_law_865 : decode cL_law 865 = .ok (.ireturn, 1) := by decide +kernel
theorem dL_law_866 : decode cL_law 866 = .ok (.iload 5, 2) := by decide +kernel
theorem dL_law_868 : decode cL_law 868 = .ok (.ifCond .ne 15, 3) := by decide +kernel
theorem dL_law_871 : decode cL_law 871 = .ok (.aload_n 3, 1) := by decide +kernel
theorem dL_law_872 : decode cL_law 872 = .ok (.iconst 0, 1) := by decide +kernel
theorem dL_law_873 : decode cL_law 873 = .ok (.laload, 1) := by decide +kernel
theorem dL_law_874 : decode cL_law 874 = .ok (.iload 6, 2) := by decide +kernel
theorem dL_law_876 : decode cL_law 876 = .ok (.i2l, 1) := by decide +kernel
theorem dL_law_877 : decode cL_law 877 = .ok (.lcmp, 1) := by decide +kernel
theorem dL_law_878 : decode cL_law 878 = .ok (.ifCond .eq 5, 3) := by decide +kernel
theorem dL_law_881 : decode cL_law 881 = .ok (.iconst 0, 1) := by decide +kernel
theorem dL_law_882 : decode cL_law 882 = .ok (.ireturn, 1) := by decide +kernel
theorem dL_law_883 : decode cL_law 883 = .ok (.goto 798, 3) := by decide +kernel
theorem dL_law_886 : decode cL_law 886 = .ok (.aload_n 1, 1) := by decide +kernel
theorem dL_law_887 : decode cL_law 887 = .ok (.aload_n 0, 1) := by decide +kernel
theorem dL_law_888 : decode cL_law 888 = .ok (.iload 4, 2) := by decide +kernel
theorem dL_law_890 : decode cL_law 890 = .ok (.iconst 1, 1) := by decide +kernel
theorem dL_law_891 : decode cL_law 891 = .ok (.iadd, 1) := by decide +kernel
theorem dL_law_892 : decode cL_law 892 = .ok (.iaload, 1) := by decide +kernel
theorem dL_law_893 : decode cL_law 893 = .ok (.aload_n 0, 1) := by decide +kernel
theorem dL_law_894 : decode cL_law 894 = .ok (.iload 4, 2) := by decide +kernel
theorem dL_law_896 : decode cL_law 896 = .ok (.iconst 2, 1) := by decide +kernel
theorem dL_law_897 : decode cL_law 897 = .ok (.iadd, 1) := by decide +kernel
theorem dL_law_898 : decode cL_law 898 = .ok (.iaload, 1) := by decide +kernel
theorem dL_law_899 : decode cL_law 899 = .ok (.aload_n 3, 1) := by decide +kernel
theorem dL_law_900 : decode cL_law 900 = .ok (.invokestatic 142, 3) := by decide +kernel
theorem dL_law_903 : decode cL_law 903 = .ok (.istore 5, 2) := by decide +kernel
theorem dL_law_905 : decode cL_law 905 = .ok (.aload_n 2, 1) := by decide +kernel
theorem dL_law_906 : decode cL_law 906 = .ok (.aload_n 0, 1) := by decide +kernel
theorem dL_law_907 : decode cL_law 907 = .ok (.iload 4, 2) := by decide +kernel
theorem dL_law_909 : decode cL_law 909 = .ok (.iconst 1, 1) := by decide +kernel
theorem dL_law_910 : decode cL_law 910 = .ok (.iadd, 1) := by decide +kernel
theorem dL_law_911 : decode cL_law 911 = .ok (.iaload, 1) := by decide +kernel
theorem dL_law_912 : decode cL_law 912 = .ok (.aload_n 0, 1) := by decide +kernel
theorem dL_law_913 : decode cL_law 913 = .ok (.iload 4, 2) := by decide +kernel
theorem dL_law_915 : decode cL_law 915 = .ok (.iconst 2, 1) := by decide +kernel
theorem dL_law_916 : decode cL_law 916 = .ok (.iadd, 1) := by decide +kernel
theorem dL_law_917 : decode cL_law 917 = .ok (.iaload, 1) := by decide +kernel
theorem dL_law_918 : decode cL_law 918 = .ok (.invokevirtual 144, 3) := by decide +kernel
theorem dL_law_921 : decode cL_law 921 = .ok (.istore 6, 2) := by decide +kernel
theorem dL_law_923 : decode cL_law 923 = .ok (.aload_n 2, 1) := by decide +kernel
theorem dL_law_924 : decode cL_law 924 = .ok (.invokevirtual 101, 3) := by decide +kernel
theorem dL_law_927 : decode cL_law 927 = .ok (.iload 5, 2) := by decide +kernel
theorem dL_law_929 : decode cL_law 929 = .ok (.if_icmp .eq 5, 3) := by decide +kernel
theorem dL_law_932 : decode cL_law 932 = .ok (.iconst 0, 1) := by decide +kernel
theorem dL_law_933 : decode cL_law 933 = .ok (.ireturn, 1) := by decide +kernel
theorem dL_law_934 : decode cL_law 934 = .ok (.iload 5, 2) := by decide +kernel
theorem dL_law_936 : decode cL_law 936 = .ok (.ifCond .ne 15, 3) := by decide +kernel
theorem dL_law_939 : decode cL_law 939 = .ok (.aload_n 3, 1) := by decide +kernel
theorem dL_law_940 : decode cL_law 940 = .ok (.iconst 0, 1) := by decide +kernel
theorem dL_law_941 : decode cL_law 941 = .ok (.laload, 1) := by decide +kernel
theorem dL_law_942 : decode cL_law 942 = .ok (.iload 6, 2) := by decide +kernel
theorem dL_law_944 : decode cL_law 944 = .ok (.i2l, 1) := by decide +kernel
theorem dL_law_945 : decode cL_law 945 = .ok (.lcmp, 1) := by decide +kernel
theorem dL_law_946 : decode cL_law 946 = .ok (.ifCond .eq 5, 3) := by decide +kernel
theorem dL_law_949 : decode cL_law 949 = .ok (.iconst 0, 1) := by decide +kernel
theorem dL_law_950 : decode cL_law 950 = .ok (.ireturn, 1) := by decide +kernel
theorem dL_law_951 : decode cL_law 951 = .ok (.goto 730, 3) := by decide +kernel
theorem dL_law_954 : decode cL_law 954 = .ok (.aload_n 1, 1) := by decide +kernel
theorem dL_law_955 : decode cL_law 955 = .ok (.aload_n 0, 1) := by decide +kernel
theorem dL_law_956 : decode cL_law 956 = .ok (.iload 4, 2) := by decide +kernel
theorem dL_law_958 : decode cL_law 958 = .ok (.iconst 1, 1) := by decide +kernel
theorem dL_law_959 : decode cL_law 959 = .ok (.iadd, 1) := by decide +kernel
theorem dL_law_960 : decode cL_law 960 = .ok (.iaload, 1) := by decide +kernel
theorem dL_law_961 : decode cL_law 961 = .ok (.aload_n 0, 1) := by decide +kernel
theorem dL_law_962 : decode cL_law 962 = .ok (.iload 4, 2) := by decide +kernel
theorem dL_law_964 : decode cL_law 964 = .ok (.iconst 2, 1) := by decide +kernel
theorem dL_law_965 : decode cL_law 965 = .ok (.iadd, 1) := by decide +kernel
theorem dL_law_966 : decode cL_law 966 = .ok (.iaload, 1) := by decide +kernel
theorem dL_law_967 : decode cL_law 967 = .ok (.aload_n 3, 1) := by decide +kernel
theorem dL_law_968 : decode cL_law 968 = .ok (.invokestatic 145, 3) := by decide +kernel
theorem dL_law_971 : decode cL_law 971 = .ok (.istore 5, 2) := by decide +kernel
theorem dL_law_973 : decode cL_law 973 = .ok (.aload_n 2, 1) := by decide +kernel
theorem dL_law_974 : decode cL_law 974 = .ok (.aload_n 0, 1) := by decide +kernel
theorem dL_law_975 : decode cL_law 975 = .ok (.iload 4, 2) := by decide +kernel
theorem dL_law_977 : decode cL_law 977 = .ok (.iconst 1, 1) := by decide +kernel
theorem dL_law_978 : decode cL_law 978 = .ok (.iadd, 1) := by decide +kernel
theorem dL_law_979 : decode cL_law 979 = .ok (.iaload, 1) := by decide +kernel
theorem dL_law_980 : decode cL_law 980 = .ok (.aload_n 0, 1) := by decide +kernel
theorem dL_law_981 : decode cL_law 981 = .ok (.iload 4, 2) := by decide +kernel
theorem dL_law_983 : decode cL_law 983 = .ok (.iconst 2, 1) := by decide +kernel
theorem dL_law_984 : decode cL_law 984 = .ok (.iadd, 1) := by decide +kernel
theorem dL_law_985 : decode cL_law 985 = .ok (.iaload, 1) := by decide +kernel
theorem dL_law_986 : decode cL_law 986 = .ok (.invokevirtual 147, 3) := by decide +kernel
theorem dL_law_989 : decode cL_law 989 = .ok (.istore 6, 2) := by decide +kernel
theorem dL_law_991 : decode cL_law 991 = .ok (.aload_n 2, 1) := by decide +kernel
theorem dL_law_992 : decode cL_law 992 = .ok (.invokevirtual 101, 3) := by decide +kernel
theorem dL_law_995 : decode cL_law 995 = .ok (.iload 5, 2) := by decide +kernel
theorem dL_law_997 : decode cL_law 997 = .ok (.if_icmp .eq 5, 3) := by decide +kernel
theorem dL_law_1000 : decode cL_law 1000 = .ok (.iconst 0, 1) := by decide +kernel
theorem dL_law_1001 : decode cL_law 1001 = .ok (.ireturn, 1) := by decide +kernel
theorem dL_law_1002 : decode cL_law 1002 = .ok (.iload 5, 2) := by decide +kernel
theorem dL_law_1004 : decode cL_law 1004 = .ok (.ifCond .ne 15, 3) := by decide +kernel
theorem dL_law_1007 : decode cL_law 1007 = .ok (.aload_n 3, 1) := by decide +kernel
theorem dL_law_1008 : decode cL_law 1008 = .ok (.iconst 0, 1) := by decide +kernel
theorem dL_law_1009 : decode cL_law 1009 = .ok (.laload, 1) := by decide +kernel
theorem dL_law_1010 : decode cL_law 1010 = .ok (.iload 6, 2) := by decide +kernel
theorem dL_law_1012 : decode cL_law 1012 = .ok (.i2l, 1) := by decide +kernel
theorem dL_law_1013 : decode cL_law 1013 = .ok (.lcmp, 1) := by decide +kernel
theorem dL_law_1014 : decode cL_law 1014 = .ok (.ifCond .eq 5, 3) := by decide +kernel
theorem dL_law_1017 : decode cL_law 1017 = .ok (.iconst 0, 1) := by decide +kernel
theorem dL_law_1018 : decode cL_law 1018 = .ok (.ireturn, 1) := by decide +kernel
theorem dL_law_1019 : decode cL_law 1019 = .ok (.goto 662, 3) := by decide +kernel
theorem dL_law_1022 : decode cL_law 1022 = .ok (.aload_n 1, 1) := by decide +kernel
theorem dL_law_1023 : decode cL_law 1023 = .ok (.aload_n 0, 1) := by decide +kernel
theorem dL_law_1024 : decode cL_law 1024 = .ok (.iload 4, 2) := by decide +kernel
theorem dL_law_1026 : decode cL_law 1026 = .ok (.iconst 1, 1) := by decide +kernel
theorem dL_law_1027 : decode cL_law 1027 = .ok (.iadd, 1) := by decide +kernel
theorem dL_law_1028 : decode cL_law 1028 = .ok (.iaload, 1) := by decide +kernel
theorem dL_law_1029 : decode cL_law 1029 = .ok (.aload_n 0, 1) := by decide +kernel
theorem dL_law_1030 : decode cL_law 1030 = .ok (.iload 4, 2) := by decide +kernel
theorem dL_law_1032 : decode cL_law 1032 = .ok (.iconst 2, 1) := by decide +kernel
theorem dL_law_1033 : decode cL_law 1033 = .ok (.iadd, 1) := by decide +kernel
theorem dL_law_1034 : decode cL_law 1034 = .ok (.iaload, 1) := by decide +kernel
theorem dL_law_1035 : decode cL_law 1035 = .ok (.aload_n 3, 1) := by decide +kernel
theorem dL_law_1036 : decode cL_law 1036 = .ok (.invokestatic 148, 3) := by decide +kernel
theorem dL_law_1039 : decode cL_law 1039 = .ok (.istore 5, 2) := by decide +kernel
theorem dL_law_1041 : decode cL_law 1041 = .ok (.aload_n 2, 1) := by decide +kernel
theorem dL_law_1042 : decode cL_law 1042 = .ok (.aload_n 0, 1) := by decide +kernel
theorem dL_law_1043 : decode cL_law 1043 = .ok (.iload 4, 2) := by decide +kernel
theorem dL_law_1045 : decode cL_law 1045 = .ok (.iconst 1, 1) := by decide +kernel
theorem dL_law_1046 : decode cL_law 1046 = .ok (.iadd, 1) := by decide +kernel
theorem dL_law_1047 : decode cL_law 1047 = .ok (.iaload, 1) := by decide +kernel
theorem dL_law_1048 : decode cL_law 1048 = .ok (.aload_n 0, 1) := by decide +kernel
theorem dL_law_1049 : decode cL_law 1049 = .ok (.iload 4, 2) := by decide +kernel
theorem dL_law_1051 : decode cL_law 1051 = .ok (.iconst 2, 1) := by decide +kernel
theorem dL_law_1052 : decode cL_law 1052 = .ok (.iadd, 1) := by decide +kernel
theorem dL_law_1053 : decode cL_law 1053 = .ok (.iaload, 1) := by decide +kernel
theorem dL_law_1054 : decode cL_law 1054 = .ok (.invokevirtual 150, 3) := by decide +kernel
theorem dL_law_1057 : decode cL_law 1057 = .ok (.istore 6, 2) := by decide +kernel
theorem dL_law_1059 : decode cL_law 1059 = .ok (.aload_n 2, 1) := by decide +kernel
theorem dL_law_1060 : decode cL_law 1060 = .ok (.invokevirtual 101, 3) := by decide +kernel
theorem dL_law_1063 : decode cL_law 1063 = .ok (.iload 5, 2) := by decide +kernel
theorem dL_law_1065 : decode cL_law 1065 = .ok (.if_icmp .eq 5, 3) := by decide +kernel
theorem dL_law_1068 : decode cL_law 1068 = .ok (.iconst 0, 1) := by decide +kernel
theorem dL_law_1069 : decode cL_law 1069 = .ok (.ireturn, 1) := by decide +kernel
theorem dL_law_1070 : decode cL_law 1070 = .ok (.iload 5, 2) := by decide +kernel
theorem dL_law_1072 : decode cL_law 1072 = .ok (.ifCond .ne 15, 3) := by decide +kernel
theorem dL_law_1075 : decode cL_law 1075 = .ok (.aload_n 3, 1) := by decide +kernel
theorem dL_law_1076 : decode cL_law 1076 = .ok (.iconst 0, 1) := by decide +kernel
theorem dL_law_1077 : decode cL_law 1077 = .ok (.laload, 1) := by decide +kernel
theorem dL_law_1078 : decode cL_law 1078 = .ok (.iload 6, 2) := by decide +kernel
theorem dL_law_1080 : decode cL_law 1080 = .ok (.i2l, 1) := by decide +kernel
theorem dL_law_1081 : decode cL_law 1081 = .ok (.lcmp, 1) := by decide +kernel
theorem dL_law_1082 : decode cL_law 1082 = .ok (.ifCond .eq 5, 3) := by decide +kernel
theorem dL_law_1085 : decode cL_law 1085 = .ok (.iconst 0, 1) := by decide +kernel
theorem dL_law_1086 : decode cL_law 1086 = .ok (.ireturn, 1) := by decide +kernel
theorem dL_law_1087 : decode cL_law 1087 = .ok (.goto 594, 3) := by decide +kernel
theorem dL_law_1090 : decode cL_law 1090 = .ok (.aload_n 1, 1) := by decide +kernel
theorem dL_law_1091 : decode cL_law 1091 = .ok (.aload_n 0, 1) := by decide +kernel
theorem dL_law_1092 : decode cL_law 1092 = .ok (.iload 4, 2) := by decide +kernel
theorem dL_law_1094 : decode cL_law 1094 = .ok (.iconst 1, 1) := by decide +kernel
theorem dL_law_1095 : decode cL_law 1095 = .ok (.iadd, 1) := by decide +kernel
theorem dL_law_1096 : decode cL_law 1096 = .ok (.iaload, 1) := by decide +kernel
theorem dL_law_1097 : decode cL_law 1097 = .ok (.aload_n 3, 1) := by decide +kernel
theorem dL_law_1098 : decode cL_law 1098 = .ok (.invokestatic 151, 3) := by decide +kernel
theorem dL_law_1101 : decode cL_law 1101 = .ok (.istore 5, 2) := by decide +kernel
theorem dL_law_1103 : decode cL_law 1103 = .ok (.aload_n 2, 1) := by decide +kernel
theorem dL_law_1104 : decode cL_law 1104 = .ok (.aload_n 0, 1) := by decide +kernel
theorem dL_law_1105 : decode cL_law 1105 = .ok (.iload 4, 2) := by decide +kernel
theorem dL_law_1107 : decode cL_law 1107 = .ok (.iconst 1, 1) := by decide +kernel
theorem dL_law_1108 : decode cL_law 1108 = .ok (.iadd, 1) := by decide +kernel
theorem dL_law_1109 : decode cL_law 1109 = .ok (.iaload, 1) := by decide +kernel
theorem dL_law_1110 : decode cL_law 1110 = .ok (.invokevirtual 153, 3) := by decide +kernel
theorem dL_law_1113 : decode cL_law 1113 = .ok (.istore 6, 2) := by decide +kernel
theorem dL_law_1115 : decode cL_law 1115 = .ok (.aload_n 2, 1) := by decide +kernel
theorem dL_law_1116 : decode cL_law 1116 = .ok (.invokevirtual 101, 3) := by decide +kernel
theorem dL_law_1119 : decode cL_law 1119 = .ok (.iload 5, 2) := by decide +kernel
theorem dL_law_1121 : decode cL_law 1121 = .ok (.if_icmp .eq 5, 3) := by decide +kernel
theorem dL_law_1124 : decode cL_law 1124 = .ok (.iconst 0, 1) := by decide +kernel
theorem dL_law_1125 : decode cL_law 1125 = .ok (.ireturn, 1) := by decide +kernel
theorem dL_law_1126 : decode cL_law 1126 = .ok (.iload 5, 2) := by decide +kernel
theorem dL_law_1128 : decode cL_law 1128 = .ok (.ifCond .ne 15, 3) := by decide +kernel
theorem dL_law_1131 : decode cL_law 1131 = .ok (.aload_n 3, 1) := by decide +kernel
theorem dL_law_1132 : decode cL_law 1132 = .ok (.iconst 0, 1) := by decide +kernel
theorem dL_law_1133 : decode cL_law 1133 = .ok (.laload, 1) := by decide +kernel
theorem dL_law_1134 : decode cL_law 1134 = .ok (.iload 6, 2) := by decide +kernel
theorem dL_law_1136 : decode cL_law 1136 = .ok (.i2l, 1) := by decide +kernel
theorem dL_law_1137 : decode cL_law 1137 = .ok (.lcmp, 1) := by decide +kernel
theorem dL_law_1138 : decode cL_law 1138 = .ok (.ifCond .eq 5, 3) := by decide +kernel
theorem dL_law_1141 : decode cL_law 1141 = .ok (.iconst 0, 1) := by decide +kernel
theorem dL_law_1142 : decode cL_law 1142 = .ok (.ireturn, 1) := by decide +kernel
theorem dL_law_1143 : decode cL_law 1143 = .ok (.goto 538, 3) := by decide +kernel
theorem dL_law_1146 : decode cL_law 1146 = .ok (.aload_n 1, 1) := by decide +kernel
theorem dL_law_1147 : decode cL_law 1147 = .ok (.aload_n 0, 1) := by decide +kernel
theorem dL_law_1148 : decode cL_law 1148 = .ok (.iload 4, 2) := by decide +kernel
theorem dL_law_1150 : decode cL_law 1150 = .ok (.iconst 1, 1) := by decide +kernel
theorem dL_law_1151 : decode cL_law 1151 = .ok (.iadd, 1) := by decide +kernel
theorem dL_law_1152 : decode cL_law 1152 = .ok (.iaload, 1) := by decide +kernel
theorem dL_law_1153 : decode cL_law 1153 = .ok (.aload_n 3, 1) := by decide +kernel
theorem dL_law_1154 : decode cL_law 1154 = .ok (.invokestatic 154, 3) := by decide +kernel
theorem dL_law_1157 : decode cL_law 1157 = .ok (.istore 5, 2) := by decide +kernel
theorem dL_law_1159 : decode cL_law 1159 = .ok (.aload_n 2, 1) := by decide +kernel
theorem dL_law_1160 : decode cL_law 1160 = .ok (.aload_n 0, 1) := by decide +kernel
theorem dL_law_1161 : decode cL_law 1161 = .ok (.iload 4, 2) := by decide +kernel
theorem dL_law_1163 : decode cL_law 1163 = .ok (.iconst 1, 1) := by decide +kernel
theorem dL_law_1164 : decode cL_law 1164 = .ok (.iadd, 1) := by decide +kernel
theorem dL_law_1165 : decode cL_law 1165 = .ok (.iaload, 1) := by decide +kernel
theorem dL_law_1166 : decode cL_law 1166 = .ok (.invokevirtual 156, 3) := by decide +kernel
theorem dL_law_1169 : decode cL_law 1169 = .ok (.istore 6, 2) := by decide +kernel
theorem dL_law_1171 : decode cL_law 1171 = .ok (.aload_n 2, 1) := by decide +kernel
theorem dL_law_1172 : decode cL_law 1172 = .ok (.invokevirtual 101, 3) := by decide +kernel
theorem dL_law_1175 : decode cL_law 1175 = .ok (.iload 5, 2) := by decide +kernel
theorem dL_law_1177 : decode cL_law 1177 = .ok (.if_icmp .eq 5, 3) := by decide +kernel
theorem dL_law_1180 : decode cL_law 1180 = .ok (.iconst 0, 1) := by decide +kernel
theorem dL_law_1181 : decode cL_law 1181 = .ok (.ireturn, 1) := by decide +kernel
theorem dL_law_1182 : decode cL_law 1182 = .ok (.iload 5, 2) := by decide +kernel
theorem dL_law_1184 : decode cL_law 1184 = .ok (.ifCond .ne 15, 3) := by decide +kernel
theorem dL_law_1187 : decode cL_law 1187 = .ok (.aload_n 3, 1) := by decide +kernel
theorem dL_law_1188 : decode cL_law 1188 = .ok (.iconst 0, 1) := by decide +kernel
theorem dL_law_1189 : decode cL_law 1189 = .ok (.laload, 1) := by decide +kernel
theorem dL_law_1190 : decode cL_law 1190 = .ok (.iload 6, 2) := by decide +kernel
theorem dL_law_1192 : decode cL_law 1192 = .ok (.i2l, 1) := by decide +kernel
theorem dL_law_1193 : decode cL_law 1193 = .ok (.lcmp, 1) := by decide +kernel
theorem dL_law_1194 : decode cL_law 1194 = .ok (.ifCond .eq 5, 3) := by decide +kernel
theorem dL_law_1197 : decode cL_law 1197 = .ok (.iconst 0, 1) := by decide +kernel
theorem dL_law_1198 : decode cL_law 1198 = .ok (.ireturn, 1) := by decide +kernel
theorem dL_law_1199 : decode cL_law 1199 = .ok (.goto 482, 3) := by decide +kernel
theorem dL_law_1202 : decode cL_law 1202 = .ok (.aload_n 1, 1) := by decide +kernel
theorem dL_law_1203 : decode cL_law 1203 = .ok (.aload_n 0, 1) := by decide +kernel
theorem dL_law_1204 : decode cL_law 1204 = .ok (.iload 4, 2) := by decide +kernel
theorem dL_law_1206 : decode cL_law 1206 = .ok (.iconst 1, 1) := by decide +kernel
theorem dL_law_1207 : decode cL_law 1207 = .ok (.iadd, 1) := by decide +kernel
theorem dL_law_1208 : decode cL_law 1208 = .ok (.iaload, 1) := by decide +kernel
theorem dL_law_1209 : decode cL_law 1209 = .ok (.aload_n 0, 1) := by decide +kernel
theorem dL_law_1210 : decode cL_law 1210 = .ok (.iload 4, 2) := by decide +kernel
theorem dL_law_1212 : decode cL_law 1212 = .ok (.iconst 2, 1) := by decide +kernel
theorem dL_law_1213 : decode cL_law 1213 = .ok (.iadd, 1) := by decide +kernel
theorem dL_law_1214 : decode cL_law 1214 = .ok (.iaload, 1) := by decide +kernel
theorem dL_law_1215 : decode cL_law 1215 = .ok (.aload_n 3, 1) := by decide +kernel
theorem dL_law_1216 : decode cL_law 1216 = .ok (.invokestatic 157, 3) := by decide +kernel
theorem dL_law_1219 : decode cL_law 1219 = .ok (.istore 5, 2) := by decide +kernel
theorem dL_law_1221 : decode cL_law 1221 = .ok (.aload_n 2, 1) := by decide +kernel
theorem dL_law_1222 : decode cL_law 1222 = .ok (.aload_n 0, 1) := by decide +kernel
theorem dL_law_1223 : decode cL_law 1223 = .ok (.iload 4, 2) := by decide +kernel
theorem dL_law_1225 : decode cL_law 1225 = .ok (.iconst 1, 1) := by decide +kernel
theorem dL_law_1226 : decode cL_law 1226 = .ok (.iadd, 1) := by decide +kernel
theorem dL_law_1227 : decode cL_law 1227 = .ok (.iaload, 1) := by decide +kernel
theorem dL_law_1228 : decode cL_law 1228 = .ok (.aload_n 0, 1) := by decide +kernel
theorem dL_law_1229 : decode cL_law 1229 = .ok (.iload 4, 2) := by decide +kernel
theorem dL_law_1231 : decode cL_law 1231 = .ok (.iconst 2, 1) := by decide +kernel
theorem dL_law_1232 : decode cL_law 1232 = .ok (.iadd, 1) := by decide +kernel
theorem dL_law_1233 : decode cL_law 1233 = .ok (.iaload, 1) := by decide +kernel
theorem dL_law_1234 : decode cL_law 1234 = .ok (.invokevirtual 159, 3) := by decide +kernel
theorem dL_law_1237 : decode cL_law 1237 = .ok (.istore 6, 2) := by decide +kernel
theorem dL_law_1239 : decode cL_law 1239 = .ok (.aload_n 2, 1) := by decide +kernel
theorem dL_law_1240 : decode cL_law 1240 = .ok (.invokevirtual 101, 3) := by decide +kernel
theorem dL_law_1243 : decode cL_law 1243 = .ok (.iload 5, 2) := by decide +kernel
theorem dL_law_1245 : decode cL_law 1245 = .ok (.if_icmp .eq 5, 3) := by decide +kernel
theorem dL_law_1248 : decode cL_law 1248 = .ok (.iconst 0, 1) := by decide +kernel
theorem dL_law_1249 : decode cL_law 1249 = .ok (.ireturn, 1) := by decide +kernel
theorem dL_law_1250 : decode cL_law 1250 = .ok (.iload 5, 2) := by decide +kernel
theorem dL_law_1252 : decode cL_law 1252 = .ok (.ifCond .ne 15, 3) := by decide +kernel
theorem dL_law_1255 : decode cL_law 1255 = .ok (.aload_n 3, 1) := by decide +kernel
theorem dL_law_1256 : decode cL_law 1256 = .ok (.iconst 0, 1) := by decide +kernel
theorem dL_law_1257 : decode cL_law 1257 = .ok (.laload, 1) := by decide +kernel
theorem dL_law_1258 : decode cL_law 1258 = .ok (.iload 6, 2) := by decide +kernel
theorem dL_law_1260 : decode cL_law 1260 = .ok (.i2l, 1) := by decide +kernel
theorem dL_law_1261 : decode cL_law 1261 = .ok (.lcmp, 1) := by decide +kernel
theorem dL_law_1262 : decode cL_law 1262 = .ok (.ifCond .eq 5, 3) := by decide +kernel
theorem dL_law_1265 : decode cL_law 1265 = .ok (.iconst 0, 1) := by decide +kernel
theorem dL_law_1266 : decode cL_law 1266 = .ok (.ireturn, 1) := by decide +kernel
theorem dL_law_1267 : decode cL_law 1267 = .ok (.goto 414, 3) := by decide +kernel
theorem dL_law_1270 : decode cL_law 1270 = .ok (.aload_n 1, 1) := by decide +kernel
theorem dL_law_1271 : decode cL_law 1271 = .ok (.aload_n 0, 1) := by decide +kernel
theorem dL_law_1272 : decode cL_law 1272 = .ok (.iload 4, 2) := by decide +kernel
theorem dL_law_1274 : decode cL_law 1274 = .ok (.iconst 1, 1) := by decide +kernel
theorem dL_law_1275 : decode cL_law 1275 = .ok (.iadd, 1) := by decide +kernel
theorem dL_law_1276 : decode cL_law 1276 = .ok (.iaload, 1) := by decide +kernel
theorem dL_law_1277 : decode cL_law 1277 = .ok (.aload_n 3, 1) := by decide +kernel
theorem dL_law_1278 : decode cL_law 1278 = .ok (.invokestatic 160, 3) := by decide +kernel
theorem dL_law_1281 : decode cL_law 1281 = .ok (.istore 5, 2) := by decide +kernel
theorem dL_law_1283 : decode cL_law 1283 = .ok (.aload_n 2, 1) := by decide +kernel
theorem dL_law_1284 : decode cL_law 1284 = .ok (.aload_n 0, 1) := by decide +kernel
theorem dL_law_1285 : decode cL_law 1285 = .ok (.iload 4, 2) := by decide +kernel
theorem dL_law_1287 : decode cL_law 1287 = .ok (.iconst 1, 1) := by decide +kernel
theorem dL_law_1288 : decode cL_law 1288 = .ok (.iadd, 1) := by decide +kernel
theorem dL_law_1289 : decode cL_law 1289 = .ok (.iaload, 1) := by decide +kernel
theorem dL_law_1290 : decode cL_law 1290 = .ok (.invokevirtual 162, 3) := by decide +kernel
theorem dL_law_1293 : decode cL_law 1293 = .ok (.istore 6, 2) := by decide +kernel
theorem dL_law_1295 : decode cL_law 1295 = .ok (.aload_n 2, 1) := by decide +kernel
theorem dL_law_1296 : decode cL_law 1296 = .ok (.invokevirtual 101, 3) := by decide +kernel
theorem dL_law_1299 : decode cL_law 1299 = .ok (.iload 5, 2) := by decide +kernel
theorem dL_law_1301 : decode cL_law 1301 = .ok (.if_icmp .eq 5, 3) := by decide +kernel
theorem dL_law_1304 : decode cL_law 1304 = .ok (.iconst 0, 1) := by decide +kernel
theorem dL_law_1305 : decode cL_law 1305 = .ok (.ireturn, 1) := by decide +kernel
theorem dL_law_1306 : decode cL_law 1306 = .ok (.iload 5, 2) := by decide +kernel
theorem dL_law_1308 : decode cL_law 1308 = .ok (.ifCond .ne 15, 3) := by decide +kernel
theorem dL_law_1311 : decode cL_law 1311 = .ok (.aload_n 3, 1) := by decide +kernel
theorem dL_law_1312 : decode cL_law 1312 = .ok (.iconst 0, 1) := by decide +kernel
theorem dL_law_1313 : decode cL_law 1313 = .ok (.laload, 1) := by decide +kernel
theorem dL_law_1314 : decode cL_law 1314 = .ok (.iload 6, 2) := by decide +kernel
theorem dL_law_1316 : decode cL_law 1316 = .ok (.i2l, 1) := by decide +kernel
theorem dL_law_1317 : decode cL_law 1317 = .ok (.lcmp, 1) := by decide +kernel
theorem dL_law_1318 : decode cL_law 1318 = .ok (.ifCond .eq 5, 3) := by decide +kernel
theorem dL_law_1321 : decode cL_law 1321 = .ok (.iconst 0, 1) := by decide +kernel
theorem dL_law_1322 : decode cL_law 1322 = .ok (.ireturn, 1) := by decide +kernel
theorem dL_law_1323 : decode cL_law 1323 = .ok (.goto 358, 3) := by decide +kernel
theorem dL_law_1326 : decode cL_law 1326 = .ok (.aload_n 1, 1) := by decide +kernel
theorem dL_law_1327 : decode cL_law 1327 = .ok (.aload_n 0, 1) := by decide +kernel
theorem dL_law_1328 : decode cL_law 1328 = .ok (.iload 4, 2) := by decide +kernel
theorem dL_law_1330 : decode cL_law 1330 = .ok (.iconst 1, 1) := by decide +kernel
theorem dL_law_1331 : decode cL_law 1331 = .ok (.iadd, 1) := by decide +kernel
theorem dL_law_1332 : decode cL_law 1332 = .ok (.iaload, 1) := by decide +kernel
theorem dL_law_1333 : decode cL_law 1333 = .ok (.aload_n 0, 1) := by decide +kernel
theorem dL_law_1334 : decode cL_law 1334 = .ok (.iload 4, 2) := by decide +kernel
theorem dL_law_1336 : decode cL_law 1336 = .ok (.iconst 2, 1) := by decide +kernel
theorem dL_law_1337 : decode cL_law 1337 = .ok (.iadd, 1) := by decide +kernel
theorem dL_law_1338 : decode cL_law 1338 = .ok (.iaload, 1) := by decide +kernel
theorem dL_law_1339 : decode cL_law 1339 = .ok (.aload_n 3, 1) := by decide +kernel
theorem dL_law_1340 : decode cL_law 1340 = .ok (.invokestatic 163, 3) := by decide +kernel
theorem dL_law_1343 : decode cL_law 1343 = .ok (.istore 5, 2) := by decide +kernel
theorem dL_law_1345 : decode cL_law 1345 = .ok (.aload_n 2, 1) := by decide +kernel
theorem dL_law_1346 : decode cL_law 1346 = .ok (.aload_n 0, 1) := by decide +kernel
theorem dL_law_1347 : decode cL_law 1347 = .ok (.iload 4, 2) := by decide +kernel
theorem dL_law_1349 : decode cL_law 1349 = .ok (.iconst 1, 1) := by decide +kernel
theorem dL_law_1350 : decode cL_law 1350 = .ok (.iadd, 1) := by decide +kernel
theorem dL_law_1351 : decode cL_law 1351 = .ok (.iaload, 1) := by decide +kernel
theorem dL_law_1352 : decode cL_law 1352 = .ok (.aload_n 0, 1) := by decide +kernel
theorem dL_law_1353 : decode cL_law 1353 = .ok (.iload 4, 2) := by decide +kernel
theorem dL_law_1355 : decode cL_law 1355 = .ok (.iconst 2, 1) := by decide +kernel
theorem dL_law_1356 : decode cL_law 1356 = .ok (.iadd, 1) := by decide +kernel
theorem dL_law_1357 : decode cL_law 1357 = .ok (.iaload, 1) := by decide +kernel
theorem dL_law_1358 : decode cL_law 1358 = .ok (.invokevirtual 165, 3) := by decide +kernel
theorem dL_law_1361 : decode cL_law 1361 = .ok (.istore 6, 2) := by decide +kernel
theorem dL_law_1363 : decode cL_law 1363 = .ok (.aload_n 2, 1) := by decide +kernel
theorem dL_law_1364 : decode cL_law 1364 = .ok (.invokevirtual 101, 3) := by decide +kernel
theorem dL_law_1367 : decode cL_law 1367 = .ok (.iload 5, 2) := by decide +kernel
theorem dL_law_1369 : decode cL_law 1369 = .ok (.if_icmp .eq 5, 3) := by decide +kernel
theorem dL_law_1372 : decode cL_law 1372 = .ok (.iconst 0, 1) := by decide +kernel
theorem dL_law_1373 : decode cL_law 1373 = .ok (.ireturn, 1) := by decide +kernel
theorem dL_law_1374 : decode cL_law 1374 = .ok (.iload 5, 2) := by decide +kernel
theorem dL_law_1376 : decode cL_law 1376 = .ok (.ifCond .ne 15, 3) := by decide +kernel
theorem dL_law_1379 : decode cL_law 1379 = .ok (.aload_n 3, 1) := by decide +kernel
theorem dL_law_1380 : decode cL_law 1380 = .ok (.iconst 0, 1) := by decide +kernel
theorem dL_law_1381 : decode cL_law 1381 = .ok (.laload, 1) := by decide +kernel
theorem dL_law_1382 : decode cL_law 1382 = .ok (.iload 6, 2) := by decide +kernel
theorem dL_law_1384 : decode cL_law 1384 = .ok (.i2l, 1) := by decide +kernel
theorem dL_law_1385 : decode cL_law 1385 = .ok (.lcmp, 1) := by decide +kernel
theorem dL_law_1386 : decode cL_law 1386 = .ok (.ifCond .eq 5, 3) := by decide +kernel
theorem dL_law_1389 : decode cL_law 1389 = .ok (.iconst 0, 1) := by decide +kernel
theorem dL_law_1390 : decode cL_law 1390 = .ok (.ireturn, 1) := by decide +kernel
theorem dL_law_1391 : decode cL_law 1391 = .ok (.goto 290, 3) := by decide +kernel
theorem dL_law_1394 : decode cL_law 1394 = .ok (.aload_n 1, 1) := by decide +kernel
theorem dL_law_1395 : decode cL_law 1395 = .ok (.aload_n 0, 1) := by decide +kernel
theorem dL_law_1396 : decode cL_law 1396 = .ok (.iload 4, 2) := by decide +kernel
theorem dL_law_1398 : decode cL_law 1398 = .ok (.iconst 1, 1) := by decide +kernel
theorem dL_law_1399 : decode cL_law 1399 = .ok (.iadd, 1) := by decide +kernel
theorem dL_law_1400 : decode cL_law 1400 = .ok (.iaload, 1) := by decide +kernel
theorem dL_law_1401 : decode cL_law 1401 = .ok (.aload_n 3, 1) := by decide +kernel
theorem dL_law_1402 : decode cL_law 1402 = .ok (.invokestatic 166, 3) := by decide +kernel
theorem dL_law_1405 : decode cL_law 1405 = .ok (.istore 5, 2) := by decide +kernel
theorem dL_law_1407 : decode cL_law 1407 = .ok (.aload_n 2, 1) := by decide +kernel
theorem dL_law_1408 : decode cL_law 1408 = .ok (.aload_n 0, 1) := by decide +kernel
theorem dL_law_1409 : decode cL_law 1409 = .ok (.iload 4, 2) := by decide +kernel
theorem dL_law_1411 : decode cL_law 1411 = .ok (.iconst 1, 1) := by decide +kernel
theorem dL_law_1412 : decode cL_law 1412 = .ok (.iadd, 1) := by decide +kernel
theorem dL_law_1413 : decode cL_law 1413 = .ok (.iaload, 1) := by decide +kernel
theorem dL_law_1414 : decode cL_law 1414 = .ok (.invokevirtual 168, 3) := by decide +kernel
theorem dL_law_1417 : decode cL_law 1417 = .ok (.istore 6, 2) := by decide +kernel
theorem dL_law_1419 : decode cL_law 1419 = .ok (.aload_n 2, 1) := by decide +kernel
theorem dL_law_1420 : decode cL_law 1420 = .ok (.invokevirtual 101, 3) := by decide +kernel
theorem dL_law_1423 : decode cL_law 1423 = .ok (.iload 5, 2) := by decide +kernel
theorem dL_law_1425 : decode cL_law 1425 = .ok (.if_icmp .eq 5, 3) := by decide +kernel
theorem dL_law_1428 : decode cL_law 1428 = .ok (.iconst 0, 1) := by decide +kernel
theorem dL_law_1429 : decode cL_law 1429 = .ok (.ireturn, 1) := by decide +kernel
theorem dL_law_1430 : decode cL_law 1430 = .ok (.iload 5, 2) := by decide +kernel
theorem dL_law_1432 : decode cL_law 1432 = .ok (.ifCond .ne 15, 3) := by decide +kernel
theorem dL_law_1435 : decode cL_law 1435 = .ok (.aload_n 3, 1) := by decide +kernel
theorem dL_law_1436 : decode cL_law 1436 = .ok (.iconst 0, 1) := by decide +kernel
theorem dL_law_1437 : decode cL_law 1437 = .ok (.laload, 1) := by decide +kernel
theorem dL_law_1438 : decode cL_law 1438 = .ok (.iload 6, 2) := by decide +kernel
theorem dL_law_1440 : decode cL_law 1440 = .ok (.i2l, 1) := by decide +kernel
theorem dL_law_1441 : decode cL_law 1441 = .ok (.lcmp, 1) := by decide +kernel
theorem dL_law_1442 : decode cL_law 1442 = .ok (.ifCond .eq 5, 3) := by decide +kernel
theorem dL_law_1445 : decode cL_law 1445 = .ok (.iconst 0, 1) := by decide +kernel
theorem dL_law_1446 : decode cL_law 1446 = .ok (.ireturn, 1) := by decide +kernel
theorem dL_law_1447 : decode cL_law 1447 = .ok (.goto 234, 3) := by decide +kernel
theorem dL_law_1450 : decode cL_law 1450 = .ok (.aload_n 1, 1) := by decide +kernel
theorem dL_law_1451 : decode cL_law 1451 = .ok (.aload_n 0, 1) := by decide +kernel
theorem dL_law_1452 : decode cL_law 1452 = .ok (.iload 4, 2) := by decide +kernel
theorem dL_law_1454 : decode cL_law 1454 = .ok (.iconst 1, 1) := by decide +kernel
theorem dL_law_1455 : decode cL_law 1455 = .ok (.iadd, 1) := by decide +kernel
theorem dL_law_1456 : decode cL_law 1456 = .ok (.iaload, 1) := by decide +kernel
theorem dL_law_1457 : decode cL_law 1457 = .ok (.aload_n 3, 1) := by decide +kernel
theorem dL_law_1458 : decode cL_law 1458 = .ok (.invokestatic 169, 3) := by decide +kernel
theorem dL_law_1461 : decode cL_law 1461 = .ok (.istore 5, 2) := by decide +kernel
theorem dL_law_1463 : decode cL_law 1463 = .ok (.aload_n 2, 1) := by decide +kernel
theorem dL_law_1464 : decode cL_law 1464 = .ok (.aload_n 0, 1) := by decide +kernel
theorem dL_law_1465 : decode cL_law 1465 = .ok (.iload 4, 2) := by decide +kernel
theorem dL_law_1467 : decode cL_law 1467 = .ok (.iconst 1, 1) := by decide +kernel
theorem dL_law_1468 : decode cL_law 1468 = .ok (.iadd, 1) := by decide +kernel
theorem dL_law_1469 : decode cL_law 1469 = .ok (.iaload, 1) := by decide +kernel
theorem dL_law_1470 : decode cL_law 1470 = .ok (.invokevirtual 171, 3) := by decide +kernel
theorem dL_law_1473 : decode cL_law 1473 = .ok (.istore 6, 2) := by decide +kernel
theorem dL_law_1475 : decode cL_law 1475 = .ok (.aload_n 2, 1) := by decide +kernel
theorem dL_law_1476 : decode cL_law 1476 = .ok (.invokevirtual 101, 3) := by decide +kernel
theorem dL_law_1479 : decode cL_law 1479 = .ok (.iload 5, 2) := by decide +kernel
theorem dL_law_1481 : decode cL_law 1481 = .ok (.if_icmp .eq 5, 3) := by decide +kernel
theorem dL_law_1484 : decode cL_law 1484 = .ok (.iconst 0, 1) := by decide +kernel
theorem dL_law_1485 : decode cL_law 1485 = .ok (.ireturn, 1) := by decide +kernel
theorem dL_law_1486 : decode cL_law 1486 = .ok (.iload 5, 2) := by decide +kernel
theorem dL_law_1488 : decode cL_law 1488 = .ok (.ifCond .ne 15, 3) := by decide +kernel
theorem dL_law_1491 : decode cL_law 1491 = .ok (.aload_n 3, 1) := by decide +kernel
theorem dL_law_1492 : decode cL_law 1492 = .ok (.iconst 0, 1) := by decide +kernel
theorem dL_law_1493 : decode cL_law 1493 = .ok (.laload, 1) := by decide +kernel
theorem dL_law_1494 : decode cL_law 1494 = .ok (.iload 6, 2) := by decide +kernel
theorem dL_law_1496 : decode cL_law 1496 = .ok (.i2l, 1) := by decide +kernel
theorem dL_law_1497 : decode cL_law 1497 = .ok (.lcmp, 1) := by decide +kernel
theorem dL_law_1498 : decode cL_law 1498 = .ok (.ifCond .eq 5, 3) := by decide +kernel
theorem dL_law_1501 : decode cL_law 1501 = .ok (.iconst 0, 1) := by decide +kernel
theorem dL_law_1502 : decode cL_law 1502 = .ok (.ireturn, 1) := by decide +kernel
theorem dL_law_1503 : decode cL_law 1503 = .ok (.goto 178, 3) := by decide +kernel
theorem dL_law_1506 : decode cL_law 1506 = .ok (.aload_n 1, 1) := by decide +kernel
theorem dL_law_1507 : decode cL_law 1507 = .ok (.aload_n 0, 1) := by decide +kernel
theorem dL_law_1508 : decode cL_law 1508 = .ok (.iload 4, 2) := by decide +kernel
theorem dL_law_1510 : decode cL_law 1510 = .ok (.iconst 1, 1) := by decide +kernel
theorem dL_law_1511 : decode cL_law 1511 = .ok (.iadd, 1) := by decide +kernel
theorem dL_law_1512 : decode cL_law 1512 = .ok (.iaload, 1) := by decide +kernel
theorem dL_law_1513 : decode cL_law 1513 = .ok (.aload_n 3, 1) := by decide +kernel
theorem dL_law_1514 : decode cL_law 1514 = .ok (.invokestatic 172, 3) := by decide +kernel
theorem dL_law_1517 : decode cL_law 1517 = .ok (.istore 5, 2) := by decide +kernel
theorem dL_law_1519 : decode cL_law 1519 = .ok (.aload_n 2, 1) := by decide +kernel
theorem dL_law_1520 : decode cL_law 1520 = .ok (.aload_n 0, 1) := by decide +kernel
theorem dL_law_1521 : decode cL_law 1521 = .ok (.iload 4, 2) := by decide +kernel
theorem dL_law_1523 : decode cL_law 1523 = .ok (.iconst 1, 1) := by decide +kernel
theorem dL_law_1524 : decode cL_law 1524 = .ok (.iadd, 1) := by decide +kernel
theorem dL_law_1525 : decode cL_law 1525 = .ok (.iaload, 1) := by decide +kernel
theorem dL_law_1526 : decode cL_law 1526 = .ok (.invokevirtual 174, 3) := by decide +kernel
theorem dL_law_1529 : decode cL_law 1529 = .ok (.istore 6, 2) := by decide +kernel
theorem dL_law_1531 : decode cL_law 1531 = .ok (.aload_n 2, 1) := by decide +kernel
theorem dL_law_1532 : decode cL_law 1532 = .ok (.invokevirtual 101, 3) := by decide +kernel
theorem dL_law_1535 : decode cL_law 1535 = .ok (.iload 5, 2) := by decide +kernel
theorem dL_law_1537 : decode cL_law 1537 = .ok (.if_icmp .eq 5, 3) := by decide +kernel
theorem dL_law_1540 : decode cL_law 1540 = .ok (.iconst 0, 1) := by decide +kernel
theorem dL_law_1541 : decode cL_law 1541 = .ok (.ireturn, 1) := by decide +kernel
theorem dL_law_1542 : decode cL_law 1542 = .ok (.iload 5, 2) := by decide +kernel
theorem dL_law_1544 : decode cL_law 1544 = .ok (.ifCond .ne 15, 3) := by decide +kernel
theorem dL_law_1547 : decode cL_law 1547 = .ok (.aload_n 3, 1) := by decide +kernel
theorem dL_law_1548 : decode cL_law 1548 = .ok (.iconst 0, 1) := by decide +kernel
theorem dL_law_1549 : decode cL_law 1549 = .ok (.laload, 1) := by decide +kernel
theorem dL_law_1550 : decode cL_law 1550 = .ok (.iload 6, 2) := by decide +kernel
theorem dL_law_1552 : decode cL_law 1552 = .ok (.i2l, 1) := by decide +kernel
theorem dL_law_1553 : decode cL_law 1553 = .ok (.lcmp, 1) := by decide +kernel
theorem dL_law_1554 : decode cL_law 1554 = .ok (.ifCond .eq 5, 3) := by decide +kernel
theorem dL_law_1557 : decode cL_law 1557 = .ok (.iconst 0, 1) := by decide +kernel
theorem dL_law_1558 : decode cL_law 1558 = .ok (.ireturn, 1) := by decide +kernel
theorem dL_law_1559 : decode cL_law 1559 = .ok (.goto 122, 3) := by decide +kernel
theorem dL_law_1562 : decode cL_law 1562 = .ok (.aload_n 1, 1) := by decide +kernel
theorem dL_law_1563 : decode cL_law 1563 = .ok (.aload_n 0, 1) := by decide +kernel
theorem dL_law_1564 : decode cL_law 1564 = .ok (.iload 4, 2) := by decide +kernel
theorem dL_law_1566 : decode cL_law 1566 = .ok (.iconst 1, 1) := by decide +kernel
theorem dL_law_1567 : decode cL_law 1567 = .ok (.iadd, 1) := by decide +kernel
theorem dL_law_1568 : decode cL_law 1568 = .ok (.iaload, 1) := by decide +kernel
theorem dL_law_1569 : decode cL_law 1569 = .ok (.aload_n 0, 1) := by decide +kernel
theorem dL_law_1570 : decode cL_law 1570 = .ok (.iload 4, 2) := by decide +kernel
theorem dL_law_1572 : decode cL_law 1572 = .ok (.iconst 2, 1) := by decide +kernel
theorem dL_law_1573 : decode cL_law 1573 = .ok (.iadd, 1) := by decide +kernel
theorem dL_law_1574 : decode cL_law 1574 = .ok (.iaload, 1) := by decide +kernel
theorem dL_law_1575 : decode cL_law 1575 = .ok (.aload_n 0, 1) := by decide +kernel
theorem dL_law_1576 : decode cL_law 1576 = .ok (.iload 4, 2) := by decide +kernel
theorem dL_law_1578 : decode cL_law 1578 = .ok (.iconst 3, 1) := by decide +kernel
theorem dL_law_1579 : decode cL_law 1579 = .ok (.iadd, 1) := by decide +kernel
theorem dL_law_1580 : decode cL_law 1580 = .ok (.iaload, 1) := by decide +kernel
theorem dL_law_1581 : decode cL_law 1581 = .ok (.aload_n 3, 1) := by decide +kernel
theorem dL_law_1582 : decode cL_law 1582 = .ok (.invokestatic 175, 3) := by decide +kernel
theorem dL_law_1585 : decode cL_law 1585 = .ok (.istore 5, 2) := by decide +kernel
theorem dL_law_1587 : decode cL_law 1587 = .ok (.aload_n 2, 1) := by decide +kernel
theorem dL_law_1588 : decode cL_law 1588 = .ok (.aload_n 0, 1) := by decide +kernel
theorem dL_law_1589 : decode cL_law 1589 = .ok (.iload 4, 2) := by decide +kernel
theorem dL_law_1591 : decode cL_law 1591 = .ok (.iconst 1, 1) := by decide +kernel
theorem dL_law_1592 : decode cL_law 1592 = .ok (.iadd, 1) := by decide +kernel
theorem dL_law_1593 : decode cL_law 1593 = .ok (.iaload, 1) := by decide +kernel
theorem dL_law_1594 : decode cL_law 1594 = .ok (.aload_n 0, 1) := by decide +kernel
theorem dL_law_1595 : decode cL_law 1595 = .ok (.iload 4, 2) := by decide +kernel
theorem dL_law_1597 : decode cL_law 1597 = .ok (.iconst 2, 1) := by decide +kernel
theorem dL_law_1598 : decode cL_law 1598 = .ok (.iadd, 1) := by decide +kernel
theorem dL_law_1599 : decode cL_law 1599 = .ok (.iaload, 1) := by decide +kernel
theorem dL_law_1600 : decode cL_law 1600 = .ok (.aload_n 0, 1) := by decide +kernel
theorem dL_law_1601 : decode cL_law 1601 = .ok (.iload 4, 2) := by decide +kernel
theorem dL_law_1603 : decode cL_law 1603 = .ok (.iconst 3, 1) := by decide +kernel
theorem dL_law_1604 : decode cL_law 1604 = .ok (.iadd, 1) := by decide +kernel
theorem dL_law_1605 : decode cL_law 1605 = .ok (.iaload, 1) := by decide +kernel
theorem dL_law_1606 : decode cL_law 1606 = .ok (.invokevirtual 178, 3) := by decide +kernel
theorem dL_law_1609 : decode cL_law 1609 = .ok (.istore 6, 2) := by decide +kernel
theorem dL_law_1611 : decode cL_law 1611 = .ok (.aload_n 2, 1) := by decide +kernel
theorem dL_law_1612 : decode cL_law 1612 = .ok (.invokevirtual 101, 3) := by decide +kernel
theorem dL_law_1615 : decode cL_law 1615 = .ok (.iload 5, 2) := by decide +kernel
theorem dL_law_1617 : decode cL_law 1617 = .ok (.if_icmp .eq 5, 3) := by decide +kernel
theorem dL_law_1620 : decode cL_law 1620 = .ok (.iconst 0, 1) := by decide +kernel
theorem dL_law_1621 : decode cL_law 1621 = .ok (.ireturn, 1) := by decide +kernel
theorem dL_law_1622 : decode cL_law 1622 = .ok (.iload 5, 2) := by decide +kernel
theorem dL_law_1624 : decode cL_law 1624 = .ok (.ifCond .ne 15, 3) := by decide +kernel
theorem dL_law_1627 : decode cL_law 1627 = .ok (.aload_n 3, 1) := by decide +kernel
theorem dL_law_1628 : decode cL_law 1628 = .ok (.iconst 0, 1) := by decide +kernel
theorem dL_law_1629 : decode cL_law 1629 = .ok (.laload, 1) := by decide +kernel
theorem dL_law_1630 : decode cL_law 1630 = .ok (.iload 6, 2) := by decide +kernel
theorem dL_law_1632 : decode cL_law 1632 = .ok (.i2l, 1) := by decide +kernel
theorem dL_law_1633 : decode cL_law 1633 = .ok (.lcmp, 1) := by decide +kernel
theorem dL_law_1634 : decode cL_law 1634 = .ok (.ifCond .eq 5, 3) := by decide +kernel
theorem dL_law_1637 : decode cL_law 1637 = .ok (.iconst 0, 1) := by decide +kernel
theorem dL_law_1638 : decode cL_law 1638 = .ok (.ireturn, 1) := by decide +kernel
theorem dL_law_1639 : decode cL_law 1639 = .ok (.goto 42, 3) := by decide +kernel
theorem dL_law_1642 : decode cL_law 1642 = .ok (.aload_n 1, 1) := by decide +kernel
theorem dL_law_1643 : decode cL_law 1643 = .ok (.invokevirtual 179, 3) := by decide +kernel
theorem dL_law_1646 : decode cL_law 1646 = .ok (.aload_n 2, 1) := by decide +kernel
theorem dL_law_1647 : decode cL_law 1647 = .ok (.invokevirtual 183, 3) := by decide +kernel
theorem dL_law_1650 : decode cL_law 1650 = .ok (.lcmp, 1) := by decide +kernel
theorem dL_law_1651 : decode cL_law 1651 = .ok (.ifCond .eq 30, 3) := by decide +kernel
theorem dL_law_1654 : decode cL_law 1654 = .ok (.iconst 0, 1) := by decide +kernel
theorem dL_law_1655 : decode cL_law 1655 = .ok (.ireturn, 1) := by decide +kernel
theorem dL_law_1656 : decode cL_law 1656 = .ok (.aload_n 1, 1) := by decide +kernel
theorem dL_law_1657 : decode cL_law 1657 = .ok (.aload_n 0, 1) := by decide +kernel
theorem dL_law_1658 : decode cL_law 1658 = .ok (.iload 4, 2) := by decide +kernel
theorem dL_law_1660 : decode cL_law 1660 = .ok (.iconst 1, 1) := by decide +kernel
theorem dL_law_1661 : decode cL_law 1661 = .ok (.iadd, 1) := by decide +kernel
theorem dL_law_1662 : decode cL_law 1662 = .ok (.iaload, 1) := by decide +kernel
theorem dL_law_1663 : decode cL_law 1663 = .ok (.invokevirtual 184, 3) := by decide +kernel
theorem dL_law_1666 : decode cL_law 1666 = .ok (.aload_n 2, 1) := by decide +kernel
theorem dL_law_1667 : decode cL_law 1667 = .ok (.aload_n 0, 1) := by decide +kernel
theorem dL_law_1668 : decode cL_law 1668 = .ok (.iload 4, 2) := by decide +kernel
theorem dL_law_1670 : decode cL_law 1670 = .ok (.iconst 1, 1) := by decide +kernel
theorem dL_law_1671 : decode cL_law 1671 = .ok (.iadd, 1) := by decide +kernel
theorem dL_law_1672 : decode cL_law 1672 = .ok (.iaload, 1) := by decide +kernel
theorem dL_law_1673 : decode cL_law 1673 = .ok (.invokevirtual 187, 3) := by decide +kernel
theorem dL_law_1676 : decode cL_law 1676 = .ok (.if_icmp .eq 5, 3) := by decide +kernel
theorem dL_law_1679 : decode cL_law 1679 = .ok (.iconst 0, 1) := by decide +kernel
theorem dL_law_1680 : decode cL_law 1680 = .ok (.ireturn, 1) := by decide +kernel
theorem dL_law_1681 : decode cL_law 1681 = .ok (.iinc 4 6, 3) := by decide +kernel
theorem dL_law_1684 : decode cL_law 1684 = .ok (.goto (-1661), 3) := by decide +kernel
theorem dL_law_1687 : decode cL_law 1687 = .ok (.iconst 1, 1) := by decide +kernel
theorem dL_law_1688 : decode cL_law 1688 = .ok (.ireturn, 1) := by decide +kernel
end
