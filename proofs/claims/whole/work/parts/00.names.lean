-- ===== PART A: goes FIRST, ahead of the names: the tables' words, and 'selects' of the private methods out of them =====
/-- a private method of a class that the tables say can be made, by its rows of tables_1 -/
def lw_okq (q : MethodName × Nat) : Prop := (q.1.cls ≠ "java/lang/invoke/MethodHandle" ∧ q.1.cls ≠ "java/lang/invoke/VarHandle") ∧ Cond.instantiable q.1.cls q.2 ∈ tables_1 ∧ Cond.privateMethod q.1 ∈ tables_1 ∧ Cond.instanceMethod q.1 ∈ tables_1
theorem lw_p0 : lw_okq (⟨"StoryClasses$Memory", "freeBody", "()I"⟩, 5) := ⟨⟨by decide +kernel, by decide +kernel⟩, List.mem_of_getElem? (i := 30) (by decide +kernel), List.mem_of_getElem? (i := 287) (by decide +kernel), List.mem_of_getElem? (i := 288) (by decide +kernel)⟩
theorem lw_p1 : lw_okq (⟨"StoryClasses$Memory", "attach", "(II)V"⟩, 5) := ⟨⟨by decide +kernel, by decide +kernel⟩, List.mem_of_getElem? (i := 30) (by decide +kernel), List.mem_of_getElem? (i := 291) (by decide +kernel), List.mem_of_getElem? (i := 292) (by decide +kernel)⟩
theorem lw_p2 : lw_okq (⟨"StoryClasses$Things", "placesOf", "(I)I"⟩, 7) := ⟨⟨by decide +kernel, by decide +kernel⟩, List.mem_of_getElem? (i := 57) (by decide +kernel), List.mem_of_getElem? (i := 369) (by decide +kernel), List.mem_of_getElem? (i := 370) (by decide +kernel)⟩
theorem lw_p3 : lw_okq (⟨"StoryClasses$Machine", "beginRun", "()V"⟩, 19) := ⟨⟨by decide +kernel, by decide +kernel⟩, List.mem_of_getElem? (i := 24) (by decide +kernel), List.mem_of_getElem? (i := 480) (by decide +kernel), List.mem_of_getElem? (i := 481) (by decide +kernel)⟩
theorem lw_p4 : lw_okq (⟨"StoryClasses$Machine", "openFrame", "(ILStoryClasses$Routine;)LStoryClasses$Frame;"⟩, 19) := ⟨⟨by decide +kernel, by decide +kernel⟩, List.mem_of_getElem? (i := 24) (by decide +kernel), List.mem_of_getElem? (i := 484) (by decide +kernel), List.mem_of_getElem? (i := 485) (by decide +kernel)⟩
theorem lw_p5 : lw_okq (⟨"StoryClasses$Machine", "step", "(LStoryClasses$Frame;)V"⟩, 19) := ⟨⟨by decide +kernel, by decide +kernel⟩, List.mem_of_getElem? (i := 24) (by decide +kernel), List.mem_of_getElem? (i := 502) (by decide +kernel), List.mem_of_getElem? (i := 503) (by decide +kernel)⟩
theorem lw_p6 : lw_okq (⟨"StoryClasses$Machine", "act", "(LStoryClasses$Frame;III)I"⟩, 19) := ⟨⟨by decide +kernel, by decide +kernel⟩, List.mem_of_getElem? (i := 24) (by decide +kernel), List.mem_of_getElem? (i := 506) (by decide +kernel), List.mem_of_getElem? (i := 507) (by decide +kernel)⟩
theorem lw_p7 : lw_okq (⟨"StoryClasses$Machine", "useLocals", "(LStoryClasses$Frame;II)I"⟩, 19) := ⟨⟨by decide +kernel, by decide +kernel⟩, List.mem_of_getElem? (i := 24) (by decide +kernel), List.mem_of_getElem? (i := 522) (by decide +kernel), List.mem_of_getElem? (i := 523) (by decide +kernel)⟩
theorem lw_p8 : lw_okq (⟨"StoryClasses$Machine", "useItem", "(LStoryClasses$Frame;III)I"⟩, 19) := ⟨⟨by decide +kernel, by decide +kernel⟩, List.mem_of_getElem? (i := 24) (by decide +kernel), List.mem_of_getElem? (i := 538) (by decide +kernel), List.mem_of_getElem? (i := 539) (by decide +kernel)⟩
theorem lw_p9 : lw_okq (⟨"StoryClasses$Machine", "reachItem", "(IIIJ)I"⟩, 19) := ⟨⟨by decide +kernel, by decide +kernel⟩, List.mem_of_getElem? (i := 24) (by decide +kernel), List.mem_of_getElem? (i := 542) (by decide +kernel), List.mem_of_getElem? (i := 543) (by decide +kernel)⟩
theorem lw_p10 : lw_okq (⟨"StoryClasses$Machine", "useRow", "(LStoryClasses$Frame;III)I"⟩, 19) := ⟨⟨by decide +kernel, by decide +kernel⟩, List.mem_of_getElem? (i := 24) (by decide +kernel), List.mem_of_getElem? (i := 565) (by decide +kernel), List.mem_of_getElem? (i := 566) (by decide +kernel)⟩
theorem lw_p11 : lw_okq (⟨"StoryClasses$Machine", "callRoutine", "(LStoryClasses$Frame;II)I"⟩, 19) := ⟨⟨by decide +kernel, by decide +kernel⟩, List.mem_of_getElem? (i := 24) (by decide +kernel), List.mem_of_getElem? (i := 573) (by decide +kernel), List.mem_of_getElem? (i := 574) (by decide +kernel)⟩
theorem lw_p12 : lw_okq (⟨"StoryClasses$Machine", "giveBack", "(LStoryClasses$Frame;J)I"⟩, 19) := ⟨⟨by decide +kernel, by decide +kernel⟩, List.mem_of_getElem? (i := 24) (by decide +kernel), List.mem_of_getElem? (i := 578) (by decide +kernel), List.mem_of_getElem? (i := 579) (by decide +kernel)⟩
theorem lw_p13 : lw_okq (⟨"StoryClasses$Machine", "endWith", "(J)I"⟩, 19) := ⟨⟨by decide +kernel, by decide +kernel⟩, List.mem_of_getElem? (i := 24) (by decide +kernel), List.mem_of_getElem? (i := 590) (by decide +kernel), List.mem_of_getElem? (i := 591) (by decide +kernel)⟩
theorem lw_p14 : lw_okq (⟨"StoryClasses$Machine", "leave", "(LStoryClasses$Frame;)I"⟩, 19) := ⟨⟨by decide +kernel, by decide +kernel⟩, List.mem_of_getElem? (i := 24) (by decide +kernel), List.mem_of_getElem? (i := 598) (by decide +kernel), List.mem_of_getElem? (i := 599) (by decide +kernel)⟩
theorem lw_p15 : lw_okq (⟨"StoryClasses$Machine", "sendTo", "(LStoryClasses$Frame;JI)I"⟩, 19) := ⟨⟨by decide +kernel, by decide +kernel⟩, List.mem_of_getElem? (i := 24) (by decide +kernel), List.mem_of_getElem? (i := 610) (by decide +kernel), List.mem_of_getElem? (i := 611) (by decide +kernel)⟩
def lw_privs_1 : List (MethodName × Nat) := [(⟨"StoryClasses$Memory", "freeBody", "()I"⟩, 5), (⟨"StoryClasses$Memory", "attach", "(II)V"⟩, 5), (⟨"StoryClasses$Things", "placesOf", "(I)I"⟩, 7), (⟨"StoryClasses$Machine", "beginRun", "()V"⟩, 19), (⟨"StoryClasses$Machine", "openFrame", "(ILStoryClasses$Routine;)LStoryClasses$Frame;"⟩, 19), (⟨"StoryClasses$Machine", "step", "(LStoryClasses$Frame;)V"⟩, 19), (⟨"StoryClasses$Machine", "act", "(LStoryClasses$Frame;III)I"⟩, 19), (⟨"StoryClasses$Machine", "useLocals", "(LStoryClasses$Frame;II)I"⟩, 19), (⟨"StoryClasses$Machine", "useItem", "(LStoryClasses$Frame;III)I"⟩, 19), (⟨"StoryClasses$Machine", "reachItem", "(IIIJ)I"⟩, 19), (⟨"StoryClasses$Machine", "useRow", "(LStoryClasses$Frame;III)I"⟩, 19), (⟨"StoryClasses$Machine", "callRoutine", "(LStoryClasses$Frame;II)I"⟩, 19), (⟨"StoryClasses$Machine", "giveBack", "(LStoryClasses$Frame;J)I"⟩, 19), (⟨"StoryClasses$Machine", "endWith", "(J)I"⟩, 19), (⟨"StoryClasses$Machine", "leave", "(LStoryClasses$Frame;)I"⟩, 19), (⟨"StoryClasses$Machine", "sendTo", "(LStoryClasses$Frame;JI)I"⟩, 19)]
theorem lw_r1 : ∀ q ∈ lw_privs_1, lw_okq q := List.forall_mem_cons.mpr ⟨lw_p0, List.forall_mem_cons.mpr ⟨lw_p1, List.forall_mem_cons.mpr ⟨lw_p2, List.forall_mem_cons.mpr ⟨lw_p3, List.forall_mem_cons.mpr ⟨lw_p4, List.forall_mem_cons.mpr ⟨lw_p5, List.forall_mem_cons.mpr ⟨lw_p6, List.forall_mem_cons.mpr ⟨lw_p7, List.forall_mem_cons.mpr ⟨lw_p8, List.forall_mem_cons.mpr ⟨lw_p9, List.forall_mem_cons.mpr ⟨lw_p10, List.forall_mem_cons.mpr ⟨lw_p11, List.forall_mem_cons.mpr ⟨lw_p12, List.forall_mem_cons.mpr ⟨lw_p13, List.forall_mem_cons.mpr ⟨lw_p14, List.forall_mem_cons.mpr ⟨lw_p15, fun _ h => absurd h List.not_mem_nil⟩⟩⟩⟩⟩⟩⟩⟩⟩⟩⟩⟩⟩⟩⟩⟩
theorem lw_p16 : lw_okq (⟨"StoryClasses$Things", "weight", "(I)I"⟩, 7) := ⟨⟨by decide +kernel, by decide +kernel⟩, List.mem_of_getElem? (i := 57) (by decide +kernel), List.mem_of_getElem? (i := 619) (by decide +kernel), List.mem_of_getElem? (i := 620) (by decide +kernel)⟩
theorem lw_p17 : lw_okq (⟨"StoryClasses$Things", "isA", "(II)Z"⟩, 7) := ⟨⟨by decide +kernel, by decide +kernel⟩, List.mem_of_getElem? (i := 57) (by decide +kernel), List.mem_of_getElem? (i := 623) (by decide +kernel), List.mem_of_getElem? (i := 624) (by decide +kernel)⟩
theorem lw_p18 : lw_okq (⟨"StoryClasses$Things", "load", "(II)I"⟩, 7) := ⟨⟨by decide +kernel, by decide +kernel⟩, List.mem_of_getElem? (i := 57) (by decide +kernel), List.mem_of_getElem? (i := 629) (by decide +kernel), List.mem_of_getElem? (i := 630) (by decide +kernel)⟩
theorem lw_p19 : lw_okq (⟨"StoryClasses$Things", "glow", "(II)I"⟩, 7) := ⟨⟨by decide +kernel, by decide +kernel⟩, List.mem_of_getElem? (i := 57) (by decide +kernel), List.mem_of_getElem? (i := 633) (by decide +kernel), List.mem_of_getElem? (i := 634) (by decide +kernel)⟩
theorem lw_p20 : lw_okq (⟨"StoryClasses$Things", "openUp", "(I)I"⟩, 7) := ⟨⟨by decide +kernel, by decide +kernel⟩, List.mem_of_getElem? (i := 57) (by decide +kernel), List.mem_of_getElem? (i := 637) (by decide +kernel), List.mem_of_getElem? (i := 638) (by decide +kernel)⟩
theorem lw_p21 : lw_okq (⟨"StoryClasses$Things", "setOwnMark", "(III)I"⟩, 7) := ⟨⟨by decide +kernel, by decide +kernel⟩, List.mem_of_getElem? (i := 57) (by decide +kernel), List.mem_of_getElem? (i := 641) (by decide +kernel), List.mem_of_getElem? (i := 642) (by decide +kernel)⟩
theorem lw_p22 : lw_okq (⟨"StoryClasses$Machine", "lookOnShelf", "(LStoryClasses$Frame;JJ)I"⟩, 19) := ⟨⟨by decide +kernel, by decide +kernel⟩, List.mem_of_getElem? (i := 24) (by decide +kernel), List.mem_of_getElem? (i := 658) (by decide +kernel), List.mem_of_getElem? (i := 659) (by decide +kernel)⟩
theorem lw_p23 : lw_okq (⟨"StoryClasses$Machine", "tellOutside", "(J)I"⟩, 19) := ⟨⟨by decide +kernel, by decide +kernel⟩, List.mem_of_getElem? (i := 24) (by decide +kernel), List.mem_of_getElem? (i := 664) (by decide +kernel), List.mem_of_getElem? (i := 665) (by decide +kernel)⟩
theorem lw_p24 : lw_okq (⟨"StoryClasses$Machine", "keepAll", "(LStoryClasses$Frame;)I"⟩, 19) := ⟨⟨by decide +kernel, by decide +kernel⟩, List.mem_of_getElem? (i := 24) (by decide +kernel), List.mem_of_getElem? (i := 668) (by decide +kernel), List.mem_of_getElem? (i := 669) (by decide +kernel)⟩
theorem lw_p25 : lw_okq (⟨"StoryClasses$Machine", "reckon", "(LStoryClasses$Frame;IJJ)I"⟩, 19) := ⟨⟨by decide +kernel, by decide +kernel⟩, List.mem_of_getElem? (i := 24) (by decide +kernel), List.mem_of_getElem? (i := 697) (by decide +kernel), List.mem_of_getElem? (i := 698) (by decide +kernel)⟩
theorem lw_p26 : lw_okq (⟨"StoryClasses$Machine", "passOn", "()V"⟩, 19) := ⟨⟨by decide +kernel, by decide +kernel⟩, List.mem_of_getElem? (i := 24) (by decide +kernel), List.mem_of_getElem? (i := 705) (by decide +kernel), List.mem_of_getElem? (i := 706) (by decide +kernel)⟩
theorem lw_p27 : lw_okq (⟨"StoryClasses$Machine", "beTaken", "(LStoryClasses$Frame;I)V"⟩, 19) := ⟨⟨by decide +kernel, by decide +kernel⟩, List.mem_of_getElem? (i := 24) (by decide +kernel), List.mem_of_getElem? (i := 714) (by decide +kernel), List.mem_of_getElem? (i := 715) (by decide +kernel)⟩
theorem lw_p28 : lw_okq (⟨"StoryClasses$Machine", "raise", "(ILStoryClasses$Frame;)V"⟩, 19) := ⟨⟨by decide +kernel, by decide +kernel⟩, List.mem_of_getElem? (i := 24) (by decide +kernel), List.mem_of_getElem? (i := 723) (by decide +kernel), List.mem_of_getElem? (i := 724) (by decide +kernel)⟩
theorem lw_p29 : lw_okq (⟨"StoryClassesModel", "make", "(III)V"⟩, 63) := ⟨⟨by decide +kernel, by decide +kernel⟩, List.mem_of_getElem? (i := 763) (by decide +kernel), List.mem_of_getElem? (i := 977) (by decide +kernel), List.mem_of_getElem? (i := 978) (by decide +kernel)⟩
theorem lw_p30 : lw_okq (⟨"StoryClassesModel", "spare", "(I)I"⟩, 63) := ⟨⟨by decide +kernel, by decide +kernel⟩, List.mem_of_getElem? (i := 763) (by decide +kernel), List.mem_of_getElem? (i := 981) (by decide +kernel), List.mem_of_getElem? (i := 982) (by decide +kernel)⟩
theorem lw_p31 : lw_okq (⟨"StoryClassesModel", "against", "(IJ)I"⟩, 63) := ⟨⟨by decide +kernel, by decide +kernel⟩, List.mem_of_getElem? (i := 763) (by decide +kernel), List.mem_of_getElem? (i := 997) (by decide +kernel), List.mem_of_getElem? (i := 998) (by decide +kernel)⟩
def lw_privs_2 : List (MethodName × Nat) := [(⟨"StoryClasses$Things", "weight", "(I)I"⟩, 7), (⟨"StoryClasses$Things", "isA", "(II)Z"⟩, 7), (⟨"StoryClasses$Things", "load", "(II)I"⟩, 7), (⟨"StoryClasses$Things", "glow", "(II)I"⟩, 7), (⟨"StoryClasses$Things", "openUp", "(I)I"⟩, 7), (⟨"StoryClasses$Things", "setOwnMark", "(III)I"⟩, 7), (⟨"StoryClasses$Machine", "lookOnShelf", "(LStoryClasses$Frame;JJ)I"⟩, 19), (⟨"StoryClasses$Machine", "tellOutside", "(J)I"⟩, 19), (⟨"StoryClasses$Machine", "keepAll", "(LStoryClasses$Frame;)I"⟩, 19), (⟨"StoryClasses$Machine", "reckon", "(LStoryClasses$Frame;IJJ)I"⟩, 19), (⟨"StoryClasses$Machine", "passOn", "()V"⟩, 19), (⟨"StoryClasses$Machine", "beTaken", "(LStoryClasses$Frame;I)V"⟩, 19), (⟨"StoryClasses$Machine", "raise", "(ILStoryClasses$Frame;)V"⟩, 19), (⟨"StoryClassesModel", "make", "(III)V"⟩, 63), (⟨"StoryClassesModel", "spare", "(I)I"⟩, 63), (⟨"StoryClassesModel", "against", "(IJ)I"⟩, 63)]
theorem lw_r2 : ∀ q ∈ lw_privs_2, lw_okq q := List.forall_mem_cons.mpr ⟨lw_p16, List.forall_mem_cons.mpr ⟨lw_p17, List.forall_mem_cons.mpr ⟨lw_p18, List.forall_mem_cons.mpr ⟨lw_p19, List.forall_mem_cons.mpr ⟨lw_p20, List.forall_mem_cons.mpr ⟨lw_p21, List.forall_mem_cons.mpr ⟨lw_p22, List.forall_mem_cons.mpr ⟨lw_p23, List.forall_mem_cons.mpr ⟨lw_p24, List.forall_mem_cons.mpr ⟨lw_p25, List.forall_mem_cons.mpr ⟨lw_p26, List.forall_mem_cons.mpr ⟨lw_p27, List.forall_mem_cons.mpr ⟨lw_p28, List.forall_mem_cons.mpr ⟨lw_p29, List.forall_mem_cons.mpr ⟨lw_p30, List.forall_mem_cons.mpr ⟨lw_p31, fun _ h => absurd h List.not_mem_nil⟩⟩⟩⟩⟩⟩⟩⟩⟩⟩⟩⟩⟩⟩⟩⟩
theorem lw_p32 : lw_okq (⟨"StoryClassesModel", "lay", "(IIJ)V"⟩, 63) := ⟨⟨by decide +kernel, by decide +kernel⟩, List.mem_of_getElem? (i := 763) (by decide +kernel), List.mem_of_getElem? (i := 1001) (by decide +kernel), List.mem_of_getElem? (i := 1002) (by decide +kernel)⟩
theorem lw_p33 : lw_okq (⟨"StoryClassesModel", "valueAt", "(II)J"⟩, 63) := ⟨⟨by decide +kernel, by decide +kernel⟩, List.mem_of_getElem? (i := 763) (by decide +kernel), List.mem_of_getElem? (i := 1015) (by decide +kernel), List.mem_of_getElem? (i := 1016) (by decide +kernel)⟩
theorem lw_p34 : lw_okq (⟨"StoryClassesModel", "isThing", "(J)Z"⟩, 63) := ⟨⟨by decide +kernel, by decide +kernel⟩, List.mem_of_getElem? (i := 763) (by decide +kernel), List.mem_of_getElem? (i := 1034) (by decide +kernel), List.mem_of_getElem? (i := 1035) (by decide +kernel)⟩
theorem lw_p35 : lw_okq (⟨"StoryClassesModel", "isRoutine", "(I)Z"⟩, 63) := ⟨⟨by decide +kernel, by decide +kernel⟩, List.mem_of_getElem? (i := 763) (by decide +kernel), List.mem_of_getElem? (i := 1050) (by decide +kernel), List.mem_of_getElem? (i := 1051) (by decide +kernel)⟩
theorem lw_p36 : lw_okq (⟨"StoryClassesModel", "isOp", "(IIII)Z"⟩, 63) := ⟨⟨by decide +kernel, by decide +kernel⟩, List.mem_of_getElem? (i := 763) (by decide +kernel), List.mem_of_getElem? (i := 1054) (by decide +kernel), List.mem_of_getElem? (i := 1055) (by decide +kernel)⟩
theorem lw_p37 : lw_okq (⟨"StoryClassesModel", "enter", "(I)V"⟩, 63) := ⟨⟨by decide +kernel, by decide +kernel⟩, List.mem_of_getElem? (i := 763) (by decide +kernel), List.mem_of_getElem? (i := 1075) (by decide +kernel), List.mem_of_getElem? (i := 1076) (by decide +kernel)⟩
theorem lw_p38 : lw_okq (⟨"StoryClassesModel", "step", "()V"⟩, 63) := ⟨⟨by decide +kernel, by decide +kernel⟩, List.mem_of_getElem? (i := 763) (by decide +kernel), List.mem_of_getElem? (i := 1079) (by decide +kernel), List.mem_of_getElem? (i := 1080) (by decide +kernel)⟩
theorem lw_p39 : lw_okq (⟨"StoryClassesModel", "comes", "(IJ)V"⟩, 63) := ⟨⟨by decide +kernel, by decide +kernel⟩, List.mem_of_getElem? (i := 763) (by decide +kernel), List.mem_of_getElem? (i := 1086) (by decide +kernel), List.mem_of_getElem? (i := 1087) (by decide +kernel)⟩
theorem lw_p40 : lw_okq (⟨"StoryClassesModel", "goesUp", "()V"⟩, 63) := ⟨⟨by decide +kernel, by decide +kernel⟩, List.mem_of_getElem? (i := 763) (by decide +kernel), List.mem_of_getElem? (i := 1090) (by decide +kernel), List.mem_of_getElem? (i := 1091) (by decide +kernel)⟩
theorem lw_p41 : lw_okq (⟨"StoryClassesModel", "isTaken", "()Z"⟩, 63) := ⟨⟨by decide +kernel, by decide +kernel⟩, List.mem_of_getElem? (i := 763) (by decide +kernel), List.mem_of_getElem? (i := 1094) (by decide +kernel), List.mem_of_getElem? (i := 1095) (by decide +kernel)⟩
theorem lw_p42 : lw_okq (⟨"StoryClassesModel", "isPlace", "(II)Z"⟩, 63) := ⟨⟨by decide +kernel, by decide +kernel⟩, List.mem_of_getElem? (i := 763) (by decide +kernel), List.mem_of_getElem? (i := 1098) (by decide +kernel), List.mem_of_getElem? (i := 1099) (by decide +kernel)⟩
theorem lw_p43 : lw_okq (⟨"StoryClassesModel", "mayBeginLast", "()Z"⟩, 63) := ⟨⟨by decide +kernel, by decide +kernel⟩, List.mem_of_getElem? (i := 763) (by decide +kernel), List.mem_of_getElem? (i := 1102) (by decide +kernel), List.mem_of_getElem? (i := 1103) (by decide +kernel)⟩
theorem lw_p44 : lw_okq (⟨"StoryClassesModel", "beginLast", "(IJII)V"⟩, 63) := ⟨⟨by decide +kernel, by decide +kernel⟩, List.mem_of_getElem? (i := 763) (by decide +kernel), List.mem_of_getElem? (i := 1106) (by decide +kernel), List.mem_of_getElem? (i := 1107) (by decide +kernel)⟩
theorem lw_p45 : lw_okq (⟨"StoryClassesModel", "plain", "(IIJJ)V"⟩, 63) := ⟨⟨by decide +kernel, by decide +kernel⟩, List.mem_of_getElem? (i := 763) (by decide +kernel), List.mem_of_getElem? (i := 1110) (by decide +kernel), List.mem_of_getElem? (i := 1111) (by decide +kernel)⟩
theorem lw_p46 : lw_okq (⟨"StoryClassesModel", "lays", "(J)V"⟩, 63) := ⟨⟨by decide +kernel, by decide +kernel⟩, List.mem_of_getElem? (i := 763) (by decide +kernel), List.mem_of_getElem? (i := 1114) (by decide +kernel), List.mem_of_getElem? (i := 1115) (by decide +kernel)⟩
theorem lw_p47 : lw_okq (⟨"StoryClassesModel", "goesTo", "(I)V"⟩, 63) := ⟨⟨by decide +kernel, by decide +kernel⟩, List.mem_of_getElem? (i := 763) (by decide +kernel), List.mem_of_getElem? (i := 1118) (by decide +kernel), List.mem_of_getElem? (i := 1119) (by decide +kernel)⟩
def lw_privs_3 : List (MethodName × Nat) := [(⟨"StoryClassesModel", "lay", "(IIJ)V"⟩, 63), (⟨"StoryClassesModel", "valueAt", "(II)J"⟩, 63), (⟨"StoryClassesModel", "isThing", "(J)Z"⟩, 63), (⟨"StoryClassesModel", "isRoutine", "(I)Z"⟩, 63), (⟨"StoryClassesModel", "isOp", "(IIII)Z"⟩, 63), (⟨"StoryClassesModel", "enter", "(I)V"⟩, 63), (⟨"StoryClassesModel", "step", "()V"⟩, 63), (⟨"StoryClassesModel", "comes", "(IJ)V"⟩, 63), (⟨"StoryClassesModel", "goesUp", "()V"⟩, 63), (⟨"StoryClassesModel", "isTaken", "()Z"⟩, 63), (⟨"StoryClassesModel", "isPlace", "(II)Z"⟩, 63), (⟨"StoryClassesModel", "mayBeginLast", "()Z"⟩, 63), (⟨"StoryClassesModel", "beginLast", "(IJII)V"⟩, 63), (⟨"StoryClassesModel", "plain", "(IIJJ)V"⟩, 63), (⟨"StoryClassesModel", "lays", "(J)V"⟩, 63), (⟨"StoryClassesModel", "goesTo", "(I)V"⟩, 63)]
theorem lw_r3 : ∀ q ∈ lw_privs_3, lw_okq q := List.forall_mem_cons.mpr ⟨lw_p32, List.forall_mem_cons.mpr ⟨lw_p33, List.forall_mem_cons.mpr ⟨lw_p34, List.forall_mem_cons.mpr ⟨lw_p35, List.forall_mem_cons.mpr ⟨lw_p36, List.forall_mem_cons.mpr ⟨lw_p37, List.forall_mem_cons.mpr ⟨lw_p38, List.forall_mem_cons.mpr ⟨lw_p39, List.forall_mem_cons.mpr ⟨lw_p40, List.forall_mem_cons.mpr ⟨lw_p41, List.forall_mem_cons.mpr ⟨lw_p42, List.forall_mem_cons.mpr ⟨lw_p43, List.forall_mem_cons.mpr ⟨lw_p44, List.forall_mem_cons.mpr ⟨lw_p45, List.forall_mem_cons.mpr ⟨lw_p46, List.forall_mem_cons.mpr ⟨lw_p47, fun _ h => absurd h List.not_mem_nil⟩⟩⟩⟩⟩⟩⟩⟩⟩⟩⟩⟩⟩⟩⟩⟩
theorem lw_p48 : lw_okq (⟨"StoryClassesModel", "goesOn", "()V"⟩, 63) := ⟨⟨by decide +kernel, by decide +kernel⟩, List.mem_of_getElem? (i := 763) (by decide +kernel), List.mem_of_getElem? (i := 1122) (by decide +kernel), List.mem_of_getElem? (i := 1123) (by decide +kernel)⟩
theorem lw_p49 : lw_okq (⟨"StoryClassesModel", "memory", "(IIIJJ)V"⟩, 63) := ⟨⟨by decide +kernel, by decide +kernel⟩, List.mem_of_getElem? (i := 763) (by decide +kernel), List.mem_of_getElem? (i := 1126) (by decide +kernel), List.mem_of_getElem? (i := 1127) (by decide +kernel)⟩
theorem lw_p50 : lw_okq (⟨"StoryClassesModel", "asked", "(III)J"⟩, 63) := ⟨⟨by decide +kernel, by decide +kernel⟩, List.mem_of_getElem? (i := 763) (by decide +kernel), List.mem_of_getElem? (i := 1133) (by decide +kernel), List.mem_of_getElem? (i := 1134) (by decide +kernel)⟩
theorem lw_p51 : lw_okq (⟨"StoryClassesModel", "isPut", "(IIIJ)V"⟩, 63) := ⟨⟨by decide +kernel, by decide +kernel⟩, List.mem_of_getElem? (i := 763) (by decide +kernel), List.mem_of_getElem? (i := 1137) (by decide +kernel), List.mem_of_getElem? (i := 1138) (by decide +kernel)⟩
theorem lw_p52 : lw_okq (⟨"StoryClassesModel", "ways", "(IIIJ)V"⟩, 63) := ⟨⟨by decide +kernel, by decide +kernel⟩, List.mem_of_getElem? (i := 763) (by decide +kernel), List.mem_of_getElem? (i := 1141) (by decide +kernel), List.mem_of_getElem? (i := 1142) (by decide +kernel)⟩
theorem lw_p53 : lw_okq (⟨"StoryClassesModel", "endsWith", "(J)V"⟩, 63) := ⟨⟨by decide +kernel, by decide +kernel⟩, List.mem_of_getElem? (i := 763) (by decide +kernel), List.mem_of_getElem? (i := 1145) (by decide +kernel), List.mem_of_getElem? (i := 1146) (by decide +kernel)⟩
theorem lw_p54 : lw_okq (⟨"StoryClassesModel", "leave", "()V"⟩, 63) := ⟨⟨by decide +kernel, by decide +kernel⟩, List.mem_of_getElem? (i := 763) (by decide +kernel), List.mem_of_getElem? (i := 1149) (by decide +kernel), List.mem_of_getElem? (i := 1150) (by decide +kernel)⟩
theorem lw_p55 : lw_okq (⟨"StoryClassesModel", "world", "(IIJJJ)V"⟩, 63) := ⟨⟨by decide +kernel, by decide +kernel⟩, List.mem_of_getElem? (i := 763) (by decide +kernel), List.mem_of_getElem? (i := 1153) (by decide +kernel), List.mem_of_getElem? (i := 1154) (by decide +kernel)⟩
theorem lw_p56 : lw_okq (⟨"StoryClassesModel", "message", "(III)V"⟩, 63) := ⟨⟨by decide +kernel, by decide +kernel⟩, List.mem_of_getElem? (i := 763) (by decide +kernel), List.mem_of_getElem? (i := 1157) (by decide +kernel), List.mem_of_getElem? (i := 1158) (by decide +kernel)⟩
theorem lw_p57 : lw_okq (⟨"StoryClassesModel", "weigh", "(I)I"⟩, 63) := ⟨⟨by decide +kernel, by decide +kernel⟩, List.mem_of_getElem? (i := 763) (by decide +kernel), List.mem_of_getElem? (i := 1161) (by decide +kernel), List.mem_of_getElem? (i := 1162) (by decide +kernel)⟩
theorem lw_p58 : lw_okq (⟨"StoryClassesModel", "take", "(II)V"⟩, 63) := ⟨⟨by decide +kernel, by decide +kernel⟩, List.mem_of_getElem? (i := 763) (by decide +kernel), List.mem_of_getElem? (i := 1168) (by decide +kernel), List.mem_of_getElem? (i := 1169) (by decide +kernel)⟩
theorem lw_p59 : lw_okq (⟨"StoryClassesModel", "stand", "(JJJ)V"⟩, 63) := ⟨⟨by decide +kernel, by decide +kernel⟩, List.mem_of_getElem? (i := 763) (by decide +kernel), List.mem_of_getElem? (i := 1173) (by decide +kernel), List.mem_of_getElem? (i := 1174) (by decide +kernel)⟩
theorem lw_p60 : lw_okq (⟨"StoryClassesModel", "keep", "()V"⟩, 63) := ⟨⟨by decide +kernel, by decide +kernel⟩, List.mem_of_getElem? (i := 763) (by decide +kernel), List.mem_of_getElem? (i := 1177) (by decide +kernel), List.mem_of_getElem? (i := 1178) (by decide +kernel)⟩
theorem lw_p61 : lw_okq (⟨"StoryClassesModel", "bringBack", "()V"⟩, 63) := ⟨⟨by decide +kernel, by decide +kernel⟩, List.mem_of_getElem? (i := 763) (by decide +kernel), List.mem_of_getElem? (i := 1181) (by decide +kernel), List.mem_of_getElem? (i := 1182) (by decide +kernel)⟩
def lw_privs_4 : List (MethodName × Nat) := [(⟨"StoryClassesModel", "goesOn", "()V"⟩, 63), (⟨"StoryClassesModel", "memory", "(IIIJJ)V"⟩, 63), (⟨"StoryClassesModel", "asked", "(III)J"⟩, 63), (⟨"StoryClassesModel", "isPut", "(IIIJ)V"⟩, 63), (⟨"StoryClassesModel", "ways", "(IIIJ)V"⟩, 63), (⟨"StoryClassesModel", "endsWith", "(J)V"⟩, 63), (⟨"StoryClassesModel", "leave", "()V"⟩, 63), (⟨"StoryClassesModel", "world", "(IIJJJ)V"⟩, 63), (⟨"StoryClassesModel", "message", "(III)V"⟩, 63), (⟨"StoryClassesModel", "weigh", "(I)I"⟩, 63), (⟨"StoryClassesModel", "take", "(II)V"⟩, 63), (⟨"StoryClassesModel", "stand", "(JJJ)V"⟩, 63), (⟨"StoryClassesModel", "keep", "()V"⟩, 63), (⟨"StoryClassesModel", "bringBack", "()V"⟩, 63)]
theorem lw_r4 : ∀ q ∈ lw_privs_4, lw_okq q := List.forall_mem_cons.mpr ⟨lw_p48, List.forall_mem_cons.mpr ⟨lw_p49, List.forall_mem_cons.mpr ⟨lw_p50, List.forall_mem_cons.mpr ⟨lw_p51, List.forall_mem_cons.mpr ⟨lw_p52, List.forall_mem_cons.mpr ⟨lw_p53, List.forall_mem_cons.mpr ⟨lw_p54, List.forall_mem_cons.mpr ⟨lw_p55, List.forall_mem_cons.mpr ⟨lw_p56, List.forall_mem_cons.mpr ⟨lw_p57, List.forall_mem_cons.mpr ⟨lw_p58, List.forall_mem_cons.mpr ⟨lw_p59, List.forall_mem_cons.mpr ⟨lw_p60, List.forall_mem_cons.mpr ⟨lw_p61, fun _ h => absurd h List.not_mem_nil⟩⟩⟩⟩⟩⟩⟩⟩⟩⟩⟩⟩⟩⟩
def lw_privs : List (MethodName × Nat) := lw_privs_1 ++ (lw_privs_2 ++ (lw_privs_3 ++ (lw_privs_4)))
def lw_tbl : List Cond := k2_sels lw_privs ++ tables_1
theorem lw_privs_ok : ∀ q ∈ lw_privs, lw_okq q := by
  show ∀ q ∈ lw_privs_1 ++ (lw_privs_2 ++ (lw_privs_3 ++ (lw_privs_4))), lw_okq q
  exact List.forall_mem_append.mpr ⟨lw_r1, List.forall_mem_append.mpr ⟨lw_r2, List.forall_mem_append.mpr ⟨lw_r3, lw_r4⟩⟩⟩
/-- the streams that the claim lets the run draw from -/
abbrev lw_cs : List Choice := [Jvm.Choice.named "NaN.bits"]
theorem lw_bits : nanBits ∈ lw_cs := by first | decide | exact List.mem_cons_self | simp [lw_cs, nanBits]

def RX0 : String := "StoryClasses$Fault"
def TX0 : u_T := fun k => match k with
  | 0 => ("StoryClasses$Fault", "code", "I", false)
  | 1 => ("StoryClasses$Fault", "number", "J", false)
  | 2 => ("StoryClasses$Fault", "routine", "I", false)
  | _ => ("StoryClasses$Fault", "place", "I", false)
def tyX0 : Nat → FieldType := fun k => match k with
  | 0 => .int
  | 1 => .long
  | 2 => .int
  | _ => .int
theorem nmX0 : ∀ a, a < 4 → ∀ b, b < 4 → a ≠ b → (TX0 a).2.1 ≠ (TX0 b).2.1 := by decide +kernel
theorem tyX0_ok : ∀ k, k < 4 → parseFieldDescriptor (TX0 k).2.2.1 = some (tyX0 k) := by decide +kernel
abbrev cX0_init : ByteArray := prog_2_method_1_code
def yX0_init : MethodName := ⟨RX0, "<init>", "()V"⟩
abbrev cX0_become : ByteArray := prog_2_method_2_code
def yX0_become : MethodName := ⟨RX0, "become", "(IJII)V"⟩
abbrev cX0_becomeNone : ByteArray := prog_2_method_3_code
def yX0_becomeNone : MethodName := ⟨RX0, "becomeNone", "()V"⟩
abbrev cX0_becomeAs : ByteArray := prog_2_method_4_code
def yX0_becomeAs : MethodName := ⟨RX0, "becomeAs", "(LStoryClasses$Fault;)V"⟩
def RX1 : String := "StoryClasses$Frame"
def TX1 : u_T := fun k => match k with
  | 0 => ("StoryClasses$Frame", "locals", "[J", true)
  | 1 => ("StoryClasses$Frame", "pile", "[J", true)
  | 2 => ("StoryClasses$Frame", "faultAside", "LStoryClasses$Fault;", true)
  | 3 => ("StoryClasses$Frame", "routine", "LStoryClasses$Routine;", false)
  | 4 => ("StoryClasses$Frame", "routineNumber", "I", false)
  | 5 => ("StoryClasses$Frame", "place", "I", false)
  | 6 => ("StoryClasses$Frame", "next", "I", false)
  | 7 => ("StoryClasses$Frame", "height", "I", false)
  | 8 => ("StoryClasses$Frame", "lastBegun", "Z", false)
  | 9 => ("StoryClasses$Frame", "isFaultAside", "Z", false)
  | _ => ("StoryClasses$Frame", "numberAside", "J", false)
def tyX1 : Nat → FieldType := fun k => match k with
  | 0 => .array .long
  | 1 => .array .long
  | 2 => .object "StoryClasses$Fault"
  | 3 => .object "StoryClasses$Routine"
  | 4 => .int
  | 5 => .int
  | 6 => .int
  | 7 => .int
  | 8 => .boolean
  | 9 => .boolean
  | _ => .long
theorem nmX1 : ∀ a, a < 11 → ∀ b, b < 11 → a ≠ b → (TX1 a).2.1 ≠ (TX1 b).2.1 := by decide +kernel
theorem tyX1_ok : ∀ k, k < 11 → parseFieldDescriptor (TX1 k).2.2.1 = some (tyX1 k) := by decide +kernel
abbrev cX1_init : ByteArray := prog_3_method_1_code
def yX1_init : MethodName := ⟨RX1, "<init>", "()V"⟩
abbrev cX1_beginWith : ByteArray := prog_3_method_2_code
def yX1_beginWith : MethodName := ⟨RX1, "beginWith", "(ILStoryClasses$Routine;)V"⟩
abbrev cX1_take : ByteArray := prog_3_method_3_code
def yX1_take : MethodName := ⟨RX1, "take", "(I)Z"⟩
abbrev cX1_taken : ByteArray := prog_3_method_4_code
def yX1_taken : MethodName := ⟨RX1, "taken", "(I)J"⟩
abbrev cX1_lay : ByteArray := prog_3_method_5_code
def yX1_lay : MethodName := ⟨RX1, "lay", "(J)I"⟩
abbrev cX1_local : ByteArray := prog_3_method_6_code
def yX1_local : MethodName := ⟨RX1, "local", "(I)J"⟩
abbrev cX1_setLocal : ByteArray := prog_3_method_7_code
def yX1_setLocal : MethodName := ⟨RX1, "setLocal", "(IJ)V"⟩
abbrev cX1_beginsLast : ByteArray := prog_3_method_8_code
def yX1_beginsLast : MethodName := ⟨RX1, "beginsLast", "()Z"⟩
abbrev cX1_putNumberAside : ByteArray := prog_3_method_9_code
def yX1_putNumberAside : MethodName := ⟨RX1, "putNumberAside", "(J)V"⟩
abbrev cX1_putFaultAside : ByteArray := prog_3_method_10_code
def yX1_putFaultAside : MethodName := ⟨RX1, "putFaultAside", "(LStoryClasses$Fault;)V"⟩
abbrev cX1_goOn : ByteArray := prog_3_method_11_code
def yX1_goOn : MethodName := ⟨RX1, "goOn", "()I"⟩
def RX2 : String := "StoryClasses$Keepings"
def TX2 : u_T := fun k => match k with
  | 0 => ("StoryClasses$Keepings", "memories", "[LStoryClasses$Memory;", true)
  | 1 => ("StoryClasses$Keepings", "things", "[LStoryClasses$Things;", true)
  | _ => ("StoryClasses$Keepings", "kept", "I", false)
def tyX2 : Nat → FieldType := fun k => match k with
  | 0 => .array (.object "StoryClasses$Memory")
  | 1 => .array (.object "StoryClasses$Things")
  | _ => .int
theorem nmX2 : ∀ a, a < 3 → ∀ b, b < 3 → a ≠ b → (TX2 a).2.1 ≠ (TX2 b).2.1 := by decide +kernel
theorem tyX2_ok : ∀ k, k < 3 → parseFieldDescriptor (TX2 k).2.2.1 = some (tyX2 k) := by decide +kernel
abbrev cX2_init : ByteArray := prog_4_method_1_code
def yX2_init : MethodName := ⟨RX2, "<init>", "()V"⟩
abbrev cX2_isFull : ByteArray := prog_4_method_2_code
def yX2_isFull : MethodName := ⟨RX2, "isFull", "()Z"⟩
abbrev cX2_keep : ByteArray := prog_4_method_3_code
def yX2_keep : MethodName := ⟨RX2, "keep", "(LStoryClasses$Memory;LStoryClasses$Things;)V"⟩
abbrev cX2_bringBack : ByteArray := prog_4_method_4_code
def yX2_bringBack : MethodName := ⟨RX2, "bringBack", "(LStoryClasses$Memory;LStoryClasses$Things;)Z"⟩
abbrev cX2_clear : ByteArray := prog_4_method_5_code
def yX2_clear : MethodName := ⟨RX2, "clear", "()I"⟩
def RX3 : String := "StoryClasses$Lanes"
def TX3 : u_T := fun k => match k with
  | _ => ("", "", "", false)
def tyX3 : Nat → FieldType := fun k => match k with
  | _ => .int
theorem nmX3 : ∀ a, a < 0 → ∀ b, b < 0 → a ≠ b → (TX3 a).2.1 ≠ (TX3 b).2.1 := by decide +kernel
theorem tyX3_ok : ∀ k, k < 0 → parseFieldDescriptor (TX3 k).2.2.1 = some (tyX3 k) := by decide +kernel
abbrev cX3_through : ByteArray := prog_5_method_2_code
def yX3_through : MethodName := ⟨RX3, "through", "(IJ)J"⟩
abbrev cX3_goesInto : ByteArray := prog_5_method_3_code
def yX3_goesInto : MethodName := ⟨RX3, "goesInto", "(II)Z"⟩
def RX4 : String := "StoryClasses$Machine"
def TX4 : u_T := fun k => match k with
  | 0 => ("StoryClasses$Machine", "memory", "LStoryClasses$Memory;", true)
  | 1 => ("StoryClasses$Machine", "things", "LStoryClasses$Things;", true)
  | 2 => ("StoryClasses$Machine", "keepings", "LStoryClasses$Keepings;", true)
  | 3 => ("StoryClasses$Machine", "routines", "[LStoryClasses$Routine;", true)
  | 4 => ("StoryClasses$Machine", "routineCount", "I", false)
  | 5 => ("StoryClasses$Machine", "frames", "[LStoryClasses$Frame;", true)
  | 6 => ("StoryClasses$Machine", "output", "[J", true)
  | 7 => ("StoryClasses$Machine", "fault", "LStoryClasses$Fault;", true)
  | 8 => ("StoryClasses$Machine", "open", "I", false)
  | 9 => ("StoryClasses$Machine", "outputs", "I", false)
  | 10 => ("StoryClasses$Machine", "outcome", "I", false)
  | 11 => ("StoryClasses$Machine", "keptInRun", "I", false)
  | 12 => ("StoryClasses$Machine", "steps", "I", false)
  | 13 => ("StoryClasses$Machine", "faults", "I", false)
  | 14 => ("StoryClasses$Machine", "taken", "I", false)
  | 15 => ("StoryClasses$Machine", "lasts", "I", false)
  | 16 => ("StoryClasses$Machine", "deepest", "I", false)
  | 17 => ("StoryClasses$Machine", "returned", "J", false)
  | _ => ("StoryClasses$Machine", "thrown", "J", false)
def tyX4 : Nat → FieldType := fun k => match k with
  | 0 => .object "StoryClasses$Memory"
  | 1 => .object "StoryClasses$Things"
  | 2 => .object "StoryClasses$Keepings"
  | 3 => .array (.object "StoryClasses$Routine")
  | 4 => .int
  | 5 => .array (.object "StoryClasses$Frame")
  | 6 => .array .long
  | 7 => .object "StoryClasses$Fault"
  | 8 => .int
  | 9 => .int
  | 10 => .int
  | 11 => .int
  | 12 => .int
  | 13 => .int
  | 14 => .int
  | 15 => .int
  | 16 => .int
  | 17 => .long
  | _ => .long
theorem nmX4 : ∀ a, a < 19 → ∀ b, b < 19 → a ≠ b → (TX4 a).2.1 ≠ (TX4 b).2.1 := by decide +kernel
theorem tyX4_ok : ∀ k, k < 19 → parseFieldDescriptor (TX4 k).2.2.1 = some (tyX4 k) := by decide +kernel
abbrev cX4_init : ByteArray := prog_6_method_1_code
def yX4_init : MethodName := ⟨RX4, "<init>", "()V"⟩
abbrev cX4_addRoutine : ByteArray := prog_6_method_2_code
def yX4_addRoutine : MethodName := ⟨RX4, "addRoutine", "(I)I"⟩
abbrev cX4_routineAt : ByteArray := prog_6_method_3_code
def yX4_routineAt : MethodName := ⟨RX4, "routineAt", "(I)LStoryClasses$Routine;"⟩
abbrev cX4_play : ByteArray := prog_6_method_4_code
def yX4_play : MethodName := ⟨RX4, "play", "(ILStoryClasses$Routine;JJ)I"⟩
abbrev cX4_beginRun : ByteArray := prog_6_method_5_code
def yX4_beginRun : MethodName := ⟨RX4, "beginRun", "()V"⟩
abbrev cX4_openFrame : ByteArray := prog_6_method_6_code
def yX4_openFrame : MethodName := ⟨RX4, "openFrame", "(ILStoryClasses$Routine;)LStoryClasses$Frame;"⟩
abbrev cX4_step : ByteArray := prog_6_method_7_code
def yX4_step : MethodName := ⟨RX4, "step", "(LStoryClasses$Frame;)V"⟩
abbrev cX4_raise : ByteArray := prog_6_method_8_code
def yX4_raise : MethodName := ⟨RX4, "raise", "(ILStoryClasses$Frame;)V"⟩
abbrev cX4_passOn : ByteArray := prog_6_method_9_code
def yX4_passOn : MethodName := ⟨RX4, "passOn", "()V"⟩
abbrev cX4_beTaken : ByteArray := prog_6_method_10_code
def yX4_beTaken : MethodName := ⟨RX4, "beTaken", "(LStoryClasses$Frame;I)V"⟩
abbrev cX4_act : ByteArray := prog_6_method_11_code
def yX4_act : MethodName := ⟨RX4, "act", "(LStoryClasses$Frame;III)I"⟩
abbrev cX4_useLocals : ByteArray := prog_6_method_12_code
def yX4_useLocals : MethodName := ⟨RX4, "useLocals", "(LStoryClasses$Frame;II)I"⟩
abbrev cX4_reckon : ByteArray := prog_6_method_13_code
def yX4_reckon : MethodName := ⟨RX4, "reckon", "(LStoryClasses$Frame;IJJ)I"⟩
abbrev cX4_useItem : ByteArray := prog_6_method_14_code
def yX4_useItem : MethodName := ⟨RX4, "useItem", "(LStoryClasses$Frame;III)I"⟩
abbrev cX4_reachItem : ByteArray := prog_6_method_15_code
def yX4_reachItem : MethodName := ⟨RX4, "reachItem", "(IIIJ)I"⟩
abbrev cX4_useRow : ByteArray := prog_6_method_16_code
def yX4_useRow : MethodName := ⟨RX4, "useRow", "(LStoryClasses$Frame;III)I"⟩
abbrev cX4_callRoutine : ByteArray := prog_6_method_17_code
def yX4_callRoutine : MethodName := ⟨RX4, "callRoutine", "(LStoryClasses$Frame;II)I"⟩
abbrev cX4_giveBack : ByteArray := prog_6_method_18_code
def yX4_giveBack : MethodName := ⟨RX4, "giveBack", "(LStoryClasses$Frame;J)I"⟩
abbrev cX4_leave : ByteArray := prog_6_method_19_code
def yX4_leave : MethodName := ⟨RX4, "leave", "(LStoryClasses$Frame;)I"⟩
abbrev cX4_endWith : ByteArray := prog_6_method_20_code
def yX4_endWith : MethodName := ⟨RX4, "endWith", "(J)I"⟩
abbrev cX4_sendTo : ByteArray := prog_6_method_21_code
def yX4_sendTo : MethodName := ⟨RX4, "sendTo", "(LStoryClasses$Frame;JI)I"⟩
abbrev cX4_lookOnShelf : ByteArray := prog_6_method_22_code
def yX4_lookOnShelf : MethodName := ⟨RX4, "lookOnShelf", "(LStoryClasses$Frame;JJ)I"⟩
abbrev cX4_tellOutside : ByteArray := prog_6_method_23_code
def yX4_tellOutside : MethodName := ⟨RX4, "tellOutside", "(J)I"⟩
abbrev cX4_keepAll : ByteArray := prog_6_method_24_code
def yX4_keepAll : MethodName := ⟨RX4, "keepAll", "(LStoryClasses$Frame;)I"⟩
def RX5 : String := "StoryClasses$Memory"
def TX5 : u_T := fun k => match k with
  | 0 => ("StoryClasses$Memory", "bodies", "[I", true)
  | 1 => ("StoryClasses$Memory", "uses", "[I", true)
  | 2 => ("StoryClasses$Memory", "lanes", "[I", true)
  | 3 => ("StoryClasses$Memory", "sizes", "[I", true)
  | _ => ("StoryClasses$Memory", "items", "[J", true)
def tyX5 : Nat → FieldType := fun k => match k with
  | 0 => .array .int
  | 1 => .array .int
  | 2 => .array .int
  | 3 => .array .int
  | _ => .array .long
theorem nmX5 : ∀ a, a < 5 → ∀ b, b < 5 → a ≠ b → (TX5 a).2.1 ≠ (TX5 b).2.1 := by decide +kernel
theorem tyX5_ok : ∀ k, k < 5 → parseFieldDescriptor (TX5 k).2.2.1 = some (tyX5 k) := by decide +kernel
abbrev cX5_init : ByteArray := prog_7_method_1_code
def yX5_init : MethodName := ⟨RX5, "<init>", "()V"⟩
abbrev cX5_renew : ByteArray := prog_7_method_2_code
def yX5_renew : MethodName := ⟨RX5, "renew", "(IIJ)I"⟩
abbrev cX5_freeBody : ByteArray := prog_7_method_3_code
def yX5_freeBody : MethodName := ⟨RX5, "freeBody", "()I"⟩
abbrev cX5_attach : ByteArray := prog_7_method_4_code
def yX5_attach : MethodName := ⟨RX5, "attach", "(II)V"⟩
abbrev cX5_drop : ByteArray := prog_7_method_5_code
def yX5_drop : MethodName := ⟨RX5, "drop", "(I)Z"⟩
abbrev cX5_join : ByteArray := prog_7_method_6_code
def yX5_join : MethodName := ⟨RX5, "join", "(II)Z"⟩
abbrev cX5_sizeOf : ByteArray := prog_7_method_7_code
def yX5_sizeOf : MethodName := ⟨RX5, "sizeOf", "(I)I"⟩
abbrev cX5_laneOf : ByteArray := prog_7_method_8_code
def yX5_laneOf : MethodName := ⟨RX5, "laneOf", "(I)I"⟩
abbrev cX5_leastSame : ByteArray := prog_7_method_9_code
def yX5_leastSame : MethodName := ⟨RX5, "leastSame", "(I)I"⟩
abbrev cX5_reach : ByteArray := prog_7_method_10_code
def yX5_reach : MethodName := ⟨RX5, "reach", "(IJ)I"⟩
abbrev cX5_reachHeld : ByteArray := prog_7_method_11_code
def yX5_reachHeld : MethodName := ⟨RX5, "reachHeld", "(IIJ)I"⟩
abbrev cX5_reachAsked : ByteArray := prog_7_method_12_code
def yX5_reachAsked : MethodName := ⟨RX5, "reachAsked", "(IIJ)I"⟩
abbrev cX5_reachPut : ByteArray := prog_7_method_13_code
def yX5_reachPut : MethodName := ⟨RX5, "reachPut", "(IIJ)I"⟩
abbrev cX5_valueAt : ByteArray := prog_7_method_14_code
def yX5_valueAt : MethodName := ⟨RX5, "valueAt", "(IJ)J"⟩
abbrev cX5_store : ByteArray := prog_7_method_15_code
def yX5_store : MethodName := ⟨RX5, "store", "(IJJ)V"⟩
abbrev cX5_copyFrom : ByteArray := prog_7_method_16_code
def yX5_copyFrom : MethodName := ⟨RX5, "copyFrom", "(LStoryClasses$Memory;)V"⟩
def RX6 : String := "StoryClasses$Ops"
def TX6 : u_T := fun k => match k with
  | _ => ("", "", "", false)
def tyX6 : Nat → FieldType := fun k => match k with
  | _ => .int
theorem nmX6 : ∀ a, a < 0 → ∀ b, b < 0 → a ≠ b → (TX6 a).2.1 ≠ (TX6 b).2.1 := by decide +kernel
theorem tyX6_ok : ∀ k, k < 0 → parseFieldDescriptor (TX6 k).2.2.1 = some (tyX6 k) := by decide +kernel
abbrev cX6_takes : ByteArray := prog_8_method_2_code
def yX6_takes : MethodName := ⟨RX6, "takes", "(III)I"⟩
def RX7 : String := "StoryClasses$Routine"
def TX7 : u_T := fun k => match k with
  | 0 => ("StoryClasses$Routine", "locals", "I", true)
  | 1 => ("StoryClasses$Routine", "codes", "[I", true)
  | 2 => ("StoryClasses$Routine", "as", "[I", true)
  | 3 => ("StoryClasses$Routine", "bs", "[I", true)
  | 4 => ("StoryClasses$Routine", "froms", "[I", true)
  | 5 => ("StoryClasses$Routine", "tos", "[I", true)
  | 6 => ("StoryClasses$Routine", "guarded", "[I", true)
  | 7 => ("StoryClasses$Routine", "handlers", "[I", true)
  | 8 => ("StoryClasses$Routine", "ops", "I", false)
  | 9 => ("StoryClasses$Routine", "guards", "I", false)
  | _ => ("StoryClasses$Routine", "lastPlace", "I", false)
def tyX7 : Nat → FieldType := fun k => match k with
  | 0 => .int
  | 1 => .array .int
  | 2 => .array .int
  | 3 => .array .int
  | 4 => .array .int
  | 5 => .array .int
  | 6 => .array .int
  | 7 => .array .int
  | 8 => .int
  | 9 => .int
  | _ => .int
theorem nmX7 : ∀ a, a < 11 → ∀ b, b < 11 → a ≠ b → (TX7 a).2.1 ≠ (TX7 b).2.1 := by decide +kernel
theorem tyX7_ok : ∀ k, k < 11 → parseFieldDescriptor (TX7 k).2.2.1 = some (tyX7 k) := by decide +kernel
abbrev cX7_init : ByteArray := prog_9_method_1_code
def yX7_init : MethodName := ⟨RX7, "<init>", "(I)V"⟩
abbrev cX7_admits : ByteArray := prog_9_method_2_code
def yX7_admits : MethodName := ⟨RX7, "admits", "(III)Z"⟩
abbrev cX7_addOp : ByteArray := prog_9_method_3_code
def yX7_addOp : MethodName := ⟨RX7, "addOp", "(III)I"⟩
abbrev cX7_addGuard : ByteArray := prog_9_method_4_code
def yX7_addGuard : MethodName := ⟨RX7, "addGuard", "(IIII)I"⟩
abbrev cX7_hasOp : ByteArray := prog_9_method_5_code
def yX7_hasOp : MethodName := ⟨RX7, "hasOp", "(I)Z"⟩
abbrev cX7_handlerOf : ByteArray := prog_9_method_6_code
def yX7_handlerOf : MethodName := ⟨RX7, "handlerOf", "(II)I"⟩
def RX8 : String := "StoryClasses$Things"
def TX8 : u_T := fun k => match k with
  | 0 => ("StoryClasses$Things", "kinds", "[I", true)
  | 1 => ("StoryClasses$Things", "counts", "[I", true)
  | 2 => ("StoryClasses$Things", "marks", "[I", true)
  | 3 => ("StoryClasses$Things", "ownMarks", "[I", true)
  | 4 => ("StoryClasses$Things", "shelves", "[I", true)
  | 5 => ("StoryClasses$Things", "total", "I", false)
  | _ => ("StoryClasses$Things", "answer", "I", false)
def tyX8 : Nat → FieldType := fun k => match k with
  | 0 => .array .int
  | 1 => .array .int
  | 2 => .array .int
  | 3 => .array .int
  | 4 => .array .int
  | 5 => .int
  | _ => .int
theorem nmX8 : ∀ a, a < 7 → ∀ b, b < 7 → a ≠ b → (TX8 a).2.1 ≠ (TX8 b).2.1 := by decide +kernel
theorem tyX8_ok : ∀ k, k < 7 → parseFieldDescriptor (TX8 k).2.2.1 = some (tyX8 k) := by decide +kernel
abbrev cX8_init : ByteArray := prog_10_method_1_code
def yX8_init : MethodName := ⟨RX8, "<init>", "()V"⟩
abbrev cX8_bring : ByteArray := prog_10_method_2_code
def yX8_bring : MethodName := ⟨RX8, "bring", "(I)I"⟩
abbrev cX8_exists : ByteArray := prog_10_method_3_code
def yX8_exists : MethodName := ⟨RX8, "exists", "(J)Z"⟩
abbrev cX8_tell : ByteArray := prog_10_method_4_code
def yX8_tell : MethodName := ⟨RX8, "tell", "(II)I"⟩
abbrev cX8_isA : ByteArray := prog_10_method_5_code
def yX8_isA : MethodName := ⟨RX8, "isA", "(II)Z"⟩
abbrev cX8_placesOf : ByteArray := prog_10_method_6_code
def yX8_placesOf : MethodName := ⟨RX8, "placesOf", "(I)I"⟩
abbrev cX8_reachShelf : ByteArray := prog_10_method_7_code
def yX8_reachShelf : MethodName := ⟨RX8, "reachShelf", "(JJ)I"⟩
abbrev cX8_lies : ByteArray := prog_10_method_8_code
def yX8_lies : MethodName := ⟨RX8, "lies", "(II)I"⟩
abbrev cX8_layOnShelf : ByteArray := prog_10_method_9_code
def yX8_layOnShelf : MethodName := ⟨RX8, "layOnShelf", "(JJJ)I"⟩
abbrev cX8_hasNumber : ByteArray := prog_10_method_10_code
def yX8_hasNumber : MethodName := ⟨RX8, "hasNumber", "(I)Z"⟩
abbrev cX8_send : ByteArray := prog_10_method_11_code
def yX8_send : MethodName := ⟨RX8, "send", "(III)I"⟩
abbrev cX8_weight : ByteArray := prog_10_method_12_code
def yX8_weight : MethodName := ⟨RX8, "weight", "(I)I"⟩
abbrev cX8_load : ByteArray := prog_10_method_13_code
def yX8_load : MethodName := ⟨RX8, "load", "(II)I"⟩
abbrev cX8_glow : ByteArray := prog_10_method_14_code
def yX8_glow : MethodName := ⟨RX8, "glow", "(II)I"⟩
abbrev cX8_openUp : ByteArray := prog_10_method_15_code
def yX8_openUp : MethodName := ⟨RX8, "openUp", "(I)I"⟩
abbrev cX8_setOwnMark : ByteArray := prog_10_method_16_code
def yX8_setOwnMark : MethodName := ⟨RX8, "setOwnMark", "(III)I"⟩
abbrev cX8_copyFirst : ByteArray := prog_10_method_17_code
def yX8_copyFirst : MethodName := ⟨RX8, "copyFirst", "(LStoryClasses$Things;I)V"⟩
def RX9 : String := "StoryClasses"
def TX9 : u_T := fun k => match k with
  | _ => ("StoryClasses", "machine", "LStoryClasses$Machine;", true)
def tyX9 : Nat → FieldType := fun k => match k with
  | _ => .object "StoryClasses$Machine"
theorem nmX9 : ∀ a, a < 1 → ∀ b, b < 1 → a ≠ b → (TX9 a).2.1 ≠ (TX9 b).2.1 := by decide +kernel
theorem tyX9_ok : ∀ k, k < 1 → parseFieldDescriptor (TX9 k).2.2.1 = some (tyX9 k) := by decide +kernel
abbrev cX9_init : ByteArray := prog_1_method_1_code
def yX9_init : MethodName := ⟨RX9, "<init>", "()V"⟩
abbrev cX9_row : ByteArray := prog_1_method_2_code
def yX9_row : MethodName := ⟨RX9, "row", "(III)I"⟩
abbrev cX9_miss : ByteArray := prog_1_method_3_code
def yX9_miss : MethodName := ⟨RX9, "miss", "(I)I"⟩
abbrev cX9_share : ByteArray := prog_1_method_4_code
def yX9_share : MethodName := ⟨RX9, "share", "(II)I"⟩
abbrev cX9_put : ByteArray := prog_1_method_5_code
def yX9_put : MethodName := ⟨RX9, "put", "(IIJ)I"⟩
abbrev cX9_item : ByteArray := prog_1_method_6_code
def yX9_item : MethodName := ⟨RX9, "item", "(II)J"⟩
abbrev cX9_about : ByteArray := prog_1_method_7_code
def yX9_about : MethodName := ⟨RX9, "about", "(II)I"⟩
abbrev cX9_thing : ByteArray := prog_1_method_8_code
def yX9_thing : MethodName := ⟨RX9, "thing", "(I)I"⟩
abbrev cX9_of : ByteArray := prog_1_method_9_code
def yX9_of : MethodName := ⟨RX9, "of", "(II)I"⟩
abbrev cX9_routine : ByteArray := prog_1_method_10_code
def yX9_routine : MethodName := ⟨RX9, "routine", "(I)I"⟩
abbrev cX9_op : ByteArray := prog_1_method_11_code
def yX9_op : MethodName := ⟨RX9, "op", "(IIII)I"⟩
abbrev cX9_guard : ByteArray := prog_1_method_12_code
def yX9_guard : MethodName := ⟨RX9, "guard", "(IIIII)I"⟩
abbrev cX9_last : ByteArray := prog_1_method_13_code
def yX9_last : MethodName := ⟨RX9, "last", "(II)I"⟩
abbrev cX9_run : ByteArray := prog_1_method_14_code
def yX9_run : MethodName := ⟨RX9, "run", "(IJJ)I"⟩
abbrev cX9_result : ByteArray := prog_1_method_15_code
def yX9_result : MethodName := ⟨RX9, "result", "()J"⟩
abbrev cX9_told : ByteArray := prog_1_method_16_code
def yX9_told : MethodName := ⟨RX9, "told", "(I)I"⟩
abbrev cX9_number : ByteArray := prog_1_method_17_code
def yX9_number : MethodName := ⟨RX9, "number", "()J"⟩
abbrev cX9_output : ByteArray := prog_1_method_18_code
def yX9_output : MethodName := ⟨RX9, "output", "(I)J"⟩
abbrev cX9_count : ByteArray := prog_1_method_19_code
def yX9_count : MethodName := ⟨RX9, "count", "(II)I"⟩
abbrev cX9_forget : ByteArray := prog_1_method_20_code
def yX9_forget : MethodName := ⟨RX9, "forget", "()I"⟩
abbrev cX9_countOfRoutine : ByteArray := prog_1_method_21_code
def yX9_countOfRoutine : MethodName := ⟨RX9, "countOfRoutine", "(ILStoryClasses$Routine;)I"⟩
abbrev cX9_isRow : ByteArray := prog_1_method_22_code
def yX9_isRow : MethodName := ⟨RX9, "isRow", "(I)Z"⟩
abbrev cX9_isLane : ByteArray := prog_1_method_23_code
def yX9_isLane : MethodName := ⟨RX9, "isLane", "(I)Z"⟩
abbrev cX9_isPlace : ByteArray := prog_1_method_24_code
def yX9_isPlace : MethodName := ⟨RX9, "isPlace", "(I)Z"⟩
def RX10 : String := "StoryClassesModel"
def TX10 : u_T := fun k => match k with
  | 0 => ("StoryClassesModel", "slot", "[I", true)
  | 1 => ("StoryClassesModel", "lanes", "[I", true)
  | 2 => ("StoryClassesModel", "sizes", "[I", true)
  | 3 => ("StoryClassesModel", "whole", "[J", true)
  | 4 => ("StoryClassesModel", "real", "[D", true)
  | 5 => ("StoryClassesModel", "things", "I", false)
  | 6 => ("StoryClassesModel", "kinds", "[I", true)
  | 7 => ("StoryClassesModel", "counts", "[I", true)
  | 8 => ("StoryClassesModel", "marks", "[I", true)
  | 9 => ("StoryClassesModel", "owns", "[I", true)
  | 10 => ("StoryClassesModel", "shelf", "[I", true)
  | 11 => ("StoryClassesModel", "says", "I", false)
  | 12 => ("StoryClassesModel", "refuses", "I", false)
  | 13 => ("StoryClassesModel", "refusesWith", "J", false)
  | 14 => ("StoryClassesModel", "routines", "I", false)
  | 15 => ("StoryClassesModel", "localMany", "[I", true)
  | 16 => ("StoryClassesModel", "opMany", "[I", true)
  | 17 => ("StoryClassesModel", "guardMany", "[I", true)
  | 18 => ("StoryClassesModel", "lastAt", "[I", true)
  | 19 => ("StoryClassesModel", "ops", "[I", true)
  | 20 => ("StoryClassesModel", "as", "[I", true)
  | 21 => ("StoryClassesModel", "bs", "[I", true)
  | 22 => ("StoryClassesModel", "guards", "[I", true)
  | 23 => ("StoryClassesModel", "open", "I", false)
  | 24 => ("StoryClassesModel", "routineAt", "[I", true)
  | 25 => ("StoryClassesModel", "placeAt", "[I", true)
  | 26 => ("StoryClassesModel", "locals", "[J", true)
  | 27 => ("StoryClassesModel", "pile", "[J", true)
  | 28 => ("StoryClassesModel", "pileMany", "[I", true)
  | 29 => ("StoryClassesModel", "hasLast", "[Z", true)
  | 30 => ("StoryClassesModel", "asideCode", "[I", true)
  | 31 => ("StoryClassesModel", "asideNumber", "[J", true)
  | 32 => ("StoryClassesModel", "asideRoutine", "[I", true)
  | 33 => ("StoryClassesModel", "asidePlace", "[I", true)
  | 34 => ("StoryClassesModel", "code", "I", false)
  | 35 => ("StoryClassesModel", "number", "J", false)
  | 36 => ("StoryClassesModel", "faultRoutine", "I", false)
  | 37 => ("StoryClassesModel", "faultPlace", "I", false)
  | 38 => ("StoryClassesModel", "state", "I", false)
  | 39 => ("StoryClassesModel", "keepings", "I", false)
  | 40 => ("StoryClassesModel", "out", "[J", true)
  | 41 => ("StoryClassesModel", "outMany", "I", false)
  | 42 => ("StoryClassesModel", "returned", "J", false)
  | 43 => ("StoryClassesModel", "endCode", "I", false)
  | 44 => ("StoryClassesModel", "endNumber", "J", false)
  | 45 => ("StoryClassesModel", "endRoutine", "I", false)
  | 46 => ("StoryClassesModel", "endPlace", "I", false)
  | 47 => ("StoryClassesModel", "steps", "I", false)
  | 48 => ("StoryClassesModel", "faults", "I", false)
  | 49 => ("StoryClassesModel", "taken", "I", false)
  | 50 => ("StoryClassesModel", "lasts", "I", false)
  | 51 => ("StoryClassesModel", "deepest", "I", false)
  | 52 => ("StoryClassesModel", "kept", "I", false)
  | 53 => ("StoryClassesModel", "keptSlot", "[I", true)
  | 54 => ("StoryClassesModel", "keptLane", "[I", true)
  | 55 => ("StoryClassesModel", "keptSize", "[I", true)
  | 56 => ("StoryClassesModel", "keptWhole", "[J", true)
  | 57 => ("StoryClassesModel", "keptReal", "[D", true)
  | 58 => ("StoryClassesModel", "keptThings", "[I", true)
  | 59 => ("StoryClassesModel", "keptCount", "[I", true)
  | 60 => ("StoryClassesModel", "keptMark", "[I", true)
  | 61 => ("StoryClassesModel", "keptOwn", "[I", true)
  | _ => ("StoryClassesModel", "keptShelf", "[I", true)
def tyX10 : Nat → FieldType := fun k => match k with
  | 0 => .array .int
  | 1 => .array .int
  | 2 => .array .int
  | 3 => .array .long
  | 4 => .array .double
  | 5 => .int
  | 6 => .array .int
  | 7 => .array .int
  | 8 => .array .int
  | 9 => .array .int
  | 10 => .array .int
  | 11 => .int
  | 12 => .int
  | 13 => .long
  | 14 => .int
  | 15 => .array .int
  | 16 => .array .int
  | 17 => .array .int
  | 18 => .array .int
  | 19 => .array .int
  | 20 => .array .int
  | 21 => .array .int
  | 22 => .array .int
  | 23 => .int
  | 24 => .array .int
  | 25 => .array .int
  | 26 => .array .long
  | 27 => .array .long
  | 28 => .array .int
  | 29 => .array .boolean
  | 30 => .array .int
  | 31 => .array .long
  | 32 => .array .int
  | 33 => .array .int
  | 34 => .int
  | 35 => .long
  | 36 => .int
  | 37 => .int
  | 38 => .int
  | 39 => .int
  | 40 => .array .long
  | 41 => .int
  | 42 => .long
  | 43 => .int
  | 44 => .long
  | 45 => .int
  | 46 => .int
  | 47 => .int
  | 48 => .int
  | 49 => .int
  | 50 => .int
  | 51 => .int
  | 52 => .int
  | 53 => .array .int
  | 54 => .array .int
  | 55 => .array .int
  | 56 => .array .long
  | 57 => .array .double
  | 58 => .array .int
  | 59 => .array .int
  | 60 => .array .int
  | 61 => .array .int
  | _ => .array .int
theorem nmX10 : ∀ a, a < 63 → ∀ b, b < 63 → a ≠ b → (TX10 a).2.1 ≠ (TX10 b).2.1 := by decide +kernel
theorem tyX10_ok : ∀ k, k < 63 → parseFieldDescriptor (TX10 k).2.2.1 = some (tyX10 k) := by decide +kernel
abbrev cX10_init : ByteArray := prog_12_method_1_code
def yX10_init : MethodName := ⟨RX10, "<init>", "()V"⟩
abbrev cX10_in : ByteArray := prog_12_method_3_code
def yX10_in : MethodName := ⟨RX10, "in", "(JJJ)Z"⟩
abbrev cX10_isRow : ByteArray := prog_12_method_4_code
def yX10_isRow : MethodName := ⟨RX10, "isRow", "(I)Z"⟩
abbrev cX10_isLane : ByteArray := prog_12_method_5_code
def yX10_isLane : MethodName := ⟨RX10, "isLane", "(I)Z"⟩
abbrev cX10_spare : ByteArray := prog_12_method_6_code
def yX10_spare : MethodName := ⟨RX10, "spare", "(I)I"⟩
abbrev cX10_make : ByteArray := prog_12_method_7_code
def yX10_make : MethodName := ⟨RX10, "make", "(III)V"⟩
abbrev cX10_as : ByteArray := prog_12_method_8_code
def yX10_as : MethodName := ⟨RX10, "as", "(IJ)J"⟩
abbrev cX10_asReal : ByteArray := prog_12_method_9_code
def yX10_asReal : MethodName := ⟨RX10, "asReal", "(IJ)D"⟩
abbrev cX10_lay : ByteArray := prog_12_method_10_code
def yX10_lay : MethodName := ⟨RX10, "lay", "(IIJ)V"⟩
abbrev cX10_valueAt : ByteArray := prog_12_method_11_code
def yX10_valueAt : MethodName := ⟨RX10, "valueAt", "(II)J"⟩
abbrev cX10_goesInto : ByteArray := prog_12_method_12_code
def yX10_goesInto : MethodName := ⟨RX10, "goesInto", "(II)Z"⟩
abbrev cX10_against : ByteArray := prog_12_method_13_code
def yX10_against : MethodName := ⟨RX10, "against", "(IJ)I"⟩
abbrev cX10_row : ByteArray := prog_12_method_14_code
def yX10_row : MethodName := ⟨RX10, "row", "(III)I"⟩
abbrev cX10_miss : ByteArray := prog_12_method_15_code
def yX10_miss : MethodName := ⟨RX10, "miss", "(I)I"⟩
abbrev cX10_share : ByteArray := prog_12_method_16_code
def yX10_share : MethodName := ⟨RX10, "share", "(II)I"⟩
abbrev cX10_put : ByteArray := prog_12_method_17_code
def yX10_put : MethodName := ⟨RX10, "put", "(IIJ)I"⟩
abbrev cX10_item : ByteArray := prog_12_method_18_code
def yX10_item : MethodName := ⟨RX10, "item", "(II)J"⟩
abbrev cX10_about : ByteArray := prog_12_method_19_code
def yX10_about : MethodName := ⟨RX10, "about", "(II)I"⟩
abbrev cX10_isCrate : ByteArray := prog_12_method_20_code
def yX10_isCrate : MethodName := ⟨RX10, "isCrate", "(I)Z"⟩
abbrev cX10_placesOf : ByteArray := prog_12_method_21_code
def yX10_placesOf : MethodName := ⟨RX10, "placesOf", "(I)I"⟩
abbrev cX10_isThing : ByteArray := prog_12_method_22_code
def yX10_isThing : MethodName := ⟨RX10, "isThing", "(J)Z"⟩
abbrev cX10_thing : ByteArray := prog_12_method_23_code
def yX10_thing : MethodName := ⟨RX10, "thing", "(I)I"⟩
abbrev cX10_of : ByteArray := prog_12_method_24_code
def yX10_of : MethodName := ⟨RX10, "of", "(II)I"⟩
abbrev cX10_weigh : ByteArray := prog_12_method_25_code
def yX10_weigh : MethodName := ⟨RX10, "weigh", "(I)I"⟩
abbrev cX10_take : ByteArray := prog_12_method_26_code
def yX10_take : MethodName := ⟨RX10, "take", "(II)V"⟩
abbrev cX10_message : ByteArray := prog_12_method_27_code
def yX10_message : MethodName := ⟨RX10, "message", "(III)V"⟩
abbrev cX10_isRoutine : ByteArray := prog_12_method_28_code
def yX10_isRoutine : MethodName := ⟨RX10, "isRoutine", "(I)Z"⟩
abbrev cX10_routine : ByteArray := prog_12_method_29_code
def yX10_routine : MethodName := ⟨RX10, "routine", "(I)I"⟩
abbrev cX10_isOp : ByteArray := prog_12_method_30_code
def yX10_isOp : MethodName := ⟨RX10, "isOp", "(IIII)Z"⟩
abbrev cX10_op : ByteArray := prog_12_method_31_code
def yX10_op : MethodName := ⟨RX10, "op", "(IIII)I"⟩
abbrev cX10_guard : ByteArray := prog_12_method_32_code
def yX10_guard : MethodName := ⟨RX10, "guard", "(IIIII)I"⟩
abbrev cX10_last : ByteArray := prog_12_method_33_code
def yX10_last : MethodName := ⟨RX10, "last", "(II)I"⟩
abbrev cX10_enter : ByteArray := prog_12_method_34_code
def yX10_enter : MethodName := ⟨RX10, "enter", "(I)V"⟩
abbrev cX10_isPlace : ByteArray := prog_12_method_35_code
def yX10_isPlace : MethodName := ⟨RX10, "isPlace", "(II)Z"⟩
abbrev cX10_mayBeginLast : ByteArray := prog_12_method_36_code
def yX10_mayBeginLast : MethodName := ⟨RX10, "mayBeginLast", "()Z"⟩
abbrev cX10_beginLast : ByteArray := prog_12_method_37_code
def yX10_beginLast : MethodName := ⟨RX10, "beginLast", "(IJII)V"⟩
abbrev cX10_isTaken : ByteArray := prog_12_method_38_code
def yX10_isTaken : MethodName := ⟨RX10, "isTaken", "()Z"⟩
abbrev cX10_goesUp : ByteArray := prog_12_method_39_code
def yX10_goesUp : MethodName := ⟨RX10, "goesUp", "()V"⟩
abbrev cX10_comes : ByteArray := prog_12_method_40_code
def yX10_comes : MethodName := ⟨RX10, "comes", "(IJ)V"⟩
abbrev cX10_goesTo : ByteArray := prog_12_method_41_code
def yX10_goesTo : MethodName := ⟨RX10, "goesTo", "(I)V"⟩
abbrev cX10_lays : ByteArray := prog_12_method_42_code
def yX10_lays : MethodName := ⟨RX10, "lays", "(J)V"⟩
abbrev cX10_goesOn : ByteArray := prog_12_method_43_code
def yX10_goesOn : MethodName := ⟨RX10, "goesOn", "()V"⟩
abbrev cX10_endsWith : ByteArray := prog_12_method_44_code
def yX10_endsWith : MethodName := ⟨RX10, "endsWith", "(J)V"⟩
abbrev cX10_takes : ByteArray := prog_12_method_45_code
def yX10_takes : MethodName := ⟨RX10, "takes", "(III)I"⟩
abbrev cX10_step : ByteArray := prog_12_method_46_code
def yX10_step : MethodName := ⟨RX10, "step", "()V"⟩
abbrev cX10_plain : ByteArray := prog_12_method_47_code
def yX10_plain : MethodName := ⟨RX10, "plain", "(IIJJ)V"⟩
abbrev cX10_memory : ByteArray := prog_12_method_48_code
def yX10_memory : MethodName := ⟨RX10, "memory", "(IIIJJ)V"⟩
abbrev cX10_asked : ByteArray := prog_12_method_49_code
def yX10_asked : MethodName := ⟨RX10, "asked", "(III)J"⟩
abbrev cX10_isPut : ByteArray := prog_12_method_50_code
def yX10_isPut : MethodName := ⟨RX10, "isPut", "(IIIJ)V"⟩
abbrev cX10_ways : ByteArray := prog_12_method_51_code
def yX10_ways : MethodName := ⟨RX10, "ways", "(IIIJ)V"⟩
abbrev cX10_leave : ByteArray := prog_12_method_52_code
def yX10_leave : MethodName := ⟨RX10, "leave", "()V"⟩
abbrev cX10_world : ByteArray := prog_12_method_53_code
def yX10_world : MethodName := ⟨RX10, "world", "(IIJJJ)V"⟩
abbrev cX10_stand : ByteArray := prog_12_method_54_code
def yX10_stand : MethodName := ⟨RX10, "stand", "(JJJ)V"⟩
abbrev cX10_keep : ByteArray := prog_12_method_55_code
def yX10_keep : MethodName := ⟨RX10, "keep", "()V"⟩
abbrev cX10_bringBack : ByteArray := prog_12_method_56_code
def yX10_bringBack : MethodName := ⟨RX10, "bringBack", "()V"⟩
abbrev cX10_run : ByteArray := prog_12_method_57_code
def yX10_run : MethodName := ⟨RX10, "run", "(IJJ)I"⟩
abbrev cX10_result : ByteArray := prog_12_method_58_code
def yX10_result : MethodName := ⟨RX10, "result", "()J"⟩
abbrev cX10_told : ByteArray := prog_12_method_59_code
def yX10_told : MethodName := ⟨RX10, "told", "(I)I"⟩
abbrev cX10_number : ByteArray := prog_12_method_60_code
def yX10_number : MethodName := ⟨RX10, "number", "()J"⟩
abbrev cX10_output : ByteArray := prog_12_method_61_code
def yX10_output : MethodName := ⟨RX10, "output", "(I)J"⟩
abbrev cX10_count : ByteArray := prog_12_method_62_code
def yX10_count : MethodName := ⟨RX10, "count", "(II)I"⟩
abbrev cX10_forget : ByteArray := prog_12_method_63_code
def yX10_forget : MethodName := ⟨RX10, "forget", "()I"⟩
def RJ9 : String := "java/lang/Math"
def TJ9 : u_T := fun k => match k with
  | _ => ("", "", "", false)
def tyJ9 : Nat → FieldType := fun k => match k with
  | _ => .int
theorem nmJ9 : ∀ a, a < 0 → ∀ b, b < 0 → a ≠ b → (TJ9 a).2.1 ≠ (TJ9 b).2.1 := by decide +kernel
theorem tyJ9_ok : ∀ k, k < 0 → parseFieldDescriptor (TJ9 k).2.2.1 = some (tyJ9 k) := by decide +kernel
abbrev cJ9_max_7cf53 : ByteArray := prog_13_method_65_code
def yJ9_max_7cf53 : MethodName := ⟨RJ9, "max", "(II)I"⟩
def RJ10 : String := "java/lang/System"
def TJ10 : u_T := fun k => match k with
  | _ => ("", "", "", false)
def tyJ10 : Nat → FieldType := fun k => match k with
  | _ => .int
theorem nmJ10 : ∀ a, a < 0 → ∀ b, b < 0 → a ≠ b → (TJ10 a).2.1 ≠ (TJ10 b).2.1 := by decide +kernel
theorem tyJ10_ok : ∀ k, k < 0 → parseFieldDescriptor (TJ10 k).2.2.1 = some (tyJ10 k) := by decide +kernel
def RJ7 : String := "java/util/Arrays"
def TJ7 : u_T := fun k => match k with
  | _ => ("", "", "", false)
def tyJ7 : Nat → FieldType := fun k => match k with
  | _ => .int
theorem nmJ7 : ∀ a, a < 0 → ∀ b, b < 0 → a ≠ b → (TJ7 a).2.1 ≠ (TJ7 b).2.1 := by decide +kernel
theorem tyJ7_ok : ∀ k, k < 0 → parseFieldDescriptor (TJ7 k).2.2.1 = some (tyJ7 k) := by decide +kernel
abbrev cJ7_fill_d0a16 : ByteArray := prog_15_method_101_code
def yJ7_fill_d0a16 : MethodName := ⟨RJ7, "fill", "([JJ)V"⟩
abbrev cJ7_fill_53178 : ByteArray := prog_15_method_103_code
def yJ7_fill_53178 : MethodName := ⟨RJ7, "fill", "([II)V"⟩
def RL : String := "StoryClassesLaw"
abbrev cL_law : ByteArray := code
def yL_law : MethodName := ⟨RL, "law", "([I)Z"⟩
abbrev vwCl : List vw_C := [(RX0, TX0, 4), (RX1, TX1, 11), (RX2, TX2, 3), (RX4, TX4, 19), (RX5, TX5, 5), (RX7, TX7, 11), (RX8, TX8, 7), (RX9, TX9, 1), (RX10, TX10, 63)]
