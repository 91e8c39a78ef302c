section
-- ===== PART A: goes FIRST, ahead of the names: the tables' words, and 'selects' of the private methods out of them =====
/-- a private method of a class that the tables say can be made, by its rows of tables_1 -/
def lw_okq (q : MethodName × Nat) : Prop := (q.1.cls ≠ "java/lang/invoke/MethodHandle" ∧ q.1.cls ≠ "java/lang/invoke/VarHandle") ∧ Cond.instantiable q.1.cls q.2 ∈ tables_1 ∧ Cond.privateMethod q.1 ∈ tables_1 ∧ Cond.instanceMethod q.1 ∈ tables_1
theorem lw_p0 : lw_okq (⟨"FrameTyper$TableReader", "next", "()I"⟩, 9) := ⟨⟨by decide +kernel, by decide +kernel⟩, List.mem_of_getElem? (i := 128) (by decide +kernel), List.mem_of_getElem? (i := 413) (by decide +kernel), List.mem_of_getElem? (i := 414) (by decide +kernel)⟩
theorem lw_p1 : lw_okq (⟨"FrameTyper$TableReader", "readFrame", "(I)I"⟩, 9) := ⟨⟨by decide +kernel, by decide +kernel⟩, List.mem_of_getElem? (i := 128) (by decide +kernel), List.mem_of_getElem? (i := 418) (by decide +kernel), List.mem_of_getElem? (i := 419) (by decide +kernel)⟩
theorem lw_p2 : lw_okq (⟨"FrameTyper$TableReader", "readStack", "(I)V"⟩, 9) := ⟨⟨by decide +kernel, by decide +kernel⟩, List.mem_of_getElem? (i := 128) (by decide +kernel), List.mem_of_getElem? (i := 422) (by decide +kernel), List.mem_of_getElem? (i := 423) (by decide +kernel)⟩
theorem lw_p3 : lw_okq (⟨"FrameTyper$TableReader", "readType", "()I"⟩, 9) := ⟨⟨by decide +kernel, by decide +kernel⟩, List.mem_of_getElem? (i := 128) (by decide +kernel), List.mem_of_getElem? (i := 426) (by decide +kernel), List.mem_of_getElem? (i := 427) (by decide +kernel)⟩
theorem lw_p4 : lw_okq (⟨"FrameTyper$TableReader", "keepLocals", "(I)V"⟩, 9) := ⟨⟨by decide +kernel, by decide +kernel⟩, List.mem_of_getElem? (i := 128) (by decide +kernel), List.mem_of_getElem? (i := 434) (by decide +kernel), List.mem_of_getElem? (i := 435) (by decide +kernel)⟩
theorem lw_p5 : lw_okq (⟨"FrameTyper$TableReader", "addLocals", "(I)V"⟩, 9) := ⟨⟨by decide +kernel, by decide +kernel⟩, List.mem_of_getElem? (i := 128) (by decide +kernel), List.mem_of_getElem? (i := 438) (by decide +kernel), List.mem_of_getElem? (i := 439) (by decide +kernel)⟩
theorem lw_p6 : lw_okq (⟨"java/lang/Throwable", "fillInStackTrace", "(I)Ljava/lang/Throwable;"⟩, 6) := ⟨⟨by decide +kernel, by decide +kernel⟩, List.mem_of_getElem? (i := 484) (by decide +kernel), List.mem_of_getElem? (i := 482) (by decide +kernel), List.mem_of_getElem? (i := 483) (by decide +kernel)⟩
theorem lw_p7 : lw_okq (⟨"FrameTyper$Code", "xBound", "(I)I"⟩, 2) := ⟨⟨by decide +kernel, by decide +kernel⟩, List.mem_of_getElem? (i := 91) (by decide +kernel), List.mem_of_getElem? (i := 569) (by decide +kernel), List.mem_of_getElem? (i := 570) (by decide +kernel)⟩
theorem lw_p8 : lw_okq (⟨"FrameTyper$Checker", "faultAt", "(IZ)I"⟩, 4) := ⟨⟨by decide +kernel, by decide +kernel⟩, List.mem_of_getElem? (i := 229) (by decide +kernel), List.mem_of_getElem? (i := 581) (by decide +kernel), List.mem_of_getElem? (i := 582) (by decide +kernel)⟩
theorem lw_p9 : lw_okq (⟨"FrameTyper$Checker", "enterFrame", "(IZ)I"⟩, 4) := ⟨⟨by decide +kernel, by decide +kernel⟩, List.mem_of_getElem? (i := 229) (by decide +kernel), List.mem_of_getElem? (i := 590) (by decide +kernel), List.mem_of_getElem? (i := 591) (by decide +kernel)⟩
theorem lw_p10 : lw_okq (⟨"FrameTyper$Checker", "areNewsRight", "(LFrameTyper$State;)Z"⟩, 4) := ⟨⟨by decide +kernel, by decide +kernel⟩, List.mem_of_getElem? (i := 229) (by decide +kernel), List.mem_of_getElem? (i := 610) (by decide +kernel), List.mem_of_getElem? (i := 611) (by decide +kernel)⟩
theorem lw_p11 : lw_okq (⟨"FrameTyper$Stepper", "listWanted", "(II)V"⟩, 5) := ⟨⟨by decide +kernel, by decide +kernel⟩, List.mem_of_getElem? (i := 203) (by decide +kernel), List.mem_of_getElem? (i := 637) (by decide +kernel), List.mem_of_getElem? (i := 638) (by decide +kernel)⟩
theorem lw_p12 : lw_okq (⟨"FrameTyper$Stepper", "want", "(I)V"⟩, 5) := ⟨⟨by decide +kernel, by decide +kernel⟩, List.mem_of_getElem? (i := 203) (by decide +kernel), List.mem_of_getElem? (i := 641) (by decide +kernel), List.mem_of_getElem? (i := 642) (by decide +kernel)⟩
theorem lw_p13 : lw_okq (⟨"FrameTyper$Stepper", "wantAll", "(LFrameTyper$Signature;)V"⟩, 5) := ⟨⟨by decide +kernel, by decide +kernel⟩, List.mem_of_getElem? (i := 203) (by decide +kernel), List.mem_of_getElem? (i := 645) (by decide +kernel), List.mem_of_getElem? (i := 646) (by decide +kernel)⟩
theorem lw_p14 : lw_okq (⟨"FrameTyper$Stepper", "wantGiven", "(LFrameTyper$Signature;)V"⟩, 5) := ⟨⟨by decide +kernel, by decide +kernel⟩, List.mem_of_getElem? (i := 203) (by decide +kernel), List.mem_of_getElem? (i := 649) (by decide +kernel), List.mem_of_getElem? (i := 650) (by decide +kernel)⟩
theorem lw_p15 : lw_okq (⟨"FrameTyper$Stepper", "wantedFit", "()Z"⟩, 5) := ⟨⟨by decide +kernel, by decide +kernel⟩, List.mem_of_getElem? (i := 203) (by decide +kernel), List.mem_of_getElem? (i := 653) (by decide +kernel), List.mem_of_getElem? (i := 654) (by decide +kernel)⟩
def lw_privs_1 : List (MethodName × Nat) := [(⟨"FrameTyper$TableReader", "next", "()I"⟩, 9), (⟨"FrameTyper$TableReader", "readFrame", "(I)I"⟩, 9), (⟨"FrameTyper$TableReader", "readStack", "(I)V"⟩, 9), (⟨"FrameTyper$TableReader", "readType", "()I"⟩, 9), (⟨"FrameTyper$TableReader", "keepLocals", "(I)V"⟩, 9), (⟨"FrameTyper$TableReader", "addLocals", "(I)V"⟩, 9), (⟨"java/lang/Throwable", "fillInStackTrace", "(I)Ljava/lang/Throwable;"⟩, 6), (⟨"FrameTyper$Code", "xBound", "(I)I"⟩, 2), (⟨"FrameTyper$Checker", "faultAt", "(IZ)I"⟩, 4), (⟨"FrameTyper$Checker", "enterFrame", "(IZ)I"⟩, 4), (⟨"FrameTyper$Checker", "areNewsRight", "(LFrameTyper$State;)Z"⟩, 4), (⟨"FrameTyper$Stepper", "listWanted", "(II)V"⟩, 5), (⟨"FrameTyper$Stepper", "want", "(I)V"⟩, 5), (⟨"FrameTyper$Stepper", "wantAll", "(LFrameTyper$Signature;)V"⟩, 5), (⟨"FrameTyper$Stepper", "wantGiven", "(LFrameTyper$Signature;)V"⟩, 5), (⟨"FrameTyper$Stepper", "wantedFit", "()Z"⟩, 5)]
theorem lw_r1 : ∀ q ∈ lw_privs_1, lw_okq q := List.forall_mem_cons.mpr ⟨lw_p0, List.forall_mem_cons.mpr ⟨lw_p1, List.forall_mem_cons.mpr ⟨lw_p2, List.forall_mem_cons.mpr ⟨lw_p3, List.forall_mem_cons.mpr ⟨lw_p4, List.forall_mem_cons.mpr ⟨lw_p5, List.forall_mem_cons.mpr ⟨lw_p6, List.forall_mem_cons.mpr ⟨lw_p7, List.forall_mem_cons.mpr ⟨lw_p8, List.forall_mem_cons.mpr ⟨lw_p9, List.forall_mem_cons.mpr ⟨lw_p10, List.forall_mem_cons.mpr ⟨lw_p11, List.forall_mem_cons.mpr ⟨lw_p12, List.forall_mem_cons.mpr ⟨lw_p13, List.forall_mem_cons.mpr ⟨lw_p14, List.forall_mem_cons.mpr ⟨lw_p15, fun _ h => absurd h List.not_mem_nil⟩⟩⟩⟩⟩⟩⟩⟩⟩⟩⟩⟩⟩⟩⟩⟩
theorem lw_p16 : lw_okq (⟨"FrameTyper$Stepper", "localFits", "(II)Z"⟩, 5) := ⟨⟨by decide +kernel, by decide +kernel⟩, List.mem_of_getElem? (i := 203) (by decide +kernel), List.mem_of_getElem? (i := 667) (by decide +kernel), List.mem_of_getElem? (i := 668) (by decide +kernel)⟩
theorem lw_p17 : lw_okq (⟨"FrameTyper$Stepper", "isNewStacked", "(II)Z"⟩, 5) := ⟨⟨by decide +kernel, by decide +kernel⟩, List.mem_of_getElem? (i := 203) (by decide +kernel), List.mem_of_getElem? (i := 671) (by decide +kernel), List.mem_of_getElem? (i := 672) (by decide +kernel)⟩
theorem lw_p18 : lw_okq (⟨"FrameTyper$Stepper", "givenCount", "(II)I"⟩, 5) := ⟨⟨by decide +kernel, by decide +kernel⟩, List.mem_of_getElem? (i := 203) (by decide +kernel), List.mem_of_getElem? (i := 679) (by decide +kernel), List.mem_of_getElem? (i := 680) (by decide +kernel)⟩
theorem lw_p19 : lw_okq (⟨"FrameTyper$Stepper", "changeLocals", "(II)V"⟩, 5) := ⟨⟨by decide +kernel, by decide +kernel⟩, List.mem_of_getElem? (i := 203) (by decide +kernel), List.mem_of_getElem? (i := 692) (by decide +kernel), List.mem_of_getElem? (i := 693) (by decide +kernel)⟩
theorem lw_p20 : lw_okq (⟨"FrameTyper$Stepper", "give", "(III)V"⟩, 5) := ⟨⟨by decide +kernel, by decide +kernel⟩, List.mem_of_getElem? (i := 203) (by decide +kernel), List.mem_of_getElem? (i := 700) (by decide +kernel), List.mem_of_getElem? (i := 701) (by decide +kernel)⟩
theorem lw_p21 : lw_okq (⟨"FrameTyper$Checker", "goingFault", "(I)I"⟩, 4) := ⟨⟨by decide +kernel, by decide +kernel⟩, List.mem_of_getElem? (i := 229) (by decide +kernel), List.mem_of_getElem? (i := 713) (by decide +kernel), List.mem_of_getElem? (i := 714) (by decide +kernel)⟩
theorem lw_p22 : lw_okq (⟨"FrameTyper$Checker", "strayFrame", "()I"⟩, 4) := ⟨⟨by decide +kernel, by decide +kernel⟩, List.mem_of_getElem? (i := 229) (by decide +kernel), List.mem_of_getElem? (i := 721) (by decide +kernel), List.mem_of_getElem? (i := 722) (by decide +kernel)⟩
theorem lw_p23 : lw_okq (⟨"FrameTyper$Maker", "comesTo", "(I)Z"⟩, 7) := ⟨⟨by decide +kernel, by decide +kernel⟩, List.mem_of_getElem? (i := 248) (by decide +kernel), List.mem_of_getElem? (i := 743) (by decide +kernel), List.mem_of_getElem? (i := 744) (by decide +kernel)⟩
theorem lw_p24 : lw_okq (⟨"FrameTyper$Maker", "lowestWaiting", "()I"⟩, 7) := ⟨⟨by decide +kernel, by decide +kernel⟩, List.mem_of_getElem? (i := 248) (by decide +kernel), List.mem_of_getElem? (i := 759) (by decide +kernel), List.mem_of_getElem? (i := 760) (by decide +kernel)⟩
theorem lw_p25 : lw_okq (⟨"FrameTyper$Maker", "work", "(I)I"⟩, 7) := ⟨⟨by decide +kernel, by decide +kernel⟩, List.mem_of_getElem? (i := 248) (by decide +kernel), List.mem_of_getElem? (i := 763) (by decide +kernel), List.mem_of_getElem? (i := 764) (by decide +kernel)⟩
theorem lw_p26 : lw_okq (⟨"FrameTyper$Maker", "firstUnreached", "()I"⟩, 7) := ⟨⟨by decide +kernel, by decide +kernel⟩, List.mem_of_getElem? (i := 248) (by decide +kernel), List.mem_of_getElem? (i := 775) (by decide +kernel), List.mem_of_getElem? (i := 776) (by decide +kernel)⟩
theorem lw_p27 : lw_okq (⟨"FrameTyper$Maker", "markFramed", "()I"⟩, 7) := ⟨⟨by decide +kernel, by decide +kernel⟩, List.mem_of_getElem? (i := 248) (by decide +kernel), List.mem_of_getElem? (i := 784) (by decide +kernel), List.mem_of_getElem? (i := 785) (by decide +kernel)⟩
theorem lw_p28 : lw_okq (⟨"FrameTyper$Maker", "markFrom", "(I)V"⟩, 7) := ⟨⟨by decide +kernel, by decide +kernel⟩, List.mem_of_getElem? (i := 248) (by decide +kernel), List.mem_of_getElem? (i := 788) (by decide +kernel), List.mem_of_getElem? (i := 789) (by decide +kernel)⟩
theorem lw_p29 : lw_okq (⟨"FrameTyper$TableWriter", "localCount", "(LFrameTyper$States;I)I"⟩, 4) := ⟨⟨by decide +kernel, by decide +kernel⟩, List.mem_of_getElem? (i := 254) (by decide +kernel), List.mem_of_getElem? (i := 803) (by decide +kernel), List.mem_of_getElem? (i := 804) (by decide +kernel)⟩
theorem lw_p30 : lw_okq (⟨"FrameTyper$TableWriter", "sharesLocals", "(LFrameTyper$States;II)Z"⟩, 4) := ⟨⟨by decide +kernel, by decide +kernel⟩, List.mem_of_getElem? (i := 254) (by decide +kernel), List.mem_of_getElem? (i := 812) (by decide +kernel), List.mem_of_getElem? (i := 813) (by decide +kernel)⟩
theorem lw_p31 : lw_okq (⟨"FrameTyper$TableWriter", "putType", "(I)V"⟩, 4) := ⟨⟨by decide +kernel, by decide +kernel⟩, List.mem_of_getElem? (i := 254) (by decide +kernel), List.mem_of_getElem? (i := 817) (by decide +kernel), List.mem_of_getElem? (i := 818) (by decide +kernel)⟩
def lw_privs_2 : List (MethodName × Nat) := [(⟨"FrameTyper$Stepper", "localFits", "(II)Z"⟩, 5), (⟨"FrameTyper$Stepper", "isNewStacked", "(II)Z"⟩, 5), (⟨"FrameTyper$Stepper", "givenCount", "(II)I"⟩, 5), (⟨"FrameTyper$Stepper", "changeLocals", "(II)V"⟩, 5), (⟨"FrameTyper$Stepper", "give", "(III)V"⟩, 5), (⟨"FrameTyper$Checker", "goingFault", "(I)I"⟩, 4), (⟨"FrameTyper$Checker", "strayFrame", "()I"⟩, 4), (⟨"FrameTyper$Maker", "comesTo", "(I)Z"⟩, 7), (⟨"FrameTyper$Maker", "lowestWaiting", "()I"⟩, 7), (⟨"FrameTyper$Maker", "work", "(I)I"⟩, 7), (⟨"FrameTyper$Maker", "firstUnreached", "()I"⟩, 7), (⟨"FrameTyper$Maker", "markFramed", "()I"⟩, 7), (⟨"FrameTyper$Maker", "markFrom", "(I)V"⟩, 7), (⟨"FrameTyper$TableWriter", "localCount", "(LFrameTyper$States;I)I"⟩, 4), (⟨"FrameTyper$TableWriter", "sharesLocals", "(LFrameTyper$States;II)Z"⟩, 4), (⟨"FrameTyper$TableWriter", "putType", "(I)V"⟩, 4)]
theorem lw_r2 : ∀ q ∈ lw_privs_2, lw_okq q := List.forall_mem_cons.mpr ⟨lw_p16, List.forall_mem_cons.mpr ⟨lw_p17, List.forall_mem_cons.mpr ⟨lw_p18, List.forall_mem_cons.mpr ⟨lw_p19, List.forall_mem_cons.mpr ⟨lw_p20, List.forall_mem_cons.mpr ⟨lw_p21, List.forall_mem_cons.mpr ⟨lw_p22, List.forall_mem_cons.mpr ⟨lw_p23, List.forall_mem_cons.mpr ⟨lw_p24, List.forall_mem_cons.mpr ⟨lw_p25, List.forall_mem_cons.mpr ⟨lw_p26, List.forall_mem_cons.mpr ⟨lw_p27, List.forall_mem_cons.mpr ⟨lw_p28, List.forall_mem_cons.mpr ⟨lw_p29, List.forall_mem_cons.mpr ⟨lw_p30, List.forall_mem_cons.mpr ⟨lw_p31, fun _ h => absurd h List.not_mem_nil⟩⟩⟩⟩⟩⟩⟩⟩⟩⟩⟩⟩⟩⟩⟩⟩
theorem lw_p32 : lw_okq (⟨"FrameTyper$TableWriter", "putLocals", "(LFrameTyper$States;III)V"⟩, 4) := ⟨⟨by decide +kernel, by decide +kernel⟩, List.mem_of_getElem? (i := 254) (by decide +kernel), List.mem_of_getElem? (i := 826) (by decide +kernel), List.mem_of_getElem? (i := 827) (by decide +kernel)⟩
theorem lw_p33 : lw_okq (⟨"FrameTyper$TableWriter", "putFull", "(LFrameTyper$States;III)V"⟩, 4) := ⟨⟨by decide +kernel, by decide +kernel⟩, List.mem_of_getElem? (i := 254) (by decide +kernel), List.mem_of_getElem? (i := 830) (by decide +kernel), List.mem_of_getElem? (i := 831) (by decide +kernel)⟩
theorem lw_p34 : lw_okq (⟨"FrameTyper$TableWriter", "remember", "(LFrameTyper$States;II)V"⟩, 4) := ⟨⟨by decide +kernel, by decide +kernel⟩, List.mem_of_getElem? (i := 254) (by decide +kernel), List.mem_of_getElem? (i := 834) (by decide +kernel), List.mem_of_getElem? (i := 835) (by decide +kernel)⟩
theorem lw_p35 : lw_okq (⟨"FrameTyperModel", "reads", "()Z"⟩, 32) := ⟨⟨by decide +kernel, by decide +kernel⟩, List.mem_of_getElem? (i := 860) (by decide +kernel), List.mem_of_getElem? (i := 1013) (by decide +kernel), List.mem_of_getElem? (i := 1014) (by decide +kernel)⟩
theorem lw_p36 : lw_okq (⟨"FrameTyperModel", "next", "()I"⟩, 32) := ⟨⟨by decide +kernel, by decide +kernel⟩, List.mem_of_getElem? (i := 860) (by decide +kernel), List.mem_of_getElem? (i := 1017) (by decide +kernel), List.mem_of_getElem? (i := 1018) (by decide +kernel)⟩
theorem lw_p37 : lw_okq (⟨"FrameTyperModel", "frameOf", "(I)V"⟩, 32) := ⟨⟨by decide +kernel, by decide +kernel⟩, List.mem_of_getElem? (i := 860) (by decide +kernel), List.mem_of_getElem? (i := 1021) (by decide +kernel), List.mem_of_getElem? (i := 1022) (by decide +kernel)⟩
theorem lw_p38 : lw_okq (⟨"FrameTyperModel", "stack", "(II)V"⟩, 32) := ⟨⟨by decide +kernel, by decide +kernel⟩, List.mem_of_getElem? (i := 860) (by decide +kernel), List.mem_of_getElem? (i := 1025) (by decide +kernel), List.mem_of_getElem? (i := 1026) (by decide +kernel)⟩
theorem lw_p39 : lw_okq (⟨"FrameTyperModel", "type", "()I"⟩, 32) := ⟨⟨by decide +kernel, by decide +kernel⟩, List.mem_of_getElem? (i := 860) (by decide +kernel), List.mem_of_getElem? (i := 1029) (by decide +kernel), List.mem_of_getElem? (i := 1030) (by decide +kernel)⟩
theorem lw_p40 : lw_okq (⟨"FrameTyperModel", "locals", "(III)V"⟩, 32) := ⟨⟨by decide +kernel, by decide +kernel⟩, List.mem_of_getElem? (i := 860) (by decide +kernel), List.mem_of_getElem? (i := 1033) (by decide +kernel), List.mem_of_getElem? (i := 1034) (by decide +kernel)⟩
theorem lw_p41 : lw_okq (⟨"FrameTyperModel", "findBegins", "()V"⟩, 32) := ⟨⟨by decide +kernel, by decide +kernel⟩, List.mem_of_getElem? (i := 860) (by decide +kernel), List.mem_of_getElem? (i := 1045) (by decide +kernel), List.mem_of_getElem? (i := 1046) (by decide +kernel)⟩
theorem lw_p42 : lw_okq (⟨"FrameTyperModel", "isWhole", "(I)Z"⟩, 32) := ⟨⟨by decide +kernel, by decide +kernel⟩, List.mem_of_getElem? (i := 860) (by decide +kernel), List.mem_of_getElem? (i := 1049) (by decide +kernel), List.mem_of_getElem? (i := 1050) (by decide +kernel)⟩
theorem lw_p43 : lw_okq (⟨"FrameTyperModel", "begin", "()V"⟩, 32) := ⟨⟨by decide +kernel, by decide +kernel⟩, List.mem_of_getElem? (i := 860) (by decide +kernel), List.mem_of_getElem? (i := 1056) (by decide +kernel), List.mem_of_getElem? (i := 1057) (by decide +kernel)⟩
theorem lw_p44 : lw_okq (⟨"FrameTyperModel", "look", "(IZ)V"⟩, 32) := ⟨⟨by decide +kernel, by decide +kernel⟩, List.mem_of_getElem? (i := 860) (by decide +kernel), List.mem_of_getElem? (i := 1060) (by decide +kernel), List.mem_of_getElem? (i := 1061) (by decide +kernel)⟩
theorem lw_p45 : lw_okq (⟨"FrameTyperModel", "frameAt", "(I)I"⟩, 32) := ⟨⟨by decide +kernel, by decide +kernel⟩, List.mem_of_getElem? (i := 860) (by decide +kernel), List.mem_of_getElem? (i := 1064) (by decide +kernel), List.mem_of_getElem? (i := 1065) (by decide +kernel)⟩
theorem lw_p46 : lw_okq (⟨"FrameTyperModel", "fitsFrame", "(I)Z"⟩, 32) := ⟨⟨by decide +kernel, by decide +kernel⟩, List.mem_of_getElem? (i := 860) (by decide +kernel), List.mem_of_getElem? (i := 1068) (by decide +kernel), List.mem_of_getElem? (i := 1069) (by decide +kernel)⟩
theorem lw_p47 : lw_okq (⟨"FrameTyperModel", "fits", "(II)Z"⟩, 32) := ⟨⟨by decide +kernel, by decide +kernel⟩, List.mem_of_getElem? (i := 860) (by decide +kernel), List.mem_of_getElem? (i := 1072) (by decide +kernel), List.mem_of_getElem? (i := 1073) (by decide +kernel)⟩
def lw_privs_3 : List (MethodName × Nat) := [(⟨"FrameTyper$TableWriter", "putLocals", "(LFrameTyper$States;III)V"⟩, 4), (⟨"FrameTyper$TableWriter", "putFull", "(LFrameTyper$States;III)V"⟩, 4), (⟨"FrameTyper$TableWriter", "remember", "(LFrameTyper$States;II)V"⟩, 4), (⟨"FrameTyperModel", "reads", "()Z"⟩, 32), (⟨"FrameTyperModel", "next", "()I"⟩, 32), (⟨"FrameTyperModel", "frameOf", "(I)V"⟩, 32), (⟨"FrameTyperModel", "stack", "(II)V"⟩, 32), (⟨"FrameTyperModel", "type", "()I"⟩, 32), (⟨"FrameTyperModel", "locals", "(III)V"⟩, 32), (⟨"FrameTyperModel", "findBegins", "()V"⟩, 32), (⟨"FrameTyperModel", "isWhole", "(I)Z"⟩, 32), (⟨"FrameTyperModel", "begin", "()V"⟩, 32), (⟨"FrameTyperModel", "look", "(IZ)V"⟩, 32), (⟨"FrameTyperModel", "frameAt", "(I)I"⟩, 32), (⟨"FrameTyperModel", "fitsFrame", "(I)Z"⟩, 32), (⟨"FrameTyperModel", "fits", "(II)Z"⟩, 32)]
theorem lw_r3 : ∀ q ∈ lw_privs_3, lw_okq q := List.forall_mem_cons.mpr ⟨lw_p32, List.forall_mem_cons.mpr ⟨lw_p33, List.forall_mem_cons.mpr ⟨lw_p34, List.forall_mem_cons.mpr ⟨lw_p35, List.forall_mem_cons.mpr ⟨lw_p36, List.forall_mem_cons.mpr ⟨lw_p37, List.forall_mem_cons.mpr ⟨lw_p38, List.forall_mem_cons.mpr ⟨lw_p39, List.forall_mem_cons.mpr ⟨lw_p40, List.forall_mem_cons.mpr ⟨lw_p41, List.forall_mem_cons.mpr ⟨lw_p42, List.forall_mem_cons.mpr ⟨lw_p43, List.forall_mem_cons.mpr ⟨lw_p44, List.forall_mem_cons.mpr ⟨lw_p45, List.forall_mem_cons.mpr ⟨lw_p46, List.forall_mem_cons.mpr ⟨lw_p47, fun _ h => absurd h List.not_mem_nil⟩⟩⟩⟩⟩⟩⟩⟩⟩⟩⟩⟩⟩⟩⟩⟩
theorem lw_p48 : lw_okq (⟨"FrameTyperModel", "isBelow", "(II)Z"⟩, 32) := ⟨⟨by decide +kernel, by decide +kernel⟩, List.mem_of_getElem? (i := 860) (by decide +kernel), List.mem_of_getElem? (i := 1076) (by decide +kernel), List.mem_of_getElem? (i := 1077) (by decide +kernel)⟩
theorem lw_p49 : lw_okq (⟨"FrameTyperModel", "isFrameGood", "(I)Z"⟩, 32) := ⟨⟨by decide +kernel, by decide +kernel⟩, List.mem_of_getElem? (i := 860) (by decide +kernel), List.mem_of_getElem? (i := 1080) (by decide +kernel), List.mem_of_getElem? (i := 1081) (by decide +kernel)⟩
theorem lw_p50 : lw_okq (⟨"FrameTyperModel", "makes", "(I)Z"⟩, 32) := ⟨⟨by decide +kernel, by decide +kernel⟩, List.mem_of_getElem? (i := 860) (by decide +kernel), List.mem_of_getElem? (i := 1087) (by decide +kernel), List.mem_of_getElem? (i := 1088) (by decide +kernel)⟩
theorem lw_p51 : lw_okq (⟨"FrameTyperModel", "step", "(I)V"⟩, 32) := ⟨⟨by decide +kernel, by decide +kernel⟩, List.mem_of_getElem? (i := 860) (by decide +kernel), List.mem_of_getElem? (i := 1091) (by decide +kernel), List.mem_of_getElem? (i := 1092) (by decide +kernel)⟩
theorem lw_p52 : lw_okq (⟨"FrameTyperModel", "takenBy", "(II)I"⟩, 32) := ⟨⟨by decide +kernel, by decide +kernel⟩, List.mem_of_getElem? (i := 860) (by decide +kernel), List.mem_of_getElem? (i := 1098) (by decide +kernel), List.mem_of_getElem? (i := 1099) (by decide +kernel)⟩
theorem lw_p53 : lw_okq (⟨"FrameTyperModel", "doTypesFit", "(III)Z"⟩, 32) := ⟨⟨by decide +kernel, by decide +kernel⟩, List.mem_of_getElem? (i := 860) (by decide +kernel), List.mem_of_getElem? (i := 1102) (by decide +kernel), List.mem_of_getElem? (i := 1103) (by decide +kernel)⟩
theorem lw_p54 : lw_okq (⟨"FrameTyperModel", "topmost", "(I)I"⟩, 32) := ⟨⟨by decide +kernel, by decide +kernel⟩, List.mem_of_getElem? (i := 860) (by decide +kernel), List.mem_of_getElem? (i := 1109) (by decide +kernel), List.mem_of_getElem? (i := 1110) (by decide +kernel)⟩
theorem lw_p55 : lw_okq (⟨"FrameTyperModel", "standsOnStack", "(I)Z"⟩, 32) := ⟨⟨by decide +kernel, by decide +kernel⟩, List.mem_of_getElem? (i := 860) (by decide +kernel), List.mem_of_getElem? (i := 1113) (by decide +kernel), List.mem_of_getElem? (i := 1114) (by decide +kernel)⟩
theorem lw_p56 : lw_okq (⟨"FrameTyperModel", "doesRoutineFit", "(I)Z"⟩, 32) := ⟨⟨by decide +kernel, by decide +kernel⟩, List.mem_of_getElem? (i := 860) (by decide +kernel), List.mem_of_getElem? (i := 1117) (by decide +kernel), List.mem_of_getElem? (i := 1118) (by decide +kernel)⟩
theorem lw_p57 : lw_okq (⟨"FrameTyperModel", "givenBy", "(II)I"⟩, 32) := ⟨⟨by decide +kernel, by decide +kernel⟩, List.mem_of_getElem? (i := 860) (by decide +kernel), List.mem_of_getElem? (i := 1121) (by decide +kernel), List.mem_of_getElem? (i := 1122) (by decide +kernel)⟩
theorem lw_p58 : lw_okq (⟨"FrameTyperModel", "work", "(III)V"⟩, 32) := ⟨⟨by decide +kernel, by decide +kernel⟩, List.mem_of_getElem? (i := 860) (by decide +kernel), List.mem_of_getElem? (i := 1125) (by decide +kernel), List.mem_of_getElem? (i := 1126) (by decide +kernel)⟩
theorem lw_p59 : lw_okq (⟨"FrameTyperModel", "give", "(I)V"⟩, 32) := ⟨⟨by decide +kernel, by decide +kernel⟩, List.mem_of_getElem? (i := 860) (by decide +kernel), List.mem_of_getElem? (i := 1129) (by decide +kernel), List.mem_of_getElem? (i := 1130) (by decide +kernel)⟩
theorem lw_p60 : lw_okq (⟨"FrameTyperModel", "become", "(II)V"⟩, 32) := ⟨⟨by decide +kernel, by decide +kernel⟩, List.mem_of_getElem? (i := 860) (by decide +kernel), List.mem_of_getElem? (i := 1133) (by decide +kernel), List.mem_of_getElem? (i := 1134) (by decide +kernel)⟩
theorem lw_p61 : lw_okq (⟨"FrameTyperModel", "findStates", "()I"⟩, 32) := ⟨⟨by decide +kernel, by decide +kernel⟩, List.mem_of_getElem? (i := 860) (by decide +kernel), List.mem_of_getElem? (i := 1141) (by decide +kernel), List.mem_of_getElem? (i := 1142) (by decide +kernel)⟩
theorem lw_p62 : lw_okq (⟨"FrameTyperModel", "comes", "(I)Z"⟩, 32) := ⟨⟨by decide +kernel, by decide +kernel⟩, List.mem_of_getElem? (i := 860) (by decide +kernel), List.mem_of_getElem? (i := 1145) (by decide +kernel), List.mem_of_getElem? (i := 1146) (by decide +kernel)⟩
theorem lw_p63 : lw_okq (⟨"FrameTyperModel", "meet", "(II)I"⟩, 32) := ⟨⟨by decide +kernel, by decide +kernel⟩, List.mem_of_getElem? (i := 860) (by decide +kernel), List.mem_of_getElem? (i := 1149) (by decide +kernel), List.mem_of_getElem? (i := 1150) (by decide +kernel)⟩
def lw_privs_4 : List (MethodName × Nat) := [(⟨"FrameTyperModel", "isBelow", "(II)Z"⟩, 32), (⟨"FrameTyperModel", "isFrameGood", "(I)Z"⟩, 32), (⟨"FrameTyperModel", "makes", "(I)Z"⟩, 32), (⟨"FrameTyperModel", "step", "(I)V"⟩, 32), (⟨"FrameTyperModel", "takenBy", "(II)I"⟩, 32), (⟨"FrameTyperModel", "doTypesFit", "(III)Z"⟩, 32), (⟨"FrameTyperModel", "topmost", "(I)I"⟩, 32), (⟨"FrameTyperModel", "standsOnStack", "(I)Z"⟩, 32), (⟨"FrameTyperModel", "doesRoutineFit", "(I)Z"⟩, 32), (⟨"FrameTyperModel", "givenBy", "(II)I"⟩, 32), (⟨"FrameTyperModel", "work", "(III)V"⟩, 32), (⟨"FrameTyperModel", "give", "(I)V"⟩, 32), (⟨"FrameTyperModel", "become", "(II)V"⟩, 32), (⟨"FrameTyperModel", "findStates", "()I"⟩, 32), (⟨"FrameTyperModel", "comes", "(I)Z"⟩, 32), (⟨"FrameTyperModel", "meet", "(II)I"⟩, 32)]
theorem lw_r4 : ∀ q ∈ lw_privs_4, lw_okq q := List.forall_mem_cons.mpr ⟨lw_p48, List.forall_mem_cons.mpr ⟨lw_p49, List.forall_mem_cons.mpr ⟨lw_p50, List.forall_mem_cons.mpr ⟨lw_p51, List.forall_mem_cons.mpr ⟨lw_p52, List.forall_mem_cons.mpr ⟨lw_p53, List.forall_mem_cons.mpr ⟨lw_p54, List.forall_mem_cons.mpr ⟨lw_p55, List.forall_mem_cons.mpr ⟨lw_p56, List.forall_mem_cons.mpr ⟨lw_p57, List.forall_mem_cons.mpr ⟨lw_p58, List.forall_mem_cons.mpr ⟨lw_p59, List.forall_mem_cons.mpr ⟨lw_p60, List.forall_mem_cons.mpr ⟨lw_p61, List.forall_mem_cons.mpr ⟨lw_p62, List.forall_mem_cons.mpr ⟨lw_p63, fun _ h => absurd h List.not_mem_nil⟩⟩⟩⟩⟩⟩⟩⟩⟩⟩⟩⟩⟩⟩⟩⟩
theorem lw_p64 : lw_okq (⟨"FrameTyperModel", "lowest", "()I"⟩, 32) := ⟨⟨by decide +kernel, by decide +kernel⟩, List.mem_of_getElem? (i := 860) (by decide +kernel), List.mem_of_getElem? (i := 1153) (by decide +kernel), List.mem_of_getElem? (i := 1154) (by decide +kernel)⟩
theorem lw_p65 : lw_okq (⟨"FrameTyperModel", "workOn", "(I)I"⟩, 32) := ⟨⟨by decide +kernel, by decide +kernel⟩, List.mem_of_getElem? (i := 860) (by decide +kernel), List.mem_of_getElem? (i := 1157) (by decide +kernel), List.mem_of_getElem? (i := 1158) (by decide +kernel)⟩
theorem lw_p66 : lw_okq (⟨"FrameTyperModel", "packFrame", "(III)V"⟩, 32) := ⟨⟨by decide +kernel, by decide +kernel⟩, List.mem_of_getElem? (i := 860) (by decide +kernel), List.mem_of_getElem? (i := 1161) (by decide +kernel), List.mem_of_getElem? (i := 1162) (by decide +kernel)⟩
theorem lw_p67 : lw_okq (⟨"FrameTyperModel", "manyAt", "(I)I"⟩, 32) := ⟨⟨by decide +kernel, by decide +kernel⟩, List.mem_of_getElem? (i := 860) (by decide +kernel), List.mem_of_getElem? (i := 1165) (by decide +kernel), List.mem_of_getElem? (i := 1166) (by decide +kernel)⟩
theorem lw_p68 : lw_okq (⟨"FrameTyperModel", "pack", "(I)V"⟩, 32) := ⟨⟨by decide +kernel, by decide +kernel⟩, List.mem_of_getElem? (i := 860) (by decide +kernel), List.mem_of_getElem? (i := 1169) (by decide +kernel), List.mem_of_getElem? (i := 1170) (by decide +kernel)⟩
theorem lw_p69 : lw_okq (⟨"FrameTyperModel", "packType", "(I)V"⟩, 32) := ⟨⟨by decide +kernel, by decide +kernel⟩, List.mem_of_getElem? (i := 860) (by decide +kernel), List.mem_of_getElem? (i := 1173) (by decide +kernel), List.mem_of_getElem? (i := 1174) (by decide +kernel)⟩
def lw_privs_5 : List (MethodName × Nat) := [(⟨"FrameTyperModel", "lowest", "()I"⟩, 32), (⟨"FrameTyperModel", "workOn", "(I)I"⟩, 32), (⟨"FrameTyperModel", "packFrame", "(III)V"⟩, 32), (⟨"FrameTyperModel", "manyAt", "(I)I"⟩, 32), (⟨"FrameTyperModel", "pack", "(I)V"⟩, 32), (⟨"FrameTyperModel", "packType", "(I)V"⟩, 32)]
theorem lw_r5 : ∀ q ∈ lw_privs_5, lw_okq q := List.forall_mem_cons.mpr ⟨lw_p64, List.forall_mem_cons.mpr ⟨lw_p65, List.forall_mem_cons.mpr ⟨lw_p66, List.forall_mem_cons.mpr ⟨lw_p67, List.forall_mem_cons.mpr ⟨lw_p68, List.forall_mem_cons.mpr ⟨lw_p69, fun _ h => absurd h List.not_mem_nil⟩⟩⟩⟩⟩⟩
def lw_privs : List (MethodName × Nat) := lw_privs_1 ++ (lw_privs_2 ++ (lw_privs_3 ++ (lw_privs_4 ++ (lw_privs_5))))
def lw_tbl : List Cond := k2_sels lw_privs ++ tables_1
theorem lw_privs_ok : ∀ q ∈ lw_privs, lw_okq q := by
  show ∀ q ∈ lw_privs_1 ++ (lw_privs_2 ++ (lw_privs_3 ++ (lw_privs_4 ++ (lw_privs_5)))), lw_okq q
  exact List.forall_mem_append.mpr ⟨lw_r1, List.forall_mem_append.mpr ⟨lw_r2, List.forall_mem_append.mpr ⟨lw_r3, List.forall_mem_append.mpr ⟨lw_r4, lw_r5⟩⟩⟩⟩
end
section
def RX0 : String := "FrameTyper$Bytes"
def RX1 : String := "FrameTyper$Checker"
def RX2 : String := "FrameTyper$Code"
def RX3 : String := "FrameTyper$Maker"
def RX4 : String := "FrameTyper$Signature"
def RX5 : String := "FrameTyper$State"
def RX6 : String := "FrameTyper$States"
def RX7 : String := "FrameTyper$Stepper"
def RX8 : String := "FrameTyper$TableReader"
def RX9 : String := "FrameTyper$TableWriter"
def RX10 : String := "FrameTyper$World"
def RX11 : String := "FrameTyper"
def RX12 : String := "FrameTyperModel"
def RJ9 : String := "java/lang/Math"
def RJ0 : String := "java/lang/String"
def RJ10 : String := "java/lang/System"
def RJ7 : String := "java/util/Arrays"
def RL : String := "FrameTyperLaw"
def TX0 : u_T := fun k => match k with
  | 0 => ("FrameTyper$Bytes", "row", "[I", true)
  | _ => ("FrameTyper$Bytes", "size", "I", false)
def tyX0 : Nat → FieldType := fun k => match k with
  | 0 => .array .int
  | _ => .int
theorem nmX0 : ∀ a, a < 2 → ∀ b, b < 2 → a ≠ b → (TX0 a).2.1 ≠ (TX0 b).2.1 := by decide +kernel
theorem tyX0_ok : ∀ k, k < 2 → parseFieldDescriptor (TX0 k).2.2.1 = some (tyX0 k) := by decide +kernel
abbrev cX0_init : ByteArray := prog_2_method_1_code
def yX0_init : MethodName := ⟨RX0, "<init>", "(I)V"⟩
abbrev cX0_empty : ByteArray := prog_2_method_2_code
def yX0_empty : MethodName := ⟨RX0, "empty", "()V"⟩
abbrev cX0_get : ByteArray := prog_2_method_3_code
def yX0_get : MethodName := ⟨RX0, "get", "(I)I"⟩
abbrev cX0_append : ByteArray := prog_2_method_4_code
def yX0_append : MethodName := ⟨RX0, "append", "(JI)I"⟩
abbrev cX0_put : ByteArray := prog_2_method_5_code
def yX0_put : MethodName := ⟨RX0, "put", "(I)V"⟩
abbrev cX0_become : ByteArray := prog_2_method_6_code
def yX0_become : MethodName := ⟨RX0, "become", "(LFrameTyper$Bytes;)V"⟩
def TX1 : u_T := fun k => match k with
  | 0 => ("FrameTyper$Checker", "world", "LFrameTyper$World;", true)
  | 1 => ("FrameTyper$Checker", "code", "LFrameTyper$Code;", true)
  | 2 => ("FrameTyper$Checker", "stepper", "LFrameTyper$Stepper;", true)
  | _ => ("FrameTyper$Checker", "frames", "LFrameTyper$States;", true)
def tyX1 : Nat → FieldType := fun k => match k with
  | 0 => .object "FrameTyper$World"
  | 1 => .object "FrameTyper$Code"
  | 2 => .object "FrameTyper$Stepper"
  | _ => .object "FrameTyper$States"
theorem nmX1 : ∀ a, a < 4 → ∀ b, b < 4 → a ≠ b → (TX1 a).2.1 ≠ (TX1 b).2.1 := by decide +kernel
theorem tyX1_ok : ∀ k, k < 4 → parseFieldDescriptor (TX1 k).2.2.1 = some (tyX1 k) := by decide +kernel
abbrev cX1_init : ByteArray := prog_3_method_1_code
def yX1_init : MethodName := ⟨RX1, "<init>", "(LFrameTyper$World;LFrameTyper$Code;LFrameTyper$Stepper;LFrameTyper$States;)V"⟩
abbrev cX1_firstFault : ByteArray := prog_3_method_2_code
def yX1_firstFault : MethodName := ⟨RX1, "firstFault", "()I"⟩
abbrev cX1_faultAt : ByteArray := prog_3_method_3_code
def yX1_faultAt : MethodName := ⟨RX1, "faultAt", "(IZ)I"⟩
abbrev cX1_enterFrame : ByteArray := prog_3_method_4_code
def yX1_enterFrame : MethodName := ⟨RX1, "enterFrame", "(IZ)I"⟩
abbrev cX1_areNewsRight : ByteArray := prog_3_method_5_code
def yX1_areNewsRight : MethodName := ⟨RX1, "areNewsRight", "(LFrameTyper$State;)Z"⟩
abbrev cX1_goingFault : ByteArray := prog_3_method_6_code
def yX1_goingFault : MethodName := ⟨RX1, "goingFault", "(I)I"⟩
abbrev cX1_strayFrame : ByteArray := prog_3_method_7_code
def yX1_strayFrame : MethodName := ⟨RX1, "strayFrame", "()I"⟩
def TX2 : u_T := fun k => match k with
  | 0 => ("FrameTyper$Code", "bytes", "LFrameTyper$Bytes;", true)
  | _ => ("FrameTyper$Code", "begins", "[Z", true)
def tyX2 : Nat → FieldType := fun k => match k with
  | 0 => .object "FrameTyper$Bytes"
  | _ => .array .boolean
theorem nmX2 : ∀ a, a < 2 → ∀ b, b < 2 → a ≠ b → (TX2 a).2.1 ≠ (TX2 b).2.1 := by decide +kernel
theorem tyX2_ok : ∀ k, k < 2 → parseFieldDescriptor (TX2 k).2.2.1 = some (tyX2 k) := by decide +kernel
abbrev cX2_init : ByteArray := prog_4_method_1_code
def yX2_init : MethodName := ⟨RX2, "<init>", "()V"⟩
abbrev cX2_size : ByteArray := prog_4_method_2_code
def yX2_size : MethodName := ⟨RX2, "size", "()I"⟩
abbrev cX2_number : ByteArray := prog_4_method_3_code
def yX2_number : MethodName := ⟨RX2, "number", "(I)I"⟩
abbrev cX2_x : ByteArray := prog_4_method_4_code
def yX2_x : MethodName := ⟨RX2, "x", "(I)I"⟩
abbrev cX2_xBound : ByteArray := prog_4_method_5_code
def yX2_xBound : MethodName := ⟨RX2, "xBound", "(I)I"⟩
abbrev cX2_behind : ByteArray := prog_4_method_6_code
def yX2_behind : MethodName := ⟨RX2, "behind", "(I)I"⟩
abbrev cX2_isWhole : ByteArray := prog_4_method_7_code
def yX2_isWhole : MethodName := ⟨RX2, "isWhole", "(I)Z"⟩
abbrev cX2_isXRight : ByteArray := prog_4_method_8_code
def yX2_isXRight : MethodName := ⟨RX2, "isXRight", "(I)Z"⟩
abbrev cX2_findBegins : ByteArray := prog_4_method_9_code
def yX2_findBegins : MethodName := ⟨RX2, "findBegins", "()V"⟩
abbrev cX2_begins : ByteArray := prog_4_method_10_code
def yX2_begins : MethodName := ⟨RX2, "begins", "(I)Z"⟩
abbrev cX2_isNewOfClass : ByteArray := prog_4_method_11_code
def yX2_isNewOfClass : MethodName := ⟨RX2, "isNewOfClass", "(I)Z"⟩
abbrev cX2_goes : ByteArray := prog_4_method_12_code
def yX2_goes : MethodName := ⟨RX2, "goes", "(I)Z"⟩
abbrev cX2_goesOn : ByteArray := prog_4_method_13_code
def yX2_goesOn : MethodName := ⟨RX2, "goesOn", "(I)Z"⟩
abbrev cX2_target : ByteArray := prog_4_method_14_code
def yX2_target : MethodName := ⟨RX2, "target", "(I)I"⟩
def TX3 : u_T := fun k => match k with
  | 0 => ("FrameTyper$Maker", "world", "LFrameTyper$World;", true)
  | 1 => ("FrameTyper$Maker", "code", "LFrameTyper$Code;", true)
  | 2 => ("FrameTyper$Maker", "stepper", "LFrameTyper$Stepper;", true)
  | 3 => ("FrameTyper$Maker", "states", "LFrameTyper$States;", true)
  | 4 => ("FrameTyper$Maker", "writer", "LFrameTyper$TableWriter;", true)
  | 5 => ("FrameTyper$Maker", "waiting", "[Z", true)
  | _ => ("FrameTyper$Maker", "framed", "[Z", true)
def tyX3 : Nat → FieldType := fun k => match k with
  | 0 => .object "FrameTyper$World"
  | 1 => .object "FrameTyper$Code"
  | 2 => .object "FrameTyper$Stepper"
  | 3 => .object "FrameTyper$States"
  | 4 => .object "FrameTyper$TableWriter"
  | 5 => .array .boolean
  | _ => .array .boolean
theorem nmX3 : ∀ a, a < 7 → ∀ b, b < 7 → a ≠ b → (TX3 a).2.1 ≠ (TX3 b).2.1 := by decide +kernel
theorem tyX3_ok : ∀ k, k < 7 → parseFieldDescriptor (TX3 k).2.2.1 = some (tyX3 k) := by decide +kernel
abbrev cX3_init : ByteArray := prog_5_method_1_code
def yX3_init : MethodName := ⟨RX3, "<init>", "(LFrameTyper$World;LFrameTyper$Code;LFrameTyper$Stepper;)V"⟩
abbrev cX3_firstFault : ByteArray := prog_5_method_2_code
def yX3_firstFault : MethodName := ⟨RX3, "firstFault", "()I"⟩
abbrev cX3_unmark : ByteArray := prog_5_method_3_code
def yX3_unmark : MethodName := ⟨RX3, "unmark", "([Z)V"⟩
abbrev cX3_pack : ByteArray := prog_5_method_4_code
def yX3_pack : MethodName := ⟨RX3, "pack", "()LFrameTyper$Bytes;"⟩
abbrev cX3_lowestWaiting : ByteArray := prog_5_method_5_code
def yX3_lowestWaiting : MethodName := ⟨RX3, "lowestWaiting", "()I"⟩
abbrev cX3_work : ByteArray := prog_5_method_6_code
def yX3_work : MethodName := ⟨RX3, "work", "(I)I"⟩
abbrev cX3_comesTo : ByteArray := prog_5_method_7_code
def yX3_comesTo : MethodName := ⟨RX3, "comesTo", "(I)Z"⟩
abbrev cX3_firstUnreached : ByteArray := prog_5_method_8_code
def yX3_firstUnreached : MethodName := ⟨RX3, "firstUnreached", "()I"⟩
abbrev cX3_markFramed : ByteArray := prog_5_method_9_code
def yX3_markFramed : MethodName := ⟨RX3, "markFramed", "()I"⟩
abbrev cX3_markFrom : ByteArray := prog_5_method_10_code
def yX3_markFrom : MethodName := ⟨RX3, "markFrom", "(I)V"⟩
def TX4 : u_T := fun k => match k with
  | 0 => ("FrameTyper$Signature", "takes", "[I", true)
  | 1 => ("FrameTyper$Signature", "count", "I", false)
  | _ => ("FrameTyper$Signature", "gives", "I", false)
def tyX4 : Nat → FieldType := fun k => match k with
  | 0 => .array .int
  | 1 => .int
  | _ => .int
theorem nmX4 : ∀ a, a < 3 → ∀ b, b < 3 → a ≠ b → (TX4 a).2.1 ≠ (TX4 b).2.1 := by decide +kernel
theorem tyX4_ok : ∀ k, k < 3 → parseFieldDescriptor (TX4 k).2.2.1 = some (tyX4 k) := by decide +kernel
abbrev cX4_init : ByteArray := prog_6_method_1_code
def yX4_init : MethodName := ⟨RX4, "<init>", "()V"⟩
abbrev cX4_set : ByteArray := prog_6_method_2_code
def yX4_set : MethodName := ⟨RX4, "set", "(IIIII)Z"⟩
def TX5 : u_T := fun k => match k with
  | 0 => ("FrameTyper$State", "types", "[I", true)
  | _ => ("FrameTyper$State", "height", "I", false)
def tyX5 : Nat → FieldType := fun k => match k with
  | 0 => .array .int
  | _ => .int
theorem nmX5 : ∀ a, a < 2 → ∀ b, b < 2 → a ≠ b → (TX5 a).2.1 ≠ (TX5 b).2.1 := by decide +kernel
theorem tyX5_ok : ∀ k, k < 2 → parseFieldDescriptor (TX5 k).2.2.1 = some (tyX5 k) := by decide +kernel
abbrev cX5_init : ByteArray := prog_7_method_1_code
def yX5_init : MethodName := ⟨RX5, "<init>", "()V"⟩
abbrev cX5_enter : ByteArray := prog_7_method_2_code
def yX5_enter : MethodName := ⟨RX5, "enter", "(LFrameTyper$Signature;)V"⟩
abbrev cX5_fromTop : ByteArray := prog_7_method_3_code
def yX5_fromTop : MethodName := ⟨RX5, "fromTop", "(I)I"⟩
abbrev cX5_push : ByteArray := prog_7_method_4_code
def yX5_push : MethodName := ⟨RX5, "push", "(I)V"⟩
abbrev cX5_drop : ByteArray := prog_7_method_5_code
def yX5_drop : MethodName := ⟨RX5, "drop", "(I)V"⟩
abbrev cX5_stackHas : ByteArray := prog_7_method_6_code
def yX5_stackHas : MethodName := ⟨RX5, "stackHas", "(I)Z"⟩
abbrev cX5_replace : ByteArray := prog_7_method_7_code
def yX5_replace : MethodName := ⟨RX5, "replace", "(II)V"⟩
def TX6 : u_T := fun k => match k with
  | 0 => ("FrameTyper$States", "world", "LFrameTyper$World;", true)
  | 1 => ("FrameTyper$States", "types", "[I", true)
  | _ => ("FrameTyper$States", "heights", "[I", true)
def tyX6 : Nat → FieldType := fun k => match k with
  | 0 => .object "FrameTyper$World"
  | 1 => .array .int
  | _ => .array .int
theorem nmX6 : ∀ a, a < 3 → ∀ b, b < 3 → a ≠ b → (TX6 a).2.1 ≠ (TX6 b).2.1 := by decide +kernel
theorem tyX6_ok : ∀ k, k < 3 → parseFieldDescriptor (TX6 k).2.2.1 = some (tyX6 k) := by decide +kernel
abbrev cX6_init : ByteArray := prog_8_method_1_code
def yX6_init : MethodName := ⟨RX6, "<init>", "(LFrameTyper$World;)V"⟩
abbrev cX6_forgetAll : ByteArray := prog_8_method_2_code
def yX6_forgetAll : MethodName := ⟨RX6, "forgetAll", "()V"⟩
abbrev cX6_has : ByteArray := prog_8_method_3_code
def yX6_has : MethodName := ⟨RX6, "has", "(I)Z"⟩
abbrev cX6_height : ByteArray := prog_8_method_4_code
def yX6_height : MethodName := ⟨RX6, "height", "(I)I"⟩
abbrev cX6_local : ByteArray := prog_8_method_5_code
def yX6_local : MethodName := ⟨RX6, "local", "(II)I"⟩
abbrev cX6_stacked : ByteArray := prog_8_method_6_code
def yX6_stacked : MethodName := ⟨RX6, "stacked", "(II)I"⟩
abbrev cX6_store : ByteArray := prog_8_method_7_code
def yX6_store : MethodName := ⟨RX6, "store", "(ILFrameTyper$State;)V"⟩
abbrev cX6_load : ByteArray := prog_8_method_8_code
def yX6_load : MethodName := ⟨RX6, "load", "(ILFrameTyper$State;)V"⟩
abbrev cX6_isFitBy : ByteArray := prog_8_method_9_code
def yX6_isFitBy : MethodName := ⟨RX6, "isFitBy", "(LFrameTyper$State;I)Z"⟩
abbrev cX6_meet : ByteArray := prog_8_method_10_code
def yX6_meet : MethodName := ⟨RX6, "meet", "(LFrameTyper$State;I)Z"⟩
def TX7 : u_T := fun k => match k with
  | 0 => ("FrameTyper$Stepper", "now", "LFrameTyper$State;", true)
  | 1 => ("FrameTyper$Stepper", "world", "LFrameTyper$World;", true)
  | 2 => ("FrameTyper$Stepper", "code", "LFrameTyper$Code;", true)
  | 3 => ("FrameTyper$Stepper", "wanted", "[I", true)
  | _ => ("FrameTyper$Stepper", "wantedCount", "I", false)
def tyX7 : Nat → FieldType := fun k => match k with
  | 0 => .object "FrameTyper$State"
  | 1 => .object "FrameTyper$World"
  | 2 => .object "FrameTyper$Code"
  | 3 => .array .int
  | _ => .int
theorem nmX7 : ∀ a, a < 5 → ∀ b, b < 5 → a ≠ b → (TX7 a).2.1 ≠ (TX7 b).2.1 := by decide +kernel
theorem tyX7_ok : ∀ k, k < 5 → parseFieldDescriptor (TX7 k).2.2.1 = some (tyX7 k) := by decide +kernel
abbrev cX7_init : ByteArray := prog_9_method_1_code
def yX7_init : MethodName := ⟨RX7, "<init>", "(LFrameTyper$World;LFrameTyper$Code;)V"⟩
abbrev cX7_step : ByteArray := prog_9_method_2_code
def yX7_step : MethodName := ⟨RX7, "step", "(I)I"⟩
abbrev cX7_want : ByteArray := prog_9_method_3_code
def yX7_want : MethodName := ⟨RX7, "want", "(I)V"⟩
abbrev cX7_listWanted : ByteArray := prog_9_method_4_code
def yX7_listWanted : MethodName := ⟨RX7, "listWanted", "(II)V"⟩
abbrev cX7_wantAll : ByteArray := prog_9_method_5_code
def yX7_wantAll : MethodName := ⟨RX7, "wantAll", "(LFrameTyper$Signature;)V"⟩
abbrev cX7_wantGiven : ByteArray := prog_9_method_6_code
def yX7_wantGiven : MethodName := ⟨RX7, "wantGiven", "(LFrameTyper$Signature;)V"⟩
abbrev cX7_wantedFit : ByteArray := prog_9_method_7_code
def yX7_wantedFit : MethodName := ⟨RX7, "wantedFit", "()Z"⟩
abbrev cX7_localFits : ByteArray := prog_9_method_8_code
def yX7_localFits : MethodName := ⟨RX7, "localFits", "(II)Z"⟩
abbrev cX7_isNewStacked : ByteArray := prog_9_method_9_code
def yX7_isNewStacked : MethodName := ⟨RX7, "isNewStacked", "(II)Z"⟩
abbrev cX7_givenCount : ByteArray := prog_9_method_10_code
def yX7_givenCount : MethodName := ⟨RX7, "givenCount", "(II)I"⟩
abbrev cX7_changeLocals : ByteArray := prog_9_method_11_code
def yX7_changeLocals : MethodName := ⟨RX7, "changeLocals", "(II)V"⟩
abbrev cX7_give : ByteArray := prog_9_method_12_code
def yX7_give : MethodName := ⟨RX7, "give", "(III)V"⟩
def TX8 : u_T := fun k => match k with
  | 0 => ("FrameTyper$TableReader", "frames", "LFrameTyper$States;", true)
  | 1 => ("FrameTyper$TableReader", "count", "I", false)
  | 2 => ("FrameTyper$TableReader", "world", "LFrameTyper$World;", true)
  | 3 => ("FrameTyper$TableReader", "table", "LFrameTyper$Bytes;", true)
  | 4 => ("FrameTyper$TableReader", "places", "[I", true)
  | 5 => ("FrameTyper$TableReader", "last", "LFrameTyper$State;", true)
  | 6 => ("FrameTyper$TableReader", "lastLocals", "I", false)
  | 7 => ("FrameTyper$TableReader", "at", "I", false)
  | _ => ("FrameTyper$TableReader", "malformed", "Z", false)
def tyX8 : Nat → FieldType := fun k => match k with
  | 0 => .object "FrameTyper$States"
  | 1 => .int
  | 2 => .object "FrameTyper$World"
  | 3 => .object "FrameTyper$Bytes"
  | 4 => .array .int
  | 5 => .object "FrameTyper$State"
  | 6 => .int
  | 7 => .int
  | _ => .boolean
theorem nmX8 : ∀ a, a < 9 → ∀ b, b < 9 → a ≠ b → (TX8 a).2.1 ≠ (TX8 b).2.1 := by decide +kernel
theorem tyX8_ok : ∀ k, k < 9 → parseFieldDescriptor (TX8 k).2.2.1 = some (tyX8 k) := by decide +kernel
abbrev cX8_init : ByteArray := prog_10_method_1_code
def yX8_init : MethodName := ⟨RX8, "<init>", "(LFrameTyper$World;LFrameTyper$Bytes;)V"⟩
abbrev cX8_read : ByteArray := prog_10_method_2_code
def yX8_read : MethodName := ⟨RX8, "read", "()Z"⟩
abbrev cX8_tell : ByteArray := prog_10_method_3_code
def yX8_tell : MethodName := ⟨RX8, "tell", "(II)I"⟩
abbrev cX8_next : ByteArray := prog_10_method_4_code
def yX8_next : MethodName := ⟨RX8, "next", "()I"⟩
abbrev cX8_readFrame : ByteArray := prog_10_method_5_code
def yX8_readFrame : MethodName := ⟨RX8, "readFrame", "(I)I"⟩
abbrev cX8_keepLocals : ByteArray := prog_10_method_6_code
def yX8_keepLocals : MethodName := ⟨RX8, "keepLocals", "(I)V"⟩
abbrev cX8_addLocals : ByteArray := prog_10_method_7_code
def yX8_addLocals : MethodName := ⟨RX8, "addLocals", "(I)V"⟩
abbrev cX8_readStack : ByteArray := prog_10_method_8_code
def yX8_readStack : MethodName := ⟨RX8, "readStack", "(I)V"⟩
abbrev cX8_readType : ByteArray := prog_10_method_9_code
def yX8_readType : MethodName := ⟨RX8, "readType", "()I"⟩
def TX9 : u_T := fun k => match k with
  | 0 => ("FrameTyper$TableWriter", "packed", "LFrameTyper$Bytes;", true)
  | 1 => ("FrameTyper$TableWriter", "before", "[I", true)
  | 2 => ("FrameTyper$TableWriter", "beforeCount", "I", false)
  | _ => ("FrameTyper$TableWriter", "beforePlace", "I", false)
def tyX9 : Nat → FieldType := fun k => match k with
  | 0 => .object "FrameTyper$Bytes"
  | 1 => .array .int
  | 2 => .int
  | _ => .int
theorem nmX9 : ∀ a, a < 4 → ∀ b, b < 4 → a ≠ b → (TX9 a).2.1 ≠ (TX9 b).2.1 := by decide +kernel
theorem tyX9_ok : ∀ k, k < 4 → parseFieldDescriptor (TX9 k).2.2.1 = some (tyX9 k) := by decide +kernel
abbrev cX9_init : ByteArray := prog_11_method_1_code
def yX9_init : MethodName := ⟨RX9, "<init>", "()V"⟩
abbrev cX9_begin : ByteArray := prog_11_method_2_code
def yX9_begin : MethodName := ⟨RX9, "begin", "(LFrameTyper$Signature;I)V"⟩
abbrev cX9_write : ByteArray := prog_11_method_3_code
def yX9_write : MethodName := ⟨RX9, "write", "(LFrameTyper$States;I)V"⟩
abbrev cX9_localCount : ByteArray := prog_11_method_4_code
def yX9_localCount : MethodName := ⟨RX9, "localCount", "(LFrameTyper$States;I)I"⟩
abbrev cX9_sharesLocals : ByteArray := prog_11_method_5_code
def yX9_sharesLocals : MethodName := ⟨RX9, "sharesLocals", "(LFrameTyper$States;II)Z"⟩
abbrev cX9_putFull : ByteArray := prog_11_method_6_code
def yX9_putFull : MethodName := ⟨RX9, "putFull", "(LFrameTyper$States;III)V"⟩
abbrev cX9_putLocals : ByteArray := prog_11_method_7_code
def yX9_putLocals : MethodName := ⟨RX9, "putLocals", "(LFrameTyper$States;III)V"⟩
abbrev cX9_putType : ByteArray := prog_11_method_8_code
def yX9_putType : MethodName := ⟨RX9, "putType", "(I)V"⟩
abbrev cX9_remember : ByteArray := prog_11_method_9_code
def yX9_remember : MethodName := ⟨RX9, "remember", "(LFrameTyper$States;II)V"⟩
def TX10 : u_T := fun k => match k with
  | 0 => ("FrameTyper$World", "parents", "[I", true)
  | 1 => ("FrameTyper$World", "fieldClasses", "[I", true)
  | 2 => ("FrameTyper$World", "fieldTypes", "[I", true)
  | 3 => ("FrameTyper$World", "routines", "[LFrameTyper$Signature;", true)
  | _ => ("FrameTyper$World", "method", "LFrameTyper$Signature;", true)
def tyX10 : Nat → FieldType := fun k => match k with
  | 0 => .array .int
  | 1 => .array .int
  | 2 => .array .int
  | 3 => .array (.object "FrameTyper$Signature")
  | _ => .object "FrameTyper$Signature"
theorem nmX10 : ∀ a, a < 5 → ∀ b, b < 5 → a ≠ b → (TX10 a).2.1 ≠ (TX10 b).2.1 := by decide +kernel
theorem tyX10_ok : ∀ k, k < 5 → parseFieldDescriptor (TX10 k).2.2.1 = some (tyX10 k) := by decide +kernel
abbrev cX10_init : ByteArray := prog_12_method_1_code
def yX10_init : MethodName := ⟨RX10, "<init>", "()V"⟩
abbrev cX10_isClass : ByteArray := prog_12_method_2_code
def yX10_isClass : MethodName := ⟨RX10, "isClass", "(I)Z"⟩
abbrev cX10_isObject : ByteArray := prog_12_method_3_code
def yX10_isObject : MethodName := ⟨RX10, "isObject", "(I)Z"⟩
abbrev cX10_isNew : ByteArray := prog_12_method_4_code
def yX10_isNew : MethodName := ⟨RX10, "isNew", "(I)Z"⟩
abbrev cX10_isReference : ByteArray := prog_12_method_5_code
def yX10_isReference : MethodName := ⟨RX10, "isReference", "(I)Z"⟩
abbrev cX10_isKnown : ByteArray := prog_12_method_6_code
def yX10_isKnown : MethodName := ⟨RX10, "isKnown", "(I)Z"⟩
abbrev cX10_isKnownOrNone : ByteArray := prog_12_method_7_code
def yX10_isKnownOrNone : MethodName := ⟨RX10, "isKnownOrNone", "(I)Z"⟩
abbrev cX10_setParent : ByteArray := prog_12_method_8_code
def yX10_setParent : MethodName := ⟨RX10, "setParent", "(II)Z"⟩
abbrev cX10_setField : ByteArray := prog_12_method_9_code
def yX10_setField : MethodName := ⟨RX10, "setField", "(III)Z"⟩
abbrev cX10_sharedClass : ByteArray := prog_12_method_10_code
def yX10_sharedClass : MethodName := ⟨RX10, "sharedClass", "(II)I"⟩
abbrev cX10_fits : ByteArray := prog_12_method_11_code
def yX10_fits : MethodName := ⟨RX10, "fits", "(II)Z"⟩
abbrev cX10_meet : ByteArray := prog_12_method_12_code
def yX10_meet : MethodName := ⟨RX10, "meet", "(II)I"⟩
def TX11 : u_T := fun k => match k with
  | 0 => ("FrameTyper", "world", "LFrameTyper$World;", true)
  | 1 => ("FrameTyper", "program", "LFrameTyper$Code;", true)
  | 2 => ("FrameTyper", "packed", "LFrameTyper$Bytes;", true)
  | 3 => ("FrameTyper", "reader", "LFrameTyper$TableReader;", true)
  | 4 => ("FrameTyper", "checker", "LFrameTyper$Checker;", true)
  | _ => ("FrameTyper", "maker", "LFrameTyper$Maker;", true)
def tyX11 : Nat → FieldType := fun k => match k with
  | 0 => .object "FrameTyper$World"
  | 1 => .object "FrameTyper$Code"
  | 2 => .object "FrameTyper$Bytes"
  | 3 => .object "FrameTyper$TableReader"
  | 4 => .object "FrameTyper$Checker"
  | _ => .object "FrameTyper$Maker"
theorem nmX11 : ∀ a, a < 6 → ∀ b, b < 6 → a ≠ b → (TX11 a).2.1 ≠ (TX11 b).2.1 := by decide +kernel
theorem tyX11_ok : ∀ k, k < 6 → parseFieldDescriptor (TX11 k).2.2.1 = some (tyX11 k) := by decide +kernel
abbrev cX11_init : ByteArray := prog_1_method_1_code
def yX11_init : MethodName := ⟨RX11, "<init>", "()V"⟩
abbrev cX11_parent : ByteArray := prog_1_method_2_code
def yX11_parent : MethodName := ⟨RX11, "parent", "(II)Z"⟩
abbrev cX11_field : ByteArray := prog_1_method_3_code
def yX11_field : MethodName := ⟨RX11, "field", "(III)Z"⟩
abbrev cX11_routine : ByteArray := prog_1_method_4_code
def yX11_routine : MethodName := ⟨RX11, "routine", "(IIIII)Z"⟩
abbrev cX11_method : ByteArray := prog_1_method_5_code
def yX11_method : MethodName := ⟨RX11, "method", "(IIIII)Z"⟩
abbrev cX11_code : ByteArray := prog_1_method_6_code
def yX11_code : MethodName := ⟨RX11, "code", "(JI)I"⟩
abbrev cX11_clear : ByteArray := prog_1_method_7_code
def yX11_clear : MethodName := ⟨RX11, "clear", "()I"⟩
abbrev cX11_table : ByteArray := prog_1_method_8_code
def yX11_table : MethodName := ⟨RX11, "table", "(JI)I"⟩
abbrev cX11_tableAt : ByteArray := prog_1_method_9_code
def yX11_tableAt : MethodName := ⟨RX11, "tableAt", "(I)I"⟩
abbrev cX11_frames : ByteArray := prog_1_method_10_code
def yX11_frames : MethodName := ⟨RX11, "frames", "()I"⟩
abbrev cX11_frame : ByteArray := prog_1_method_11_code
def yX11_frame : MethodName := ⟨RX11, "frame", "(II)I"⟩
abbrev cX11_check : ByteArray := prog_1_method_12_code
def yX11_check : MethodName := ⟨RX11, "check", "()I"⟩
abbrev cX11_make : ByteArray := prog_1_method_13_code
def yX11_make : MethodName := ⟨RX11, "make", "()I"⟩
def TX12 : u_T := fun k => match k with
  | 0 => ("FrameTyperModel", "thrown", "I", false)
  | 1 => ("FrameTyperModel", "parents", "[I", true)
  | 2 => ("FrameTyperModel", "fieldClass", "[I", true)
  | 3 => ("FrameTyperModel", "fieldType", "[I", true)
  | 4 => ("FrameTyperModel", "routineTakes", "[I", true)
  | 5 => ("FrameTyperModel", "routineMany", "[I", true)
  | 6 => ("FrameTyperModel", "routineGives", "[I", true)
  | 7 => ("FrameTyperModel", "methodTakes", "[I", true)
  | 8 => ("FrameTyperModel", "methodMany", "I", false)
  | 9 => ("FrameTyperModel", "methodGives", "I", false)
  | 10 => ("FrameTyperModel", "code", "[I", true)
  | 11 => ("FrameTyperModel", "codeSize", "I", false)
  | 12 => ("FrameTyperModel", "table", "[I", true)
  | 13 => ("FrameTyperModel", "tableSize", "I", false)
  | 14 => ("FrameTyperModel", "frameCount", "I", false)
  | 15 => ("FrameTyperModel", "framePlace", "[I", true)
  | 16 => ("FrameTyperModel", "frameMany", "[I", true)
  | 17 => ("FrameTyperModel", "frameState", "[I", true)
  | 18 => ("FrameTyperModel", "at", "I", false)
  | 19 => ("FrameTyperModel", "malformed", "Z", false)
  | 20 => ("FrameTyperModel", "now", "[I", true)
  | 21 => ("FrameTyperModel", "goesOn", "Z", false)
  | 22 => ("FrameTyperModel", "target", "I", false)
  | 23 => ("FrameTyperModel", "fault", "I", false)
  | 24 => ("FrameTyperModel", "begins", "[Z", true)
  | 25 => ("FrameTyperModel", "came", "[Z", true)
  | 26 => ("FrameTyperModel", "open", "[Z", true)
  | 27 => ("FrameTyperModel", "framed", "[Z", true)
  | 28 => ("FrameTyperModel", "states", "[I", true)
  | 29 => ("FrameTyperModel", "packed", "[I", true)
  | 30 => ("FrameTyperModel", "packedSize", "I", false)
  | _ => ("FrameTyperModel", "former", "[I", true)
def tyX12 : Nat → FieldType := fun k => match k with
  | 0 => .int
  | 1 => .array .int
  | 2 => .array .int
  | 3 => .array .int
  | 4 => .array .int
  | 5 => .array .int
  | 6 => .array .int
  | 7 => .array .int
  | 8 => .int
  | 9 => .int
  | 10 => .array .int
  | 11 => .int
  | 12 => .array .int
  | 13 => .int
  | 14 => .int
  | 15 => .array .int
  | 16 => .array .int
  | 17 => .array .int
  | 18 => .int
  | 19 => .boolean
  | 20 => .array .int
  | 21 => .boolean
  | 22 => .int
  | 23 => .int
  | 24 => .array .boolean
  | 25 => .array .boolean
  | 26 => .array .boolean
  | 27 => .array .boolean
  | 28 => .array .int
  | 29 => .array .int
  | 30 => .int
  | _ => .array .int
theorem nmX12 : ∀ a, a < 32 → ∀ b, b < 32 → a ≠ b → (TX12 a).2.1 ≠ (TX12 b).2.1 := by decide +kernel
theorem tyX12_ok : ∀ k, k < 32 → parseFieldDescriptor (TX12 k).2.2.1 = some (tyX12 k) := by decide +kernel
abbrev cX12_init : ByteArray := prog_14_method_1_code
def yX12_init : MethodName := ⟨RX12, "<init>", "()V"⟩
abbrev cX12_thrown : ByteArray := prog_14_method_2_code
def yX12_thrown : MethodName := ⟨RX12, "thrown", "()I"⟩
abbrev cX12_isObject : ByteArray := prog_14_method_3_code
def yX12_isObject : MethodName := ⟨RX12, "isObject", "(I)Z"⟩
abbrev cX12_isKnown : ByteArray := prog_14_method_4_code
def yX12_isKnown : MethodName := ⟨RX12, "isKnown", "(I)Z"⟩
abbrev cX12_isNew : ByteArray := prog_14_method_5_code
def yX12_isNew : MethodName := ⟨RX12, "isNew", "(I)Z"⟩
abbrev cX12_isBelow : ByteArray := prog_14_method_6_code
def yX12_isBelow : MethodName := ⟨RX12, "isBelow", "(II)Z"⟩
abbrev cX12_fits : ByteArray := prog_14_method_7_code
def yX12_fits : MethodName := ⟨RX12, "fits", "(II)Z"⟩
abbrev cX12_meet : ByteArray := prog_14_method_8_code
def yX12_meet : MethodName := ⟨RX12, "meet", "(II)I"⟩
abbrev cX12_parent : ByteArray := prog_14_method_9_code
def yX12_parent : MethodName := ⟨RX12, "parent", "(II)Z"⟩
abbrev cX12_field : ByteArray := prog_14_method_10_code
def yX12_field : MethodName := ⟨RX12, "field", "(III)Z"⟩
abbrev cX12_mayBe : ByteArray := prog_14_method_11_code
def yX12_mayBe : MethodName := ⟨RX12, "mayBe", "(II)Z"⟩
abbrev cX12_routine : ByteArray := prog_14_method_12_code
def yX12_routine : MethodName := ⟨RX12, "routine", "(IIIII)Z"⟩
abbrev cX12_method : ByteArray := prog_14_method_13_code
def yX12_method : MethodName := ⟨RX12, "method", "(IIIII)Z"⟩
abbrev cX12_code : ByteArray := prog_14_method_14_code
def yX12_code : MethodName := ⟨RX12, "code", "(JI)I"⟩
abbrev cX12_clear : ByteArray := prog_14_method_15_code
def yX12_clear : MethodName := ⟨RX12, "clear", "()I"⟩
abbrev cX12_table : ByteArray := prog_14_method_16_code
def yX12_table : MethodName := ⟨RX12, "table", "(JI)I"⟩
abbrev cX12_tableAt : ByteArray := prog_14_method_17_code
def yX12_tableAt : MethodName := ⟨RX12, "tableAt", "(I)I"⟩
abbrev cX12_next : ByteArray := prog_14_method_18_code
def yX12_next : MethodName := ⟨RX12, "next", "()I"⟩
abbrev cX12_type : ByteArray := prog_14_method_19_code
def yX12_type : MethodName := ⟨RX12, "type", "()I"⟩
abbrev cX12_locals : ByteArray := prog_14_method_20_code
def yX12_locals : MethodName := ⟨RX12, "locals", "(III)V"⟩
abbrev cX12_stack : ByteArray := prog_14_method_21_code
def yX12_stack : MethodName := ⟨RX12, "stack", "(II)V"⟩
abbrev cX12_frameOf : ByteArray := prog_14_method_22_code
def yX12_frameOf : MethodName := ⟨RX12, "frameOf", "(I)V"⟩
abbrev cX12_reads : ByteArray := prog_14_method_23_code
def yX12_reads : MethodName := ⟨RX12, "reads", "()Z"⟩
abbrev cX12_frames : ByteArray := prog_14_method_24_code
def yX12_frames : MethodName := ⟨RX12, "frames", "()I"⟩
abbrev cX12_frame : ByteArray := prog_14_method_25_code
def yX12_frame : MethodName := ⟨RX12, "frame", "(II)I"⟩
abbrev cX12_hasSecond : ByteArray := prog_14_method_26_code
def yX12_hasSecond : MethodName := ⟨RX12, "hasSecond", "(I)Z"⟩
abbrev cX12_isWhole : ByteArray := prog_14_method_27_code
def yX12_isWhole : MethodName := ⟨RX12, "isWhole", "(I)Z"⟩
abbrev cX12_findBegins : ByteArray := prog_14_method_28_code
def yX12_findBegins : MethodName := ⟨RX12, "findBegins", "()V"⟩
abbrev cX12_makes : ByteArray := prog_14_method_29_code
def yX12_makes : MethodName := ⟨RX12, "makes", "(I)Z"⟩
abbrev cX12_isPlain : ByteArray := prog_14_method_30_code
def yX12_isPlain : MethodName := ⟨RX12, "isPlain", "(I)Z"⟩
abbrev cX12_isSecondGood : ByteArray := prog_14_method_31_code
def yX12_isSecondGood : MethodName := ⟨RX12, "isSecondGood", "(II)Z"⟩
abbrev cX12_takenBy : ByteArray := prog_14_method_32_code
def yX12_takenBy : MethodName := ⟨RX12, "takenBy", "(II)I"⟩
abbrev cX12_topmost : ByteArray := prog_14_method_33_code
def yX12_topmost : MethodName := ⟨RX12, "topmost", "(I)I"⟩
abbrev cX12_doTypesFit : ByteArray := prog_14_method_34_code
def yX12_doTypesFit : MethodName := ⟨RX12, "doTypesFit", "(III)Z"⟩
abbrev cX12_standsOnStack : ByteArray := prog_14_method_35_code
def yX12_standsOnStack : MethodName := ⟨RX12, "standsOnStack", "(I)Z"⟩
abbrev cX12_doesRoutineFit : ByteArray := prog_14_method_36_code
def yX12_doesRoutineFit : MethodName := ⟨RX12, "doesRoutineFit", "(I)Z"⟩
abbrev cX12_givenBy : ByteArray := prog_14_method_37_code
def yX12_givenBy : MethodName := ⟨RX12, "givenBy", "(II)I"⟩
abbrev cX12_give : ByteArray := prog_14_method_38_code
def yX12_give : MethodName := ⟨RX12, "give", "(I)V"⟩
abbrev cX12_become : ByteArray := prog_14_method_39_code
def yX12_become : MethodName := ⟨RX12, "become", "(II)V"⟩
abbrev cX12_work : ByteArray := prog_14_method_40_code
def yX12_work : MethodName := ⟨RX12, "work", "(III)V"⟩
abbrev cX12_step : ByteArray := prog_14_method_41_code
def yX12_step : MethodName := ⟨RX12, "step", "(I)V"⟩
abbrev cX12_begin : ByteArray := prog_14_method_42_code
def yX12_begin : MethodName := ⟨RX12, "begin", "()V"⟩
abbrev cX12_frameAt : ByteArray := prog_14_method_43_code
def yX12_frameAt : MethodName := ⟨RX12, "frameAt", "(I)I"⟩
abbrev cX12_fitsFrame : ByteArray := prog_14_method_44_code
def yX12_fitsFrame : MethodName := ⟨RX12, "fitsFrame", "(I)Z"⟩
abbrev cX12_isFrameGood : ByteArray := prog_14_method_45_code
def yX12_isFrameGood : MethodName := ⟨RX12, "isFrameGood", "(I)Z"⟩
abbrev cX12_look : ByteArray := prog_14_method_46_code
def yX12_look : MethodName := ⟨RX12, "look", "(IZ)V"⟩
abbrev cX12_check : ByteArray := prog_14_method_47_code
def yX12_check : MethodName := ⟨RX12, "check", "()I"⟩
abbrev cX12_comes : ByteArray := prog_14_method_48_code
def yX12_comes : MethodName := ⟨RX12, "comes", "(I)Z"⟩
abbrev cX12_lowest : ByteArray := prog_14_method_49_code
def yX12_lowest : MethodName := ⟨RX12, "lowest", "()I"⟩
abbrev cX12_workOn : ByteArray := prog_14_method_50_code
def yX12_workOn : MethodName := ⟨RX12, "workOn", "(I)I"⟩
abbrev cX12_findStates : ByteArray := prog_14_method_51_code
def yX12_findStates : MethodName := ⟨RX12, "findStates", "()I"⟩
abbrev cX12_pack : ByteArray := prog_14_method_52_code
def yX12_pack : MethodName := ⟨RX12, "pack", "(I)V"⟩
abbrev cX12_packType : ByteArray := prog_14_method_53_code
def yX12_packType : MethodName := ⟨RX12, "packType", "(I)V"⟩
abbrev cX12_manyAt : ByteArray := prog_14_method_54_code
def yX12_manyAt : MethodName := ⟨RX12, "manyAt", "(I)I"⟩
abbrev cX12_packFrame : ByteArray := prog_14_method_55_code
def yX12_packFrame : MethodName := ⟨RX12, "packFrame", "(III)V"⟩
abbrev cX12_make : ByteArray := prog_14_method_56_code
def yX12_make : MethodName := ⟨RX12, "make", "()I"⟩
abbrev cJ9_abs_0f7a4 : ByteArray := prog_18_method_59_code
def yJ9_abs_0f7a4 : MethodName := ⟨RJ9, "abs", "(I)I"⟩
abbrev cJ9_max_7cf53 : ByteArray := prog_18_method_65_code
def yJ9_max_7cf53 : MethodName := ⟨RJ9, "max", "(II)I"⟩
abbrev cJ9_min_7cf53 : ByteArray := prog_18_method_69_code
def yJ9_min_7cf53 : MethodName := ⟨RJ9, "min", "(II)I"⟩
abbrev cJ7_fill_53178 : ByteArray := prog_23_method_103_code
def yJ7_fill_53178 : MethodName := ⟨RJ7, "fill", "([II)V"⟩
abbrev cL_frames : ByteArray := method_3_code
def yL_frames : MethodName := ⟨RL, "frames", "(LFrameTyper;[J)I"⟩
abbrev cL_frame : ByteArray := method_4_code
def yL_frame : MethodName := ⟨RL, "frame", "(LFrameTyper;II[J)I"⟩
abbrev cL_check : ByteArray := method_5_code
def yL_check : MethodName := ⟨RL, "check", "(LFrameTyper;[J)I"⟩
abbrev cL_make : ByteArray := method_6_code
def yL_make : MethodName := ⟨RL, "make", "(LFrameTyper;[J)I"⟩
abbrev cL_law : ByteArray := code
def yL_law : MethodName := ⟨RL, "law", "([I)Z"⟩
abbrev vwCl : List vw_C := [(RX0, TX0, 2), (RX1, TX1, 4), (RX2, TX2, 2), (RX3, TX3, 7), (RX4, TX4, 3), (RX5, TX5, 2), (RX6, TX6, 3), (RX7, TX7, 5), (RX8, TX8, 9), (RX9, TX9, 4), (RX10, TX10, 5), (RX11, TX11, 6), (RX12, TX12, 32)]
end
section
abbrev pm_I : Type := Instr × Nat × Nat
noncomputable def pm_c0_0 : List (Option pm_I) := [some (.aload 0, 1, 0), some (.invokespecial 9999, 3, 171), none, none, some (.aload 0, 1, 0), some (.iload 1, 1, 0), some (.newarray .int, 2, 0), none, some (.checkcast 0, 3, 172), none, none, some (.return_, 1, 0)]
/-- FrameTyper$Bytes.<init>(I)V -/
noncomputable def pm_c0 : List (Option pm_I) := pm_c0_0
noncomputable def pm_c1_0 : List (Option pm_I) := [some (.aload 0, 1, 0), some (.iconst (0), 1, 0), some (.putfield 1, 3, 173), none, none, some (.return_, 1, 0)]
/-- FrameTyper$Bytes.empty()V -/
noncomputable def pm_c1 : List (Option pm_I) := pm_c1_0
noncomputable def pm_c2_0 : List (Option pm_I) := [some (.iload 1, 1, 0), some (.ifCond .lt 30, 3, 0), none, none, some (.iload 1, 1, 0), some (.aload 0, 1, 0), some (.getfield 1, 3, 173), none, none, some (.if_icmp .ge 30, 3, 0), none, none, some (.iload 1, 1, 0), some (.aload 0, 1, 0), some (.getfield 0, 3, 172), none, none, some (.arraylength, 1, 0), some (.if_icmp .ge 30, 3, 0), none, none, some (.aload 0, 1, 0), some (.getfield 0, 3, 172), none, none, some (.iload 1, 1, 0), some (.iaload, 1, 0), some (.goto 31, 3, 0), none, none, some (.iconst (-1), 1, 0), some (.ireturn, 1, 0)]
/-- FrameTyper$Bytes.get(I)I -/
noncomputable def pm_c2 : List (Option pm_I) := pm_c2_0
noncomputable def pm_c3_0 : List (Option pm_I) := [some (.iload 3, 1, 0), some (.iconst (1), 1, 0), some (.if_icmp .lt 25, 3, 0), none, none, some (.iload 3, 1, 0), some (.iconst (8), 2, 0), none, some (.if_icmp .gt 25, 3, 0), none, none, some (.aload 0, 1, 0), some (.getfield 1, 3, 173), none, none, some (.iload 3, 1, 0), some (.iadd, 1, 0), some (.aload 0, 1, 0), some (.getfield 0, 3, 172), none, none, some (.arraylength, 1, 0), some (.if_icmp .le 27, 3, 0), none, none, some (.iconst (-1), 1, 0), some (.ireturn, 1, 0), some (.iload 3, 1, 0), some (.iconst (1), 1, 0), some (.isub, 1, 0), some (.istore 4, 2, 0), none, some (.iload 4, 2, 0), none, some (.ifCond .lt 59, 3, 0), none, none, some (.aload 0, 1, 0), some (.lload 1, 1, 0), some (.iconst (8), 2, 0)]
noncomputable def pm_c3_1 : List (Option pm_I) := [none, some (.iload 4, 2, 0), none, some (.imul, 1, 0), some (.lushr, 1, 0), some (.l2i, 1, 0), some (.iconst (255), 3, 0), none, none, some (.iand, 1, 0), some (.invokeinterface 4 2, 3, 437), none, none, some (.iinc 4 (-1), 3, 0), none, none, some (.goto 32, 3, 0), none, none, some (.aload 0, 1, 0), some (.getfield 1, 3, 173), none, none, some (.ireturn, 1, 0)]
/-- FrameTyper$Bytes.append(JI)I -/
noncomputable def pm_c3 : List (Option pm_I) := List.append pm_c3_0 pm_c3_1
noncomputable def pm_c4_0 : List (Option pm_I) := [some (.aload 0, 1, 0), some (.getfield 1, 3, 173), none, none, some (.aload 0, 1, 0), some (.getfield 0, 3, 172), none, none, some (.arraylength, 1, 0), some (.if_icmp .ge 22, 3, 0), none, none, some (.aload 0, 1, 0), some (.getfield 0, 3, 172), none, none, some (.aload 0, 1, 0), some (.getfield 1, 3, 173), none, none, some (.iload 1, 1, 0), some (.iastore, 1, 0), some (.aload 0, 1, 0), some (.dup, 1, 0), some (.getfield 1, 3, 173), none, none, some (.iconst (1), 1, 0), some (.iadd, 1, 0), some (.putfield 1, 3, 173), none, none, some (.return_, 1, 0)]
/-- FrameTyper$Bytes.put(I)V -/
noncomputable def pm_c4 : List (Option pm_I) := pm_c4_0
noncomputable def pm_c5_0 : List (Option pm_I) := [some (.aload 0, 1, 0), some (.invokeinterface 1 1, 3, 927), none, none, some (.iconst (0), 1, 0), some (.istore 2, 1, 0), some (.iload 2, 1, 0), some (.aload 1, 1, 0), some (.getfield 1, 3, 173), none, none, some (.if_icmp .ge 29, 3, 0), none, none, some (.aload 0, 1, 0), some (.aload 1, 1, 0), some (.iload 2, 1, 0), some (.invokeinterface 2 2, 3, 928), none, none, some (.invokeinterface 4 2, 3, 437), none, none, some (.iinc 2 1, 3, 0), none, none, some (.goto 6, 3, 0), none, none, some (.return_, 1, 0)]
/-- FrameTyper$Bytes.become(LFrameTyper$Bytes;)V -/
noncomputable def pm_c5 : List (Option pm_I) := pm_c5_0
noncomputable def pm_c6_0 : List (Option pm_I) := [some (.aload 0, 1, 0), some (.invokespecial 9999, 3, 303), none, none, some (.aload 0, 1, 0), some (.aload 1, 1, 0), some (.checkcast 64, 3, 304), none, none, some (.aload 0, 1, 0), some (.aload 2, 1, 0), some (.checkcast 65, 3, 305), none, none, some (.aload 0, 1, 0), some (.aload 3, 1, 0), some (.checkcast 66, 3, 306), none, none, some (.aload 0, 1, 0), some (.aload 4, 2, 0), none, some (.checkcast 67, 3, 307), none, none, some (.return_, 1, 0)]
/-- FrameTyper$Checker.<init>(LFrameTyper$World;LFrameTyper$Code;LFrameTyper$Stepper;LFrameTyper$States;)V -/
noncomputable def pm_c6 : List (Option pm_I) := pm_c6_0
noncomputable def pm_c7_0 : List (Option pm_I) := [some (.aload 0, 1, 0), some (.getfield 65, 3, 305), none, none, some (.invokeinterface 2021 1, 3, 617), none, none, some (.aload 0, 1, 0), some (.getfield 66, 3, 306), none, none, some (.getfield 448, 3, 281), none, none, some (.aload 0, 1, 0), some (.getfield 64, 3, 304), none, none, some (.getfield 644, 3, 144), none, none, some (.invokeinterface 5040 2, 3, 644), none, none, some (.iconst (1), 1, 0), some (.istore 1, 1, 0), some (.iconst (0), 1, 0), some (.istore 2, 1, 0), some (.iload 2, 1, 0), some (.aload 0, 1, 0), some (.getfield 65, 3, 305), none, none, some (.invokeinterface 2014 1, 3, 645), none, none, some (.if_icmp .ge 83, 3, 0), none, none, some (.aload 0, 1, 0)]
noncomputable def pm_c7_1 : List (Option pm_I) := [some (.getfield 65, 3, 305), none, none, some (.iload 2, 1, 0), some (.invokeinterface 2022 2, 3, 646), none, none, some (.ifCond .eq 77, 3, 0), none, none, some (.aload 0, 1, 0), some (.iload 2, 1, 0), some (.iload 1, 1, 0), some (.invokeinterface 1008 3, 3, 650), none, none, some (.istore 3, 1, 0), some (.iload 3, 1, 0), some (.ifCond .eq 68, 3, 0), none, none, some (.iconst (100), 2, 0), none, some (.iload 3, 1, 0), some (.imul, 1, 0), some (.iload 2, 1, 0), some (.iadd, 1, 0), some (.ireturn, 1, 0), some (.aload 0, 1, 0), some (.getfield 65, 3, 305), none, none, some (.iload 2, 1, 0), some (.invokeinterface 2025 2, 3, 786), none, none, some (.istore 1, 1, 0), some (.iinc 2 1, 3, 0), none, none]
noncomputable def pm_c7_2 : List (Option pm_I) := [some (.goto 28, 3, 0), none, none, some (.iload 1, 1, 0), some (.ifCond .eq 100, 3, 0), none, none, some (.iconst (100), 2, 0), none, some (.aload 0, 1, 0), some (.getfield 65, 3, 305), none, none, some (.invokeinterface 2014 1, 3, 645), none, none, some (.iadd, 1, 0), some (.goto 104, 3, 0), none, none, some (.aload 0, 1, 0), some (.invokeinterface 1012 1, 3, 790), none, none, some (.ireturn, 1, 0)]
/-- FrameTyper$Checker.firstFault()I -/
noncomputable def pm_c7 : List (Option pm_I) := List.append pm_c7_0 (List.append pm_c7_1 pm_c7_2)
noncomputable def pm_c8_0 : List (Option pm_I) := [some (.aload 0, 1, 0), some (.getfield 65, 3, 305), none, none, some (.iload 1, 1, 0), some (.invokeinterface 2019 2, 3, 654), none, none, some (.ifCond .ne 13, 3, 0), none, none, some (.iconst (1), 1, 0), some (.ireturn, 1, 0), some (.aload 0, 1, 0), some (.getfield 67, 3, 307), none, none, some (.iload 1, 1, 0), some (.invokeinterface 6048 2, 3, 655), none, none, some (.ifCond .eq 33, 3, 0), none, none, some (.aload 0, 1, 0), some (.iload 1, 1, 0), some (.iload 2, 1, 0), some (.invokeinterface 1009 3, 3, 659), none, none, some (.goto 42, 3, 0), none, none, some (.iload 2, 1, 0), some (.ifCond .eq 41, 3, 0), none, none, some (.iconst (0), 1, 0), some (.goto 42, 3, 0), none]
noncomputable def pm_c8_1 : List (Option pm_I) := [none, some (.iconst (2), 1, 0), some (.istore 3, 1, 0), some (.iload 3, 1, 0), some (.ifCond .ne 56, 3, 0), none, none, some (.aload 0, 1, 0), some (.getfield 66, 3, 306), none, none, some (.iload 1, 1, 0), some (.invokeinterface 7057 2, 3, 692), none, none, some (.istore 3, 1, 0), some (.iload 3, 1, 0), some (.ifCond .ne 84, 3, 0), none, none, some (.aload 0, 1, 0), some (.getfield 65, 3, 305), none, none, some (.iload 1, 1, 0), some (.invokeinterface 2024 2, 3, 774), none, none, some (.ifCond .eq 84, 3, 0), none, none, some (.aload 0, 1, 0), some (.aload 0, 1, 0), some (.getfield 65, 3, 305), none, none, some (.iload 1, 1, 0), some (.invokeinterface 2026 2, 3, 778), none, none]
noncomputable def pm_c8_2 : List (Option pm_I) := [some (.invokeinterface 1011 2, 3, 782), none, none, some (.istore 3, 1, 0), some (.iload 3, 1, 0), some (.ireturn, 1, 0)]
/-- FrameTyper$Checker.faultAt(IZ)I -/
noncomputable def pm_c8 : List (Option pm_I) := List.append pm_c8_0 (List.append pm_c8_1 pm_c8_2)
noncomputable def pm_c9_0 : List (Option pm_I) := [some (.iload 2, 1, 0), some (.ifCond .eq 24, 3, 0), none, none, some (.aload 0, 1, 0), some (.getfield 67, 3, 307), none, none, some (.aload 0, 1, 0), some (.getfield 66, 3, 306), none, none, some (.getfield 448, 3, 281), none, none, some (.iload 1, 1, 0), some (.invokeinterface 6054 3, 3, 663), none, none, some (.ifCond .ne 24, 3, 0), none, none, some (.iconst (3), 1, 0), some (.ireturn, 1, 0), some (.aload 0, 1, 0), some (.getfield 67, 3, 307), none, none, some (.iload 1, 1, 0), some (.aload 0, 1, 0), some (.getfield 66, 3, 306), none, none, some (.getfield 448, 3, 281), none, none, some (.invokeinterface 6053 3, 3, 675), none, none, some (.aload 0, 1, 0)]
noncomputable def pm_c9_1 : List (Option pm_I) := [some (.aload 0, 1, 0), some (.getfield 66, 3, 306), none, none, some (.getfield 448, 3, 281), none, none, some (.invokeinterface 1010 2, 3, 679), none, none, some (.ifCond .eq 57, 3, 0), none, none, some (.iconst (0), 1, 0), some (.goto 58, 3, 0), none, none, some (.iconst (4), 1, 0), some (.ireturn, 1, 0)]
/-- FrameTyper$Checker.enterFrame(IZ)I -/
noncomputable def pm_c9 : List (Option pm_I) := List.append pm_c9_0 pm_c9_1
noncomputable def pm_c10_0 : List (Option pm_I) := [some (.iconst (0), 1, 0), some (.istore 2, 1, 0), some (.iload 2, 1, 0), some (.iconst (4), 1, 0), some (.aload 1, 1, 0), some (.getfield 321, 3, 216), none, none, some (.iadd, 1, 0), some (.if_icmp .ge 48, 3, 0), none, none, some (.aload 1, 1, 0), some (.getfield 320, 3, 210), none, none, some (.iload 2, 1, 0), some (.iaload, 1, 0), some (.istore 3, 1, 0), some (.iload 3, 1, 0), some (.multianewarray 89 1, 3, 683), none, none, some (.ifCond .eq 42, 3, 0), none, none, some (.aload 0, 1, 0), some (.getfield 65, 3, 305), none, none, some (.iload 3, 1, 0), some (.iconst (64), 2, 0), none, some (.isub, 1, 0), some (.invokeinterface 2023 2, 3, 686), none, none, some (.ifCond .ne 42, 3, 0), none, none]
noncomputable def pm_c10_1 : List (Option pm_I) := [some (.iconst (0), 1, 0), some (.freturn, 1, 0), some (.iinc 2 1, 3, 0), none, none, some (.goto 2, 3, 0), none, none, some (.iconst (1), 1, 0), some (.freturn, 1, 0)]
/-- FrameTyper$Checker.areNewsRight(LFrameTyper$State;)Z -/
noncomputable def pm_c10 : List (Option pm_I) := List.append pm_c10_0 pm_c10_1
noncomputable def pm_c11_0 : List (Option pm_I) := [some (.aload 0, 1, 0), some (.getfield 67, 3, 307), none, none, some (.iload 1, 1, 0), some (.invokeinterface 6048 2, 3, 655), none, none, some (.ifCond .ne 14, 3, 0), none, none, some (.iconst (8), 2, 0), none, some (.ireturn, 1, 0), some (.aload 0, 1, 0), some (.getfield 67, 3, 307), none, none, some (.aload 0, 1, 0), some (.getfield 66, 3, 306), none, none, some (.getfield 448, 3, 281), none, none, some (.iload 1, 1, 0), some (.invokeinterface 6054 3, 3, 663), none, none, some (.ifCond .eq 36, 3, 0), none, none, some (.iconst (0), 1, 0), some (.goto 38, 3, 0), none, none, some (.iconst (9), 2, 0), none, some (.ireturn, 1, 0)]
/-- FrameTyper$Checker.goingFault(I)I -/
noncomputable def pm_c11 : List (Option pm_I) := pm_c11_0
noncomputable def pm_c12_0 : List (Option pm_I) := [some (.iconst (0), 1, 0), some (.istore 1, 1, 0), some (.iload 1, 1, 0), some (.iconst (48), 2, 0), none, some (.if_icmp .ge 42, 3, 0), none, none, some (.aload 0, 1, 0), some (.getfield 67, 3, 307), none, none, some (.iload 1, 1, 0), some (.invokeinterface 6048 2, 3, 655), none, none, some (.ifCond .eq 36, 3, 0), none, none, some (.aload 0, 1, 0), some (.getfield 65, 3, 305), none, none, some (.iload 1, 1, 0), some (.invokeinterface 2022 2, 3, 646), none, none, some (.ifCond .ne 36, 3, 0), none, none, some (.iconst (1000), 3, 0), none, none, some (.iload 1, 1, 0), some (.iadd, 1, 0), some (.ireturn, 1, 0), some (.iinc 1 1, 3, 0), none, none, some (.goto 2, 3, 0)]
noncomputable def pm_c12_1 : List (Option pm_I) := [none, none, some (.iconst (0), 1, 0), some (.ireturn, 1, 0)]
/-- FrameTyper$Checker.strayFrame()I -/
noncomputable def pm_c12 : List (Option pm_I) := List.append pm_c12_0 pm_c12_1
noncomputable def pm_c13_0 : List (Option pm_I) := [some (.aload 0, 1, 0), some (.invokespecial 9999, 3, 165), none, none, some (.aload 0, 1, 0), some (.new 0, 3, 166), none, none, some (.dup, 1, 0), some (.iconst (48), 2, 0), none, some (.invokeinterface 0 2, 3, 168), none, none, some (.checkcast 128, 3, 182), none, none, some (.aload 0, 1, 0), some (.iconst (48), 2, 0), none, some (.newarray .boolean, 2, 0), none, some (.checkcast 129, 3, 184), none, none, some (.return_, 1, 0)]
/-- FrameTyper$Code.<init>()V -/
noncomputable def pm_c13 : List (Option pm_I) := pm_c13_0
noncomputable def pm_c14_0 : List (Option pm_I) := [some (.aload 0, 1, 0), some (.getfield 128, 3, 182), none, none, some (.getfield 1, 3, 174), none, none, some (.ireturn, 1, 0)]
/-- FrameTyper$Code.size()I -/
noncomputable def pm_c14 : List (Option pm_I) := pm_c14_0
noncomputable def pm_c15_0 : List (Option pm_I) := [some (.aload 0, 1, 0), some (.getfield 128, 3, 182), none, none, some (.iload 1, 1, 0), some (.invokeinterface 2 2, 3, 633), none, none, some (.ireturn, 1, 0)]
/-- FrameTyper$Code.number(I)I -/
noncomputable def pm_c15 : List (Option pm_I) := pm_c15_0
noncomputable def pm_c16_0 : List (Option pm_I) := [some (.aload 0, 1, 0), some (.getfield 128, 3, 182), none, none, some (.iload 1, 1, 0), some (.iconst (1), 1, 0), some (.iadd, 1, 0), some (.invokeinterface 2 2, 3, 633), none, none, some (.ireturn, 1, 0)]
/-- FrameTyper$Code.x(I)I -/
noncomputable def pm_c16 : List (Option pm_I) := pm_c16_0
noncomputable def pm_c17_0 : List (Option pm_I) := [some (.aload 0, 1, 0), some (.getfield 128, 3, 182), none, none, some (.iload 1, 1, 0), some (.invokeinterface 2 2, 3, 633), none, none, some (.istore 2, 1, 0), some (.iload 2, 1, 0), some (.ifCond .lt 27, 3, 0), none, none, some (.iload 2, 1, 0), some (.iconst (22), 2, 0), none, some (.if_icmp .ge 27, 3, 0), none, none, some (.getstatic 1001, 3, 642), none, none, some (.iload 2, 1, 0), some (.iaload, 1, 0), some (.goto 28, 3, 0), none, none, some (.iconst (0), 1, 0), some (.ireturn, 1, 0)]
/-- FrameTyper$Code.xBound(I)I -/
noncomputable def pm_c17 : List (Option pm_I) := pm_c17_0
noncomputable def pm_c18_0 : List (Option pm_I) := [some (.aload 0, 1, 0), some (.iload 1, 1, 0), some (.invokeinterface 2017 2, 3, 638), none, none, some (.ifCond .ne 14, 3, 0), none, none, some (.iload 1, 1, 0), some (.iconst (1), 1, 0), some (.iadd, 1, 0), some (.goto 17, 3, 0), none, none, some (.iload 1, 1, 0), some (.iconst (2), 1, 0), some (.iadd, 1, 0), some (.ireturn, 1, 0)]
/-- FrameTyper$Code.behind(I)I -/
noncomputable def pm_c18 : List (Option pm_I) := pm_c18_0
noncomputable def pm_c19_0 : List (Option pm_I) := [some (.aload 0, 1, 0), some (.iload 1, 1, 0), some (.invokeinterface 2015 2, 3, 629), none, none, some (.istore 2, 1, 0), some (.iload 2, 1, 0), some (.ifCond .lt 32, 3, 0), none, none, some (.iload 2, 1, 0), some (.iconst (22), 2, 0), none, some (.if_icmp .ge 32, 3, 0), none, none, some (.aload 0, 1, 0), some (.iload 1, 1, 0), some (.invokeinterface 2018 2, 3, 634), none, none, some (.aload 0, 1, 0), some (.invokeinterface 2014 1, 3, 621), none, none, some (.if_icmp .gt 32, 3, 0), none, none, some (.iconst (1), 1, 0), some (.goto 33, 3, 0), none, none, some (.iconst (0), 1, 0), some (.freturn, 1, 0)]
/-- FrameTyper$Code.isWhole(I)Z -/
noncomputable def pm_c19 : List (Option pm_I) := pm_c19_0
noncomputable def pm_c20_0 : List (Option pm_I) := [some (.aload 0, 1, 0), some (.iload 1, 1, 0), some (.invokeinterface 2017 2, 3, 638), none, none, some (.ifCond .eq 21, 3, 0), none, none, some (.aload 0, 1, 0), some (.iload 1, 1, 0), some (.invokeinterface 2016 2, 3, 705), none, none, some (.aload 0, 1, 0), some (.iload 1, 1, 0), some (.invokeinterface 2017 2, 3, 638), none, none, some (.if_icmp .ge 25, 3, 0), none, none, some (.iconst (1), 1, 0), some (.goto 26, 3, 0), none, none, some (.iconst (0), 1, 0), some (.freturn, 1, 0)]
/-- FrameTyper$Code.isXRight(I)Z -/
noncomputable def pm_c20 : List (Option pm_I) := pm_c20_0
noncomputable def pm_c21_0 : List (Option pm_I) := [some (.iconst (0), 1, 0), some (.istore 1, 1, 0), some (.iconst (0), 1, 0), some (.istore 2, 1, 0), some (.iload 2, 1, 0), some (.iconst (48), 2, 0), none, some (.if_icmp .ge 63, 3, 0), none, none, some (.aload 0, 1, 0), some (.getfield 129, 3, 184), none, none, some (.iload 2, 1, 0), some (.iload 2, 1, 0), some (.iload 1, 1, 0), some (.if_icmp .ne 32, 3, 0), none, none, some (.iload 2, 1, 0), some (.aload 0, 1, 0), some (.invokeinterface 2014 1, 3, 621), none, none, some (.if_icmp .ge 32, 3, 0), none, none, some (.iconst (1), 1, 0), some (.goto 33, 3, 0), none, none, some (.iconst (0), 1, 0), some (.bastore, 1, 0), some (.aload 0, 1, 0), some (.getfield 129, 3, 184), none, none, some (.iload 2, 1, 0), some (.baload, 1, 0)]
noncomputable def pm_c21_1 : List (Option pm_I) := [some (.ifCond .eq 57, 3, 0), none, none, some (.aload 0, 1, 0), some (.iload 2, 1, 0), some (.invokeinterface 2019 2, 3, 625), none, none, some (.ifCond .eq 57, 3, 0), none, none, some (.aload 0, 1, 0), some (.iload 2, 1, 0), some (.invokeinterface 2018 2, 3, 634), none, none, some (.istore 1, 1, 0), some (.iinc 2 1, 3, 0), none, none, some (.goto 4, 3, 0), none, none, some (.return_, 1, 0)]
/-- FrameTyper$Code.findBegins()V -/
noncomputable def pm_c21 : List (Option pm_I) := List.append pm_c21_0 pm_c21_1
noncomputable def pm_c22_0 : List (Option pm_I) := [some (.iload 1, 1, 0), some (.ifCond .lt 23, 3, 0), none, none, some (.iload 1, 1, 0), some (.iconst (48), 2, 0), none, some (.if_icmp .ge 23, 3, 0), none, none, some (.aload 0, 1, 0), some (.getfield 129, 3, 184), none, none, some (.iload 1, 1, 0), some (.baload, 1, 0), some (.ifCond .eq 23, 3, 0), none, none, some (.iconst (1), 1, 0), some (.goto 24, 3, 0), none, none, some (.iconst (0), 1, 0), some (.freturn, 1, 0)]
/-- FrameTyper$Code.begins(I)Z -/
noncomputable def pm_c22 : List (Option pm_I) := pm_c22_0
noncomputable def pm_c23_0 : List (Option pm_I) := [some (.aload 0, 1, 0), some (.iload 1, 1, 0), some (.invokeinterface 2022 2, 3, 690), none, none, some (.ifCond .eq 41, 3, 0), none, none, some (.aload 0, 1, 0), some (.getfield 128, 3, 182), none, none, some (.iload 1, 1, 0), some (.invokeinterface 2 2, 3, 633), none, none, some (.iconst (14), 2, 0), none, some (.if_icmp .ne 41, 3, 0), none, none, some (.aload 0, 1, 0), some (.getfield 128, 3, 182), none, none, some (.iload 1, 1, 0), some (.iconst (1), 1, 0), some (.iadd, 1, 0), some (.invokeinterface 2 2, 3, 633), none, none, some (.multianewarray 87 1, 3, 691), none, none, some (.ifCond .eq 41, 3, 0), none, none, some (.iconst (1), 1, 0), some (.goto 42, 3, 0), none]
noncomputable def pm_c23_1 : List (Option pm_I) := [none, some (.iconst (0), 1, 0), some (.freturn, 1, 0)]
/-- FrameTyper$Code.isNewOfClass(I)Z -/
noncomputable def pm_c23 : List (Option pm_I) := List.append pm_c23_0 pm_c23_1
noncomputable def pm_c24_0 : List (Option pm_I) := [some (.aload 0, 1, 0), some (.iload 1, 1, 0), some (.invokeinterface 2015 2, 3, 629), none, none, some (.istore 2, 1, 0), some (.iload 2, 1, 0), some (.iconst (11), 2, 0), none, some (.if_icmp .eq 24, 3, 0), none, none, some (.iload 2, 1, 0), some (.iconst (12), 2, 0), none, some (.if_icmp .eq 24, 3, 0), none, none, some (.iload 2, 1, 0), some (.iconst (13), 2, 0), none, some (.if_icmp .ne 28, 3, 0), none, none, some (.iconst (1), 1, 0), some (.goto 29, 3, 0), none, none, some (.iconst (0), 1, 0), some (.freturn, 1, 0)]
/-- FrameTyper$Code.goes(I)Z -/
noncomputable def pm_c24 : List (Option pm_I) := pm_c24_0
noncomputable def pm_c25_0 : List (Option pm_I) := [some (.aload 0, 1, 0), some (.iload 1, 1, 0), some (.invokeinterface 2015 2, 3, 629), none, none, some (.istore 2, 1, 0), some (.iload 2, 1, 0), some (.iconst (11), 2, 0), none, some (.if_icmp .eq 28, 3, 0), none, none, some (.iload 2, 1, 0), some (.iconst (19), 2, 0), none, some (.if_icmp .eq 28, 3, 0), none, none, some (.iload 2, 1, 0), some (.iconst (21), 2, 0), none, some (.if_icmp .eq 28, 3, 0), none, none, some (.iconst (1), 1, 0), some (.goto 29, 3, 0), none, none, some (.iconst (0), 1, 0), some (.freturn, 1, 0)]
/-- FrameTyper$Code.goesOn(I)Z -/
noncomputable def pm_c25 : List (Option pm_I) := pm_c25_0
noncomputable def pm_c26_0 : List (Option pm_I) := [some (.iload 1, 1, 0), some (.aload 0, 1, 0), some (.iload 1, 1, 0), some (.invokeinterface 2016 2, 3, 705), none, none, some (.i2b, 1, 0), some (.iadd, 1, 0), some (.ireturn, 1, 0)]
/-- FrameTyper$Code.target(I)I -/
noncomputable def pm_c26 : List (Option pm_I) := pm_c26_0
noncomputable def pm_c27_0 : List (Option pm_I) := [some (.aload 0, 1, 0), some (.invokespecial 9999, 3, 322), none, none, some (.aload 0, 1, 0), some (.new 9, 3, 323), none, none, some (.dup, 1, 0), some (.invokeinterface 9077 1, 3, 325), none, none, some (.checkcast 196, 3, 351), none, none, some (.aload 0, 1, 0), some (.iconst (49), 2, 0), none, some (.newarray .boolean, 2, 0), none, some (.checkcast 197, 3, 352), none, none, some (.aload 0, 1, 0), some (.iconst (49), 2, 0), none, some (.newarray .boolean, 2, 0), none, some (.checkcast 198, 3, 353), none, none, some (.aload 0, 1, 0), some (.aload 1, 1, 0), some (.checkcast 192, 3, 347), none, none, some (.aload 0, 1, 0), some (.aload 2, 1, 0), some (.checkcast 193, 3, 348), none]
noncomputable def pm_c27_1 : List (Option pm_I) := [none, some (.aload 0, 1, 0), some (.aload 3, 1, 0), some (.checkcast 194, 3, 349), none, none, some (.aload 0, 1, 0), some (.new 6, 3, 345), none, none, some (.dup, 1, 0), some (.aload 1, 1, 0), some (.invokeinterface 6046 2, 3, 346), none, none, some (.checkcast 195, 3, 350), none, none, some (.return_, 1, 0)]
/-- FrameTyper$Maker.<init>(LFrameTyper$World;LFrameTyper$Code;LFrameTyper$Stepper;)V -/
noncomputable def pm_c27 : List (Option pm_I) := List.append pm_c27_0 pm_c27_1
noncomputable def pm_c28_0 : List (Option pm_I) := [some (.aload 0, 1, 0), some (.getfield 193, 3, 348), none, none, some (.invokeinterface 2021 1, 3, 806), none, none, some (.aload 0, 1, 0), some (.getfield 195, 3, 350), none, none, some (.invokeinterface 6047 1, 3, 807), none, none, some (.aload 0, 1, 0), some (.getfield 197, 3, 352), none, none, some (.multianewarray 29 1, 3, 808), none, none, some (.aload 0, 1, 0), some (.getfield 194, 3, 349), none, none, some (.getfield 448, 3, 282), none, none, some (.aload 0, 1, 0), some (.getfield 192, 3, 347), none, none, some (.getfield 644, 3, 146), none, none, some (.invokeinterface 5040 2, 3, 811), none, none, some (.aload 0, 1, 0), some (.iconst (0), 1, 0)]
noncomputable def pm_c28_1 : List (Option pm_I) := [some (.invokeinterface 3033 2, 3, 812), none, none, some (.pop, 1, 0), some (.iconst (0), 1, 0), some (.istore 1, 1, 0), some (.iload 1, 1, 0), some (.iconst (1000000), 2, 827), none, some (.if_icmp .ge 83, 3, 0), none, none, some (.aload 0, 1, 0), some (.invokeinterface 3031 1, 3, 828), none, none, some (.istore 2, 1, 0), some (.iload 2, 1, 0), some (.iconst (-1), 1, 0), some (.if_icmp .ne 65, 3, 0), none, none, some (.goto 83, 3, 0), none, none, some (.aload 0, 1, 0), some (.iload 2, 1, 0), some (.invokeinterface 3032 2, 3, 832), none, none, some (.istore 3, 1, 0), some (.iload 3, 1, 0), some (.ifCond .eq 77, 3, 0), none, none, some (.iload 3, 1, 0), some (.ireturn, 1, 0), some (.iinc 1 1, 3, 0), none, none]
noncomputable def pm_c28_2 : List (Option pm_I) := [some (.goto 46, 3, 0), none, none, some (.aload 0, 1, 0), some (.invokeinterface 3034 1, 3, 844), none, none, some (.ireturn, 1, 0)]
/-- FrameTyper$Maker.firstFault()I -/
noncomputable def pm_c28 : List (Option pm_I) := List.append pm_c28_0 (List.append pm_c28_1 pm_c28_2)
noncomputable def pm_c29_0 : List (Option pm_I) := [some (.iconst (0), 1, 0), some (.istore 1, 1, 0), some (.iload 1, 1, 0), some (.aload 0, 1, 0), some (.arraylength, 1, 0), some (.if_icmp .ge 18, 3, 0), none, none, some (.aload 0, 1, 0), some (.iload 1, 1, 0), some (.iconst (0), 1, 0), some (.bastore, 1, 0), some (.iinc 1 1, 3, 0), none, none, some (.goto 2, 3, 0), none, none, some (.return_, 1, 0)]
/-- FrameTyper$Maker.unmark([Z)V -/
noncomputable def pm_c29 : List (Option pm_I) := pm_c29_0
noncomputable def pm_c30_0 : List (Option pm_I) := [some (.aload 0, 1, 0), some (.getfield 196, 3, 351), none, none, some (.aload 0, 1, 0), some (.getfield 192, 3, 347), none, none, some (.getfield 644, 3, 146), none, none, some (.aload 0, 1, 0), some (.invokeinterface 3035 1, 3, 853), none, none, some (.invokeinterface 9078 3, 3, 861), none, none, some (.iconst (0), 1, 0), some (.istore 1, 1, 0), some (.iload 1, 1, 0), some (.aload 0, 1, 0), some (.getfield 193, 3, 348), none, none, some (.invokeinterface 2014 1, 3, 848), none, none, some (.if_icmp .ge 58, 3, 0), none, none, some (.aload 0, 1, 0), some (.getfield 198, 3, 353), none, none, some (.iload 1, 1, 0), some (.baload, 1, 0), some (.ifCond .eq 52, 3, 0), none, none]
noncomputable def pm_c30_1 : List (Option pm_I) := [some (.aload 0, 1, 0), some (.getfield 196, 3, 351), none, none, some (.aload 0, 1, 0), some (.getfield 195, 3, 350), none, none, some (.iload 1, 1, 0), some (.invokeinterface 9079 3, 3, 868), none, none, some (.iinc 1 1, 3, 0), none, none, some (.goto 20, 3, 0), none, none, some (.aload 0, 1, 0), some (.getfield 196, 3, 351), none, none, some (.getfield 576, 3, 332), none, none, some (.areturn, 1, 0)]
/-- FrameTyper$Maker.pack()LFrameTyper$Bytes; -/
noncomputable def pm_c30 : List (Option pm_I) := List.append pm_c30_0 pm_c30_1
noncomputable def pm_c31_0 : List (Option pm_I) := [some (.iconst (0), 1, 0), some (.istore 1, 1, 0), some (.iload 1, 1, 0), some (.iconst (48), 2, 0), none, some (.if_icmp .gt 25, 3, 0), none, none, some (.aload 0, 1, 0), some (.getfield 197, 3, 352), none, none, some (.iload 1, 1, 0), some (.baload, 1, 0), some (.ifCond .eq 19, 3, 0), none, none, some (.iload 1, 1, 0), some (.ireturn, 1, 0), some (.iinc 1 1, 3, 0), none, none, some (.goto 2, 3, 0), none, none, some (.iconst (-1), 1, 0), some (.ireturn, 1, 0)]
/-- FrameTyper$Maker.lowestWaiting()I -/
noncomputable def pm_c31 : List (Option pm_I) := pm_c31_0
noncomputable def pm_c32_0 : List (Option pm_I) := [some (.aload 0, 1, 0), some (.getfield 197, 3, 352), none, none, some (.iload 1, 1, 0), some (.iconst (0), 1, 0), some (.bastore, 1, 0), some (.aload 0, 1, 0), some (.getfield 193, 3, 348), none, none, some (.iload 1, 1, 0), some (.invokeinterface 2019 2, 3, 836), none, none, some (.ifCond .ne 23, 3, 0), none, none, some (.iconst (100), 2, 0), none, some (.iload 1, 1, 0), some (.iadd, 1, 0), some (.ireturn, 1, 0), some (.aload 0, 1, 0), some (.getfield 195, 3, 350), none, none, some (.iload 1, 1, 0), some (.aload 0, 1, 0), some (.getfield 194, 3, 349), none, none, some (.getfield 448, 3, 282), none, none, some (.invokeinterface 6053 3, 3, 837), none, none, some (.aload 0, 1, 0), some (.getfield 194, 3, 349)]
noncomputable def pm_c32_1 : List (Option pm_I) := [none, none, some (.iload 1, 1, 0), some (.invokeinterface 7057 2, 3, 838), none, none, some (.istore 2, 1, 0), some (.iload 2, 1, 0), some (.ifCond .eq 58, 3, 0), none, none, some (.iconst (100), 2, 0), none, some (.iload 2, 1, 0), some (.imul, 1, 0), some (.iload 1, 1, 0), some (.iadd, 1, 0), some (.ireturn, 1, 0), some (.aload 0, 1, 0), some (.getfield 193, 3, 348), none, none, some (.iload 1, 1, 0), some (.invokeinterface 2024 2, 3, 839), none, none, some (.istore 3, 1, 0), some (.aload 0, 1, 0), some (.getfield 193, 3, 348), none, none, some (.iload 1, 1, 0), some (.invokeinterface 2026 2, 3, 840), none, none, some (.istore 4, 2, 0), none, some (.iload 3, 1, 0), some (.ifCond .eq 99, 3, 0), none]
noncomputable def pm_c32_2 : List (Option pm_I) := [none, some (.aload 0, 1, 0), some (.getfield 193, 3, 348), none, none, some (.iload 4, 2, 0), none, some (.invokeinterface 2022 2, 3, 841), none, none, some (.ifCond .ne 99, 3, 0), none, none, some (.iconst (800), 3, 0), none, none, some (.iload 1, 1, 0), some (.iadd, 1, 0), some (.ireturn, 1, 0), some (.aload 0, 1, 0), some (.getfield 193, 3, 348), none, none, some (.iload 1, 1, 0), some (.invokeinterface 2018 2, 3, 842), none, none, some (.istore 5, 2, 0), none, some (.aload 0, 1, 0), some (.getfield 193, 3, 348), none, none, some (.iload 1, 1, 0), some (.invokeinterface 2025 2, 3, 843), none, none, some (.ifCond .eq 136, 3, 0), none, none]
noncomputable def pm_c32_3 : List (Option pm_I) := [some (.aload 0, 1, 0), some (.iload 5, 2, 0), none, some (.invokeinterface 3033 2, 3, 812), none, none, some (.ifCond .ne 136, 3, 0), none, none, some (.iconst (300), 3, 0), none, none, some (.iload 5, 2, 0), none, some (.iadd, 1, 0), some (.ireturn, 1, 0), some (.iload 3, 1, 0), some (.ifCond .eq 156, 3, 0), none, none, some (.aload 0, 1, 0), some (.iload 4, 2, 0), none, some (.invokeinterface 3033 2, 3, 812), none, none, some (.ifCond .ne 156, 3, 0), none, none, some (.iconst (300), 3, 0), none, none, some (.iload 4, 2, 0), none, some (.iadd, 1, 0), some (.ireturn, 1, 0), some (.iconst (0), 1, 0), some (.ireturn, 1, 0)]
/-- FrameTyper$Maker.work(I)I -/
noncomputable def pm_c32 : List (Option pm_I) := List.append pm_c32_0 (List.append pm_c32_1 (List.append pm_c32_2 pm_c32_3))
noncomputable def pm_c33_0 : List (Option pm_I) := [some (.aload 0, 1, 0), some (.getfield 194, 3, 349), none, none, some (.getfield 448, 3, 282), none, none, some (.astore 2, 1, 0), some (.aload 0, 1, 0), some (.getfield 195, 3, 350), none, none, some (.iload 1, 1, 0), some (.invokeinterface 6048 2, 3, 816), none, none, some (.ifCond .ne 37, 3, 0), none, none, some (.aload 0, 1, 0), some (.getfield 195, 3, 350), none, none, some (.iload 1, 1, 0), some (.aload 2, 1, 0), some (.invokeinterface 6052 3, 3, 817), none, none, some (.aload 0, 1, 0), some (.getfield 197, 3, 352), none, none, some (.iload 1, 1, 0), some (.iconst (1), 1, 0), some (.bastore, 1, 0), some (.iconst (1), 1, 0), some (.freturn, 1, 0), some (.aload 0, 1, 0), some (.getfield 195, 3, 350), none]
noncomputable def pm_c33_1 : List (Option pm_I) := [none, some (.iload 1, 1, 0), some (.invokeinterface 6049 2, 3, 818), none, none, some (.aload 2, 1, 0), some (.getfield 321, 3, 219), none, none, some (.if_icmp .eq 54, 3, 0), none, none, some (.iconst (0), 1, 0), some (.freturn, 1, 0), some (.aload 0, 1, 0), some (.getfield 195, 3, 350), none, none, some (.aload 2, 1, 0), some (.iload 1, 1, 0), some (.invokeinterface 6055 3, 3, 819), none, none, some (.ifCond .eq 73, 3, 0), none, none, some (.aload 0, 1, 0), some (.getfield 197, 3, 352), none, none, some (.iload 1, 1, 0), some (.iconst (1), 1, 0), some (.bastore, 1, 0), some (.iconst (1), 1, 0), some (.freturn, 1, 0)]
/-- FrameTyper$Maker.comesTo(I)Z -/
noncomputable def pm_c33 : List (Option pm_I) := List.append pm_c33_0 pm_c33_1
noncomputable def pm_c34_0 : List (Option pm_I) := [some (.iconst (0), 1, 0), some (.istore 1, 1, 0), some (.iload 1, 1, 0), some (.aload 0, 1, 0), some (.getfield 193, 3, 348), none, none, some (.invokeinterface 2014 1, 3, 848), none, none, some (.if_icmp .ge 47, 3, 0), none, none, some (.aload 0, 1, 0), some (.getfield 193, 3, 348), none, none, some (.iload 1, 1, 0), some (.invokeinterface 2022 2, 3, 841), none, none, some (.ifCond .eq 41, 3, 0), none, none, some (.aload 0, 1, 0), some (.getfield 195, 3, 350), none, none, some (.iload 1, 1, 0), some (.invokeinterface 6048 2, 3, 816), none, none, some (.ifCond .ne 41, 3, 0), none, none, some (.iconst (200), 3, 0), none, none, some (.iload 1, 1, 0), some (.iadd, 1, 0)]
noncomputable def pm_c34_1 : List (Option pm_I) := [some (.ireturn, 1, 0), some (.iinc 1 1, 3, 0), none, none, some (.goto 2, 3, 0), none, none, some (.iconst (0), 1, 0), some (.ireturn, 1, 0)]
/-- FrameTyper$Maker.firstUnreached()I -/
noncomputable def pm_c34 : List (Option pm_I) := List.append pm_c34_0 pm_c34_1
noncomputable def pm_c35_0 : List (Option pm_I) := [some (.aload 0, 1, 0), some (.getfield 198, 3, 353), none, none, some (.multianewarray 29 1, 3, 808), none, none, some (.iconst (0), 1, 0), some (.istore 1, 1, 0), some (.iload 1, 1, 0), some (.aload 0, 1, 0), some (.getfield 193, 3, 348), none, none, some (.invokeinterface 2014 1, 3, 848), none, none, some (.if_icmp .ge 42, 3, 0), none, none, some (.aload 0, 1, 0), some (.getfield 193, 3, 348), none, none, some (.iload 1, 1, 0), some (.invokeinterface 2022 2, 3, 841), none, none, some (.ifCond .eq 36, 3, 0), none, none, some (.aload 0, 1, 0), some (.iload 1, 1, 0), some (.invokeinterface 3036 2, 3, 857), none, none, some (.iinc 1 1, 3, 0), none, none, some (.goto 9, 3, 0)]
noncomputable def pm_c35_1 : List (Option pm_I) := [none, none, some (.iconst (0), 1, 0), some (.istore 1, 1, 0), some (.iconst (0), 1, 0), some (.istore 2, 1, 0), some (.iload 2, 1, 0), some (.aload 0, 1, 0), some (.getfield 193, 3, 348), none, none, some (.invokeinterface 2014 1, 3, 848), none, none, some (.if_icmp .ge 75, 3, 0), none, none, some (.aload 0, 1, 0), some (.getfield 198, 3, 353), none, none, some (.iload 2, 1, 0), some (.baload, 1, 0), some (.ifCond .eq 69, 3, 0), none, none, some (.iinc 1 1, 3, 0), none, none, some (.iinc 2 1, 3, 0), none, none, some (.goto 46, 3, 0), none, none, some (.iload 1, 1, 0), some (.ireturn, 1, 0)]
/-- FrameTyper$Maker.markFramed()I -/
noncomputable def pm_c35 : List (Option pm_I) := List.append pm_c35_0 pm_c35_1
noncomputable def pm_c36_0 : List (Option pm_I) := [some (.aload 0, 1, 0), some (.getfield 193, 3, 348), none, none, some (.iload 1, 1, 0), some (.invokeinterface 2024 2, 3, 839), none, none, some (.ifCond .eq 43, 3, 0), none, none, some (.aload 0, 1, 0), some (.getfield 193, 3, 348), none, none, some (.aload 0, 1, 0), some (.getfield 193, 3, 348), none, none, some (.iload 1, 1, 0), some (.invokeinterface 2026 2, 3, 840), none, none, some (.invokeinterface 2022 2, 3, 841), none, none, some (.ifCond .eq 43, 3, 0), none, none, some (.aload 0, 1, 0), some (.getfield 198, 3, 353), none, none, some (.aload 0, 1, 0), some (.getfield 193, 3, 348), none, none, some (.iload 1, 1, 0), some (.invokeinterface 2026 2, 3, 840), none]
noncomputable def pm_c36_1 : List (Option pm_I) := [none, some (.iconst (1), 1, 0), some (.bastore, 1, 0), some (.aload 0, 1, 0), some (.getfield 193, 3, 348), none, none, some (.iload 1, 1, 0), some (.invokeinterface 2025 2, 3, 843), none, none, some (.ifCond .ne 86, 3, 0), none, none, some (.aload 0, 1, 0), some (.getfield 193, 3, 348), none, none, some (.aload 0, 1, 0), some (.getfield 193, 3, 348), none, none, some (.iload 1, 1, 0), some (.invokeinterface 2018 2, 3, 842), none, none, some (.invokeinterface 2022 2, 3, 841), none, none, some (.ifCond .eq 86, 3, 0), none, none, some (.aload 0, 1, 0), some (.getfield 198, 3, 353), none, none, some (.aload 0, 1, 0), some (.getfield 193, 3, 348), none, none]
noncomputable def pm_c36_2 : List (Option pm_I) := [some (.iload 1, 1, 0), some (.invokeinterface 2018 2, 3, 842), none, none, some (.iconst (1), 1, 0), some (.bastore, 1, 0), some (.return_, 1, 0)]
/-- FrameTyper$Maker.markFrom(I)V -/
noncomputable def pm_c36 : List (Option pm_I) := List.append pm_c36_0 (List.append pm_c36_1 pm_c36_2)
noncomputable def pm_c37_0 : List (Option pm_I) := [some (.aload 0, 1, 0), some (.invokespecial 9999, 3, 112), none, none, some (.aload 0, 1, 0), some (.iconst (4), 1, 0), some (.newarray .int, 2, 0), none, some (.checkcast 256, 3, 113), none, none, some (.return_, 1, 0)]
/-- FrameTyper$Signature.<init>()V -/
noncomputable def pm_c37 : List (Option pm_I) := pm_c37_0
noncomputable def pm_c38_0 : List (Option pm_I) := [some (.iload 5, 2, 0), none, some (.ifCond .eq 15, 3, 0), none, none, some (.iload 5, 2, 0), none, some (.multianewarray 91 1, 3, 421), none, none, some (.ifCond .ne 15, 3, 0), none, none, some (.iconst (0), 1, 0), some (.freturn, 1, 0), some (.iload 1, 1, 0), some (.multianewarray 92 1, 3, 422), none, none, some (.ifCond .eq 44, 3, 0), none, none, some (.iload 2, 1, 0), some (.multianewarray 92 1, 3, 422), none, none, some (.ifCond .eq 44, 3, 0), none, none, some (.iload 3, 1, 0), some (.multianewarray 92 1, 3, 422), none, none, some (.ifCond .eq 44, 3, 0), none, none, some (.iload 4, 2, 0), none, some (.multianewarray 92 1, 3, 422), none]
noncomputable def pm_c38_1 : List (Option pm_I) := [none, some (.ifCond .ne 46, 3, 0), none, none, some (.iconst (0), 1, 0), some (.freturn, 1, 0), some (.iload 1, 1, 0), some (.iconst (-1), 1, 0), some (.if_icmp .ne 56, 3, 0), none, none, some (.iload 2, 1, 0), some (.iconst (-1), 1, 0), some (.if_icmp .ne 77, 3, 0), none, none, some (.iload 2, 1, 0), some (.iconst (-1), 1, 0), some (.if_icmp .ne 66, 3, 0), none, none, some (.iload 3, 1, 0), some (.iconst (-1), 1, 0), some (.if_icmp .ne 77, 3, 0), none, none, some (.iload 3, 1, 0), some (.iconst (-1), 1, 0), some (.if_icmp .ne 79, 3, 0), none, none, some (.iload 4, 2, 0), none, some (.iconst (-1), 1, 0), some (.if_icmp .eq 79, 3, 0), none, none, some (.iconst (0), 1, 0), some (.freturn, 1, 0), some (.aload 0, 1, 0)]
noncomputable def pm_c38_2 : List (Option pm_I) := [some (.getfield 256, 3, 113), none, none, some (.iconst (0), 1, 0), some (.iload 1, 1, 0), some (.iastore, 1, 0), some (.aload 0, 1, 0), some (.getfield 256, 3, 113), none, none, some (.iconst (1), 1, 0), some (.iload 2, 1, 0), some (.iastore, 1, 0), some (.aload 0, 1, 0), some (.getfield 256, 3, 113), none, none, some (.iconst (2), 1, 0), some (.iload 3, 1, 0), some (.iastore, 1, 0), some (.aload 0, 1, 0), some (.getfield 256, 3, 113), none, none, some (.iconst (3), 1, 0), some (.iload 4, 2, 0), none, some (.iastore, 1, 0), some (.aload 0, 1, 0), some (.iload 1, 1, 0), some (.iconst (-1), 1, 0), some (.if_icmp .ne 118, 3, 0), none, none, some (.iconst (0), 1, 0), some (.goto 147, 3, 0), none, none, some (.iload 2, 1, 0), some (.iconst (-1), 1, 0)]
noncomputable def pm_c38_3 : List (Option pm_I) := [some (.if_icmp .ne 127, 3, 0), none, none, some (.iconst (1), 1, 0), some (.goto 147, 3, 0), none, none, some (.iload 3, 1, 0), some (.iconst (-1), 1, 0), some (.if_icmp .ne 136, 3, 0), none, none, some (.iconst (2), 1, 0), some (.goto 147, 3, 0), none, none, some (.iload 4, 2, 0), none, some (.iconst (-1), 1, 0), some (.if_icmp .ne 146, 3, 0), none, none, some (.iconst (3), 1, 0), some (.goto 147, 3, 0), none, none, some (.iconst (4), 1, 0), some (.putfield 257, 3, 120), none, none, some (.aload 0, 1, 0), some (.iload 5, 2, 0), none, some (.putfield 258, 3, 122), none, none, some (.iconst (1), 1, 0), some (.freturn, 1, 0)]
/-- FrameTyper$Signature.set(IIIII)Z -/
noncomputable def pm_c38 : List (Option pm_I) := List.append pm_c38_0 (List.append pm_c38_1 (List.append pm_c38_2 pm_c38_3))
noncomputable def pm_c39_0 : List (Option pm_I) := [some (.aload 0, 1, 0), some (.invokespecial 9999, 3, 208), none, none, some (.aload 0, 1, 0), some (.iconst (9), 2, 0), none, some (.newarray .int, 2, 0), none, some (.checkcast 320, 3, 209), none, none, some (.return_, 1, 0)]
/-- FrameTyper$State.<init>()V -/
noncomputable def pm_c39 : List (Option pm_I) := pm_c39_0
noncomputable def pm_c40_0 : List (Option pm_I) := [some (.aload 0, 1, 0), some (.getfield 320, 3, 209), none, none, some (.iconst (0), 1, 0), some (.multianewarray 167 2, 3, 478), none, none, some (.aload 1, 1, 0), some (.getfield 256, 3, 115), none, none, some (.iconst (0), 1, 0), some (.aload 0, 1, 0), some (.getfield 320, 3, 209), none, none, some (.iconst (0), 1, 0), some (.aload 1, 1, 0), some (.getfield 257, 3, 118), none, none, some (.invokedynamic 0, 3, 479), none, none, some (.aload 0, 1, 0), some (.iconst (0), 1, 0), some (.putfield 321, 3, 214), none, none, some (.return_, 1, 0)]
/-- FrameTyper$State.enter(LFrameTyper$Signature;)V -/
noncomputable def pm_c40 : List (Option pm_I) := pm_c40_0
noncomputable def pm_c41_0 : List (Option pm_I) := [some (.iload 1, 1, 0), some (.aload 0, 1, 0), some (.getfield 321, 3, 214), none, none, some (.if_icmp .ge 26, 3, 0), none, none, some (.aload 0, 1, 0), some (.getfield 320, 3, 209), none, none, some (.iconst (4), 1, 0), some (.aload 0, 1, 0), some (.getfield 321, 3, 214), none, none, some (.iadd, 1, 0), some (.iconst (1), 1, 0), some (.isub, 1, 0), some (.iload 1, 1, 0), some (.isub, 1, 0), some (.iaload, 1, 0), some (.goto 27, 3, 0), none, none, some (.iconst (0), 1, 0), some (.ireturn, 1, 0)]
/-- FrameTyper$State.fromTop(I)I -/
noncomputable def pm_c41 : List (Option pm_I) := pm_c41_0
noncomputable def pm_c42_0 : List (Option pm_I) := [some (.aload 0, 1, 0), some (.getfield 321, 3, 214), none, none, some (.iconst (5), 1, 0), some (.if_icmp .ge 30, 3, 0), none, none, some (.aload 0, 1, 0), some (.getfield 320, 3, 209), none, none, some (.iconst (4), 1, 0), some (.aload 0, 1, 0), some (.getfield 321, 3, 214), none, none, some (.iadd, 1, 0), some (.iload 1, 1, 0), some (.iastore, 1, 0), some (.aload 0, 1, 0), some (.dup, 1, 0), some (.getfield 321, 3, 214), none, none, some (.iconst (1), 1, 0), some (.iadd, 1, 0), some (.putfield 321, 3, 214), none, none, some (.return_, 1, 0)]
/-- FrameTyper$State.push(I)V -/
noncomputable def pm_c42 : List (Option pm_I) := pm_c42_0
noncomputable def pm_c43_0 : List (Option pm_I) := [some (.aload 0, 1, 0), some (.iconst (0), 1, 0), some (.aload 0, 1, 0), some (.getfield 321, 3, 214), none, none, some (.iload 1, 1, 0), some (.isub, 1, 0), some (.dadd, 3, 758), none, none, some (.putfield 321, 3, 214), none, none, some (.return_, 1, 0)]
/-- FrameTyper$State.drop(I)V -/
noncomputable def pm_c43 : List (Option pm_I) := pm_c43_0
noncomputable def pm_c44_0 : List (Option pm_I) := [some (.iconst (0), 1, 0), some (.istore 2, 1, 0), some (.iload 2, 1, 0), some (.aload 0, 1, 0), some (.getfield 321, 3, 214), none, none, some (.if_icmp .ge 30, 3, 0), none, none, some (.aload 0, 1, 0), some (.getfield 320, 3, 209), none, none, some (.iconst (4), 1, 0), some (.iload 2, 1, 0), some (.iadd, 1, 0), some (.iaload, 1, 0), some (.iload 1, 1, 0), some (.if_icmp .ne 24, 3, 0), none, none, some (.iconst (1), 1, 0), some (.freturn, 1, 0), some (.iinc 2 1, 3, 0), none, none, some (.goto 2, 3, 0), none, none, some (.iconst (0), 1, 0), some (.freturn, 1, 0)]
/-- FrameTyper$State.stackHas(I)Z -/
noncomputable def pm_c44 : List (Option pm_I) := pm_c44_0
noncomputable def pm_c45_0 : List (Option pm_I) := [some (.iconst (0), 1, 0), some (.istore 3, 1, 0), some (.iload 3, 1, 0), some (.iconst (4), 1, 0), some (.aload 0, 1, 0), some (.getfield 321, 3, 214), none, none, some (.iadd, 1, 0), some (.if_icmp .ge 35, 3, 0), none, none, some (.aload 0, 1, 0), some (.getfield 320, 3, 209), none, none, some (.iload 3, 1, 0), some (.iaload, 1, 0), some (.iload 1, 1, 0), some (.if_icmp .ne 29, 3, 0), none, none, some (.aload 0, 1, 0), some (.getfield 320, 3, 209), none, none, some (.iload 3, 1, 0), some (.iload 2, 1, 0), some (.iastore, 1, 0), some (.iinc 3 1, 3, 0), none, none, some (.goto 2, 3, 0), none, none, some (.return_, 1, 0)]
/-- FrameTyper$State.replace(II)V -/
noncomputable def pm_c45 : List (Option pm_I) := pm_c45_0
noncomputable def pm_c46_0 : List (Option pm_I) := [some (.aload 0, 1, 0), some (.invokespecial 9999, 3, 230), none, none, some (.aload 0, 1, 0), some (.iconst (441), 3, 0), none, none, some (.newarray .int, 2, 0), none, some (.checkcast 385, 3, 233), none, none, some (.aload 0, 1, 0), some (.iconst (49), 2, 0), none, some (.newarray .int, 2, 0), none, some (.checkcast 386, 3, 234), none, none, some (.aload 0, 1, 0), some (.aload 1, 1, 0), some (.checkcast 384, 3, 232), none, none, some (.aload 0, 1, 0), some (.getfield 386, 3, 234), none, none, some (.iconst (-1), 1, 0), some (.multianewarray 167 2, 3, 231), none, none, some (.return_, 1, 0)]
/-- FrameTyper$States.<init>(LFrameTyper$World;)V -/
noncomputable def pm_c46 : List (Option pm_I) := pm_c46_0
noncomputable def pm_c47_0 : List (Option pm_I) := [some (.aload 0, 1, 0), some (.getfield 386, 3, 234), none, none, some (.iconst (-1), 1, 0), some (.multianewarray 167 2, 3, 231), none, none, some (.return_, 1, 0)]
/-- FrameTyper$States.forgetAll()V -/
noncomputable def pm_c47 : List (Option pm_I) := pm_c47_0
noncomputable def pm_c48_0 : List (Option pm_I) := [some (.iload 1, 1, 0), some (.ifCond .lt 24, 3, 0), none, none, some (.iload 1, 1, 0), some (.iconst (48), 2, 0), none, some (.if_icmp .gt 24, 3, 0), none, none, some (.aload 0, 1, 0), some (.getfield 386, 3, 234), none, none, some (.iload 1, 1, 0), some (.iaload, 1, 0), some (.iconst (-1), 1, 0), some (.if_icmp .eq 24, 3, 0), none, none, some (.iconst (1), 1, 0), some (.goto 25, 3, 0), none, none, some (.iconst (0), 1, 0), some (.freturn, 1, 0)]
/-- FrameTyper$States.has(I)Z -/
noncomputable def pm_c48 : List (Option pm_I) := pm_c48_0
noncomputable def pm_c49_0 : List (Option pm_I) := [some (.aload 0, 1, 0), some (.getfield 386, 3, 234), none, none, some (.iload 1, 1, 0), some (.iaload, 1, 0), some (.ireturn, 1, 0)]
/-- FrameTyper$States.height(I)I -/
noncomputable def pm_c49 : List (Option pm_I) := pm_c49_0
noncomputable def pm_c50_0 : List (Option pm_I) := [some (.aload 0, 1, 0), some (.getfield 385, 3, 233), none, none, some (.iload 1, 1, 0), some (.iconst (9), 2, 0), none, some (.imul, 1, 0), some (.iload 2, 1, 0), some (.iadd, 1, 0), some (.iaload, 1, 0), some (.ireturn, 1, 0)]
/-- FrameTyper$States.local(II)I -/
noncomputable def pm_c50 : List (Option pm_I) := pm_c50_0
noncomputable def pm_c51_0 : List (Option pm_I) := [some (.aload 0, 1, 0), some (.getfield 385, 3, 233), none, none, some (.iload 1, 1, 0), some (.iconst (9), 2, 0), none, some (.imul, 1, 0), some (.iconst (4), 1, 0), some (.iadd, 1, 0), some (.iload 2, 1, 0), some (.iadd, 1, 0), some (.iaload, 1, 0), some (.ireturn, 1, 0)]
/-- FrameTyper$States.stacked(II)I -/
noncomputable def pm_c51 : List (Option pm_I) := pm_c51_0
noncomputable def pm_c52_0 : List (Option pm_I) := [some (.aload 0, 1, 0), some (.getfield 386, 3, 234), none, none, some (.iload 1, 1, 0), some (.aload 2, 1, 0), some (.getfield 321, 3, 218), none, none, some (.iastore, 1, 0), some (.aload 2, 1, 0), some (.getfield 320, 3, 212), none, none, some (.iconst (0), 1, 0), some (.aload 0, 1, 0), some (.getfield 385, 3, 233), none, none, some (.iload 1, 1, 0), some (.iconst (9), 2, 0), none, some (.imul, 1, 0), some (.iconst (9), 2, 0), none, some (.invokedynamic 0, 3, 515), none, none, some (.return_, 1, 0)]
/-- FrameTyper$States.store(ILFrameTyper$State;)V -/
noncomputable def pm_c52 : List (Option pm_I) := pm_c52_0
noncomputable def pm_c53_0 : List (Option pm_I) := [some (.aload 2, 1, 0), some (.aload 0, 1, 0), some (.getfield 386, 3, 234), none, none, some (.iload 1, 1, 0), some (.iaload, 1, 0), some (.putfield 321, 3, 218), none, none, some (.aload 0, 1, 0), some (.getfield 385, 3, 233), none, none, some (.iload 1, 1, 0), some (.iconst (9), 2, 0), none, some (.imul, 1, 0), some (.aload 2, 1, 0), some (.getfield 320, 3, 212), none, none, some (.iconst (0), 1, 0), some (.iconst (9), 2, 0), none, some (.invokedynamic 0, 3, 515), none, none, some (.return_, 1, 0)]
/-- FrameTyper$States.load(ILFrameTyper$State;)V -/
noncomputable def pm_c53 : List (Option pm_I) := pm_c53_0
noncomputable def pm_c54_0 : List (Option pm_I) := [some (.aload 1, 1, 0), some (.getfield 321, 3, 218), none, none, some (.aload 0, 1, 0), some (.getfield 386, 3, 234), none, none, some (.iload 2, 1, 0), some (.iaload, 1, 0), some (.if_icmp .eq 15, 3, 0), none, none, some (.iconst (0), 1, 0), some (.freturn, 1, 0), some (.iconst (0), 1, 0), some (.istore 3, 1, 0), some (.iload 3, 1, 0), some (.iconst (4), 1, 0), some (.aload 1, 1, 0), some (.getfield 321, 3, 218), none, none, some (.iadd, 1, 0), some (.if_icmp .ge 62, 3, 0), none, none, some (.aload 0, 1, 0), some (.getfield 384, 3, 232), none, none, some (.aload 1, 1, 0), some (.getfield 320, 3, 212), none, none, some (.iload 3, 1, 0), some (.iaload, 1, 0), some (.aload 0, 1, 0), some (.getfield 385, 3, 233), none]
noncomputable def pm_c54_1 : List (Option pm_I) := [none, some (.iload 2, 1, 0), some (.iconst (9), 2, 0), none, some (.imul, 1, 0), some (.iload 3, 1, 0), some (.iadd, 1, 0), some (.iaload, 1, 0), some (.invokeinterface 10096 3, 3, 667), none, none, some (.ifCond .ne 56, 3, 0), none, none, some (.iconst (0), 1, 0), some (.freturn, 1, 0), some (.iinc 3 1, 3, 0), none, none, some (.goto 17, 3, 0), none, none, some (.iconst (1), 1, 0), some (.freturn, 1, 0)]
/-- FrameTyper$States.isFitBy(LFrameTyper$State;I)Z -/
noncomputable def pm_c54 : List (Option pm_I) := List.append pm_c54_0 pm_c54_1
noncomputable def pm_c55_0 : List (Option pm_I) := [some (.iconst (0), 1, 0), some (.istore 3, 1, 0), some (.iconst (0), 1, 0), some (.istore 4, 2, 0), none, some (.iload 4, 2, 0), none, some (.iconst (4), 1, 0), some (.aload 0, 1, 0), some (.getfield 386, 3, 234), none, none, some (.iload 2, 1, 0), some (.iaload, 1, 0), some (.iadd, 1, 0), some (.if_icmp .ge 87, 3, 0), none, none, some (.aload 0, 1, 0), some (.getfield 385, 3, 233), none, none, some (.iload 2, 1, 0), some (.iconst (9), 2, 0), none, some (.imul, 1, 0), some (.iload 4, 2, 0), none, some (.iadd, 1, 0), some (.iaload, 1, 0), some (.istore 5, 2, 0), none, some (.aload 0, 1, 0), some (.getfield 384, 3, 232), none, none, some (.iload 5, 2, 0), none, some (.aload 1, 1, 0), some (.getfield 320, 3, 212)]
noncomputable def pm_c55_1 : List (Option pm_I) := [none, none, some (.iload 4, 2, 0), none, some (.iaload, 1, 0), some (.invokeinterface 10097 3, 3, 823), none, none, some (.istore 6, 2, 0), none, some (.aload 0, 1, 0), some (.getfield 385, 3, 233), none, none, some (.iload 2, 1, 0), some (.iconst (9), 2, 0), none, some (.imul, 1, 0), some (.iload 4, 2, 0), none, some (.iadd, 1, 0), some (.iload 6, 2, 0), none, some (.iastore, 1, 0), some (.iload 3, 1, 0), some (.ifCond .ne 75, 3, 0), none, none, some (.iload 6, 2, 0), none, some (.iload 5, 2, 0), none, some (.if_icmp .eq 79, 3, 0), none, none, some (.iconst (1), 1, 0), some (.goto 80, 3, 0), none, none, some (.iconst (0), 1, 0)]
noncomputable def pm_c55_2 : List (Option pm_I) := [some (.istore 3, 1, 0), some (.iinc 4 1, 3, 0), none, none, some (.goto 5, 3, 0), none, none, some (.iload 3, 1, 0), some (.freturn, 1, 0)]
/-- FrameTyper$States.meet(LFrameTyper$State;I)Z -/
noncomputable def pm_c55 : List (Option pm_I) := List.append pm_c55_0 (List.append pm_c55_1 pm_c55_2)
noncomputable def pm_c56_0 : List (Option pm_I) := [some (.aload 0, 1, 0), some (.invokespecial 9999, 3, 277), none, none, some (.aload 0, 1, 0), some (.new 5, 3, 278), none, none, some (.dup, 1, 0), some (.invokeinterface 5039 1, 3, 279), none, none, some (.checkcast 448, 3, 280), none, none, some (.aload 0, 1, 0), some (.iconst (4), 1, 0), some (.newarray .int, 2, 0), none, some (.checkcast 451, 3, 285), none, none, some (.aload 0, 1, 0), some (.aload 1, 1, 0), some (.checkcast 449, 3, 283), none, none, some (.aload 0, 1, 0), some (.aload 2, 1, 0), some (.checkcast 450, 3, 284), none, none, some (.return_, 1, 0)]
/-- FrameTyper$Stepper.<init>(LFrameTyper$World;LFrameTyper$Code;)V -/
noncomputable def pm_c56 : List (Option pm_I) := pm_c56_0
noncomputable def pm_c57_0 : List (Option pm_I) := [some (.aload 0, 1, 0), some (.getfield 450, 3, 284), none, none, some (.iload 1, 1, 0), some (.invokeinterface 2015 2, 3, 696), none, none, some (.istore 2, 1, 0), some (.aload 0, 1, 0), some (.getfield 450, 3, 284), none, none, some (.iload 1, 1, 0), some (.invokeinterface 2016 2, 3, 697), none, none, some (.istore 3, 1, 0), some (.aload 0, 1, 0), some (.getfield 450, 3, 284), none, none, some (.iload 1, 1, 0), some (.invokeinterface 2020 2, 3, 701), none, none, some (.ifCond .ne 31, 3, 0), none, none, some (.iconst (4), 1, 0), some (.ireturn, 1, 0), some (.aload 0, 1, 0), some (.iload 2, 1, 0), some (.iload 3, 1, 0), some (.invokeinterface 7059 3, 3, 706), none, none, some (.aload 0, 1, 0), some (.getfield 448, 3, 280), none]
noncomputable def pm_c57_1 : List (Option pm_I) := [none, some (.getfield 321, 3, 215), none, none, some (.aload 0, 1, 0), some (.getfield 452, 3, 286), none, none, some (.if_icmp .ge 53, 3, 0), none, none, some (.iconst (5), 1, 0), some (.ireturn, 1, 0), some (.aload 0, 1, 0), some (.invokeinterface 7062 1, 3, 722), none, none, some (.ifCond .eq 78, 3, 0), none, none, some (.aload 0, 1, 0), some (.iload 2, 1, 0), some (.iload 3, 1, 0), some (.invokeinterface 7063 3, 3, 736), none, none, some (.ifCond .eq 78, 3, 0), none, none, some (.aload 0, 1, 0), some (.iload 2, 1, 0), some (.iload 1, 1, 0), some (.invokeinterface 7064 3, 3, 740), none, none, some (.ifCond .eq 81, 3, 0), none, none, some (.iconst (6), 2, 0), none]
noncomputable def pm_c57_2 : List (Option pm_I) := [some (.ireturn, 1, 0), some (.aload 0, 1, 0), some (.getfield 448, 3, 280), none, none, some (.getfield 321, 3, 215), none, none, some (.aload 0, 1, 0), some (.getfield 452, 3, 286), none, none, some (.isub, 1, 0), some (.aload 0, 1, 0), some (.iload 2, 1, 0), some (.iload 3, 1, 0), some (.invokeinterface 7065 3, 3, 748), none, none, some (.iadd, 1, 0), some (.iconst (5), 1, 0), some (.if_icmp .le 107, 3, 0), none, none, some (.iconst (7), 2, 0), none, some (.ireturn, 1, 0), some (.aload 0, 1, 0), some (.getfield 448, 3, 280), none, none, some (.iconst (0), 1, 0), some (.invokeinterface 5041 2, 3, 726), none, none, some (.istore 4, 2, 0), none, some (.aload 0, 1, 0), some (.getfield 448, 3, 280), none]
noncomputable def pm_c57_3 : List (Option pm_I) := [none, some (.iconst (1), 1, 0), some (.invokeinterface 5041 2, 3, 726), none, none, some (.istore 5, 2, 0), none, some (.aload 0, 1, 0), some (.getfield 448, 3, 280), none, none, some (.aload 0, 1, 0), some (.getfield 452, 3, 286), none, none, some (.invokeinterface 5043 2, 3, 754), none, none, some (.aload 0, 1, 0), some (.iload 1, 1, 0), some (.iload 4, 2, 0), none, some (.invokeinterface 7066 3, 3, 761), none, none, some (.aload 0, 1, 0), some (.iload 1, 1, 0), some (.iload 4, 2, 0), none, some (.iload 5, 2, 0), none, some (.invokeinterface 7067 4, 3, 769), none, none, some (.iconst (0), 1, 0), some (.ireturn, 1, 0)]
/-- FrameTyper$Stepper.step(I)I -/
noncomputable def pm_c57 : List (Option pm_I) := List.append pm_c57_0 (List.append pm_c57_1 (List.append pm_c57_2 pm_c57_3))
noncomputable def pm_c58_0 : List (Option pm_I) := [some (.aload 0, 1, 0), some (.getfield 451, 3, 285), none, none, some (.aload 0, 1, 0), some (.getfield 452, 3, 286), none, none, some (.iload 1, 1, 0), some (.iastore, 1, 0), some (.aload 0, 1, 0), some (.dup, 1, 0), some (.getfield 452, 3, 286), none, none, some (.iconst (1), 1, 0), some (.iadd, 1, 0), some (.putfield 452, 3, 286), none, none, some (.return_, 1, 0)]
/-- FrameTyper$Stepper.want(I)V -/
noncomputable def pm_c58 : List (Option pm_I) := pm_c58_0
noncomputable def pm_c59_0 : List (Option pm_I) := [some (.aload 0, 1, 0), some (.iconst (0), 1, 0), some (.putfield 452, 3, 286), none, none, some (.iload 1, 1, 0), some (.tableswitch 242 (4) (21) #[92, 242, 100, 109, 122, 122, 130, 242, 92, 143, 242, 152, 161, 180, 212, 228, 143, 143], 86, 0), none, none, none, none, none, none, none, none, none, none, none, none, none, none, none, none, none, none, none, none, none, none, none, none, none, none, none, none, none, none, none, none, none]
noncomputable def pm_c59_1 : List (Option pm_I) := [none, none, none, none, none, none, none, none, none, none, none, none, none, none, none, none, none, none, none, none, none, none, none, none, none, none, none, none, none, none, none, none, none, none, none, none, none, none, none, none]
noncomputable def pm_c59_2 : List (Option pm_I) := [none, none, none, none, none, none, none, none, none, none, none, none, some (.aload 0, 1, 0), some (.iconst (1), 1, 0), some (.invokeinterface 7058 2, 3, 710), none, none, some (.goto 242, 3, 0), none, none, some (.aload 0, 1, 0), some (.iconst (-2), 2, 0), none, some (.invokeinterface 7058 2, 3, 710), none, none, some (.goto 242, 3, 0), none, none, some (.aload 0, 1, 0), some (.iconst (1), 1, 0), some (.invokeinterface 7058 2, 3, 710), none, none, some (.aload 0, 1, 0), some (.iconst (1), 1, 0), some (.invokeinterface 7058 2, 3, 710), none, none, some (.goto 242, 3, 0)]
noncomputable def pm_c59_3 : List (Option pm_I) := [none, none, some (.aload 0, 1, 0), some (.iconst (0), 1, 0), some (.invokeinterface 7058 2, 3, 710), none, none, some (.goto 242, 3, 0), none, none, some (.aload 0, 1, 0), some (.iconst (0), 1, 0), some (.invokeinterface 7058 2, 3, 710), none, none, some (.aload 0, 1, 0), some (.iconst (0), 1, 0), some (.invokeinterface 7058 2, 3, 710), none, none, some (.goto 242, 3, 0), none, none, some (.aload 0, 1, 0), some (.iconst (16), 2, 0), none, some (.invokeinterface 7058 2, 3, 710), none, none, some (.goto 242, 3, 0), none, none, some (.aload 0, 1, 0), some (.iconst (-3), 2, 0), none, some (.invokeinterface 7058 2, 3, 710), none, none, some (.goto 242, 3, 0), none]
noncomputable def pm_c59_4 : List (Option pm_I) := [none, some (.aload 0, 1, 0), some (.iconst (16), 2, 0), none, some (.aload 0, 1, 0), some (.getfield 449, 3, 283), none, none, some (.getfield 641, 3, 137), none, none, some (.iload 2, 1, 0), some (.iaload, 1, 0), some (.iadd, 1, 0), some (.invokeinterface 7058 2, 3, 710), none, none, some (.goto 242, 3, 0), none, none, some (.aload 0, 1, 0), some (.iconst (16), 2, 0), none, some (.aload 0, 1, 0), some (.getfield 449, 3, 283), none, none, some (.getfield 641, 3, 137), none, none, some (.iload 2, 1, 0), some (.iaload, 1, 0), some (.iadd, 1, 0), some (.invokeinterface 7058 2, 3, 710), none, none, some (.aload 0, 1, 0), some (.aload 0, 1, 0), some (.getfield 449, 3, 283), none]
noncomputable def pm_c59_5 : List (Option pm_I) := [none, some (.getfield 642, 3, 139), none, none, some (.iload 2, 1, 0), some (.iaload, 1, 0), some (.invokeinterface 7058 2, 3, 710), none, none, some (.goto 242, 3, 0), none, none, some (.aload 0, 1, 0), some (.aload 0, 1, 0), some (.getfield 449, 3, 283), none, none, some (.getfield 643, 3, 142), none, none, some (.iload 2, 1, 0), some (.aaload, 1, 0), some (.invokeinterface 7060 2, 3, 714), none, none, some (.goto 242, 3, 0), none, none, some (.aload 0, 1, 0), some (.aload 0, 1, 0), some (.getfield 449, 3, 283), none, none, some (.getfield 644, 3, 147), none, none, some (.invokeinterface 7061 2, 3, 718), none, none, some (.goto 242, 3, 0)]
noncomputable def pm_c59_6 : List (Option pm_I) := [none, none, some (.return_, 1, 0)]
/-- FrameTyper$Stepper.listWanted(II)V -/
noncomputable def pm_c59 : List (Option pm_I) := List.append pm_c59_0 (List.append pm_c59_1 (List.append pm_c59_2 (List.append pm_c59_3 (List.append pm_c59_4 (List.append pm_c59_5 pm_c59_6)))))
noncomputable def pm_c60_0 : List (Option pm_I) := [some (.iconst (0), 1, 0), some (.istore 2, 1, 0), some (.iload 2, 1, 0), some (.aload 1, 1, 0), some (.getfield 257, 3, 121), none, none, some (.if_icmp .ge 26, 3, 0), none, none, some (.aload 0, 1, 0), some (.aload 1, 1, 0), some (.getfield 256, 3, 116), none, none, some (.iload 2, 1, 0), some (.iaload, 1, 0), some (.invokeinterface 7058 2, 3, 710), none, none, some (.iinc 2 1, 3, 0), none, none, some (.goto 2, 3, 0), none, none, some (.return_, 1, 0)]
/-- FrameTyper$Stepper.wantAll(LFrameTyper$Signature;)V -/
noncomputable def pm_c60 : List (Option pm_I) := pm_c60_0
noncomputable def pm_c61_0 : List (Option pm_I) := [some (.aload 1, 1, 0), some (.getfield 258, 3, 123), none, none, some (.ifCond .eq 15, 3, 0), none, none, some (.aload 0, 1, 0), some (.aload 1, 1, 0), some (.getfield 258, 3, 123), none, none, some (.invokeinterface 7058 2, 3, 710), none, none, some (.return_, 1, 0)]
/-- FrameTyper$Stepper.wantGiven(LFrameTyper$Signature;)V -/
noncomputable def pm_c61 : List (Option pm_I) := pm_c61_0
noncomputable def pm_c62_0 : List (Option pm_I) := [some (.iconst (0), 1, 0), some (.istore 1, 1, 0), some (.iload 1, 1, 0), some (.aload 0, 1, 0), some (.getfield 452, 3, 286), none, none, some (.if_icmp .ge 83, 3, 0), none, none, some (.aload 0, 1, 0), some (.getfield 451, 3, 285), none, none, some (.iload 1, 1, 0), some (.iaload, 1, 0), some (.istore 2, 1, 0), some (.aload 0, 1, 0), some (.getfield 448, 3, 280), none, none, some (.aload 0, 1, 0), some (.getfield 452, 3, 286), none, none, some (.iconst (1), 1, 0), some (.isub, 1, 0), some (.iload 1, 1, 0), some (.isub, 1, 0), some (.invokeinterface 5041 2, 3, 726), none, none, some (.istore 3, 1, 0), some (.iload 2, 1, 0), some (.iconst (-2), 2, 0), none, some (.if_icmp .ne 46, 3, 0), none, none, some (.iload 3, 1, 0)]
noncomputable def pm_c62_1 : List (Option pm_I) := [some (.multianewarray 90 1, 3, 730), none, none, some (.goto 68, 3, 0), none, none, some (.iload 2, 1, 0), some (.iconst (-3), 2, 0), none, some (.if_icmp .ne 59, 3, 0), none, none, some (.iload 3, 1, 0), some (.multianewarray 89 1, 3, 734), none, none, some (.goto 68, 3, 0), none, none, some (.aload 0, 1, 0), some (.getfield 449, 3, 283), none, none, some (.iload 3, 1, 0), some (.iload 2, 1, 0), some (.invokeinterface 10096 3, 3, 735), none, none, some (.istore 4, 2, 0), none, some (.iload 4, 2, 0), none, some (.ifCond .ne 77, 3, 0), none, none, some (.iconst (0), 1, 0), some (.freturn, 1, 0), some (.iinc 1 1, 3, 0), none, none]
noncomputable def pm_c62_2 : List (Option pm_I) := [some (.goto 2, 3, 0), none, none, some (.iconst (1), 1, 0), some (.freturn, 1, 0)]
/-- FrameTyper$Stepper.wantedFit()Z -/
noncomputable def pm_c62 : List (Option pm_I) := List.append pm_c62_0 (List.append pm_c62_1 pm_c62_2)
noncomputable def pm_c63_0 : List (Option pm_I) := [some (.iload 1, 1, 0), some (.iconst (3), 1, 0), some (.if_icmp .ne 24, 3, 0), none, none, some (.aload 0, 1, 0), some (.getfield 448, 3, 280), none, none, some (.getfield 320, 3, 213), none, none, some (.iload 2, 1, 0), some (.iaload, 1, 0), some (.iconst (1), 1, 0), some (.if_icmp .ne 22, 3, 0), none, none, some (.iconst (1), 1, 0), some (.goto 23, 3, 0), none, none, some (.iconst (0), 1, 0), some (.freturn, 1, 0), some (.iload 1, 1, 0), some (.iconst (5), 1, 0), some (.if_icmp .ne 44, 3, 0), none, none, some (.aload 0, 1, 0), some (.getfield 448, 3, 280), none, none, some (.getfield 320, 3, 213), none, none, some (.iload 2, 1, 0), some (.iaload, 1, 0), some (.multianewarray 90 1, 3, 730), none]
noncomputable def pm_c63_1 : List (Option pm_I) := [none, some (.ifCond .eq 48, 3, 0), none, none, some (.iconst (1), 1, 0), some (.goto 49, 3, 0), none, none, some (.iconst (0), 1, 0), some (.freturn, 1, 0)]
/-- FrameTyper$Stepper.localFits(II)Z -/
noncomputable def pm_c63 : List (Option pm_I) := List.append pm_c63_0 pm_c63_1
noncomputable def pm_c64_0 : List (Option pm_I) := [some (.iload 1, 1, 0), some (.iconst (14), 2, 0), none, some (.if_icmp .ne 24, 3, 0), none, none, some (.aload 0, 1, 0), some (.getfield 448, 3, 280), none, none, some (.iconst (64), 2, 0), none, some (.iload 2, 1, 0), some (.iadd, 1, 0), some (.invokeinterface 5044 2, 3, 744), none, none, some (.ifCond .eq 24, 3, 0), none, none, some (.iconst (1), 1, 0), some (.goto 25, 3, 0), none, none, some (.iconst (0), 1, 0), some (.freturn, 1, 0)]
/-- FrameTyper$Stepper.isNewStacked(II)Z -/
noncomputable def pm_c64 : List (Option pm_I) := pm_c64_0
noncomputable def pm_c65_0 : List (Option pm_I) := [some (.iload 1, 1, 0), some (.iconst (18), 2, 0), none, some (.if_icmp .ne 27, 3, 0), none, none, some (.aload 0, 1, 0), some (.getfield 449, 3, 283), none, none, some (.getfield 643, 3, 142), none, none, some (.iload 2, 1, 0), some (.aaload, 1, 0), some (.getfield 258, 3, 123), none, none, some (.ifCond .ne 25, 3, 0), none, none, some (.iconst (0), 1, 0), some (.goto 26, 3, 0), none, none, some (.iconst (1), 1, 0), some (.ireturn, 1, 0), some (.getstatic 1002, 3, 752), none, none, some (.iload 1, 1, 0), some (.iaload, 1, 0), some (.ireturn, 1, 0)]
/-- FrameTyper$Stepper.givenCount(II)I -/
noncomputable def pm_c65 : List (Option pm_I) := pm_c65_0
noncomputable def pm_c66_0 : List (Option pm_I) := [some (.aload 0, 1, 0), some (.getfield 450, 3, 284), none, none, some (.iload 1, 1, 0), some (.invokeinterface 2015 2, 3, 696), none, none, some (.lookupswitch 112 #[(4, 52), (6, 52), (14, 72), (15, 87)], 44, 0), none, none, none, none, none, none, none, none, none, none, none, none, none, none, none, none, none, none, none, none, none, none, none, none, none, none, none, none, none, none, none]
noncomputable def pm_c66_1 : List (Option pm_I) := [none, none, none, none, none, none, none, none, none, none, none, none, some (.aload 0, 1, 0), some (.getfield 448, 3, 280), none, none, some (.getfield 320, 3, 213), none, none, some (.aload 0, 1, 0), some (.getfield 450, 3, 284), none, none, some (.iload 1, 1, 0), some (.invokeinterface 2016 2, 3, 697), none, none, some (.iload 2, 1, 0), some (.iastore, 1, 0), some (.goto 112, 3, 0), none, none, some (.aload 0, 1, 0), some (.getfield 448, 3, 280), none, none, some (.iconst (64), 2, 0), none, some (.iload 1, 1, 0), some (.iadd, 1, 0)]
noncomputable def pm_c66_2 : List (Option pm_I) := [some (.iconst (0), 1, 0), some (.invokeinterface 5045 3, 3, 765), none, none, some (.goto 112, 3, 0), none, none, some (.aload 0, 1, 0), some (.getfield 448, 3, 280), none, none, some (.iload 2, 1, 0), some (.iconst (16), 2, 0), none, some (.aload 0, 1, 0), some (.getfield 450, 3, 284), none, none, some (.iload 2, 1, 0), some (.iconst (64), 2, 0), none, some (.isub, 1, 0), some (.invokeinterface 2016 2, 3, 697), none, none, some (.iadd, 1, 0), some (.invokeinterface 5045 3, 3, 765), none, none, some (.goto 112, 3, 0), none, none, some (.return_, 1, 0)]
/-- FrameTyper$Stepper.changeLocals(II)V -/
noncomputable def pm_c66 : List (Option pm_I) := List.append pm_c66_0 (List.append pm_c66_1 pm_c66_2)
noncomputable def pm_c67_0 : List (Option pm_I) := [some (.aload 0, 1, 0), some (.getfield 450, 3, 284), none, none, some (.iload 1, 1, 0), some (.invokeinterface 2016 2, 3, 697), none, none, some (.istore 4, 2, 0), none, some (.aload 0, 1, 0), some (.getfield 450, 3, 284), none, none, some (.iload 1, 1, 0), some (.invokeinterface 2015 2, 3, 696), none, none, some (.tableswitch 280 (1) (20) #[112, 123, 112, 280, 134, 280, 112, 280, 154, 173, 280, 280, 280, 192, 280, 206, 280, 226, 280, 265], 94, 0), none, none, none, none, none, none, none, none, none, none, none, none, none, none, none, none, none, none, none, none, none]
noncomputable def pm_c67_1 : List (Option pm_I) := [none, none, none, none, none, none, none, none, none, none, none, none, none, none, none, none, none, none, none, none, none, none, none, none, none, none, none, none, none, none, none, none, none, none, none, none, none, none, none, none]
noncomputable def pm_c67_2 : List (Option pm_I) := [none, none, none, none, none, none, none, none, none, none, none, none, none, none, none, none, none, none, none, none, none, none, none, none, none, none, none, none, none, none, none, none, some (.aload 0, 1, 0), some (.getfield 448, 3, 280), none, none, some (.iconst (1), 1, 0), some (.invokeinterface 5042 2, 3, 773), none, none]
noncomputable def pm_c67_3 : List (Option pm_I) := [some (.goto 280, 3, 0), none, none, some (.aload 0, 1, 0), some (.getfield 448, 3, 280), none, none, some (.iconst (2), 1, 0), some (.invokeinterface 5042 2, 3, 773), none, none, some (.goto 280, 3, 0), none, none, some (.aload 0, 1, 0), some (.getfield 448, 3, 280), none, none, some (.aload 0, 1, 0), some (.getfield 448, 3, 280), none, none, some (.getfield 320, 3, 213), none, none, some (.iload 4, 2, 0), none, some (.iaload, 1, 0), some (.invokeinterface 5042 2, 3, 773), none, none, some (.goto 280, 3, 0), none, none, some (.aload 0, 1, 0), some (.getfield 448, 3, 280), none, none, some (.iload 2, 1, 0), some (.invokeinterface 5042 2, 3, 773)]
noncomputable def pm_c67_4 : List (Option pm_I) := [none, none, some (.aload 0, 1, 0), some (.getfield 448, 3, 280), none, none, some (.iload 2, 1, 0), some (.invokeinterface 5042 2, 3, 773), none, none, some (.goto 280, 3, 0), none, none, some (.aload 0, 1, 0), some (.getfield 448, 3, 280), none, none, some (.iload 2, 1, 0), some (.invokeinterface 5042 2, 3, 773), none, none, some (.aload 0, 1, 0), some (.getfield 448, 3, 280), none, none, some (.iload 3, 1, 0), some (.invokeinterface 5042 2, 3, 773), none, none, some (.goto 280, 3, 0), none, none, some (.aload 0, 1, 0), some (.getfield 448, 3, 280), none, none, some (.iconst (64), 2, 0), none, some (.iload 1, 1, 0), some (.iadd, 1, 0)]
noncomputable def pm_c67_5 : List (Option pm_I) := [some (.invokeinterface 5042 2, 3, 773), none, none, some (.goto 280, 3, 0), none, none, some (.aload 0, 1, 0), some (.getfield 448, 3, 280), none, none, some (.aload 0, 1, 0), some (.getfield 449, 3, 283), none, none, some (.getfield 642, 3, 139), none, none, some (.iload 4, 2, 0), none, some (.iaload, 1, 0), some (.invokeinterface 5042 2, 3, 773), none, none, some (.goto 280, 3, 0), none, none, some (.aload 0, 1, 0), some (.getfield 449, 3, 283), none, none, some (.getfield 643, 3, 142), none, none, some (.iload 4, 2, 0), none, some (.aaload, 1, 0), some (.getfield 258, 3, 123), none, none, some (.ifCond .eq 280, 3, 0)]
noncomputable def pm_c67_6 : List (Option pm_I) := [none, none, some (.aload 0, 1, 0), some (.getfield 448, 3, 280), none, none, some (.aload 0, 1, 0), some (.getfield 449, 3, 283), none, none, some (.getfield 643, 3, 142), none, none, some (.iload 4, 2, 0), none, some (.aaload, 1, 0), some (.getfield 258, 3, 123), none, none, some (.invokeinterface 5042 2, 3, 773), none, none, some (.goto 280, 3, 0), none, none, some (.aload 0, 1, 0), some (.getfield 448, 3, 280), none, none, some (.iconst (16), 2, 0), none, some (.iload 4, 2, 0), none, some (.iadd, 1, 0), some (.invokeinterface 5042 2, 3, 773), none, none, some (.goto 280, 3, 0), none, none]
noncomputable def pm_c67_7 : List (Option pm_I) := [some (.return_, 1, 0)]
/-- FrameTyper$Stepper.give(III)V -/
noncomputable def pm_c67 : List (Option pm_I) := List.append pm_c67_0 (List.append pm_c67_1 (List.append pm_c67_2 (List.append pm_c67_3 (List.append pm_c67_4 (List.append pm_c67_5 (List.append pm_c67_6 pm_c67_7))))))
noncomputable def pm_c68_0 : List (Option pm_I) := [some (.aload 0, 1, 0), some (.invokespecial 9999, 3, 202), none, none, some (.aload 0, 1, 0), some (.iconst (48), 2, 0), none, some (.newarray .int, 2, 0), none, some (.checkcast 516, 3, 248), none, none, some (.aload 0, 1, 0), some (.new 5, 3, 203), none, none, some (.dup, 1, 0), some (.invokeinterface 5039 1, 3, 205), none, none, some (.checkcast 517, 3, 249), none, none, some (.aload 0, 1, 0), some (.aload 1, 1, 0), some (.checkcast 514, 3, 246), none, none, some (.aload 0, 1, 0), some (.aload 2, 1, 0), some (.checkcast 515, 3, 247), none, none, some (.aload 0, 1, 0), some (.new 6, 3, 225), none, none, some (.dup, 1, 0), some (.aload 1, 1, 0), some (.invokeinterface 6046 2, 3, 227)]
noncomputable def pm_c68_1 : List (Option pm_I) := [none, none, some (.checkcast 512, 3, 242), none, none, some (.return_, 1, 0)]
/-- FrameTyper$TableReader.<init>(LFrameTyper$World;LFrameTyper$Bytes;)V -/
noncomputable def pm_c68 : List (Option pm_I) := List.append pm_c68_0 pm_c68_1
noncomputable def pm_c69_0 : List (Option pm_I) := [some (.aload 0, 1, 0), some (.getfield 512, 3, 242), none, none, some (.invokeinterface 6047 1, 3, 470), none, none, some (.aload 0, 1, 0), some (.iconst (0), 1, 0), some (.putfield 513, 3, 244), none, none, some (.aload 0, 1, 0), some (.iconst (0), 1, 0), some (.putfield 519, 3, 251), none, none, some (.aload 0, 1, 0), some (.iconst (0), 1, 0), some (.putstatic 520, 3, 252), none, none, some (.aload 0, 1, 0), some (.getfield 517, 3, 249), none, none, some (.aload 0, 1, 0), some (.getfield 514, 3, 246), none, none, some (.getfield 644, 3, 145), none, none, some (.invokeinterface 5040 2, 3, 474), none, none, some (.aload 0, 1, 0), some (.aload 0, 1, 0), some (.getfield 514, 3, 246), none]
noncomputable def pm_c69_1 : List (Option pm_I) := [none, some (.getfield 644, 3, 145), none, none, some (.getfield 257, 3, 119), none, none, some (.putfield 518, 3, 250), none, none, some (.aload 0, 1, 0), some (.invokeinterface 8071 1, 3, 482), none, none, some (.istore 1, 1, 0), some (.iconst (-1), 1, 0), some (.istore 2, 1, 0), some (.iconst (0), 1, 0), some (.istore 3, 1, 0), some (.iload 3, 1, 0), some (.iload 1, 1, 0), some (.if_icmp .ge 83, 3, 0), none, none, some (.aload 0, 1, 0), some (.getfield 520, 3, 252), none, none, some (.ifCond .ne 83, 3, 0), none, none, some (.aload 0, 1, 0), some (.iload 2, 1, 0), some (.invokeinterface 8072 2, 3, 487), none, none, some (.istore 2, 1, 0), some (.iinc 3 1, 3, 0), none, none]
noncomputable def pm_c69_2 : List (Option pm_I) := [some (.goto 59, 3, 0), none, none, some (.aload 0, 1, 0), some (.getfield 520, 3, 252), none, none, some (.ifCond .ne 108, 3, 0), none, none, some (.aload 0, 1, 0), some (.getfield 519, 3, 251), none, none, some (.aload 0, 1, 0), some (.getfield 515, 3, 247), none, none, some (.getfield 1, 3, 175), none, none, some (.if_icmp .ne 108, 3, 0), none, none, some (.iconst (1), 1, 0), some (.goto 109, 3, 0), none, none, some (.iconst (0), 1, 0), some (.freturn, 1, 0)]
/-- FrameTyper$TableReader.read()Z -/
noncomputable def pm_c69 : List (Option pm_I) := List.append pm_c69_0 (List.append pm_c69_1 pm_c69_2)
noncomputable def pm_c70_0 : List (Option pm_I) := [some (.iload 1, 1, 0), some (.ifCond .lt 22, 3, 0), none, none, some (.iload 1, 1, 0), some (.aload 0, 1, 0), some (.getfield 513, 3, 244), none, none, some (.if_icmp .ge 22, 3, 0), none, none, some (.iload 2, 1, 0), some (.ifCond .lt 22, 3, 0), none, none, some (.iload 2, 1, 0), some (.iconst (10), 2, 0), none, some (.if_icmp .le 24, 3, 0), none, none, some (.iconst (-1), 1, 0), some (.ireturn, 1, 0), some (.aload 0, 1, 0), some (.getfield 516, 3, 248), none, none, some (.iload 1, 1, 0), some (.iaload, 1, 0), some (.istore 3, 1, 0), some (.iload 2, 1, 0), some (.ifCond .ne 37, 3, 0), none, none, some (.iload 3, 1, 0), some (.ireturn, 1, 0), some (.iload 2, 1, 0), some (.iconst (4), 1, 0), some (.if_icmp .gt 54, 3, 0)]
noncomputable def pm_c70_1 : List (Option pm_I) := [none, none, some (.aload 0, 1, 0), some (.getfield 512, 3, 242), none, none, some (.iload 3, 1, 0), some (.iload 2, 1, 0), some (.iconst (1), 1, 0), some (.isub, 1, 0), some (.invokeinterface 6050 3, 3, 594), none, none, some (.ireturn, 1, 0), some (.aload 0, 1, 0), some (.getfield 512, 3, 242), none, none, some (.iload 3, 1, 0), some (.invokeinterface 6049 2, 3, 598), none, none, some (.istore 4, 2, 0), none, some (.iload 2, 1, 0), some (.iconst (5), 1, 0), some (.if_icmp .ne 72, 3, 0), none, none, some (.iload 4, 2, 0), none, some (.ireturn, 1, 0), some (.iload 2, 1, 0), some (.iconst (4), 1, 0), some (.isub, 1, 0), some (.iconst (2), 1, 0), some (.isub, 1, 0), some (.istore 5, 2, 0), none, some (.iload 5, 2, 0)]
noncomputable def pm_c70_2 : List (Option pm_I) := [none, some (.iload 4, 2, 0), none, some (.if_icmp .ge 99, 3, 0), none, none, some (.aload 0, 1, 0), some (.getfield 512, 3, 242), none, none, some (.iload 3, 1, 0), some (.iload 5, 2, 0), none, some (.invokeinterface 6051 3, 3, 602), none, none, some (.goto 100, 3, 0), none, none, some (.iconst (-1), 1, 0), some (.ireturn, 1, 0)]
/-- FrameTyper$TableReader.tell(II)I -/
noncomputable def pm_c70 : List (Option pm_I) := List.append pm_c70_0 (List.append pm_c70_1 pm_c70_2)
noncomputable def pm_c71_0 : List (Option pm_I) := [some (.aload 0, 1, 0), some (.getfield 515, 3, 247), none, none, some (.aload 0, 1, 0), some (.getfield 519, 3, 251), none, none, some (.invokeinterface 2 2, 3, 486), none, none, some (.istore 1, 1, 0), some (.iload 1, 1, 0), some (.iconst (-1), 1, 0), some (.if_icmp .ne 24, 3, 0), none, none, some (.aload 0, 1, 0), some (.iconst (1), 1, 0), some (.putstatic 520, 3, 252), none, none, some (.iconst (0), 1, 0), some (.ireturn, 1, 0), some (.aload 0, 1, 0), some (.dup, 1, 0), some (.getfield 519, 3, 251), none, none, some (.iconst (1), 1, 0), some (.iadd, 1, 0), some (.putfield 519, 3, 251), none, none, some (.iload 1, 1, 0), some (.ireturn, 1, 0)]
/-- FrameTyper$TableReader.next()I -/
noncomputable def pm_c71 : List (Option pm_I) := pm_c71_0
noncomputable def pm_c72_0 : List (Option pm_I) := [some (.aload 0, 1, 0), some (.invokeinterface 8071 1, 3, 482), none, none, some (.istore 2, 1, 0), some (.iload 2, 1, 0), some (.iconst (128), 3, 0), none, none, some (.if_icmp .lt 26, 3, 0), none, none, some (.iload 2, 1, 0), some (.iconst (247), 3, 0), none, none, some (.if_icmp .ge 26, 3, 0), none, none, some (.aload 0, 1, 0), some (.iconst (1), 1, 0), some (.putstatic 520, 3, 252), none, none, some (.iload 1, 1, 0), some (.ireturn, 1, 0), some (.iload 2, 1, 0), some (.iconst (128), 3, 0), none, none, some (.if_icmp .ge 40, 3, 0), none, none, some (.iload 2, 1, 0), some (.iconst (64), 2, 0), none, some (.irem, 1, 0), some (.goto 44, 3, 0), none, none]
noncomputable def pm_c72_1 : List (Option pm_I) := [some (.aload 0, 1, 0), some (.invokeinterface 8071 1, 3, 482), none, none, some (.istore 3, 1, 0), some (.iload 1, 1, 0), some (.iconst (1), 1, 0), some (.iadd, 1, 0), some (.iload 3, 1, 0), some (.iadd, 1, 0), some (.istore 4, 2, 0), none, some (.aload 0, 1, 0), some (.getfield 517, 3, 249), none, none, some (.iconst (0), 1, 0), some (.putfield 321, 3, 217), none, none, some (.iload 2, 1, 0), some (.iconst (64), 2, 0), none, some (.if_icmp .lt 81, 3, 0), none, none, some (.iload 2, 1, 0), some (.iconst (247), 3, 0), none, none, some (.if_icmp .gt 81, 3, 0), none, none, some (.aload 0, 1, 0), some (.iconst (1), 1, 0), some (.invokeinterface 8075 2, 3, 491), none, none, some (.goto 152, 3, 0), none]
noncomputable def pm_c72_2 : List (Option pm_I) := [none, some (.iload 2, 1, 0), some (.iconst (255), 3, 0), none, none, some (.if_icmp .ne 112, 3, 0), none, none, some (.aload 0, 1, 0), some (.iconst (0), 1, 0), some (.invokeinterface 8073 2, 3, 503), none, none, some (.aload 0, 1, 0), some (.aload 0, 1, 0), some (.invokeinterface 8071 1, 3, 482), none, none, some (.invokeinterface 8074 2, 3, 507), none, none, some (.aload 0, 1, 0), some (.aload 0, 1, 0), some (.invokeinterface 8071 1, 3, 482), none, none, some (.invokeinterface 8075 2, 3, 491), none, none, some (.goto 152, 3, 0), none, none, some (.iload 2, 1, 0), some (.iconst (251), 3, 0), none, none, some (.if_icmp .le 131, 3, 0), none, none, some (.aload 0, 1, 0)]
noncomputable def pm_c72_3 : List (Option pm_I) := [some (.iload 2, 1, 0), some (.iconst (251), 3, 0), none, none, some (.isub, 1, 0), some (.invokeinterface 8074 2, 3, 507), none, none, some (.goto 152, 3, 0), none, none, some (.iload 2, 1, 0), some (.iconst (247), 3, 0), none, none, some (.if_icmp .le 152, 3, 0), none, none, some (.aload 0, 1, 0), some (.aload 0, 1, 0), some (.getfield 518, 3, 250), none, none, some (.iconst (251), 3, 0), none, none, some (.iload 2, 1, 0), some (.isub, 1, 0), some (.isub, 1, 0), some (.invokeinterface 8073 2, 3, 503), none, none, some (.iload 4, 2, 0), none, some (.iconst (48), 2, 0), none, some (.if_icmp .ge 166, 3, 0), none, none, some (.aload 0, 1, 0)]
noncomputable def pm_c72_4 : List (Option pm_I) := [some (.getfield 520, 3, 252), none, none, some (.ifCond .eq 173, 3, 0), none, none, some (.aload 0, 1, 0), some (.iconst (1), 1, 0), some (.putstatic 520, 3, 252), none, none, some (.iload 1, 1, 0), some (.ireturn, 1, 0), some (.aload 0, 1, 0), some (.getfield 512, 3, 242), none, none, some (.iload 4, 2, 0), none, some (.aload 0, 1, 0), some (.getfield 517, 3, 249), none, none, some (.invokeinterface 6052 3, 3, 511), none, none, some (.aload 0, 1, 0), some (.getfield 516, 3, 248), none, none, some (.aload 0, 1, 0), some (.getfield 513, 3, 244), none, none, some (.iload 4, 2, 0), none, some (.iastore, 1, 0), some (.aload 0, 1, 0), some (.dup, 1, 0), some (.getfield 513, 3, 244)]
noncomputable def pm_c72_5 : List (Option pm_I) := [none, none, some (.iconst (1), 1, 0), some (.iadd, 1, 0), some (.putfield 513, 3, 244), none, none, some (.iload 4, 2, 0), none, some (.ireturn, 1, 0)]
/-- FrameTyper$TableReader.readFrame(I)I -/
noncomputable def pm_c72 : List (Option pm_I) := List.append pm_c72_0 (List.append pm_c72_1 (List.append pm_c72_2 (List.append pm_c72_3 (List.append pm_c72_4 pm_c72_5))))
noncomputable def pm_c73_0 : List (Option pm_I) := [some (.iload 1, 1, 0), some (.ifCond .ge 10, 3, 0), none, none, some (.aload 0, 1, 0), some (.iconst (1), 1, 0), some (.putstatic 520, 3, 252), none, none, some (.return_, 1, 0), some (.iload 1, 1, 0), some (.istore 2, 1, 0), some (.iload 2, 1, 0), some (.iconst (4), 1, 0), some (.if_icmp .ge 33, 3, 0), none, none, some (.aload 0, 1, 0), some (.getfield 517, 3, 249), none, none, some (.getfield 320, 3, 211), none, none, some (.iload 2, 1, 0), some (.iconst (0), 1, 0), some (.iastore, 1, 0), some (.iinc 2 1, 3, 0), none, none, some (.goto 12, 3, 0), none, none, some (.aload 0, 1, 0), some (.iload 1, 1, 0), some (.putfield 518, 3, 250), none, none, some (.return_, 1, 0)]
/-- FrameTyper$TableReader.keepLocals(I)V -/
noncomputable def pm_c73 : List (Option pm_I) := pm_c73_0
noncomputable def pm_c74_0 : List (Option pm_I) := [some (.aload 0, 1, 0), some (.getfield 518, 3, 250), none, none, some (.iload 1, 1, 0), some (.iadd, 1, 0), some (.iconst (4), 1, 0), some (.if_icmp .le 16, 3, 0), none, none, some (.aload 0, 1, 0), some (.iconst (1), 1, 0), some (.putstatic 520, 3, 252), none, none, some (.return_, 1, 0), some (.iconst (0), 1, 0), some (.istore 2, 1, 0), some (.iload 2, 1, 0), some (.iload 1, 1, 0), some (.if_icmp .ge 55, 3, 0), none, none, some (.aload 0, 1, 0), some (.getfield 517, 3, 249), none, none, some (.getfield 320, 3, 211), none, none, some (.aload 0, 1, 0), some (.getfield 518, 3, 250), none, none, some (.aload 0, 1, 0), some (.invokeinterface 8076 1, 3, 495), none, none, some (.iastore, 1, 0), some (.aload 0, 1, 0)]
noncomputable def pm_c74_1 : List (Option pm_I) := [some (.dup, 1, 0), some (.getfield 518, 3, 250), none, none, some (.iconst (1), 1, 0), some (.iadd, 1, 0), some (.putfield 518, 3, 250), none, none, some (.iinc 2 1, 3, 0), none, none, some (.goto 18, 3, 0), none, none, some (.return_, 1, 0)]
/-- FrameTyper$TableReader.addLocals(I)V -/
noncomputable def pm_c74 : List (Option pm_I) := List.append pm_c74_0 pm_c74_1
noncomputable def pm_c75_0 : List (Option pm_I) := [some (.iload 1, 1, 0), some (.iconst (5), 1, 0), some (.if_icmp .le 11, 3, 0), none, none, some (.aload 0, 1, 0), some (.iconst (1), 1, 0), some (.putstatic 520, 3, 252), none, none, some (.return_, 1, 0), some (.iconst (0), 1, 0), some (.istore 2, 1, 0), some (.iload 2, 1, 0), some (.iload 1, 1, 0), some (.if_icmp .ge 35, 3, 0), none, none, some (.aload 0, 1, 0), some (.getfield 517, 3, 249), none, none, some (.aload 0, 1, 0), some (.invokeinterface 8076 1, 3, 495), none, none, some (.invokeinterface 5042 2, 3, 499), none, none, some (.iinc 2 1, 3, 0), none, none, some (.goto 13, 3, 0), none, none, some (.return_, 1, 0)]
/-- FrameTyper$TableReader.readStack(I)V -/
noncomputable def pm_c75 : List (Option pm_I) := pm_c75_0
noncomputable def pm_c76_0 : List (Option pm_I) := [some (.aload 0, 1, 0), some (.invokeinterface 8071 1, 3, 482), none, none, some (.istore 1, 1, 0), some (.iload 1, 1, 0), some (.iconst (2), 1, 0), some (.if_icmp .gt 12, 3, 0), none, none, some (.iload 1, 1, 0), some (.ireturn, 1, 0), some (.iload 1, 1, 0), some (.iconst (7), 2, 0), none, some (.if_icmp .ne 23, 3, 0), none, none, some (.iconst (8), 2, 0), none, some (.goto 35, 3, 0), none, none, some (.iload 1, 1, 0), some (.iconst (8), 2, 0), none, some (.if_icmp .ne 34, 3, 0), none, none, some (.iconst (48), 2, 0), none, some (.goto 35, 3, 0), none, none, some (.iconst (0), 1, 0), some (.istore 2, 1, 0), some (.aload 0, 1, 0), some (.invokeinterface 8071 1, 3, 482), none, none]
noncomputable def pm_c76_1 : List (Option pm_I) := [some (.istore 3, 1, 0), some (.iload 3, 1, 0), some (.iload 2, 1, 0), some (.if_icmp .lt 53, 3, 0), none, none, some (.aload 0, 1, 0), some (.iconst (1), 1, 0), some (.putstatic 520, 3, 252), none, none, some (.iconst (0), 1, 0), some (.ireturn, 1, 0), some (.iload 1, 1, 0), some (.iconst (7), 2, 0), none, some (.if_icmp .ne 66, 3, 0), none, none, some (.iconst (16), 2, 0), none, some (.iload 3, 1, 0), some (.iadd, 1, 0), some (.goto 70, 3, 0), none, none, some (.iconst (64), 2, 0), none, some (.iload 3, 1, 0), some (.iadd, 1, 0), some (.ireturn, 1, 0)]
/-- FrameTyper$TableReader.readType()I -/
noncomputable def pm_c76 : List (Option pm_I) := List.append pm_c76_0 pm_c76_1
noncomputable def pm_c77_0 : List (Option pm_I) := [some (.aload 0, 1, 0), some (.invokespecial 9999, 3, 328), none, none, some (.aload 0, 1, 0), some (.new 0, 3, 329), none, none, some (.dup, 1, 0), some (.iconst (120), 2, 0), none, some (.invokeinterface 0 2, 3, 330), none, none, some (.checkcast 576, 3, 331), none, none, some (.aload 0, 1, 0), some (.iconst (4), 1, 0), some (.newarray .int, 2, 0), none, some (.checkcast 577, 3, 333), none, none, some (.return_, 1, 0)]
/-- FrameTyper$TableWriter.<init>()V -/
noncomputable def pm_c77 : List (Option pm_I) := pm_c77_0
noncomputable def pm_c78_0 : List (Option pm_I) := [some (.aload 1, 1, 0), some (.getfield 256, 3, 114), none, none, some (.iconst (0), 1, 0), some (.aload 0, 1, 0), some (.getfield 577, 3, 333), none, none, some (.iconst (0), 1, 0), some (.iconst (4), 1, 0), some (.invokedynamic 0, 3, 865), none, none, some (.aload 0, 1, 0), some (.aload 1, 1, 0), some (.getfield 257, 3, 117), none, none, some (.putfield 578, 3, 334), none, none, some (.aload 0, 1, 0), some (.iconst (-1), 1, 0), some (.putfield 579, 3, 335), none, none, some (.aload 0, 1, 0), some (.getfield 576, 3, 331), none, none, some (.invokeinterface 1 1, 3, 866), none, none, some (.aload 0, 1, 0), some (.getfield 576, 3, 331), none, none, some (.iload 2, 1, 0), some (.invokeinterface 4 2, 3, 867)]
noncomputable def pm_c78_1 : List (Option pm_I) := [none, none, some (.return_, 1, 0)]
/-- FrameTyper$TableWriter.begin(LFrameTyper$Signature;I)V -/
noncomputable def pm_c78 : List (Option pm_I) := List.append pm_c78_0 pm_c78_1
noncomputable def pm_c79_0 : List (Option pm_I) := [some (.iload 2, 1, 0), some (.aload 0, 1, 0), some (.getfield 579, 3, 335), none, none, some (.isub, 1, 0), some (.iconst (1), 1, 0), some (.isub, 1, 0), some (.istore 3, 1, 0), some (.aload 0, 1, 0), some (.aload 1, 1, 0), some (.iload 2, 1, 0), some (.invokeinterface 9080 3, 3, 872), none, none, some (.istore 4, 2, 0), none, some (.iload 4, 2, 0), none, some (.aload 0, 1, 0), some (.getfield 578, 3, 334), none, none, some (.isub, 1, 0), some (.istore 5, 2, 0), none, some (.aload 1, 1, 0), some (.iload 2, 1, 0), some (.invokeinterface 6049 2, 3, 877), none, none, some (.istore 6, 2, 0), none, some (.aload 0, 1, 0), some (.aload 1, 1, 0), some (.iload 2, 1, 0), some (.iload 4, 2, 0), none, some (.aload 0, 1, 0), some (.getfield 578, 3, 334)]
noncomputable def pm_c79_1 : List (Option pm_I) := [none, none, some (.dsub, 3, 878), none, none, some (.invokeinterface 9081 4, 3, 881), none, none, some (.istore 7, 2, 0), none, some (.iload 7, 2, 0), none, some (.ifCond .eq 76, 3, 0), none, none, some (.iload 5, 2, 0), none, some (.ifCond .ne 76, 3, 0), none, none, some (.iload 6, 2, 0), none, some (.ifCond .ne 76, 3, 0), none, none, some (.aload 0, 1, 0), some (.getfield 576, 3, 331), none, none, some (.iload 3, 1, 0), some (.invokeinterface 4 2, 3, 867), none, none, some (.goto 180, 3, 0), none, none, some (.iload 7, 2, 0), none, some (.ifCond .eq 116, 3, 0), none]
noncomputable def pm_c79_2 : List (Option pm_I) := [none, some (.iload 5, 2, 0), none, some (.ifCond .ne 116, 3, 0), none, none, some (.iload 6, 2, 0), none, some (.iconst (1), 1, 0), some (.if_icmp .ne 116, 3, 0), none, none, some (.aload 0, 1, 0), some (.getfield 576, 3, 331), none, none, some (.iconst (64), 2, 0), none, some (.iload 3, 1, 0), some (.iadd, 1, 0), some (.invokeinterface 4 2, 3, 867), none, none, some (.aload 0, 1, 0), some (.aload 1, 1, 0), some (.iload 2, 1, 0), some (.iconst (0), 1, 0), some (.invokeinterface 6051 3, 3, 885), none, none, some (.invokeinterface 9084 2, 3, 886), none, none, some (.goto 180, 3, 0), none, none, some (.iload 7, 2, 0), none, some (.ifCond .eq 171, 3, 0), none]
noncomputable def pm_c79_3 : List (Option pm_I) := [none, some (.iload 6, 2, 0), none, some (.ifCond .ne 171, 3, 0), none, none, some (.iload 5, 2, 0), none, some (.dneg, 3, 892), none, none, some (.iconst (3), 1, 0), some (.if_icmp .gt 171, 3, 0), none, none, some (.aload 0, 1, 0), some (.getfield 576, 3, 331), none, none, some (.iconst (251), 3, 0), none, none, some (.iload 5, 2, 0), none, some (.iadd, 1, 0), some (.invokeinterface 4 2, 3, 867), none, none, some (.aload 0, 1, 0), some (.getfield 576, 3, 331), none, none, some (.iload 3, 1, 0), some (.invokeinterface 4 2, 3, 867), none, none, some (.aload 0, 1, 0), some (.aload 1, 1, 0), some (.iload 2, 1, 0), some (.aload 0, 1, 0)]
noncomputable def pm_c79_4 : List (Option pm_I) := [some (.getfield 578, 3, 334), none, none, some (.iload 4, 2, 0), none, some (.invokeinterface 9083 5, 3, 895), none, none, some (.goto 180, 3, 0), none, none, some (.aload 0, 1, 0), some (.aload 1, 1, 0), some (.iload 2, 1, 0), some (.iload 3, 1, 0), some (.iload 4, 2, 0), none, some (.invokeinterface 9082 5, 3, 899), none, none, some (.aload 0, 1, 0), some (.aload 1, 1, 0), some (.iload 2, 1, 0), some (.iload 4, 2, 0), none, some (.invokeinterface 9085 4, 3, 903), none, none, some (.return_, 1, 0)]
/-- FrameTyper$TableWriter.write(LFrameTyper$States;I)V -/
noncomputable def pm_c79 : List (Option pm_I) := List.append pm_c79_0 (List.append pm_c79_1 (List.append pm_c79_2 (List.append pm_c79_3 pm_c79_4)))
noncomputable def pm_c80_0 : List (Option pm_I) := [some (.iconst (4), 1, 0), some (.istore 3, 1, 0), some (.iload 3, 1, 0), some (.ifCond .le 25, 3, 0), none, none, some (.aload 1, 1, 0), some (.iload 2, 1, 0), some (.iload 3, 1, 0), some (.iconst (1), 1, 0), some (.isub, 1, 0), some (.invokeinterface 6050 3, 3, 876), none, none, some (.ifCond .eq 19, 3, 0), none, none, some (.iload 3, 1, 0), some (.ireturn, 1, 0), some (.iinc 3 (-1), 3, 0), none, none, some (.goto 2, 3, 0), none, none, some (.iconst (0), 1, 0), some (.ireturn, 1, 0)]
/-- FrameTyper$TableWriter.localCount(LFrameTyper$States;I)I -/
noncomputable def pm_c80 : List (Option pm_I) := pm_c80_0
noncomputable def pm_c81_0 : List (Option pm_I) := [some (.iconst (0), 1, 0), some (.istore 4, 2, 0), none, some (.iload 4, 2, 0), none, some (.iload 3, 1, 0), some (.if_icmp .ge 34, 3, 0), none, none, some (.aload 1, 1, 0), some (.iload 2, 1, 0), some (.iload 4, 2, 0), none, some (.invokeinterface 6050 3, 3, 876), none, none, some (.aload 0, 1, 0), some (.getfield 577, 3, 333), none, none, some (.iload 4, 2, 0), none, some (.iaload, 1, 0), some (.if_icmp .eq 28, 3, 0), none, none, some (.iconst (0), 1, 0), some (.freturn, 1, 0), some (.iinc 4 1, 3, 0), none, none, some (.goto 3, 3, 0), none, none, some (.iconst (1), 1, 0), some (.freturn, 1, 0)]
/-- FrameTyper$TableWriter.sharesLocals(LFrameTyper$States;II)Z -/
noncomputable def pm_c81 : List (Option pm_I) := pm_c81_0
noncomputable def pm_c82_0 : List (Option pm_I) := [some (.aload 0, 1, 0), some (.getfield 576, 3, 331), none, none, some (.iconst (255), 3, 0), none, none, some (.invokeinterface 4 2, 3, 867), none, none, some (.aload 0, 1, 0), some (.getfield 576, 3, 331), none, none, some (.iload 3, 1, 0), some (.invokeinterface 4 2, 3, 867), none, none, some (.aload 0, 1, 0), some (.getfield 576, 3, 331), none, none, some (.iload 4, 2, 0), none, some (.invokeinterface 4 2, 3, 867), none, none, some (.aload 0, 1, 0), some (.aload 1, 1, 0), some (.iload 2, 1, 0), some (.iconst (0), 1, 0), some (.iload 4, 2, 0), none, some (.invokeinterface 9083 5, 3, 895), none, none, some (.aload 0, 1, 0), some (.getfield 576, 3, 331), none, none]
noncomputable def pm_c82_1 : List (Option pm_I) := [some (.aload 1, 1, 0), some (.iload 2, 1, 0), some (.invokeinterface 6049 2, 3, 877), none, none, some (.invokeinterface 4 2, 3, 867), none, none, some (.iconst (0), 1, 0), some (.istore 5, 2, 0), none, some (.iload 5, 2, 0), none, some (.aload 1, 1, 0), some (.iload 2, 1, 0), some (.invokeinterface 6049 2, 3, 877), none, none, some (.if_icmp .ge 78, 3, 0), none, none, some (.aload 0, 1, 0), some (.aload 1, 1, 0), some (.iload 2, 1, 0), some (.iload 5, 2, 0), none, some (.invokeinterface 6051 3, 3, 885), none, none, some (.invokeinterface 9084 2, 3, 886), none, none, some (.iinc 5 1, 3, 0), none, none, some (.goto 51, 3, 0), none, none, some (.return_, 1, 0)]
/-- FrameTyper$TableWriter.putFull(LFrameTyper$States;III)V -/
noncomputable def pm_c82 : List (Option pm_I) := List.append pm_c82_0 pm_c82_1
noncomputable def pm_c83_0 : List (Option pm_I) := [some (.iload 3, 1, 0), some (.istore 5, 2, 0), none, some (.iload 5, 2, 0), none, some (.iload 4, 2, 0), none, some (.if_icmp .ge 27, 3, 0), none, none, some (.aload 0, 1, 0), some (.aload 1, 1, 0), some (.iload 2, 1, 0), some (.iload 5, 2, 0), none, some (.invokeinterface 6050 3, 3, 876), none, none, some (.invokeinterface 9084 2, 3, 886), none, none, some (.iinc 5 1, 3, 0), none, none, some (.goto 3, 3, 0), none, none, some (.return_, 1, 0)]
/-- FrameTyper$TableWriter.putLocals(LFrameTyper$States;III)V -/
noncomputable def pm_c83 : List (Option pm_I) := pm_c83_0
noncomputable def pm_c84_0 : List (Option pm_I) := [some (.iload 1, 1, 0), some (.multianewarray 88 1, 3, 890), none, none, some (.ifCond .eq 30, 3, 0), none, none, some (.aload 0, 1, 0), some (.getfield 576, 3, 331), none, none, some (.iconst (7), 2, 0), none, some (.invokeinterface 4 2, 3, 867), none, none, some (.aload 0, 1, 0), some (.getfield 576, 3, 331), none, none, some (.iload 1, 1, 0), some (.iconst (16), 2, 0), none, some (.isub, 1, 0), some (.invokeinterface 4 2, 3, 867), none, none, some (.goto 68, 3, 0), none, none, some (.iload 1, 1, 0), some (.multianewarray 89 1, 3, 891), none, none, some (.ifCond .eq 60, 3, 0), none, none, some (.aload 0, 1, 0), some (.getfield 576, 3, 331), none]
noncomputable def pm_c84_1 : List (Option pm_I) := [none, some (.iconst (8), 2, 0), none, some (.invokeinterface 4 2, 3, 867), none, none, some (.aload 0, 1, 0), some (.getfield 576, 3, 331), none, none, some (.iload 1, 1, 0), some (.iconst (64), 2, 0), none, some (.isub, 1, 0), some (.invokeinterface 4 2, 3, 867), none, none, some (.goto 68, 3, 0), none, none, some (.aload 0, 1, 0), some (.getfield 576, 3, 331), none, none, some (.iload 1, 1, 0), some (.invokeinterface 4 2, 3, 867), none, none, some (.return_, 1, 0)]
/-- FrameTyper$TableWriter.putType(I)V -/
noncomputable def pm_c84 : List (Option pm_I) := List.append pm_c84_0 pm_c84_1
noncomputable def pm_c85_0 : List (Option pm_I) := [some (.iconst (0), 1, 0), some (.istore 4, 2, 0), none, some (.iload 4, 2, 0), none, some (.iload 3, 1, 0), some (.if_icmp .ge 29, 3, 0), none, none, some (.aload 0, 1, 0), some (.getfield 577, 3, 333), none, none, some (.iload 4, 2, 0), none, some (.aload 1, 1, 0), some (.iload 2, 1, 0), some (.iload 4, 2, 0), none, some (.invokeinterface 6050 3, 3, 876), none, none, some (.iastore, 1, 0), some (.iinc 4 1, 3, 0), none, none, some (.goto 3, 3, 0), none, none, some (.aload 0, 1, 0), some (.iload 3, 1, 0), some (.putfield 578, 3, 334), none, none, some (.aload 0, 1, 0), some (.iload 2, 1, 0), some (.putfield 579, 3, 335), none, none, some (.return_, 1, 0)]
/-- FrameTyper$TableWriter.remember(LFrameTyper$States;II)V -/
noncomputable def pm_c85 : List (Option pm_I) := pm_c85_0
noncomputable def pm_c86_0 : List (Option pm_I) := [some (.aload 0, 1, 0), some (.invokespecial 9999, 3, 105), none, none, some (.aload 0, 1, 0), some (.iconst (8), 2, 0), none, some (.newarray .int, 2, 0), none, some (.checkcast 640, 3, 135), none, none, some (.aload 0, 1, 0), some (.iconst (6), 2, 0), none, some (.newarray .int, 2, 0), none, some (.checkcast 641, 3, 136), none, none, some (.aload 0, 1, 0), some (.iconst (6), 2, 0), none, some (.newarray .int, 2, 0), none, some (.checkcast 642, 3, 138), none, none, some (.aload 0, 1, 0), some (.iconst (6), 2, 0), none, some (.anewarray 0, 3, 106), none, none, some (.checkcast 643, 3, 140), none, none, some (.aload 0, 1, 0), some (.new 4, 3, 106), none]
noncomputable def pm_c86_1 : List (Option pm_I) := [none, some (.dup, 1, 0), some (.invokeinterface 4037 1, 3, 109), none, none, some (.checkcast 644, 3, 143), none, none, some (.aload 0, 1, 0), some (.getfield 642, 3, 138), none, none, some (.iconst (1), 1, 0), some (.multianewarray 167 2, 3, 132), none, none, some (.iconst (0), 1, 0), some (.istore 1, 1, 0), some (.iload 1, 1, 0), some (.iconst (6), 2, 0), none, some (.if_icmp .ge 83, 3, 0), none, none, some (.aload 0, 1, 0), some (.getfield 643, 3, 140), none, none, some (.iload 1, 1, 0), some (.new 4, 3, 106), none, none, some (.dup, 1, 0), some (.invokeinterface 4037 1, 3, 109), none, none, some (.aastore, 1, 0), some (.iinc 1 1, 3, 0), none, none]
noncomputable def pm_c86_2 : List (Option pm_I) := [some (.goto 58, 3, 0), none, none, some (.return_, 1, 0)]
/-- FrameTyper$World.<init>()V -/
noncomputable def pm_c86 : List (Option pm_I) := List.append pm_c86_0 (List.append pm_c86_1 pm_c86_2)
noncomputable def pm_c87_0 : List (Option pm_I) := [some (.iload 0, 1, 0), some (.ifCond .lt 14, 3, 0), none, none, some (.iload 0, 1, 0), some (.iconst (8), 2, 0), none, some (.if_icmp .ge 14, 3, 0), none, none, some (.iconst (1), 1, 0), some (.goto 15, 3, 0), none, none, some (.iconst (0), 1, 0), some (.freturn, 1, 0)]
/-- FrameTyper$World.isClass(I)Z -/
noncomputable def pm_c87 : List (Option pm_I) := pm_c87_0
noncomputable def pm_c88_0 : List (Option pm_I) := [some (.iload 0, 1, 0), some (.iconst (16), 2, 0), none, some (.if_icmp .lt 16, 3, 0), none, none, some (.iload 0, 1, 0), some (.iconst (24), 2, 0), none, some (.if_icmp .ge 16, 3, 0), none, none, some (.iconst (1), 1, 0), some (.goto 17, 3, 0), none, none, some (.iconst (0), 1, 0), some (.freturn, 1, 0)]
/-- FrameTyper$World.isObject(I)Z -/
noncomputable def pm_c88 : List (Option pm_I) := pm_c88_0
noncomputable def pm_c89_0 : List (Option pm_I) := [some (.iload 0, 1, 0), some (.iconst (64), 2, 0), none, some (.if_icmp .lt 16, 3, 0), none, none, some (.iload 0, 1, 0), some (.iconst (112), 2, 0), none, some (.if_icmp .ge 16, 3, 0), none, none, some (.iconst (1), 1, 0), some (.goto 17, 3, 0), none, none, some (.iconst (0), 1, 0), some (.freturn, 1, 0)]
/-- FrameTyper$World.isNew(I)Z -/
noncomputable def pm_c89 : List (Option pm_I) := pm_c89_0
noncomputable def pm_c90_0 : List (Option pm_I) := [some (.iload 0, 1, 0), some (.iconst (2), 1, 0), some (.if_icmp .eq 19, 3, 0), none, none, some (.iload 0, 1, 0), some (.multianewarray 88 1, 3, 410), none, none, some (.ifCond .ne 19, 3, 0), none, none, some (.iload 0, 1, 0), some (.multianewarray 89 1, 3, 733), none, none, some (.ifCond .eq 23, 3, 0), none, none, some (.iconst (1), 1, 0), some (.goto 24, 3, 0), none, none, some (.iconst (0), 1, 0), some (.freturn, 1, 0)]
/-- FrameTyper$World.isReference(I)Z -/
noncomputable def pm_c90 : List (Option pm_I) := pm_c90_0
noncomputable def pm_c91_0 : List (Option pm_I) := [some (.iload 0, 1, 0), some (.iconst (1), 1, 0), some (.if_icmp .eq 12, 3, 0), none, none, some (.iload 0, 1, 0), some (.multianewarray 88 1, 3, 410), none, none, some (.ifCond .eq 16, 3, 0), none, none, some (.iconst (1), 1, 0), some (.goto 17, 3, 0), none, none, some (.iconst (0), 1, 0), some (.freturn, 1, 0)]
/-- FrameTyper$World.isKnown(I)Z -/
noncomputable def pm_c91 : List (Option pm_I) := pm_c91_0
noncomputable def pm_c92_0 : List (Option pm_I) := [some (.iload 0, 1, 0), some (.iconst (-1), 1, 0), some (.if_icmp .eq 12, 3, 0), none, none, some (.iload 0, 1, 0), some (.multianewarray 91 1, 3, 407), none, none, some (.ifCond .eq 16, 3, 0), none, none, some (.iconst (1), 1, 0), some (.goto 17, 3, 0), none, none, some (.iconst (0), 1, 0), some (.freturn, 1, 0)]
/-- FrameTyper$World.isKnownOrNone(I)Z -/
noncomputable def pm_c92 : List (Option pm_I) := pm_c92_0
noncomputable def pm_c93_0 : List (Option pm_I) := [some (.iload 1, 1, 0), some (.iconst (1), 1, 0), some (.if_icmp .lt 20, 3, 0), none, none, some (.iload 1, 1, 0), some (.iconst (8), 2, 0), none, some (.if_icmp .ge 20, 3, 0), none, none, some (.iload 2, 1, 0), some (.ifCond .lt 20, 3, 0), none, none, some (.iload 2, 1, 0), some (.iload 1, 1, 0), some (.if_icmp .lt 22, 3, 0), none, none, some (.iconst (0), 1, 0), some (.freturn, 1, 0), some (.aload 0, 1, 0), some (.getfield 640, 3, 135), none, none, some (.iload 1, 1, 0), some (.iload 2, 1, 0), some (.iastore, 1, 0), some (.iconst (1), 1, 0), some (.freturn, 1, 0)]
/-- FrameTyper$World.setParent(II)Z -/
noncomputable def pm_c93 : List (Option pm_I) := pm_c93_0
noncomputable def pm_c94_0 : List (Option pm_I) := [some (.iload 1, 1, 0), some (.ifCond .lt 24, 3, 0), none, none, some (.iload 1, 1, 0), some (.iconst (6), 2, 0), none, some (.if_icmp .ge 24, 3, 0), none, none, some (.iload 2, 1, 0), some (.multianewarray 87 1, 3, 404), none, none, some (.ifCond .eq 24, 3, 0), none, none, some (.iload 3, 1, 0), some (.multianewarray 91 1, 3, 407), none, none, some (.ifCond .ne 26, 3, 0), none, none, some (.iconst (0), 1, 0), some (.freturn, 1, 0), some (.aload 0, 1, 0), some (.getfield 641, 3, 136), none, none, some (.iload 1, 1, 0), some (.iload 2, 1, 0), some (.iastore, 1, 0), some (.aload 0, 1, 0), some (.getfield 642, 3, 138), none, none, some (.iload 1, 1, 0), some (.iload 3, 1, 0), some (.iastore, 1, 0)]
noncomputable def pm_c94_1 : List (Option pm_I) := [some (.iconst (1), 1, 0), some (.freturn, 1, 0)]
/-- FrameTyper$World.setField(III)Z -/
noncomputable def pm_c94 : List (Option pm_I) := List.append pm_c94_0 pm_c94_1
noncomputable def pm_c95_0 : List (Option pm_I) := [some (.iconst (0), 1, 0), some (.istore 3, 1, 0), some (.iload 3, 1, 0), some (.iconst (16), 2, 0), none, some (.if_icmp .ge 41, 3, 0), none, none, some (.iload 1, 1, 0), some (.iload 2, 1, 0), some (.if_icmp .eq 41, 3, 0), none, none, some (.iload 1, 1, 0), some (.iload 2, 1, 0), some (.if_icmp .le 28, 3, 0), none, none, some (.aload 0, 1, 0), some (.getfield 640, 3, 135), none, none, some (.iload 1, 1, 0), some (.iaload, 1, 0), some (.istore 1, 1, 0), some (.goto 35, 3, 0), none, none, some (.aload 0, 1, 0), some (.getfield 640, 3, 135), none, none, some (.iload 2, 1, 0), some (.iaload, 1, 0), some (.istore 2, 1, 0), some (.iinc 3 1, 3, 0), none, none, some (.goto 2, 3, 0), none]
noncomputable def pm_c95_1 : List (Option pm_I) := [none, some (.iload 1, 1, 0), some (.ireturn, 1, 0)]
/-- FrameTyper$World.sharedClass(II)I -/
noncomputable def pm_c95 : List (Option pm_I) := List.append pm_c95_0 pm_c95_1
noncomputable def pm_c96_0 : List (Option pm_I) := [some (.iload 2, 1, 0), some (.ifCond .eq 9, 3, 0), none, none, some (.iload 1, 1, 0), some (.iload 2, 1, 0), some (.if_icmp .ne 11, 3, 0), none, none, some (.iconst (1), 1, 0), some (.freturn, 1, 0), some (.iload 2, 1, 0), some (.multianewarray 88 1, 3, 410), none, none, some (.ifCond .ne 20, 3, 0), none, none, some (.iconst (0), 1, 0), some (.freturn, 1, 0), some (.iload 1, 1, 0), some (.iconst (2), 1, 0), some (.if_icmp .ne 27, 3, 0), none, none, some (.iconst (1), 1, 0), some (.freturn, 1, 0), some (.iload 1, 1, 0), some (.multianewarray 88 1, 3, 410), none, none, some (.ifCond .eq 57, 3, 0), none, none, some (.aload 0, 1, 0), some (.iload 1, 1, 0), some (.iconst (16), 2, 0), none, some (.isub, 1, 0), some (.iload 2, 1, 0)]
noncomputable def pm_c96_1 : List (Option pm_I) := [some (.iconst (16), 2, 0), none, some (.isub, 1, 0), some (.invokeinterface 10095 3, 3, 671), none, none, some (.iload 2, 1, 0), some (.iconst (16), 2, 0), none, some (.isub, 1, 0), some (.if_icmp .ne 57, 3, 0), none, none, some (.iconst (1), 1, 0), some (.goto 58, 3, 0), none, none, some (.iconst (0), 1, 0), some (.freturn, 1, 0)]
/-- FrameTyper$World.fits(II)Z -/
noncomputable def pm_c96 : List (Option pm_I) := List.append pm_c96_0 pm_c96_1
noncomputable def pm_c97_0 : List (Option pm_I) := [some (.iload 1, 1, 0), some (.iload 2, 1, 0), some (.if_icmp .ne 7, 3, 0), none, none, some (.iload 1, 1, 0), some (.ireturn, 1, 0), some (.iload 1, 1, 0), some (.iconst (2), 1, 0), some (.if_icmp .ne 21, 3, 0), none, none, some (.iload 2, 1, 0), some (.multianewarray 88 1, 3, 410), none, none, some (.ifCond .eq 21, 3, 0), none, none, some (.iload 2, 1, 0), some (.ireturn, 1, 0), some (.iload 2, 1, 0), some (.iconst (2), 1, 0), some (.if_icmp .ne 35, 3, 0), none, none, some (.iload 1, 1, 0), some (.multianewarray 88 1, 3, 410), none, none, some (.ifCond .eq 35, 3, 0), none, none, some (.iload 1, 1, 0), some (.ireturn, 1, 0), some (.iload 1, 1, 0), some (.multianewarray 88 1, 3, 410), none, none, some (.ifCond .eq 65, 3, 0)]
noncomputable def pm_c97_1 : List (Option pm_I) := [none, none, some (.iload 2, 1, 0), some (.multianewarray 88 1, 3, 410), none, none, some (.ifCond .eq 65, 3, 0), none, none, some (.iconst (16), 2, 0), none, some (.aload 0, 1, 0), some (.iload 1, 1, 0), some (.iconst (16), 2, 0), none, some (.isub, 1, 0), some (.iload 2, 1, 0), some (.iconst (16), 2, 0), none, some (.isub, 1, 0), some (.invokeinterface 10095 3, 3, 671), none, none, some (.iadd, 1, 0), some (.ireturn, 1, 0), some (.iconst (0), 1, 0), some (.ireturn, 1, 0)]
/-- FrameTyper$World.meet(II)I -/
noncomputable def pm_c97 : List (Option pm_I) := List.append pm_c97_0 pm_c97_1
noncomputable def pm_c98_0 : List (Option pm_I) := [some (.aload 0, 1, 0), some (.invokespecial 9999, 3, 97), none, none, some (.aload 0, 1, 0), some (.new 10, 3, 100), none, none, some (.dup, 1, 0), some (.invokeinterface 10086 1, 3, 102), none, none, some (.checkcast 704, 3, 369), none, none, some (.aload 0, 1, 0), some (.new 2, 3, 160), none, none, some (.dup, 1, 0), some (.invokeinterface 2013 1, 3, 162), none, none, some (.checkcast 705, 3, 370), none, none, some (.aload 0, 1, 0), some (.new 0, 3, 191), none, none, some (.dup, 1, 0), some (.iconst (120), 2, 0), none, some (.invokeinterface 0 2, 3, 192), none, none, some (.checkcast 706, 3, 371), none, none, some (.aload 0, 1, 0)]
noncomputable def pm_c98_1 : List (Option pm_I) := [some (.getfield 706, 3, 371), none, none, some (.iconst (0), 1, 0), some (.invokeinterface 4 2, 3, 193), none, none, some (.aload 0, 1, 0), some (.new 8, 3, 197), none, none, some (.dup, 1, 0), some (.aload 0, 1, 0), some (.getfield 704, 3, 369), none, none, some (.aload 0, 1, 0), some (.getfield 706, 3, 371), none, none, some (.invokeinterface 8068 3, 3, 199), none, none, some (.checkcast 707, 3, 372), none, none, some (.new 7, 3, 272), none, none, some (.dup, 1, 0), some (.aload 0, 1, 0), some (.getfield 704, 3, 369), none, none, some (.aload 0, 1, 0), some (.getfield 705, 3, 370), none, none, some (.invokeinterface 7056 3, 3, 274), none]
noncomputable def pm_c98_2 : List (Option pm_I) := [none, some (.astore 1, 1, 0), some (.aload 0, 1, 0), some (.new 1, 3, 298), none, none, some (.dup, 1, 0), some (.aload 0, 1, 0), some (.getfield 704, 3, 369), none, none, some (.aload 0, 1, 0), some (.getfield 705, 3, 370), none, none, some (.aload 1, 1, 0), some (.aload 0, 1, 0), some (.getfield 707, 3, 372), none, none, some (.getfield 512, 3, 243), none, none, some (.invokeinterface 1006 5, 3, 300), none, none, some (.checkcast 708, 3, 373), none, none, some (.aload 0, 1, 0), some (.new 3, 3, 317), none, none, some (.dup, 1, 0), some (.aload 0, 1, 0), some (.getfield 704, 3, 369), none, none, some (.aload 0, 1, 0), some (.getfield 705, 3, 370)]
noncomputable def pm_c98_3 : List (Option pm_I) := [none, none, some (.aload 1, 1, 0), some (.invokeinterface 3027 4, 3, 319), none, none, some (.checkcast 709, 3, 374), none, none, some (.return_, 1, 0)]
/-- FrameTyper.<init>()V -/
noncomputable def pm_c98 : List (Option pm_I) := List.append pm_c98_0 (List.append pm_c98_1 (List.append pm_c98_2 pm_c98_3))
noncomputable def pm_c99_0 : List (Option pm_I) := [some (.aload 0, 1, 0), some (.getfield 704, 3, 369), none, none, some (.iload 1, 1, 0), some (.iload 2, 1, 0), some (.invokeinterface 10093 3, 3, 392), none, none, some (.freturn, 1, 0)]
/-- FrameTyper.parent(II)Z -/
noncomputable def pm_c99 : List (Option pm_I) := pm_c99_0
noncomputable def pm_c100_0 : List (Option pm_I) := [some (.aload 0, 1, 0), some (.getfield 704, 3, 369), none, none, some (.iload 1, 1, 0), some (.iload 2, 1, 0), some (.iload 3, 1, 0), some (.invokeinterface 10094 4, 3, 400), none, none, some (.freturn, 1, 0)]
/-- FrameTyper.field(III)Z -/
noncomputable def pm_c100 : List (Option pm_I) := pm_c100_0
noncomputable def pm_c101_0 : List (Option pm_I) := [some (.iload 1, 1, 0), some (.ifCond .lt 10, 3, 0), none, none, some (.iload 1, 1, 0), some (.iconst (6), 2, 0), none, some (.if_icmp .lt 12, 3, 0), none, none, some (.iconst (0), 1, 0), some (.freturn, 1, 0), some (.aload 0, 1, 0), some (.getfield 704, 3, 369), none, none, some (.getfield 643, 3, 141), none, none, some (.iload 1, 1, 0), some (.aaload, 1, 0), some (.iload 2, 1, 0), some (.iload 3, 1, 0), some (.iload 4, 2, 0), none, some (.iconst (-1), 1, 0), some (.iload 5, 2, 0), none, some (.invokeinterface 4038 6, 3, 417), none, none, some (.freturn, 1, 0)]
/-- FrameTyper.routine(IIIII)Z -/
noncomputable def pm_c101 : List (Option pm_I) := pm_c101_0
noncomputable def pm_c102_0 : List (Option pm_I) := [some (.aload 0, 1, 0), some (.getfield 704, 3, 369), none, none, some (.getfield 644, 3, 148), none, none, some (.iload 1, 1, 0), some (.iload 2, 1, 0), some (.iload 3, 1, 0), some (.iload 4, 2, 0), none, some (.iload 5, 2, 0), none, some (.invokeinterface 4038 6, 3, 417), none, none, some (.freturn, 1, 0)]
/-- FrameTyper.method(IIIII)Z -/
noncomputable def pm_c102 : List (Option pm_I) := pm_c102_0
noncomputable def pm_c103_0 : List (Option pm_I) := [some (.aload 0, 1, 0), some (.getfield 705, 3, 370), none, none, some (.getfield 128, 3, 183), none, none, some (.lload 1, 1, 0), some (.iload 3, 1, 0), some (.invokeinterface 3 3, 3, 433), none, none, some (.ireturn, 1, 0)]
/-- FrameTyper.code(JI)I -/
noncomputable def pm_c103 : List (Option pm_I) := pm_c103_0
noncomputable def pm_c104_0 : List (Option pm_I) := [some (.aload 0, 1, 0), some (.getfield 705, 3, 370), none, none, some (.getfield 128, 3, 183), none, none, some (.getfield 1, 3, 176), none, none, some (.istore 1, 1, 0), some (.aload 0, 1, 0), some (.getfield 705, 3, 370), none, none, some (.getfield 128, 3, 183), none, none, some (.invokeinterface 1 1, 3, 442), none, none, some (.iload 1, 1, 0), some (.ireturn, 1, 0)]
/-- FrameTyper.clear()I -/
noncomputable def pm_c104 : List (Option pm_I) := pm_c104_0
noncomputable def pm_c105_0 : List (Option pm_I) := [some (.iload 3, 1, 0), some (.ifCond .ne 13, 3, 0), none, none, some (.aload 0, 1, 0), some (.getfield 706, 3, 371), none, none, some (.invokeinterface 1 1, 3, 442), none, none, some (.iconst (0), 1, 0), some (.ireturn, 1, 0), some (.aload 0, 1, 0), some (.getfield 706, 3, 371), none, none, some (.lload 1, 1, 0), some (.iload 3, 1, 0), some (.invokeinterface 3 3, 3, 433), none, none, some (.ireturn, 1, 0)]
/-- FrameTyper.table(JI)I -/
noncomputable def pm_c105 : List (Option pm_I) := pm_c105_0
noncomputable def pm_c106_0 : List (Option pm_I) := [some (.aload 0, 1, 0), some (.getfield 706, 3, 371), none, none, some (.iload 1, 1, 0), some (.invokeinterface 2 2, 3, 454), none, none, some (.ireturn, 1, 0)]
/-- FrameTyper.tableAt(I)I -/
noncomputable def pm_c106 : List (Option pm_I) := pm_c106_0
noncomputable def pm_c107_0 : List (Option pm_I) := [some (.aload 0, 1, 0), some (.getfield 707, 3, 372), none, none, some (.invokeinterface 8069 1, 3, 466), none, none, some (.ifCond .ne 20, 3, 0), none, none, some (.nop, 3, 0), none, none, some (.dup, 1, 0), some (.nop, 2, 0), none, some (.nop, 3, 0), none, none, some (.nop, 1, 0), some (.aload 0, 1, 0), some (.getfield 707, 3, 372), none, none, some (.getfield 513, 3, 245), none, none, some (.ireturn, 1, 0)]
/-- FrameTyper.frames()I -/
noncomputable def pm_c107 : List (Option pm_I) := pm_c107_0
noncomputable def pm_c108_0 : List (Option pm_I) := [some (.aload 0, 1, 0), some (.getfield 707, 3, 372), none, none, some (.invokeinterface 8069 1, 3, 466), none, none, some (.ifCond .ne 20, 3, 0), none, none, some (.nop, 3, 0), none, none, some (.dup, 1, 0), some (.nop, 2, 0), none, some (.nop, 3, 0), none, none, some (.nop, 1, 0), some (.aload 0, 1, 0), some (.getfield 707, 3, 372), none, none, some (.iload 1, 1, 0), some (.iload 2, 1, 0), some (.invokeinterface 8070 3, 3, 590), none, none, some (.ireturn, 1, 0)]
/-- FrameTyper.frame(II)I -/
noncomputable def pm_c108 : List (Option pm_I) := pm_c108_0
noncomputable def pm_c109_0 : List (Option pm_I) := [some (.aload 0, 1, 0), some (.getfield 707, 3, 372), none, none, some (.invokeinterface 8069 1, 3, 466), none, none, some (.ifCond .ne 20, 3, 0), none, none, some (.nop, 3, 0), none, none, some (.dup, 1, 0), some (.nop, 2, 0), none, some (.nop, 3, 0), none, none, some (.nop, 1, 0), some (.aload 0, 1, 0), some (.getfield 708, 3, 373), none, none, some (.invokeinterface 1007 1, 3, 613), none, none, some (.ireturn, 1, 0)]
/-- FrameTyper.check()I -/
noncomputable def pm_c109 : List (Option pm_I) := pm_c109_0
noncomputable def pm_c110_0 : List (Option pm_I) := [some (.aload 0, 1, 0), some (.getfield 709, 3, 374), none, none, some (.invokeinterface 3028 1, 3, 802), none, none, some (.istore 1, 1, 0), some (.iload 1, 1, 0), some (.ifCond .eq 15, 3, 0), none, none, some (.iload 1, 1, 0), some (.ineg, 1, 0), some (.ireturn, 1, 0), some (.aload 0, 1, 0), some (.getfield 709, 3, 374), none, none, some (.invokeinterface 3030 1, 3, 849), none, none, some (.astore 2, 1, 0), some (.aload 2, 1, 0), some (.getfield 1, 3, 176), none, none, some (.iconst (120), 2, 0), none, some (.if_icmp .le 42, 3, 0), none, none, some (.nop, 3, 0), none, none, some (.dup, 1, 0), some (.nop, 2, 0), none, some (.nop, 3, 0), none]
noncomputable def pm_c110_1 : List (Option pm_I) := [none, some (.nop, 1, 0), some (.aload 0, 1, 0), some (.getfield 706, 3, 371), none, none, some (.aload 2, 1, 0), some (.invokeinterface 5 2, 3, 923), none, none, some (.aload 0, 1, 0), some (.getfield 706, 3, 371), none, none, some (.getfield 1, 3, 176), none, none, some (.ireturn, 1, 0)]
/-- FrameTyper.make()I -/
noncomputable def pm_c110 : List (Option pm_I) := List.append pm_c110_0 pm_c110_1
noncomputable def pm_c111_0 : List (Option pm_I) := [some (.aload 0, 1, 0), some (.invokespecial 9999, 3, 934), none, none, some (.aload 0, 1, 0), some (.iconst (8), 2, 0), none, some (.newarray .int, 2, 0), none, some (.checkcast 769, 3, 936), none, none, some (.aload 0, 1, 0), some (.iconst (6), 2, 0), none, some (.newarray .int, 2, 0), none, some (.checkcast 770, 3, 937), none, none, some (.aload 0, 1, 0), some (.iconst (6), 2, 0), none, some (.newarray .int, 2, 0), none, some (.checkcast 771, 3, 938), none, none, some (.aload 0, 1, 0), some (.iconst (18), 2, 0), none, some (.newarray .int, 2, 0), none, some (.checkcast 772, 3, 939), none, none, some (.aload 0, 1, 0), some (.iconst (6), 2, 0), none, some (.newarray .int, 2, 0)]
noncomputable def pm_c111_1 : List (Option pm_I) := [none, some (.checkcast 773, 3, 940), none, none, some (.aload 0, 1, 0), some (.iconst (6), 2, 0), none, some (.newarray .int, 2, 0), none, some (.checkcast 774, 3, 941), none, none, some (.aload 0, 1, 0), some (.iconst (4), 1, 0), some (.newarray .int, 2, 0), none, some (.checkcast 775, 3, 942), none, none, some (.aload 0, 1, 0), some (.iconst (48), 2, 0), none, some (.newarray .int, 2, 0), none, some (.checkcast 778, 3, 945), none, none, some (.aload 0, 1, 0), some (.iconst (120), 2, 0), none, some (.newarray .int, 2, 0), none, some (.checkcast 780, 3, 947), none, none, some (.aload 0, 1, 0), some (.iconst (1), 1, 0), some (.putfield 781, 3, 948), none, none]
noncomputable def pm_c111_2 : List (Option pm_I) := [some (.aload 0, 1, 0), some (.iconst (48), 2, 0), none, some (.newarray .int, 2, 0), none, some (.checkcast 783, 3, 950), none, none, some (.aload 0, 1, 0), some (.iconst (48), 2, 0), none, some (.newarray .int, 2, 0), none, some (.checkcast 784, 3, 951), none, none, some (.aload 0, 1, 0), some (.iconst (480), 3, 0), none, none, some (.newarray .int, 2, 0), none, some (.checkcast 785, 3, 952), none, none, some (.aload 0, 1, 0), some (.iconst (10), 2, 0), none, some (.newarray .int, 2, 0), none, some (.checkcast 788, 3, 955), none, none, some (.aload 0, 1, 0), some (.iconst (49), 2, 0), none, some (.newarray .boolean, 2, 0), none, some (.checkcast 792, 3, 959), none]
noncomputable def pm_c111_3 : List (Option pm_I) := [none, some (.aload 0, 1, 0), some (.iconst (49), 2, 0), none, some (.newarray .boolean, 2, 0), none, some (.checkcast 793, 3, 960), none, none, some (.aload 0, 1, 0), some (.iconst (49), 2, 0), none, some (.newarray .boolean, 2, 0), none, some (.checkcast 794, 3, 961), none, none, some (.aload 0, 1, 0), some (.iconst (49), 2, 0), none, some (.newarray .boolean, 2, 0), none, some (.checkcast 795, 3, 962), none, none, some (.aload 0, 1, 0), some (.iconst (490), 3, 0), none, none, some (.newarray .int, 2, 0), none, some (.checkcast 796, 3, 963), none, none, some (.aload 0, 1, 0), some (.iconst (700), 3, 0), none, none, some (.newarray .int, 2, 0), none]
noncomputable def pm_c111_4 : List (Option pm_I) := [some (.checkcast 797, 3, 964), none, none, some (.aload 0, 1, 0), some (.iconst (4), 1, 0), some (.newarray .int, 2, 0), none, some (.checkcast 799, 3, 966), none, none, some (.iconst (0), 1, 0), some (.istore 1, 1, 0), some (.iload 1, 1, 0), some (.iconst (6), 2, 0), none, some (.if_icmp .ge 191, 3, 0), none, none, some (.aload 0, 1, 0), some (.getfield 771, 3, 938), none, none, some (.iload 1, 1, 0), some (.iconst (1), 1, 0), some (.iastore, 1, 0), some (.iinc 1 1, 3, 0), none, none, some (.goto 172, 3, 0), none, none, some (.return_, 1, 0)]
/-- FrameTyperModel.<init>()V -/
noncomputable def pm_c111 : List (Option pm_I) := List.append pm_c111_0 (List.append pm_c111_1 (List.append pm_c111_2 (List.append pm_c111_3 pm_c111_4)))
noncomputable def pm_c112_0 : List (Option pm_I) := [some (.aload 0, 1, 0), some (.getfield 768, 3, 935), none, none, some (.ireturn, 1, 0)]
/-- FrameTyperModel.thrown()I -/
noncomputable def pm_c112 : List (Option pm_I) := pm_c112_0
noncomputable def pm_c113_0 : List (Option pm_I) := [some (.iload 0, 1, 0), some (.iconst (16), 2, 0), none, some (.if_icmp .lt 16, 3, 0), none, none, some (.iload 0, 1, 0), some (.iconst (24), 2, 0), none, some (.if_icmp .ge 16, 3, 0), none, none, some (.iconst (1), 1, 0), some (.goto 17, 3, 0), none, none, some (.iconst (0), 1, 0), some (.freturn, 1, 0)]
/-- FrameTyperModel.isObject(I)Z -/
noncomputable def pm_c113 : List (Option pm_I) := pm_c113_0
noncomputable def pm_c114_0 : List (Option pm_I) := [some (.iload 0, 1, 0), some (.iconst (1), 1, 0), some (.if_icmp .eq 12, 3, 0), none, none, some (.iload 0, 1, 0), some (.multianewarray 113 1, 3, 1047), none, none, some (.ifCond .eq 16, 3, 0), none, none, some (.iconst (1), 1, 0), some (.goto 17, 3, 0), none, none, some (.iconst (0), 1, 0), some (.freturn, 1, 0)]
/-- FrameTyperModel.isKnown(I)Z -/
noncomputable def pm_c114 : List (Option pm_I) := pm_c114_0
noncomputable def pm_c115_0 : List (Option pm_I) := [some (.iload 0, 1, 0), some (.iconst (64), 2, 0), none, some (.if_icmp .lt 10, 3, 0), none, none, some (.iconst (1), 1, 0), some (.goto 11, 3, 0), none, none, some (.iconst (0), 1, 0), some (.freturn, 1, 0)]
/-- FrameTyperModel.isNew(I)Z -/
noncomputable def pm_c115 : List (Option pm_I) := pm_c115_0
noncomputable def pm_c116_0 : List (Option pm_I) := [some (.iload 1, 1, 0), some (.istore 3, 1, 0), some (.iload 3, 1, 0), some (.iload 2, 1, 0), some (.if_icmp .le 17, 3, 0), none, none, some (.aload 0, 1, 0), some (.getfield 769, 3, 936), none, none, some (.iload 3, 1, 0), some (.iaload, 1, 0), some (.istore 3, 1, 0), some (.goto 2, 3, 0), none, none, some (.iload 3, 1, 0), some (.iload 2, 1, 0), some (.if_icmp .ne 26, 3, 0), none, none, some (.iconst (1), 1, 0), some (.goto 27, 3, 0), none, none, some (.iconst (0), 1, 0), some (.freturn, 1, 0)]
/-- FrameTyperModel.isBelow(II)Z -/
noncomputable def pm_c116 : List (Option pm_I) := pm_c116_0
noncomputable def pm_c117_0 : List (Option pm_I) := [some (.iload 2, 1, 0), some (.ifCond .eq 50, 3, 0), none, none, some (.iload 1, 1, 0), some (.iload 2, 1, 0), some (.if_icmp .eq 50, 3, 0), none, none, some (.iload 1, 1, 0), some (.iconst (2), 1, 0), some (.if_icmp .ne 21, 3, 0), none, none, some (.iload 2, 1, 0), some (.multianewarray 113 1, 3, 1047), none, none, some (.ifCond .ne 50, 3, 0), none, none, some (.iload 1, 1, 0), some (.multianewarray 113 1, 3, 1047), none, none, some (.ifCond .eq 54, 3, 0), none, none, some (.iload 2, 1, 0), some (.multianewarray 113 1, 3, 1047), none, none, some (.ifCond .eq 54, 3, 0), none, none, some (.aload 0, 1, 0), some (.iload 1, 1, 0), some (.iconst (16), 2, 0), none, some (.isub, 1, 0)]
noncomputable def pm_c117_1 : List (Option pm_I) := [some (.iload 2, 1, 0), some (.iconst (16), 2, 0), none, some (.isub, 1, 0), some (.invokeinterface 12116 3, 3, 1145), none, none, some (.ifCond .eq 54, 3, 0), none, none, some (.iconst (1), 1, 0), some (.goto 55, 3, 0), none, none, some (.iconst (0), 1, 0), some (.freturn, 1, 0)]
/-- FrameTyperModel.fits(II)Z -/
noncomputable def pm_c117 : List (Option pm_I) := List.append pm_c117_0 pm_c117_1
noncomputable def pm_c118_0 : List (Option pm_I) := [some (.iload 1, 1, 0), some (.iload 2, 1, 0), some (.if_icmp .ne 7, 3, 0), none, none, some (.iload 1, 1, 0), some (.ireturn, 1, 0), some (.iload 1, 1, 0), some (.iconst (2), 1, 0), some (.if_icmp .ne 21, 3, 0), none, none, some (.iload 2, 1, 0), some (.multianewarray 113 1, 3, 1047), none, none, some (.ifCond .eq 21, 3, 0), none, none, some (.iload 2, 1, 0), some (.ireturn, 1, 0), some (.iload 2, 1, 0), some (.iconst (2), 1, 0), some (.if_icmp .ne 35, 3, 0), none, none, some (.iload 1, 1, 0), some (.multianewarray 113 1, 3, 1047), none, none, some (.ifCond .eq 35, 3, 0), none, none, some (.iload 1, 1, 0), some (.ireturn, 1, 0), some (.iload 1, 1, 0), some (.multianewarray 113 1, 3, 1047), none, none, some (.ifCond .eq 49, 3, 0)]
noncomputable def pm_c118_1 : List (Option pm_I) := [none, none, some (.iload 2, 1, 0), some (.multianewarray 113 1, 3, 1047), none, none, some (.ifCond .ne 51, 3, 0), none, none, some (.iconst (0), 1, 0), some (.ireturn, 1, 0), some (.iload 1, 1, 0), some (.iconst (16), 2, 0), none, some (.isub, 1, 0), some (.istore 3, 1, 0), some (.aload 0, 1, 0), some (.iload 2, 1, 0), some (.iconst (16), 2, 0), none, some (.isub, 1, 0), some (.iload 3, 1, 0), some (.invokeinterface 12116 3, 3, 1145), none, none, some (.ifCond .ne 78, 3, 0), none, none, some (.aload 0, 1, 0), some (.getfield 769, 3, 936), none, none, some (.iload 3, 1, 0), some (.iaload, 1, 0), some (.istore 3, 1, 0), some (.goto 56, 3, 0), none, none, some (.iconst (16), 2, 0), none]
noncomputable def pm_c118_2 : List (Option pm_I) := [some (.iload 3, 1, 0), some (.iadd, 1, 0), some (.ireturn, 1, 0)]
/-- FrameTyperModel.meet(II)I -/
noncomputable def pm_c118 : List (Option pm_I) := List.append pm_c118_0 (List.append pm_c118_1 pm_c118_2)
noncomputable def pm_c119_0 : List (Option pm_I) := [some (.aload 0, 1, 0), some (.iconst (0), 1, 0), some (.putfield 768, 3, 935), none, none, some (.iload 1, 1, 0), some (.iconst (1), 1, 0), some (.if_icmp .lt 25, 3, 0), none, none, some (.iload 1, 1, 0), some (.iconst (7), 2, 0), none, some (.if_icmp .gt 25, 3, 0), none, none, some (.iload 2, 1, 0), some (.ifCond .lt 25, 3, 0), none, none, some (.iload 2, 1, 0), some (.iload 1, 1, 0), some (.if_icmp .lt 27, 3, 0), none, none, some (.iconst (0), 1, 0), some (.freturn, 1, 0), some (.aload 0, 1, 0), some (.getfield 769, 3, 936), none, none, some (.iload 1, 1, 0), some (.iload 2, 1, 0), some (.iastore, 1, 0), some (.iconst (1), 1, 0), some (.freturn, 1, 0)]
/-- FrameTyperModel.parent(II)Z -/
noncomputable def pm_c119 : List (Option pm_I) := pm_c119_0
noncomputable def pm_c120_0 : List (Option pm_I) := [some (.aload 0, 1, 0), some (.iconst (0), 1, 0), some (.putfield 768, 3, 935), none, none, some (.iload 1, 1, 0), some (.ifCond .lt 31, 3, 0), none, none, some (.iload 1, 1, 0), some (.iconst (5), 1, 0), some (.if_icmp .gt 31, 3, 0), none, none, some (.iload 2, 1, 0), some (.ifCond .lt 31, 3, 0), none, none, some (.iload 2, 1, 0), some (.iconst (7), 2, 0), none, some (.if_icmp .gt 31, 3, 0), none, none, some (.iload 3, 1, 0), some (.multianewarray 114 1, 3, 1044), none, none, some (.ifCond .ne 33, 3, 0), none, none, some (.iconst (0), 1, 0), some (.freturn, 1, 0), some (.aload 0, 1, 0), some (.getfield 770, 3, 937), none, none, some (.iload 1, 1, 0), some (.iload 2, 1, 0), some (.iastore, 1, 0)]
noncomputable def pm_c120_1 : List (Option pm_I) := [some (.aload 0, 1, 0), some (.getfield 771, 3, 938), none, none, some (.iload 1, 1, 0), some (.iload 3, 1, 0), some (.iastore, 1, 0), some (.iconst (1), 1, 0), some (.freturn, 1, 0)]
/-- FrameTyperModel.field(III)Z -/
noncomputable def pm_c120 : List (Option pm_I) := List.append pm_c120_0 pm_c120_1
noncomputable def pm_c121_0 : List (Option pm_I) := [some (.iload 1, 1, 0), some (.iconst (-1), 1, 0), some (.if_icmp .eq 17, 3, 0), none, none, some (.iload 0, 1, 0), some (.iconst (-1), 1, 0), some (.if_icmp .eq 21, 3, 0), none, none, some (.iload 1, 1, 0), some (.multianewarray 114 1, 3, 1044), none, none, some (.ifCond .eq 21, 3, 0), none, none, some (.iconst (1), 1, 0), some (.goto 22, 3, 0), none, none, some (.iconst (0), 1, 0), some (.freturn, 1, 0)]
/-- FrameTyperModel.mayBe(II)Z -/
noncomputable def pm_c121 : List (Option pm_I) := pm_c121_0
noncomputable def pm_c122_0 : List (Option pm_I) := [some (.aload 0, 1, 0), some (.iconst (0), 1, 0), some (.putfield 768, 3, 935), none, none, some (.iload 1, 1, 0), some (.ifCond .lt 52, 3, 0), none, none, some (.iload 1, 1, 0), some (.iconst (5), 1, 0), some (.if_icmp .gt 52, 3, 0), none, none, some (.iconst (0), 1, 0), some (.iload 2, 1, 0), some (.multianewarray 121 2, 3, 1054), none, none, some (.ifCond .eq 52, 3, 0), none, none, some (.iload 2, 1, 0), some (.iload 3, 1, 0), some (.multianewarray 121 2, 3, 1054), none, none, some (.ifCond .eq 52, 3, 0), none, none, some (.iload 3, 1, 0), some (.iload 4, 2, 0), none, some (.multianewarray 121 2, 3, 1054), none, none, some (.ifCond .eq 52, 3, 0), none, none, some (.iload 5, 2, 0)]
noncomputable def pm_c122_1 : List (Option pm_I) := [none, some (.ifCond .eq 54, 3, 0), none, none, some (.iload 5, 2, 0), none, some (.multianewarray 114 1, 3, 1044), none, none, some (.ifCond .ne 54, 3, 0), none, none, some (.iconst (0), 1, 0), some (.freturn, 1, 0), some (.aload 0, 1, 0), some (.getfield 772, 3, 939), none, none, some (.iconst (3), 1, 0), some (.iload 1, 1, 0), some (.imul, 1, 0), some (.iload 2, 1, 0), some (.iastore, 1, 0), some (.aload 0, 1, 0), some (.getfield 772, 3, 939), none, none, some (.iconst (3), 1, 0), some (.iload 1, 1, 0), some (.imul, 1, 0), some (.iconst (1), 1, 0), some (.iadd, 1, 0), some (.iload 3, 1, 0), some (.iastore, 1, 0), some (.aload 0, 1, 0), some (.getfield 772, 3, 939), none, none, some (.iconst (3), 1, 0), some (.iload 1, 1, 0)]
noncomputable def pm_c122_2 : List (Option pm_I) := [some (.imul, 1, 0), some (.iconst (2), 1, 0), some (.iadd, 1, 0), some (.iload 4, 2, 0), none, some (.iastore, 1, 0), some (.aload 0, 1, 0), some (.getfield 773, 3, 940), none, none, some (.iload 1, 1, 0), some (.iload 2, 1, 0), some (.iconst (-1), 1, 0), some (.if_icmp .ne 100, 3, 0), none, none, some (.iconst (0), 1, 0), some (.goto 120, 3, 0), none, none, some (.iload 3, 1, 0), some (.iconst (-1), 1, 0), some (.if_icmp .ne 109, 3, 0), none, none, some (.iconst (1), 1, 0), some (.goto 120, 3, 0), none, none, some (.iload 4, 2, 0), none, some (.iconst (-1), 1, 0), some (.if_icmp .ne 119, 3, 0), none, none, some (.iconst (2), 1, 0), some (.goto 120, 3, 0), none, none, some (.iconst (3), 1, 0)]
noncomputable def pm_c122_3 : List (Option pm_I) := [some (.iastore, 1, 0), some (.aload 0, 1, 0), some (.getfield 774, 3, 941), none, none, some (.iload 1, 1, 0), some (.iload 5, 2, 0), none, some (.iastore, 1, 0), some (.iconst (1), 1, 0), some (.freturn, 1, 0)]
/-- FrameTyperModel.routine(IIIII)Z -/
noncomputable def pm_c122 : List (Option pm_I) := List.append pm_c122_0 (List.append pm_c122_1 (List.append pm_c122_2 pm_c122_3))
noncomputable def pm_c123_0 : List (Option pm_I) := [some (.aload 0, 1, 0), some (.iconst (0), 1, 0), some (.putfield 768, 3, 935), none, none, some (.iconst (0), 1, 0), some (.iload 1, 1, 0), some (.multianewarray 121 2, 3, 1054), none, none, some (.ifCond .eq 51, 3, 0), none, none, some (.iload 1, 1, 0), some (.iload 2, 1, 0), some (.multianewarray 121 2, 3, 1054), none, none, some (.ifCond .eq 51, 3, 0), none, none, some (.iload 2, 1, 0), some (.iload 3, 1, 0), some (.multianewarray 121 2, 3, 1054), none, none, some (.ifCond .eq 51, 3, 0), none, none, some (.iload 3, 1, 0), some (.iload 4, 2, 0), none, some (.multianewarray 121 2, 3, 1054), none, none, some (.ifCond .eq 51, 3, 0), none, none, some (.iload 5, 2, 0), none]
noncomputable def pm_c123_1 : List (Option pm_I) := [some (.ifCond .eq 53, 3, 0), none, none, some (.iload 5, 2, 0), none, some (.multianewarray 114 1, 3, 1044), none, none, some (.ifCond .ne 53, 3, 0), none, none, some (.iconst (0), 1, 0), some (.freturn, 1, 0), some (.aload 0, 1, 0), some (.getfield 775, 3, 942), none, none, some (.iconst (0), 1, 0), some (.iload 1, 1, 0), some (.iastore, 1, 0), some (.aload 0, 1, 0), some (.getfield 775, 3, 942), none, none, some (.iconst (1), 1, 0), some (.iload 2, 1, 0), some (.iastore, 1, 0), some (.aload 0, 1, 0), some (.getfield 775, 3, 942), none, none, some (.iconst (2), 1, 0), some (.iload 3, 1, 0), some (.iastore, 1, 0), some (.aload 0, 1, 0), some (.getfield 775, 3, 942), none, none, some (.iconst (3), 1, 0), some (.iload 4, 2, 0)]
noncomputable def pm_c123_2 : List (Option pm_I) := [none, some (.iastore, 1, 0), some (.aload 0, 1, 0), some (.iload 1, 1, 0), some (.iconst (-1), 1, 0), some (.if_icmp .ne 92, 3, 0), none, none, some (.iconst (0), 1, 0), some (.goto 121, 3, 0), none, none, some (.iload 2, 1, 0), some (.iconst (-1), 1, 0), some (.if_icmp .ne 101, 3, 0), none, none, some (.iconst (1), 1, 0), some (.goto 121, 3, 0), none, none, some (.iload 3, 1, 0), some (.iconst (-1), 1, 0), some (.if_icmp .ne 110, 3, 0), none, none, some (.iconst (2), 1, 0), some (.goto 121, 3, 0), none, none, some (.iload 4, 2, 0), none, some (.iconst (-1), 1, 0), some (.if_icmp .ne 120, 3, 0), none, none, some (.iconst (3), 1, 0), some (.goto 121, 3, 0), none, none]
noncomputable def pm_c123_3 : List (Option pm_I) := [some (.iconst (4), 1, 0), some (.putfield 776, 3, 943), none, none, some (.aload 0, 1, 0), some (.iload 5, 2, 0), none, some (.putfield 777, 3, 944), none, none, some (.iconst (1), 1, 0), some (.freturn, 1, 0)]
/-- FrameTyperModel.method(IIIII)Z -/
noncomputable def pm_c123 : List (Option pm_I) := List.append pm_c123_0 (List.append pm_c123_1 (List.append pm_c123_2 pm_c123_3))
noncomputable def pm_c124_0 : List (Option pm_I) := [some (.aload 0, 1, 0), some (.iconst (0), 1, 0), some (.putfield 768, 3, 935), none, none, some (.iload 3, 1, 0), some (.iconst (1), 1, 0), some (.if_icmp .lt 27, 3, 0), none, none, some (.iload 3, 1, 0), some (.iconst (8), 2, 0), none, some (.if_icmp .gt 27, 3, 0), none, none, some (.aload 0, 1, 0), some (.getfield 779, 3, 946), none, none, some (.iload 3, 1, 0), some (.iadd, 1, 0), some (.iconst (48), 2, 0), none, some (.if_icmp .le 29, 3, 0), none, none, some (.iconst (-1), 1, 0), some (.ireturn, 1, 0), some (.iload 3, 1, 0), some (.iconst (1), 1, 0), some (.isub, 1, 0), some (.istore 4, 2, 0), none, some (.iload 4, 2, 0), none, some (.ifCond .lt 76, 3, 0), none, none, some (.aload 0, 1, 0)]
noncomputable def pm_c124_1 : List (Option pm_I) := [some (.getfield 778, 3, 945), none, none, some (.aload 0, 1, 0), some (.getfield 779, 3, 946), none, none, some (.lload 1, 1, 0), some (.iconst (8), 2, 0), none, some (.iload 4, 2, 0), none, some (.imul, 1, 0), some (.lshr, 1, 0), some (.ldc2_w 255, 3, 1065), none, none, some (.land, 1, 0), some (.l2i, 1, 0), some (.iastore, 1, 0), some (.aload 0, 1, 0), some (.dup, 1, 0), some (.getfield 779, 3, 946), none, none, some (.iconst (1), 1, 0), some (.iadd, 1, 0), some (.putfield 779, 3, 946), none, none, some (.iinc 4 (-1), 3, 0), none, none, some (.goto 34, 3, 0), none, none, some (.aload 0, 1, 0), some (.getfield 779, 3, 946), none, none]
noncomputable def pm_c124_2 : List (Option pm_I) := [some (.ireturn, 1, 0)]
/-- FrameTyperModel.code(JI)I -/
noncomputable def pm_c124 : List (Option pm_I) := List.append pm_c124_0 (List.append pm_c124_1 pm_c124_2)
noncomputable def pm_c125_0 : List (Option pm_I) := [some (.aload 0, 1, 0), some (.iconst (0), 1, 0), some (.putfield 768, 3, 935), none, none, some (.aload 0, 1, 0), some (.getfield 779, 3, 946), none, none, some (.istore 1, 1, 0), some (.aload 0, 1, 0), some (.iconst (0), 1, 0), some (.putfield 779, 3, 946), none, none, some (.iload 1, 1, 0), some (.ireturn, 1, 0)]
/-- FrameTyperModel.clear()I -/
noncomputable def pm_c125 : List (Option pm_I) := pm_c125_0
noncomputable def pm_c126_0 : List (Option pm_I) := [some (.aload 0, 1, 0), some (.iconst (0), 1, 0), some (.putfield 768, 3, 935), none, none, some (.iload 3, 1, 0), some (.ifCond .ne 16, 3, 0), none, none, some (.aload 0, 1, 0), some (.iconst (0), 1, 0), some (.putfield 781, 3, 948), none, none, some (.iconst (0), 1, 0), some (.ireturn, 1, 0), some (.iload 3, 1, 0), some (.ifCond .lt 37, 3, 0), none, none, some (.iload 3, 1, 0), some (.iconst (8), 2, 0), none, some (.if_icmp .gt 37, 3, 0), none, none, some (.aload 0, 1, 0), some (.getfield 781, 3, 948), none, none, some (.iload 3, 1, 0), some (.iadd, 1, 0), some (.iconst (120), 2, 0), none, some (.if_icmp .le 39, 3, 0), none, none, some (.iconst (-1), 1, 0), some (.ireturn, 1, 0), some (.iload 3, 1, 0)]
noncomputable def pm_c126_1 : List (Option pm_I) := [some (.iconst (1), 1, 0), some (.isub, 1, 0), some (.istore 4, 2, 0), none, some (.iload 4, 2, 0), none, some (.ifCond .lt 86, 3, 0), none, none, some (.aload 0, 1, 0), some (.getfield 780, 3, 947), none, none, some (.aload 0, 1, 0), some (.getfield 781, 3, 948), none, none, some (.lload 1, 1, 0), some (.iconst (8), 2, 0), none, some (.iload 4, 2, 0), none, some (.imul, 1, 0), some (.lshr, 1, 0), some (.ldc2_w 255, 3, 1065), none, none, some (.land, 1, 0), some (.l2i, 1, 0), some (.iastore, 1, 0), some (.aload 0, 1, 0), some (.dup, 1, 0), some (.getfield 781, 3, 948), none, none, some (.iconst (1), 1, 0), some (.iadd, 1, 0), some (.putfield 781, 3, 948), none, none]
noncomputable def pm_c126_2 : List (Option pm_I) := [some (.iinc 4 (-1), 3, 0), none, none, some (.goto 44, 3, 0), none, none, some (.aload 0, 1, 0), some (.getfield 781, 3, 948), none, none, some (.ireturn, 1, 0)]
/-- FrameTyperModel.table(JI)I -/
noncomputable def pm_c126 : List (Option pm_I) := List.append pm_c126_0 (List.append pm_c126_1 pm_c126_2)
noncomputable def pm_c127_0 : List (Option pm_I) := [some (.aload 0, 1, 0), some (.iconst (0), 1, 0), some (.putfield 768, 3, 935), none, none, some (.iload 1, 1, 0), some (.ifCond .lt 17, 3, 0), none, none, some (.iload 1, 1, 0), some (.aload 0, 1, 0), some (.getfield 781, 3, 948), none, none, some (.if_icmp .lt 21, 3, 0), none, none, some (.iconst (-1), 1, 0), some (.goto 27, 3, 0), none, none, some (.aload 0, 1, 0), some (.getfield 780, 3, 947), none, none, some (.iload 1, 1, 0), some (.iaload, 1, 0), some (.ireturn, 1, 0)]
/-- FrameTyperModel.tableAt(I)I -/
noncomputable def pm_c127 : List (Option pm_I) := pm_c127_0
noncomputable def pm_c128_0 : List (Option pm_I) := [some (.aload 0, 1, 0), some (.getfield 786, 3, 953), none, none, some (.aload 0, 1, 0), some (.getfield 781, 3, 948), none, none, some (.if_icmp .lt 18, 3, 0), none, none, some (.aload 0, 1, 0), some (.iconst (1), 1, 0), some (.putstatic 787, 3, 954), none, none, some (.iconst (0), 1, 0), some (.ireturn, 1, 0), some (.aload 0, 1, 0), some (.dup, 1, 0), some (.getfield 786, 3, 953), none, none, some (.iconst (1), 1, 0), some (.iadd, 1, 0), some (.putfield 786, 3, 953), none, none, some (.aload 0, 1, 0), some (.getfield 780, 3, 947), none, none, some (.aload 0, 1, 0), some (.getfield 786, 3, 953), none, none, some (.iconst (1), 1, 0), some (.isub, 1, 0), some (.iaload, 1, 0), some (.ireturn, 1, 0)]
/-- FrameTyperModel.next()I -/
noncomputable def pm_c128 : List (Option pm_I) := pm_c128_0
noncomputable def pm_c129_0 : List (Option pm_I) := [some (.aload 0, 1, 0), some (.invokeinterface 12128 1, 3, 1086), none, none, some (.istore 1, 1, 0), some (.iload 1, 1, 0), some (.iconst (3), 1, 0), some (.if_icmp .ge 12, 3, 0), none, none, some (.iload 1, 1, 0), some (.ireturn, 1, 0), some (.iload 1, 1, 0), some (.iconst (7), 2, 0), none, some (.if_icmp .eq 24, 3, 0), none, none, some (.iload 1, 1, 0), some (.iconst (8), 2, 0), none, some (.if_icmp .ne 31, 3, 0), none, none, some (.aload 0, 1, 0), some (.invokeinterface 12128 1, 3, 1086), none, none, some (.goto 32, 3, 0), none, none, some (.iconst (0), 1, 0), some (.istore 2, 1, 0), some (.aload 0, 1, 0), some (.aload 0, 1, 0), some (.getfield 787, 3, 954), none, none, some (.ifCond .ne 77, 3, 0), none]
noncomputable def pm_c129_1 : List (Option pm_I) := [none, some (.iload 1, 1, 0), some (.iconst (7), 2, 0), none, some (.if_icmp .eq 53, 3, 0), none, none, some (.iload 1, 1, 0), some (.iconst (8), 2, 0), none, some (.if_icmp .ne 77, 3, 0), none, none, some (.iload 1, 1, 0), some (.iconst (7), 2, 0), none, some (.if_icmp .ne 65, 3, 0), none, none, some (.iload 2, 1, 0), some (.iconst (7), 2, 0), none, some (.if_icmp .gt 77, 3, 0), none, none, some (.iload 1, 1, 0), some (.iconst (8), 2, 0), none, some (.if_icmp .ne 81, 3, 0), none, none, some (.iload 2, 1, 0), some (.iconst (47), 2, 0), none, some (.if_icmp .le 81, 3, 0), none, none, some (.iconst (1), 1, 0), some (.goto 82, 3, 0), none]
noncomputable def pm_c129_2 : List (Option pm_I) := [none, some (.iconst (0), 1, 0), some (.putstatic 787, 3, 954), none, none, some (.iload 1, 1, 0), some (.iconst (7), 2, 0), none, some (.if_icmp .ne 98, 3, 0), none, none, some (.iconst (16), 2, 0), none, some (.iload 2, 1, 0), some (.iadd, 1, 0), some (.goto 102, 3, 0), none, none, some (.iconst (64), 2, 0), none, some (.iload 2, 1, 0), some (.iadd, 1, 0), some (.ireturn, 1, 0)]
/-- FrameTyperModel.type()I -/
noncomputable def pm_c129 : List (Option pm_I) := List.append pm_c129_0 (List.append pm_c129_1 pm_c129_2)
noncomputable def pm_c130_0 : List (Option pm_I) := [some (.aload 0, 1, 0), some (.aload 0, 1, 0), some (.getfield 787, 3, 954), none, none, some (.ifCond .ne 15, 3, 0), none, none, some (.iload 2, 1, 0), some (.iload 3, 1, 0), some (.iadd, 1, 0), some (.iconst (4), 1, 0), some (.if_icmp .le 19, 3, 0), none, none, some (.iconst (1), 1, 0), some (.goto 20, 3, 0), none, none, some (.iconst (0), 1, 0), some (.putstatic 787, 3, 954), none, none, some (.iload 2, 1, 0), some (.istore 4, 2, 0), none, some (.iload 4, 2, 0), none, some (.iload 2, 1, 0), some (.iload 3, 1, 0), some (.iadd, 1, 0), some (.if_icmp .ge 63, 3, 0), none, none, some (.aload 0, 1, 0), some (.getfield 787, 3, 954), none, none, some (.ifCond .ne 63, 3, 0), none]
noncomputable def pm_c130_1 : List (Option pm_I) := [none, some (.aload 0, 1, 0), some (.getfield 785, 3, 952), none, none, some (.iconst (10), 2, 0), none, some (.iload 1, 1, 0), some (.imul, 1, 0), some (.iload 4, 2, 0), none, some (.iadd, 1, 0), some (.aload 0, 1, 0), some (.invokeinterface 12129 1, 3, 1098), none, none, some (.iastore, 1, 0), some (.iinc 4 1, 3, 0), none, none, some (.goto 26, 3, 0), none, none, some (.aload 0, 1, 0), some (.getfield 784, 3, 951), none, none, some (.iload 1, 1, 0), some (.iload 2, 1, 0), some (.iload 3, 1, 0), some (.iadd, 1, 0), some (.iastore, 1, 0), some (.return_, 1, 0)]
/-- FrameTyperModel.locals(III)V -/
noncomputable def pm_c130 : List (Option pm_I) := List.append pm_c130_0 pm_c130_1
noncomputable def pm_c131_0 : List (Option pm_I) := [some (.aload 0, 1, 0), some (.aload 0, 1, 0), some (.getfield 787, 3, 954), none, none, some (.ifCond .ne 13, 3, 0), none, none, some (.iload 2, 1, 0), some (.iconst (5), 1, 0), some (.if_icmp .le 17, 3, 0), none, none, some (.iconst (1), 1, 0), some (.goto 18, 3, 0), none, none, some (.iconst (0), 1, 0), some (.putstatic 787, 3, 954), none, none, some (.aload 0, 1, 0), some (.getfield 785, 3, 952), none, none, some (.iconst (10), 2, 0), none, some (.iload 1, 1, 0), some (.imul, 1, 0), some (.iconst (4), 1, 0), some (.iadd, 1, 0), some (.iload 2, 1, 0), some (.iastore, 1, 0), some (.iconst (0), 1, 0), some (.istore 3, 1, 0), some (.iload 3, 1, 0), some (.iload 2, 1, 0), some (.if_icmp .ge 70, 3, 0), none, none]
noncomputable def pm_c131_1 : List (Option pm_I) := [some (.aload 0, 1, 0), some (.getfield 787, 3, 954), none, none, some (.ifCond .ne 70, 3, 0), none, none, some (.aload 0, 1, 0), some (.getfield 785, 3, 952), none, none, some (.iconst (10), 2, 0), none, some (.iload 1, 1, 0), some (.imul, 1, 0), some (.iconst (5), 1, 0), some (.iadd, 1, 0), some (.iload 3, 1, 0), some (.iadd, 1, 0), some (.aload 0, 1, 0), some (.invokeinterface 12129 1, 3, 1098), none, none, some (.iastore, 1, 0), some (.iinc 3 1, 3, 0), none, none, some (.goto 35, 3, 0), none, none, some (.return_, 1, 0)]
/-- FrameTyperModel.stack(II)V -/
noncomputable def pm_c131 : List (Option pm_I) := List.append pm_c131_0 pm_c131_1
noncomputable def pm_c132_0 : List (Option pm_I) := [some (.aload 0, 1, 0), some (.invokeinterface 12128 1, 3, 1086), none, none, some (.istore 2, 1, 0), some (.aload 0, 1, 0), some (.aload 0, 1, 0), some (.getfield 787, 3, 954), none, none, some (.ifCond .ne 26, 3, 0), none, none, some (.iload 2, 1, 0), some (.iconst (127), 2, 0), none, some (.if_icmp .le 30, 3, 0), none, none, some (.iload 2, 1, 0), some (.iconst (247), 3, 0), none, none, some (.if_icmp .ge 30, 3, 0), none, none, some (.iconst (1), 1, 0), some (.goto 31, 3, 0), none, none, some (.iconst (0), 1, 0), some (.putstatic 787, 3, 954), none, none, some (.aload 0, 1, 0), some (.getfield 787, 3, 954), none, none, some (.ifCond .eq 42, 3, 0), none]
noncomputable def pm_c132_1 : List (Option pm_I) := [none, some (.return_, 1, 0), some (.iload 2, 1, 0), some (.iconst (64), 2, 0), none, some (.if_icmp .ge 52, 3, 0), none, none, some (.iload 2, 1, 0), some (.goto 70, 3, 0), none, none, some (.iload 2, 1, 0), some (.iconst (128), 3, 0), none, none, some (.if_icmp .ge 66, 3, 0), none, none, some (.iload 2, 1, 0), some (.iconst (64), 2, 0), none, some (.isub, 1, 0), some (.goto 70, 3, 0), none, none, some (.aload 0, 1, 0), some (.invokeinterface 12128 1, 3, 1086), none, none, some (.istore 3, 1, 0), some (.aload 0, 1, 0), some (.getfield 783, 3, 950), none, none, some (.iload 1, 1, 0), some (.iload 1, 1, 0), some (.ifCond .ne 84, 3, 0), none, none]
noncomputable def pm_c132_2 : List (Option pm_I) := [some (.iload 3, 1, 0), some (.goto 96, 3, 0), none, none, some (.aload 0, 1, 0), some (.getfield 783, 3, 950), none, none, some (.iload 1, 1, 0), some (.iconst (1), 1, 0), some (.isub, 1, 0), some (.iaload, 1, 0), some (.iload 3, 1, 0), some (.iadd, 1, 0), some (.iconst (1), 1, 0), some (.iadd, 1, 0), some (.iastore, 1, 0), some (.aload 0, 1, 0), some (.aload 0, 1, 0), some (.getfield 787, 3, 954), none, none, some (.ifCond .ne 116, 3, 0), none, none, some (.aload 0, 1, 0), some (.getfield 783, 3, 950), none, none, some (.iload 1, 1, 0), some (.iaload, 1, 0), some (.iconst (47), 2, 0), none, some (.if_icmp .le 120, 3, 0), none, none, some (.iconst (1), 1, 0), some (.goto 121, 3, 0), none, none]
noncomputable def pm_c132_3 : List (Option pm_I) := [some (.iconst (0), 1, 0), some (.putstatic 787, 3, 954), none, none, some (.iload 1, 1, 0), some (.ifCond .ne 135, 3, 0), none, none, some (.aload 0, 1, 0), some (.getfield 776, 3, 943), none, none, some (.goto 143, 3, 0), none, none, some (.aload 0, 1, 0), some (.getfield 784, 3, 951), none, none, some (.iload 1, 1, 0), some (.iconst (1), 1, 0), some (.isub, 1, 0), some (.iaload, 1, 0), some (.istore 4, 2, 0), none, some (.iconst (0), 1, 0), some (.istore 5, 2, 0), none, some (.iload 5, 2, 0), none, some (.iconst (4), 1, 0), some (.if_icmp .ge 211, 3, 0), none, none, some (.aload 0, 1, 0), some (.getfield 785, 3, 952), none, none, some (.iconst (10), 2, 0), none]
noncomputable def pm_c132_4 : List (Option pm_I) := [some (.iload 1, 1, 0), some (.imul, 1, 0), some (.iload 5, 2, 0), none, some (.iadd, 1, 0), some (.iload 5, 2, 0), none, some (.iload 4, 2, 0), none, some (.if_icmp .lt 176, 3, 0), none, none, some (.iconst (0), 1, 0), some (.goto 204, 3, 0), none, none, some (.iload 1, 1, 0), some (.ifCond .ne 190, 3, 0), none, none, some (.aload 0, 1, 0), some (.getfield 775, 3, 942), none, none, some (.iload 5, 2, 0), none, some (.iaload, 1, 0), some (.goto 204, 3, 0), none, none, some (.aload 0, 1, 0), some (.getfield 785, 3, 952), none, none, some (.iconst (10), 2, 0), none, some (.iload 1, 1, 0), some (.iconst (1), 1, 0), some (.isub, 1, 0), some (.imul, 1, 0)]
noncomputable def pm_c132_5 : List (Option pm_I) := [some (.iload 5, 2, 0), none, some (.iadd, 1, 0), some (.iaload, 1, 0), some (.iastore, 1, 0), some (.iinc 5 1, 3, 0), none, none, some (.goto 148, 3, 0), none, none, some (.aload 0, 1, 0), some (.getfield 784, 3, 951), none, none, some (.iload 1, 1, 0), some (.iload 4, 2, 0), none, some (.iastore, 1, 0), some (.aload 0, 1, 0), some (.getfield 785, 3, 952), none, none, some (.iconst (10), 2, 0), none, some (.iload 1, 1, 0), some (.imul, 1, 0), some (.iconst (4), 1, 0), some (.iadd, 1, 0), some (.iconst (0), 1, 0), some (.iastore, 1, 0), some (.iload 2, 1, 0), some (.iconst (64), 2, 0), none, some (.if_icmp .lt 243, 3, 0), none, none, some (.iload 2, 1, 0), some (.iconst (127), 2, 0), none]
noncomputable def pm_c132_6 : List (Option pm_I) := [some (.if_icmp .le 250, 3, 0), none, none, some (.iload 2, 1, 0), some (.iconst (247), 3, 0), none, none, some (.if_icmp .ne 259, 3, 0), none, none, some (.aload 0, 1, 0), some (.iload 1, 1, 0), some (.iconst (1), 1, 0), some (.invokeinterface 12131 3, 3, 1094), none, none, some (.goto 443, 3, 0), none, none, some (.iload 2, 1, 0), some (.iconst (248), 3, 0), none, none, some (.if_icmp .lt 353, 3, 0), none, none, some (.iload 2, 1, 0), some (.iconst (250), 3, 0), none, none, some (.if_icmp .gt 353, 3, 0), none, none, some (.iload 4, 2, 0), none, some (.iconst (251), 3, 0), none, none, some (.iload 2, 1, 0), some (.isub, 1, 0)]
noncomputable def pm_c132_7 : List (Option pm_I) := [some (.isub, 1, 0), some (.istore 5, 2, 0), none, some (.aload 0, 1, 0), some (.aload 0, 1, 0), some (.getfield 787, 3, 954), none, none, some (.ifCond .ne 296, 3, 0), none, none, some (.iload 5, 2, 0), none, some (.ifCond .ge 300, 3, 0), none, none, some (.iconst (1), 1, 0), some (.goto 301, 3, 0), none, none, some (.iconst (0), 1, 0), some (.putstatic 787, 3, 954), none, none, some (.iload 5, 2, 0), none, some (.ifCond .ge 313, 3, 0), none, none, some (.iconst (0), 1, 0), some (.goto 315, 3, 0), none, none, some (.iload 5, 2, 0), none, some (.istore 6, 2, 0), none, some (.iload 6, 2, 0), none, some (.iconst (4), 1, 0)]
noncomputable def pm_c132_8 : List (Option pm_I) := [some (.if_icmp .ge 342, 3, 0), none, none, some (.aload 0, 1, 0), some (.getfield 785, 3, 952), none, none, some (.iconst (10), 2, 0), none, some (.iload 1, 1, 0), some (.imul, 1, 0), some (.iload 6, 2, 0), none, some (.iadd, 1, 0), some (.iconst (0), 1, 0), some (.iastore, 1, 0), some (.iinc 6 1, 3, 0), none, none, some (.goto 317, 3, 0), none, none, some (.aload 0, 1, 0), some (.getfield 784, 3, 951), none, none, some (.iload 1, 1, 0), some (.iload 5, 2, 0), none, some (.iastore, 1, 0), some (.goto 443, 3, 0), none, none, some (.iload 2, 1, 0), some (.iconst (252), 3, 0), none, none, some (.if_icmp .lt 382, 3, 0), none, none]
noncomputable def pm_c132_9 : List (Option pm_I) := [some (.iload 2, 1, 0), some (.iconst (254), 3, 0), none, none, some (.if_icmp .gt 382, 3, 0), none, none, some (.aload 0, 1, 0), some (.iload 1, 1, 0), some (.iload 4, 2, 0), none, some (.iload 2, 1, 0), some (.iconst (251), 3, 0), none, none, some (.isub, 1, 0), some (.invokeinterface 12130 4, 3, 1102), none, none, some (.goto 443, 3, 0), none, none, some (.iload 2, 1, 0), some (.iconst (255), 3, 0), none, none, some (.if_icmp .ne 443, 3, 0), none, none, some (.iconst (0), 1, 0), some (.istore 5, 2, 0), none, some (.iload 5, 2, 0), none, some (.iconst (4), 1, 0), some (.if_icmp .ge 417, 3, 0), none, none, some (.aload 0, 1, 0), some (.getfield 785, 3, 952)]
noncomputable def pm_c132_10 : List (Option pm_I) := [none, none, some (.iconst (10), 2, 0), none, some (.iload 1, 1, 0), some (.imul, 1, 0), some (.iload 5, 2, 0), none, some (.iadd, 1, 0), some (.iconst (0), 1, 0), some (.iastore, 1, 0), some (.iinc 5 1, 3, 0), none, none, some (.goto 392, 3, 0), none, none, some (.aload 0, 1, 0), some (.iload 1, 1, 0), some (.iconst (0), 1, 0), some (.aload 0, 1, 0), some (.invokeinterface 12128 1, 3, 1086), none, none, some (.invokeinterface 12130 4, 3, 1102), none, none, some (.aload 0, 1, 0), some (.getfield 787, 3, 954), none, none, some (.ifCond .ne 443, 3, 0), none, none, some (.aload 0, 1, 0), some (.iload 1, 1, 0), some (.aload 0, 1, 0), some (.invokeinterface 12128 1, 3, 1086), none, none]
noncomputable def pm_c132_11 : List (Option pm_I) := [some (.invokeinterface 12131 3, 3, 1094), none, none, some (.return_, 1, 0)]
/-- FrameTyperModel.frameOf(I)V -/
noncomputable def pm_c132 : List (Option pm_I) := List.append pm_c132_0 (List.append pm_c132_1 (List.append pm_c132_2 (List.append pm_c132_3 (List.append pm_c132_4 (List.append pm_c132_5 (List.append pm_c132_6 (List.append pm_c132_7 (List.append pm_c132_8 (List.append pm_c132_9 (List.append pm_c132_10 pm_c132_11))))))))))
noncomputable def pm_c133_0 : List (Option pm_I) := [some (.aload 0, 1, 0), some (.iconst (0), 1, 0), some (.putfield 786, 3, 953), none, none, some (.aload 0, 1, 0), some (.iconst (0), 1, 0), some (.putstatic 787, 3, 954), none, none, some (.aload 0, 1, 0), some (.iconst (0), 1, 0), some (.putfield 782, 3, 949), none, none, some (.aload 0, 1, 0), some (.invokeinterface 12128 1, 3, 1086), none, none, some (.istore 1, 1, 0), some (.iconst (0), 1, 0), some (.istore 2, 1, 0), some (.iload 2, 1, 0), some (.iload 1, 1, 0), some (.if_icmp .ge 67, 3, 0), none, none, some (.aload 0, 1, 0), some (.getfield 787, 3, 954), none, none, some (.ifCond .ne 67, 3, 0), none, none, some (.aload 0, 1, 0), some (.iload 2, 1, 0), some (.iconst (48), 2, 0), none, some (.if_icmp .ne 45, 3, 0), none]
noncomputable def pm_c133_1 : List (Option pm_I) := [none, some (.iconst (1), 1, 0), some (.goto 46, 3, 0), none, none, some (.iconst (0), 1, 0), some (.putstatic 787, 3, 954), none, none, some (.aload 0, 1, 0), some (.getfield 787, 3, 954), none, none, some (.ifCond .ne 61, 3, 0), none, none, some (.aload 0, 1, 0), some (.iload 2, 1, 0), some (.invokeinterface 12132 2, 3, 1090), none, none, some (.iinc 2 1, 3, 0), none, none, some (.goto 22, 3, 0), none, none, some (.aload 0, 1, 0), some (.iload 1, 1, 0), some (.putfield 782, 3, 949), none, none, some (.aload 0, 1, 0), some (.getfield 787, 3, 954), none, none, some (.ifCond .ne 94, 3, 0), none, none, some (.aload 0, 1, 0)]
noncomputable def pm_c133_2 : List (Option pm_I) := [some (.getfield 786, 3, 953), none, none, some (.aload 0, 1, 0), some (.getfield 781, 3, 948), none, none, some (.if_icmp .ne 94, 3, 0), none, none, some (.iconst (1), 1, 0), some (.goto 95, 3, 0), none, none, some (.iconst (0), 1, 0), some (.freturn, 1, 0)]
/-- FrameTyperModel.reads()Z -/
noncomputable def pm_c133 : List (Option pm_I) := List.append pm_c133_0 (List.append pm_c133_1 pm_c133_2)
noncomputable def pm_c134_0 : List (Option pm_I) := [some (.aload 0, 1, 0), some (.aload 0, 1, 0), some (.invokeinterface 12133 1, 3, 1082), none, none, some (.ifCond .eq 12, 3, 0), none, none, some (.iconst (0), 1, 0), some (.goto 13, 3, 0), none, none, some (.iconst (1), 1, 0), some (.putfield 768, 3, 935), none, none, some (.aload 0, 1, 0), some (.getfield 768, 3, 935), none, none, some (.ifCond .le 27, 3, 0), none, none, some (.iconst (0), 1, 0), some (.goto 31, 3, 0), none, none, some (.aload 0, 1, 0), some (.getfield 782, 3, 949), none, none, some (.ireturn, 1, 0)]
/-- FrameTyperModel.frames()I -/
noncomputable def pm_c134 : List (Option pm_I) := pm_c134_0
noncomputable def pm_c135_0 : List (Option pm_I) := [some (.aload 0, 1, 0), some (.aload 0, 1, 0), some (.invokeinterface 12133 1, 3, 1082), none, none, some (.ifCond .eq 12, 3, 0), none, none, some (.iconst (0), 1, 0), some (.goto 13, 3, 0), none, none, some (.iconst (1), 1, 0), some (.putfield 768, 3, 935), none, none, some (.aload 0, 1, 0), some (.getfield 768, 3, 935), none, none, some (.ifCond .le 25, 3, 0), none, none, some (.iconst (0), 1, 0), some (.ireturn, 1, 0), some (.iload 1, 1, 0), some (.ifCond .lt 47, 3, 0), none, none, some (.iload 1, 1, 0), some (.aload 0, 1, 0), some (.getfield 782, 3, 949), none, none, some (.if_icmp .ge 47, 3, 0), none, none, some (.iload 2, 1, 0), some (.ifCond .lt 47, 3, 0), none]
noncomputable def pm_c135_1 : List (Option pm_I) := [none, some (.iload 2, 1, 0), some (.iconst (10), 2, 0), none, some (.if_icmp .le 49, 3, 0), none, none, some (.iconst (-1), 1, 0), some (.ireturn, 1, 0), some (.iload 2, 1, 0), some (.ifCond .ne 60, 3, 0), none, none, some (.aload 0, 1, 0), some (.getfield 783, 3, 950), none, none, some (.iload 1, 1, 0), some (.iaload, 1, 0), some (.ireturn, 1, 0), some (.iload 2, 1, 0), some (.iconst (5), 1, 0), some (.if_icmp .le 87, 3, 0), none, none, some (.iload 2, 1, 0), some (.iconst (6), 2, 0), none, some (.isub, 1, 0), some (.aload 0, 1, 0), some (.getfield 785, 3, 952), none, none, some (.iconst (10), 2, 0), none, some (.iload 1, 1, 0), some (.imul, 1, 0), some (.iconst (4), 1, 0), some (.iadd, 1, 0), some (.iaload, 1, 0)]
noncomputable def pm_c135_2 : List (Option pm_I) := [some (.if_icmp .lt 87, 3, 0), none, none, some (.iconst (-1), 1, 0), some (.goto 100, 3, 0), none, none, some (.aload 0, 1, 0), some (.getfield 785, 3, 952), none, none, some (.iconst (10), 2, 0), none, some (.iload 1, 1, 0), some (.imul, 1, 0), some (.iload 2, 1, 0), some (.iadd, 1, 0), some (.iconst (1), 1, 0), some (.isub, 1, 0), some (.iaload, 1, 0), some (.ireturn, 1, 0)]
/-- FrameTyperModel.frame(II)I -/
noncomputable def pm_c135 : List (Option pm_I) := List.append pm_c135_0 (List.append pm_c135_1 pm_c135_2)
noncomputable def pm_c136_0 : List (Option pm_I) := [some (.iload 0, 1, 0), some (.iconst (1), 1, 0), some (.if_icmp .eq 46, 3, 0), none, none, some (.iload 0, 1, 0), some (.iconst (3), 1, 0), some (.if_icmp .lt 16, 3, 0), none, none, some (.iload 0, 1, 0), some (.iconst (6), 2, 0), none, some (.if_icmp .le 46, 3, 0), none, none, some (.iload 0, 1, 0), some (.iconst (11), 2, 0), none, some (.if_icmp .lt 28, 3, 0), none, none, some (.iload 0, 1, 0), some (.iconst (14), 2, 0), none, some (.if_icmp .le 46, 3, 0), none, none, some (.iload 0, 1, 0), some (.iconst (16), 2, 0), none, some (.if_icmp .lt 40, 3, 0), none, none, some (.iload 0, 1, 0), some (.iconst (18), 2, 0), none, some (.if_icmp .le 46, 3, 0), none, none]
noncomputable def pm_c136_1 : List (Option pm_I) := [some (.iload 0, 1, 0), some (.iconst (20), 2, 0), none, some (.if_icmp .ne 50, 3, 0), none, none, some (.iconst (1), 1, 0), some (.goto 51, 3, 0), none, none, some (.iconst (0), 1, 0), some (.freturn, 1, 0)]
/-- FrameTyperModel.hasSecond(I)Z -/
noncomputable def pm_c136 : List (Option pm_I) := List.append pm_c136_0 pm_c136_1
noncomputable def pm_c137_0 : List (Option pm_I) := [some (.aload 0, 1, 0), some (.getfield 778, 3, 945), none, none, some (.iload 1, 1, 0), some (.iaload, 1, 0), some (.iconst (21), 2, 0), none, some (.if_icmp .gt 37, 3, 0), none, none, some (.aload 0, 1, 0), some (.getfield 778, 3, 945), none, none, some (.iload 1, 1, 0), some (.iaload, 1, 0), some (.multianewarray 136 1, 3, 1122), none, none, some (.ifCond .eq 33, 3, 0), none, none, some (.iload 1, 1, 0), some (.iconst (1), 1, 0), some (.iadd, 1, 0), some (.aload 0, 1, 0), some (.getfield 779, 3, 946), none, none, some (.if_icmp .ge 37, 3, 0), none, none, some (.iconst (1), 1, 0), some (.goto 38, 3, 0), none, none, some (.iconst (0), 1, 0), some (.freturn, 1, 0)]
/-- FrameTyperModel.isWhole(I)Z -/
noncomputable def pm_c137 : List (Option pm_I) := pm_c137_0
noncomputable def pm_c138_0 : List (Option pm_I) := [some (.iconst (0), 1, 0), some (.istore 1, 1, 0), some (.iload 1, 1, 0), some (.iconst (48), 2, 0), none, some (.if_icmp .gt 21, 3, 0), none, none, some (.aload 0, 1, 0), some (.getfield 792, 3, 959), none, none, some (.iload 1, 1, 0), some (.iconst (0), 1, 0), some (.bastore, 1, 0), some (.iinc 1 1, 3, 0), none, none, some (.goto 2, 3, 0), none, none, some (.iconst (0), 1, 0), some (.istore 1, 1, 0), some (.aload 0, 1, 0), some (.getfield 779, 3, 946), none, none, some (.ifCond .le 34, 3, 0), none, none, some (.iconst (1), 1, 0), some (.goto 35, 3, 0), none, none, some (.iconst (0), 1, 0), some (.istore 2, 1, 0), some (.iload 2, 1, 0), some (.ifCond .eq 94, 3, 0), none, none]
noncomputable def pm_c138_1 : List (Option pm_I) := [some (.aload 0, 1, 0), some (.getfield 792, 3, 959), none, none, some (.iload 1, 1, 0), some (.iconst (1), 1, 0), some (.bastore, 1, 0), some (.aload 0, 1, 0), some (.iload 1, 1, 0), some (.invokeinterface 12137 2, 3, 1118), none, none, some (.istore 2, 1, 0), some (.iload 1, 1, 0), some (.aload 0, 1, 0), some (.getfield 778, 3, 945), none, none, some (.iload 1, 1, 0), some (.iaload, 1, 0), some (.multianewarray 136 1, 3, 1122), none, none, some (.ifCond .eq 70, 3, 0), none, none, some (.iconst (2), 1, 0), some (.goto 71, 3, 0), none, none, some (.iconst (1), 1, 0), some (.iadd, 1, 0), some (.istore 1, 1, 0), some (.iload 2, 1, 0), some (.ifCond .eq 89, 3, 0), none, none, some (.iload 1, 1, 0), some (.aload 0, 1, 0), some (.getfield 779, 3, 946)]
noncomputable def pm_c138_2 : List (Option pm_I) := [none, none, some (.if_icmp .ge 89, 3, 0), none, none, some (.iconst (1), 1, 0), some (.goto 90, 3, 0), none, none, some (.iconst (0), 1, 0), some (.istore 2, 1, 0), some (.goto 36, 3, 0), none, none, some (.return_, 1, 0)]
/-- FrameTyperModel.findBegins()V -/
noncomputable def pm_c138 : List (Option pm_I) := List.append pm_c138_0 (List.append pm_c138_1 pm_c138_2)
noncomputable def pm_c139_0 : List (Option pm_I) := [some (.iload 1, 1, 0), some (.aload 0, 1, 0), some (.getfield 779, 3, 946), none, none, some (.if_icmp .ge 53, 3, 0), none, none, some (.aload 0, 1, 0), some (.getfield 792, 3, 959), none, none, some (.iload 1, 1, 0), some (.baload, 1, 0), some (.ifCond .eq 53, 3, 0), none, none, some (.aload 0, 1, 0), some (.iload 1, 1, 0), some (.invokeinterface 12137 2, 3, 1118), none, none, some (.ifCond .eq 53, 3, 0), none, none, some (.aload 0, 1, 0), some (.getfield 778, 3, 945), none, none, some (.iload 1, 1, 0), some (.iaload, 1, 0), some (.iconst (14), 2, 0), none, some (.if_icmp .ne 53, 3, 0), none, none, some (.aload 0, 1, 0), some (.getfield 778, 3, 945), none, none]
noncomputable def pm_c139_1 : List (Option pm_I) := [some (.iload 1, 1, 0), some (.iconst (1), 1, 0), some (.iadd, 1, 0), some (.iaload, 1, 0), some (.iconst (8), 2, 0), none, some (.if_icmp .ge 53, 3, 0), none, none, some (.iconst (1), 1, 0), some (.goto 54, 3, 0), none, none, some (.iconst (0), 1, 0), some (.freturn, 1, 0)]
/-- FrameTyperModel.makes(I)Z -/
noncomputable def pm_c139 : List (Option pm_I) := List.append pm_c139_0 pm_c139_1
noncomputable def pm_c140_0 : List (Option pm_I) := [some (.iload 0, 1, 0), some (.iconst (2), 1, 0), some (.if_icmp .eq 12, 3, 0), none, none, some (.iload 0, 1, 0), some (.multianewarray 113 1, 3, 1047), none, none, some (.ifCond .eq 16, 3, 0), none, none, some (.iconst (1), 1, 0), some (.goto 17, 3, 0), none, none, some (.iconst (0), 1, 0), some (.freturn, 1, 0)]
/-- FrameTyperModel.isPlain(I)Z -/
noncomputable def pm_c140 : List (Option pm_I) := pm_c140_0
noncomputable def pm_c141_0 : List (Option pm_I) := [some (.iload 0, 1, 0), some (.iconst (3), 1, 0), some (.if_icmp .lt 22, 3, 0), none, none, some (.iload 0, 1, 0), some (.iconst (6), 2, 0), none, some (.if_icmp .gt 22, 3, 0), none, none, some (.iload 1, 1, 0), some (.iconst (4), 1, 0), some (.if_icmp .ge 20, 3, 0), none, none, some (.iconst (1), 1, 0), some (.goto 21, 3, 0), none, none, some (.iconst (0), 1, 0), some (.freturn, 1, 0), some (.iload 0, 1, 0), some (.iconst (14), 2, 0), none, some (.if_icmp .eq 34, 3, 0), none, none, some (.iload 0, 1, 0), some (.iconst (20), 2, 0), none, some (.if_icmp .ne 46, 3, 0), none, none, some (.iload 1, 1, 0), some (.iconst (8), 2, 0), none, some (.if_icmp .ge 44, 3, 0), none, none]
noncomputable def pm_c141_1 : List (Option pm_I) := [some (.iconst (1), 1, 0), some (.goto 45, 3, 0), none, none, some (.iconst (0), 1, 0), some (.freturn, 1, 0), some (.iload 0, 1, 0), some (.iconst (16), 2, 0), none, some (.if_icmp .lt 64, 3, 0), none, none, some (.iload 0, 1, 0), some (.iconst (18), 2, 0), none, some (.if_icmp .gt 64, 3, 0), none, none, some (.iload 1, 1, 0), some (.iconst (6), 2, 0), none, some (.if_icmp .ge 68, 3, 0), none, none, some (.iconst (1), 1, 0), some (.goto 69, 3, 0), none, none, some (.iconst (0), 1, 0), some (.freturn, 1, 0)]
/-- FrameTyperModel.isSecondGood(II)Z -/
noncomputable def pm_c141 : List (Option pm_I) := List.append pm_c141_0 pm_c141_1
noncomputable def pm_c142_0 : List (Option pm_I) := [some (.iload 1, 1, 0), some (.tableswitch 112 (4) (21) #[88, 112, 88, 90, 88, 88, 90, 112, 88, 88, 112, 88, 88, 90, 92, 99, 88, 88], 87, 0), none, none, none, none, none, none, none, none, none, none, none, none, none, none, none, none, none, none, none, none, none, none, none, none, none, none, none, none, none, none, none, none, none, none, none, none, none, none]
noncomputable def pm_c142_1 : List (Option pm_I) := [none, none, none, none, none, none, none, none, none, none, none, none, none, none, none, none, none, none, none, none, none, none, none, none, none, none, none, none, none, none, none, none, none, none, none, none, none, none, none, none]
noncomputable def pm_c142_2 : List (Option pm_I) := [none, none, none, none, none, none, none, none, some (.iconst (1), 1, 0), some (.ireturn, 1, 0), some (.iconst (2), 1, 0), some (.ireturn, 1, 0), some (.aload 0, 1, 0), some (.getfield 773, 3, 940), none, none, some (.iload 2, 1, 0), some (.iaload, 1, 0), some (.ireturn, 1, 0), some (.aload 0, 1, 0), some (.getfield 777, 3, 944), none, none, some (.ifCond .ne 110, 3, 0), none, none, some (.iconst (0), 1, 0), some (.goto 111, 3, 0), none, none, some (.iconst (1), 1, 0), some (.ireturn, 1, 0), some (.iconst (0), 1, 0), some (.ireturn, 1, 0)]
/-- FrameTyperModel.takenBy(II)I -/
noncomputable def pm_c142 : List (Option pm_I) := List.append pm_c142_0 (List.append pm_c142_1 pm_c142_2)
noncomputable def pm_c143_0 : List (Option pm_I) := [some (.aload 0, 1, 0), some (.getfield 788, 3, 955), none, none, some (.iconst (4), 1, 0), some (.aload 0, 1, 0), some (.getfield 788, 3, 955), none, none, some (.iconst (4), 1, 0), some (.iaload, 1, 0), some (.iadd, 1, 0), some (.iload 1, 1, 0), some (.isub, 1, 0), some (.iaload, 1, 0), some (.ireturn, 1, 0)]
/-- FrameTyperModel.topmost(I)I -/
noncomputable def pm_c143 : List (Option pm_I) := pm_c143_0
noncomputable def pm_c144_0 : List (Option pm_I) := [some (.iload 1, 1, 0), some (.tableswitch 339 (3) (21) #[92, 138, 108, 153, 181, 339, 339, 339, 339, 138, 205, 214, 231, 240, 259, 304, 310, 205, 205], 91, 0), none, none, none, none, none, none, none, none, none, none, none, none, none, none, none, none, none, none, none, none, none, none, none, none, none, none, none, none, none, none, none, none, none, none, none, none, none, none]
noncomputable def pm_c144_1 : List (Option pm_I) := [none, none, none, none, none, none, none, none, none, none, none, none, none, none, none, none, none, none, none, none, none, none, none, none, none, none, none, none, none, none, none, none, none, none, none, none, none, none, none, none]
noncomputable def pm_c144_2 : List (Option pm_I) := [none, none, none, none, none, none, none, none, none, none, none, none, some (.aload 0, 1, 0), some (.getfield 788, 3, 955), none, none, some (.iload 2, 1, 0), some (.iaload, 1, 0), some (.iconst (1), 1, 0), some (.if_icmp .ne 106, 3, 0), none, none, some (.iconst (1), 1, 0), some (.goto 107, 3, 0), none, none, some (.iconst (0), 1, 0), some (.freturn, 1, 0), some (.aload 0, 1, 0), some (.getfield 788, 3, 955), none, none, some (.iload 2, 1, 0), some (.iaload, 1, 0), some (.multianewarray 140 1, 3, 1175), none, none, some (.ifCond .ne 132, 3, 0), none, none]
noncomputable def pm_c144_3 : List (Option pm_I) := [some (.aload 0, 1, 0), some (.getfield 788, 3, 955), none, none, some (.iload 2, 1, 0), some (.iaload, 1, 0), some (.multianewarray 115 1, 3, 1153), none, none, some (.ifCond .eq 136, 3, 0), none, none, some (.iconst (1), 1, 0), some (.goto 137, 3, 0), none, none, some (.iconst (0), 1, 0), some (.freturn, 1, 0), some (.aload 0, 1, 0), some (.iconst (0), 1, 0), some (.invokeinterface 12143 2, 3, 1178), none, none, some (.iconst (1), 1, 0), some (.if_icmp .ne 151, 3, 0), none, none, some (.iconst (1), 1, 0), some (.goto 152, 3, 0), none, none, some (.iconst (0), 1, 0), some (.freturn, 1, 0), some (.aload 0, 1, 0), some (.iconst (0), 1, 0), some (.invokeinterface 12143 2, 3, 1178), none, none, some (.multianewarray 140 1, 3, 1175), none]
noncomputable def pm_c144_4 : List (Option pm_I) := [none, some (.ifCond .ne 175, 3, 0), none, none, some (.aload 0, 1, 0), some (.iconst (0), 1, 0), some (.invokeinterface 12143 2, 3, 1178), none, none, some (.multianewarray 115 1, 3, 1153), none, none, some (.ifCond .eq 179, 3, 0), none, none, some (.iconst (1), 1, 0), some (.goto 180, 3, 0), none, none, some (.iconst (0), 1, 0), some (.freturn, 1, 0), some (.aload 0, 1, 0), some (.iconst (0), 1, 0), some (.invokeinterface 12143 2, 3, 1178), none, none, some (.iconst (1), 1, 0), some (.if_icmp .ne 203, 3, 0), none, none, some (.aload 0, 1, 0), some (.iconst (1), 1, 0), some (.invokeinterface 12143 2, 3, 1178), none, none, some (.iconst (1), 1, 0), some (.if_icmp .ne 203, 3, 0), none, none, some (.iconst (1), 1, 0)]
noncomputable def pm_c144_5 : List (Option pm_I) := [some (.goto 204, 3, 0), none, none, some (.iconst (0), 1, 0), some (.freturn, 1, 0), some (.aload 0, 1, 0), some (.iconst (0), 1, 0), some (.invokeinterface 12143 2, 3, 1178), none, none, some (.multianewarray 140 1, 3, 1175), none, none, some (.freturn, 1, 0), some (.aload 0, 1, 0), some (.iconst (64), 2, 0), none, some (.iload 3, 1, 0), some (.iadd, 1, 0), some (.invokeinterface 12145 2, 3, 1182), none, none, some (.ifCond .ne 229, 3, 0), none, none, some (.iconst (1), 1, 0), some (.goto 230, 3, 0), none, none, some (.iconst (0), 1, 0), some (.freturn, 1, 0), some (.aload 0, 1, 0), some (.iconst (0), 1, 0), some (.invokeinterface 12143 2, 3, 1178), none, none, some (.multianewarray 115 1, 3, 1153), none, none, some (.freturn, 1, 0)]
noncomputable def pm_c144_6 : List (Option pm_I) := [some (.aload 0, 1, 0), some (.aload 0, 1, 0), some (.iconst (0), 1, 0), some (.invokeinterface 12143 2, 3, 1178), none, none, some (.iconst (16), 2, 0), none, some (.aload 0, 1, 0), some (.getfield 770, 3, 937), none, none, some (.iload 2, 1, 0), some (.iaload, 1, 0), some (.iadd, 1, 0), some (.invokeinterface 12117 3, 3, 1141), none, none, some (.freturn, 1, 0), some (.aload 0, 1, 0), some (.aload 0, 1, 0), some (.iconst (0), 1, 0), some (.invokeinterface 12143 2, 3, 1178), none, none, some (.aload 0, 1, 0), some (.getfield 771, 3, 938), none, none, some (.iload 2, 1, 0), some (.iaload, 1, 0), some (.invokeinterface 12117 3, 3, 1141), none, none, some (.ifCond .eq 302, 3, 0), none, none, some (.aload 0, 1, 0), some (.aload 0, 1, 0), some (.iconst (1), 1, 0)]
noncomputable def pm_c144_7 : List (Option pm_I) := [some (.invokeinterface 12143 2, 3, 1178), none, none, some (.iconst (16), 2, 0), none, some (.aload 0, 1, 0), some (.getfield 770, 3, 937), none, none, some (.iload 2, 1, 0), some (.iaload, 1, 0), some (.iadd, 1, 0), some (.invokeinterface 12117 3, 3, 1141), none, none, some (.ifCond .eq 302, 3, 0), none, none, some (.iconst (1), 1, 0), some (.goto 303, 3, 0), none, none, some (.iconst (0), 1, 0), some (.freturn, 1, 0), some (.aload 0, 1, 0), some (.iload 2, 1, 0), some (.invokeinterface 12146 2, 3, 1186), none, none, some (.freturn, 1, 0), some (.aload 0, 1, 0), some (.getfield 777, 3, 944), none, none, some (.ifCond .eq 333, 3, 0), none, none, some (.aload 0, 1, 0), some (.aload 0, 1, 0), some (.iconst (0), 1, 0)]
noncomputable def pm_c144_8 : List (Option pm_I) := [some (.invokeinterface 12143 2, 3, 1178), none, none, some (.aload 0, 1, 0), some (.getfield 777, 3, 944), none, none, some (.invokeinterface 12117 3, 3, 1141), none, none, some (.ifCond .eq 337, 3, 0), none, none, some (.iconst (1), 1, 0), some (.goto 338, 3, 0), none, none, some (.iconst (0), 1, 0), some (.freturn, 1, 0), some (.iconst (1), 1, 0), some (.freturn, 1, 0)]
/-- FrameTyperModel.doTypesFit(III)Z -/
noncomputable def pm_c144 : List (Option pm_I) := List.append pm_c144_0 (List.append pm_c144_1 (List.append pm_c144_2 (List.append pm_c144_3 (List.append pm_c144_4 (List.append pm_c144_5 (List.append pm_c144_6 (List.append pm_c144_7 pm_c144_8)))))))
noncomputable def pm_c145_0 : List (Option pm_I) := [some (.iconst (0), 1, 0), some (.istore 2, 1, 0), some (.iconst (0), 1, 0), some (.istore 3, 1, 0), some (.iload 3, 1, 0), some (.aload 0, 1, 0), some (.getfield 788, 3, 955), none, none, some (.iconst (4), 1, 0), some (.iaload, 1, 0), some (.if_icmp .ge 42, 3, 0), none, none, some (.iload 2, 1, 0), some (.ifCond .ne 30, 3, 0), none, none, some (.aload 0, 1, 0), some (.getfield 788, 3, 955), none, none, some (.iconst (5), 1, 0), some (.iload 3, 1, 0), some (.iadd, 1, 0), some (.iaload, 1, 0), some (.iload 1, 1, 0), some (.if_icmp .ne 34, 3, 0), none, none, some (.iconst (1), 1, 0), some (.goto 35, 3, 0), none, none, some (.iconst (0), 1, 0), some (.istore 2, 1, 0), some (.iinc 3 1, 3, 0), none, none, some (.goto 4, 3, 0)]
noncomputable def pm_c145_1 : List (Option pm_I) := [none, none, some (.iload 2, 1, 0), some (.freturn, 1, 0)]
/-- FrameTyperModel.standsOnStack(I)Z -/
noncomputable def pm_c145 : List (Option pm_I) := List.append pm_c145_0 pm_c145_1
noncomputable def pm_c146_0 : List (Option pm_I) := [some (.iconst (1), 1, 0), some (.istore 2, 1, 0), some (.iconst (0), 1, 0), some (.istore 3, 1, 0), some (.iload 3, 1, 0), some (.aload 0, 1, 0), some (.getfield 773, 3, 940), none, none, some (.iload 1, 1, 0), some (.iaload, 1, 0), some (.if_icmp .ge 61, 3, 0), none, none, some (.iload 2, 1, 0), some (.ifCond .eq 53, 3, 0), none, none, some (.aload 0, 1, 0), some (.aload 0, 1, 0), some (.aload 0, 1, 0), some (.getfield 773, 3, 940), none, none, some (.iload 1, 1, 0), some (.iaload, 1, 0), some (.iconst (1), 1, 0), some (.isub, 1, 0), some (.iload 3, 1, 0), some (.isub, 1, 0), some (.invokeinterface 12143 2, 3, 1178), none, none, some (.aload 0, 1, 0), some (.getfield 772, 3, 939), none, none, some (.iconst (3), 1, 0), some (.iload 1, 1, 0), some (.imul, 1, 0)]
noncomputable def pm_c146_1 : List (Option pm_I) := [some (.iload 3, 1, 0), some (.iadd, 1, 0), some (.iaload, 1, 0), some (.invokeinterface 12117 3, 3, 1141), none, none, some (.ifCond .eq 53, 3, 0), none, none, some (.iconst (1), 1, 0), some (.goto 54, 3, 0), none, none, some (.iconst (0), 1, 0), some (.istore 2, 1, 0), some (.iinc 3 1, 3, 0), none, none, some (.goto 4, 3, 0), none, none, some (.iload 2, 1, 0), some (.freturn, 1, 0)]
/-- FrameTyperModel.doesRoutineFit(I)Z -/
noncomputable def pm_c146 : List (Option pm_I) := List.append pm_c146_0 pm_c146_1
noncomputable def pm_c147_0 : List (Option pm_I) := [some (.iload 1, 1, 0), some (.tableswitch 115 (1) (20) #[96, 96, 96, 115, 96, 115, 96, 115, 98, 98, 115, 115, 115, 96, 115, 96, 115, 100, 115, 96], 95, 0), none, none, none, none, none, none, none, none, none, none, none, none, none, none, none, none, none, none, none, none, none, none, none, none, none, none, none, none, none, none, none, none, none, none, none, none, none, none]
noncomputable def pm_c147_1 : List (Option pm_I) := [none, none, none, none, none, none, none, none, none, none, none, none, none, none, none, none, none, none, none, none, none, none, none, none, none, none, none, none, none, none, none, none, none, none, none, none, none, none, none, none]
noncomputable def pm_c147_2 : List (Option pm_I) := [none, none, none, none, none, none, none, none, none, none, none, none, none, none, none, none, some (.iconst (1), 1, 0), some (.ireturn, 1, 0), some (.iconst (2), 1, 0), some (.ireturn, 1, 0), some (.aload 0, 1, 0), some (.getfield 774, 3, 941), none, none, some (.iload 2, 1, 0), some (.iaload, 1, 0), some (.ifCond .ne 113, 3, 0), none, none, some (.iconst (0), 1, 0), some (.goto 114, 3, 0), none, none, some (.iconst (1), 1, 0), some (.ireturn, 1, 0), some (.iconst (0), 1, 0), some (.ireturn, 1, 0)]
/-- FrameTyperModel.givenBy(II)I -/
noncomputable def pm_c147 : List (Option pm_I) := List.append pm_c147_0 (List.append pm_c147_1 pm_c147_2)
noncomputable def pm_c148_0 : List (Option pm_I) := [some (.aload 0, 1, 0), some (.getfield 788, 3, 955), none, none, some (.iconst (5), 1, 0), some (.aload 0, 1, 0), some (.getfield 788, 3, 955), none, none, some (.iconst (4), 1, 0), some (.iaload, 1, 0), some (.iadd, 1, 0), some (.iload 1, 1, 0), some (.iastore, 1, 0), some (.aload 0, 1, 0), some (.getfield 788, 3, 955), none, none, some (.iconst (4), 1, 0), some (.dup2, 1, 0), some (.iaload, 1, 0), some (.iconst (1), 1, 0), some (.iadd, 1, 0), some (.iastore, 1, 0), some (.return_, 1, 0)]
/-- FrameTyperModel.give(I)V -/
noncomputable def pm_c148 : List (Option pm_I) := pm_c148_0
noncomputable def pm_c149_0 : List (Option pm_I) := [some (.iconst (0), 1, 0), some (.istore 3, 1, 0), some (.iload 3, 1, 0), some (.iconst (4), 1, 0), some (.if_icmp .ge 39, 3, 0), none, none, some (.aload 0, 1, 0), some (.getfield 788, 3, 955), none, none, some (.iload 3, 1, 0), some (.aload 0, 1, 0), some (.getfield 788, 3, 955), none, none, some (.iload 3, 1, 0), some (.iaload, 1, 0), some (.iload 1, 1, 0), some (.if_icmp .ne 26, 3, 0), none, none, some (.iload 2, 1, 0), some (.goto 32, 3, 0), none, none, some (.aload 0, 1, 0), some (.getfield 788, 3, 955), none, none, some (.iload 3, 1, 0), some (.iaload, 1, 0), some (.iastore, 1, 0), some (.iinc 3 1, 3, 0), none, none, some (.goto 2, 3, 0), none, none, some (.iconst (0), 1, 0)]
noncomputable def pm_c149_1 : List (Option pm_I) := [some (.istore 3, 1, 0), some (.iload 3, 1, 0), some (.aload 0, 1, 0), some (.getfield 788, 3, 955), none, none, some (.iconst (4), 1, 0), some (.iaload, 1, 0), some (.if_icmp .ge 89, 3, 0), none, none, some (.aload 0, 1, 0), some (.getfield 788, 3, 955), none, none, some (.iconst (5), 1, 0), some (.iload 3, 1, 0), some (.iadd, 1, 0), some (.aload 0, 1, 0), some (.getfield 788, 3, 955), none, none, some (.iconst (5), 1, 0), some (.iload 3, 1, 0), some (.iadd, 1, 0), some (.iaload, 1, 0), some (.iload 1, 1, 0), some (.if_icmp .ne 74, 3, 0), none, none, some (.iload 2, 1, 0), some (.goto 82, 3, 0), none, none, some (.aload 0, 1, 0), some (.getfield 788, 3, 955), none, none, some (.iconst (5), 1, 0), some (.iload 3, 1, 0)]
noncomputable def pm_c149_2 : List (Option pm_I) := [some (.iadd, 1, 0), some (.iaload, 1, 0), some (.iastore, 1, 0), some (.iinc 3 1, 3, 0), none, none, some (.goto 41, 3, 0), none, none, some (.return_, 1, 0)]
/-- FrameTyperModel.become(II)V -/
noncomputable def pm_c149 : List (Option pm_I) := List.append pm_c149_0 (List.append pm_c149_1 pm_c149_2)
noncomputable def pm_c150_0 : List (Option pm_I) := [some (.aload 0, 1, 0), some (.getfield 788, 3, 955), none, none, some (.iconst (4), 1, 0), some (.iaload, 1, 0), some (.ifCond .le 17, 3, 0), none, none, some (.aload 0, 1, 0), some (.iconst (0), 1, 0), some (.invokeinterface 12143 2, 3, 1178), none, none, some (.goto 18, 3, 0), none, none, some (.iconst (0), 1, 0), some (.istore 4, 2, 0), none, some (.aload 0, 1, 0), some (.getfield 788, 3, 955), none, none, some (.iconst (4), 1, 0), some (.iaload, 1, 0), some (.iconst (1), 1, 0), some (.if_icmp .le 38, 3, 0), none, none, some (.aload 0, 1, 0), some (.iconst (1), 1, 0), some (.invokeinterface 12143 2, 3, 1178), none, none, some (.goto 39, 3, 0), none, none, some (.iconst (0), 1, 0), some (.istore 5, 2, 0)]
noncomputable def pm_c150_1 : List (Option pm_I) := [none, some (.aload 0, 1, 0), some (.getfield 788, 3, 955), none, none, some (.iconst (4), 1, 0), some (.dup2, 1, 0), some (.iaload, 1, 0), some (.aload 0, 1, 0), some (.iload 1, 1, 0), some (.iload 2, 1, 0), some (.invokeinterface 12142 3, 3, 1167), none, none, some (.isub, 1, 0), some (.iastore, 1, 0), some (.iload 1, 1, 0), some (.tableswitch 322 (1) (20) #[152, 160, 152, 168, 178, 191, 152, 322, 202, 217, 322, 322, 322, 232, 252, 276, 322, 289, 322, 311], 95, 0), none, none, none, none, none, none, none, none, none, none, none, none, none, none, none, none, none, none, none, none, none, none]
noncomputable def pm_c150_2 : List (Option pm_I) := [none, none, none, none, none, none, none, none, none, none, none, none, none, none, none, none, none, none, none, none, none, none, none, none, none, none, none, none, none, none, none, none, none, none, none, none, none, none, none, none]
noncomputable def pm_c150_3 : List (Option pm_I) := [none, none, none, none, none, none, none, none, none, none, none, none, none, none, none, none, none, none, none, none, none, none, none, none, none, none, none, none, none, none, none, none, some (.aload 0, 1, 0), some (.iconst (1), 1, 0), some (.invokeinterface 12148 2, 3, 1198), none, none, some (.goto 322, 3, 0), none, none]
noncomputable def pm_c150_4 : List (Option pm_I) := [some (.aload 0, 1, 0), some (.iconst (2), 1, 0), some (.invokeinterface 12148 2, 3, 1198), none, none, some (.goto 322, 3, 0), none, none, some (.aload 0, 1, 0), some (.getfield 788, 3, 955), none, none, some (.iload 2, 1, 0), some (.iconst (1), 1, 0), some (.iastore, 1, 0), some (.goto 322, 3, 0), none, none, some (.aload 0, 1, 0), some (.aload 0, 1, 0), some (.getfield 788, 3, 955), none, none, some (.iload 2, 1, 0), some (.iaload, 1, 0), some (.invokeinterface 12148 2, 3, 1198), none, none, some (.goto 322, 3, 0), none, none, some (.aload 0, 1, 0), some (.getfield 788, 3, 955), none, none, some (.iload 2, 1, 0), some (.iload 4, 2, 0), none, some (.iastore, 1, 0), some (.goto 322, 3, 0)]
noncomputable def pm_c150_5 : List (Option pm_I) := [none, none, some (.aload 0, 1, 0), some (.iload 4, 2, 0), none, some (.invokeinterface 12148 2, 3, 1198), none, none, some (.aload 0, 1, 0), some (.iload 4, 2, 0), none, some (.invokeinterface 12148 2, 3, 1198), none, none, some (.goto 322, 3, 0), none, none, some (.aload 0, 1, 0), some (.iload 4, 2, 0), none, some (.invokeinterface 12148 2, 3, 1198), none, none, some (.aload 0, 1, 0), some (.iload 5, 2, 0), none, some (.invokeinterface 12148 2, 3, 1198), none, none, some (.goto 322, 3, 0), none, none, some (.aload 0, 1, 0), some (.iconst (64), 2, 0), none, some (.iload 3, 1, 0), some (.iadd, 1, 0), some (.iconst (0), 1, 0), some (.invokeinterface 12149 3, 3, 1202), none]
noncomputable def pm_c150_6 : List (Option pm_I) := [none, some (.aload 0, 1, 0), some (.iconst (64), 2, 0), none, some (.iload 3, 1, 0), some (.iadd, 1, 0), some (.invokeinterface 12148 2, 3, 1198), none, none, some (.goto 322, 3, 0), none, none, some (.aload 0, 1, 0), some (.iload 4, 2, 0), none, some (.iconst (16), 2, 0), none, some (.aload 0, 1, 0), some (.getfield 778, 3, 945), none, none, some (.iload 4, 2, 0), none, some (.iconst (64), 2, 0), none, some (.isub, 1, 0), some (.iconst (1), 1, 0), some (.iadd, 1, 0), some (.iaload, 1, 0), some (.iadd, 1, 0), some (.invokeinterface 12149 3, 3, 1202), none, none, some (.goto 322, 3, 0), none, none, some (.aload 0, 1, 0), some (.aload 0, 1, 0), some (.getfield 771, 3, 938), none]
noncomputable def pm_c150_7 : List (Option pm_I) := [none, some (.iload 2, 1, 0), some (.iaload, 1, 0), some (.invokeinterface 12148 2, 3, 1198), none, none, some (.goto 322, 3, 0), none, none, some (.aload 0, 1, 0), some (.getfield 774, 3, 941), none, none, some (.iload 2, 1, 0), some (.iaload, 1, 0), some (.ifCond .eq 322, 3, 0), none, none, some (.aload 0, 1, 0), some (.aload 0, 1, 0), some (.getfield 774, 3, 941), none, none, some (.iload 2, 1, 0), some (.iaload, 1, 0), some (.invokeinterface 12148 2, 3, 1198), none, none, some (.goto 322, 3, 0), none, none, some (.aload 0, 1, 0), some (.iconst (16), 2, 0), none, some (.iload 2, 1, 0), some (.iadd, 1, 0), some (.invokeinterface 12148 2, 3, 1198), none, none, some (.goto 322, 3, 0)]
noncomputable def pm_c150_8 : List (Option pm_I) := [none, none, some (.return_, 1, 0)]
/-- FrameTyperModel.work(III)V -/
noncomputable def pm_c150 : List (Option pm_I) := List.append pm_c150_0 (List.append pm_c150_1 (List.append pm_c150_2 (List.append pm_c150_3 (List.append pm_c150_4 (List.append pm_c150_5 (List.append pm_c150_6 (List.append pm_c150_7 pm_c150_8)))))))
noncomputable def pm_c151_0 : List (Option pm_I) := [some (.aload 0, 1, 0), some (.getfield 778, 3, 945), none, none, some (.iload 1, 1, 0), some (.iaload, 1, 0), some (.istore 2, 1, 0), some (.iload 2, 1, 0), some (.multianewarray 136 1, 3, 1122), none, none, some (.ifCond .eq 25, 3, 0), none, none, some (.aload 0, 1, 0), some (.getfield 778, 3, 945), none, none, some (.iload 1, 1, 0), some (.iconst (1), 1, 0), some (.iadd, 1, 0), some (.iaload, 1, 0), some (.goto 26, 3, 0), none, none, some (.iconst (0), 1, 0), some (.istore 3, 1, 0), some (.iload 2, 1, 0), some (.iload 3, 1, 0), some (.multianewarray 141 2, 3, 1164), none, none, some (.ifCond .ne 43, 3, 0), none, none, some (.aload 0, 1, 0), some (.iconst (4), 1, 0), some (.putfield 791, 3, 958), none, none]
noncomputable def pm_c151_1 : List (Option pm_I) := [some (.goto 191, 3, 0), none, none, some (.aload 0, 1, 0), some (.getfield 788, 3, 955), none, none, some (.iconst (4), 1, 0), some (.iaload, 1, 0), some (.aload 0, 1, 0), some (.iload 2, 1, 0), some (.iload 3, 1, 0), some (.invokeinterface 12142 3, 3, 1167), none, none, some (.if_icmp .ge 66, 3, 0), none, none, some (.aload 0, 1, 0), some (.iconst (5), 1, 0), some (.putfield 791, 3, 958), none, none, some (.goto 191, 3, 0), none, none, some (.aload 0, 1, 0), some (.iload 2, 1, 0), some (.iload 3, 1, 0), some (.iload 1, 1, 0), some (.invokeinterface 12144 4, 3, 1171), none, none, some (.ifCond .ne 85, 3, 0), none, none, some (.aload 0, 1, 0), some (.iconst (6), 2, 0), none, some (.putfield 791, 3, 958)]
noncomputable def pm_c151_2 : List (Option pm_I) := [none, none, some (.goto 191, 3, 0), none, none, some (.aload 0, 1, 0), some (.getfield 788, 3, 955), none, none, some (.iconst (4), 1, 0), some (.iaload, 1, 0), some (.aload 0, 1, 0), some (.iload 2, 1, 0), some (.iload 3, 1, 0), some (.invokeinterface 12142 3, 3, 1167), none, none, some (.isub, 1, 0), some (.aload 0, 1, 0), some (.iload 2, 1, 0), some (.iload 3, 1, 0), some (.invokeinterface 12147 3, 3, 1190), none, none, some (.iadd, 1, 0), some (.iconst (5), 1, 0), some (.if_icmp .le 118, 3, 0), none, none, some (.aload 0, 1, 0), some (.iconst (7), 2, 0), none, some (.putfield 791, 3, 958), none, none, some (.goto 191, 3, 0), none, none, some (.aload 0, 1, 0), some (.iload 2, 1, 0)]
noncomputable def pm_c151_3 : List (Option pm_I) := [some (.iload 3, 1, 0), some (.iload 1, 1, 0), some (.invokeinterface 12150 4, 3, 1194), none, none, some (.aload 0, 1, 0), some (.iload 2, 1, 0), some (.iconst (11), 2, 0), none, some (.if_icmp .eq 148, 3, 0), none, none, some (.iload 2, 1, 0), some (.iconst (19), 2, 0), none, some (.if_icmp .eq 148, 3, 0), none, none, some (.iload 2, 1, 0), some (.iconst (21), 2, 0), none, some (.if_icmp .eq 148, 3, 0), none, none, some (.iconst (1), 1, 0), some (.goto 149, 3, 0), none, none, some (.iconst (0), 1, 0), some (.putstatic 789, 3, 956), none, none, some (.aload 0, 1, 0), some (.iload 2, 1, 0), some (.iconst (11), 2, 0), none, some (.if_icmp .lt 185, 3, 0), none, none, some (.iload 2, 1, 0)]
noncomputable def pm_c151_4 : List (Option pm_I) := [some (.iconst (13), 2, 0), none, some (.if_icmp .gt 185, 3, 0), none, none, some (.iload 1, 1, 0), some (.iload 3, 1, 0), some (.iconst (127), 2, 0), none, some (.if_icmp .le 180, 3, 0), none, none, some (.iload 3, 1, 0), some (.iconst (256), 3, 0), none, none, some (.isub, 1, 0), some (.goto 181, 3, 0), none, none, some (.iload 3, 1, 0), some (.iadd, 1, 0), some (.goto 188, 3, 0), none, none, some (.iconst (1000), 3, 0), none, none, some (.putfield 790, 3, 957), none, none, some (.return_, 1, 0)]
/-- FrameTyperModel.step(I)V -/
noncomputable def pm_c151 : List (Option pm_I) := List.append pm_c151_0 (List.append pm_c151_1 (List.append pm_c151_2 (List.append pm_c151_3 pm_c151_4)))
noncomputable def pm_c152_0 : List (Option pm_I) := [some (.iconst (0), 1, 0), some (.istore 1, 1, 0), some (.iload 1, 1, 0), some (.iconst (4), 1, 0), some (.if_icmp .ge 37, 3, 0), none, none, some (.aload 0, 1, 0), some (.getfield 788, 3, 955), none, none, some (.iload 1, 1, 0), some (.iload 1, 1, 0), some (.aload 0, 1, 0), some (.getfield 776, 3, 943), none, none, some (.if_icmp .ge 29, 3, 0), none, none, some (.aload 0, 1, 0), some (.getfield 775, 3, 942), none, none, some (.iload 1, 1, 0), some (.iaload, 1, 0), some (.goto 30, 3, 0), none, none, some (.iconst (0), 1, 0), some (.iastore, 1, 0), some (.iinc 1 1, 3, 0), none, none, some (.goto 2, 3, 0), none, none, some (.aload 0, 1, 0), some (.getfield 788, 3, 955), none]
noncomputable def pm_c152_1 : List (Option pm_I) := [none, some (.iconst (4), 1, 0), some (.iconst (0), 1, 0), some (.iastore, 1, 0), some (.return_, 1, 0)]
/-- FrameTyperModel.begin()V -/
noncomputable def pm_c152 : List (Option pm_I) := List.append pm_c152_0 pm_c152_1
noncomputable def pm_c153_0 : List (Option pm_I) := [some (.iconst (0), 1, 0), some (.istore 2, 1, 0), some (.iload 2, 1, 0), some (.aload 0, 1, 0), some (.getfield 782, 3, 949), none, none, some (.if_icmp .ge 28, 3, 0), none, none, some (.aload 0, 1, 0), some (.getfield 783, 3, 950), none, none, some (.iload 2, 1, 0), some (.iaload, 1, 0), some (.iload 1, 1, 0), some (.if_icmp .ne 22, 3, 0), none, none, some (.iload 2, 1, 0), some (.ireturn, 1, 0), some (.iinc 2 1, 3, 0), none, none, some (.goto 2, 3, 0), none, none, some (.iconst (-1), 1, 0), some (.ireturn, 1, 0)]
/-- FrameTyperModel.frameAt(I)I -/
noncomputable def pm_c153 : List (Option pm_I) := pm_c153_0
noncomputable def pm_c154_0 : List (Option pm_I) := [some (.aload 0, 1, 0), some (.getfield 788, 3, 955), none, none, some (.iconst (4), 1, 0), some (.iaload, 1, 0), some (.aload 0, 1, 0), some (.getfield 785, 3, 952), none, none, some (.iconst (10), 2, 0), none, some (.iload 1, 1, 0), some (.imul, 1, 0), some (.iconst (4), 1, 0), some (.iadd, 1, 0), some (.iaload, 1, 0), some (.if_icmp .ne 24, 3, 0), none, none, some (.iconst (1), 1, 0), some (.goto 25, 3, 0), none, none, some (.iconst (0), 1, 0), some (.istore 2, 1, 0), some (.iconst (0), 1, 0), some (.istore 3, 1, 0), some (.iload 3, 1, 0), some (.iconst (4), 1, 0), some (.if_icmp .ge 73, 3, 0), none, none, some (.iload 2, 1, 0), some (.ifCond .eq 65, 3, 0), none, none, some (.aload 0, 1, 0), some (.aload 0, 1, 0), some (.getfield 788, 3, 955)]
noncomputable def pm_c154_1 : List (Option pm_I) := [none, none, some (.iload 3, 1, 0), some (.iaload, 1, 0), some (.aload 0, 1, 0), some (.getfield 785, 3, 952), none, none, some (.iconst (10), 2, 0), none, some (.iload 1, 1, 0), some (.imul, 1, 0), some (.iload 3, 1, 0), some (.iadd, 1, 0), some (.iaload, 1, 0), some (.invokeinterface 12117 3, 3, 1141), none, none, some (.ifCond .eq 65, 3, 0), none, none, some (.iconst (1), 1, 0), some (.goto 66, 3, 0), none, none, some (.iconst (0), 1, 0), some (.istore 2, 1, 0), some (.iinc 3 1, 3, 0), none, none, some (.goto 28, 3, 0), none, none, some (.iconst (0), 1, 0), some (.istore 3, 1, 0), some (.iload 3, 1, 0), some (.aload 0, 1, 0), some (.getfield 788, 3, 955), none, none]
noncomputable def pm_c154_2 : List (Option pm_I) := [some (.iconst (4), 1, 0), some (.iaload, 1, 0), some (.if_icmp .ge 121, 3, 0), none, none, some (.iload 2, 1, 0), some (.ifCond .eq 121, 3, 0), none, none, some (.aload 0, 1, 0), some (.aload 0, 1, 0), some (.getfield 788, 3, 955), none, none, some (.iconst (5), 1, 0), some (.iload 3, 1, 0), some (.iadd, 1, 0), some (.iaload, 1, 0), some (.aload 0, 1, 0), some (.getfield 785, 3, 952), none, none, some (.iconst (10), 2, 0), none, some (.iload 1, 1, 0), some (.imul, 1, 0), some (.iconst (5), 1, 0), some (.iadd, 1, 0), some (.iload 3, 1, 0), some (.iadd, 1, 0), some (.iaload, 1, 0), some (.invokeinterface 12117 3, 3, 1141), none, none, some (.istore 2, 1, 0), some (.iinc 3 1, 3, 0), none, none, some (.goto 75, 3, 0), none]
noncomputable def pm_c154_3 : List (Option pm_I) := [none, some (.iload 2, 1, 0), some (.freturn, 1, 0)]
/-- FrameTyperModel.fitsFrame(I)Z -/
noncomputable def pm_c154 : List (Option pm_I) := List.append pm_c154_0 (List.append pm_c154_1 (List.append pm_c154_2 pm_c154_3))
noncomputable def pm_c155_0 : List (Option pm_I) := [some (.iconst (1), 1, 0), some (.istore 2, 1, 0), some (.iconst (0), 1, 0), some (.istore 3, 1, 0), some (.iload 3, 1, 0), some (.iconst (10), 2, 0), none, some (.if_icmp .ge 98, 3, 0), none, none, some (.iload 3, 1, 0), some (.iconst (4), 1, 0), some (.if_icmp .eq 41, 3, 0), none, none, some (.iload 3, 1, 0), some (.iconst (4), 1, 0), some (.if_icmp .lt 37, 3, 0), none, none, some (.iload 3, 1, 0), some (.iconst (5), 1, 0), some (.isub, 1, 0), some (.aload 0, 1, 0), some (.getfield 785, 3, 952), none, none, some (.iconst (10), 2, 0), none, some (.iload 1, 1, 0), some (.imul, 1, 0), some (.iconst (4), 1, 0), some (.iadd, 1, 0), some (.iaload, 1, 0), some (.if_icmp .ge 41, 3, 0), none, none, some (.iconst (1), 1, 0), some (.goto 42, 3, 0), none]
noncomputable def pm_c155_1 : List (Option pm_I) := [none, some (.iconst (0), 1, 0), some (.istore 4, 2, 0), none, some (.aload 0, 1, 0), some (.getfield 785, 3, 952), none, none, some (.iconst (10), 2, 0), none, some (.iload 1, 1, 0), some (.imul, 1, 0), some (.iload 3, 1, 0), some (.iadd, 1, 0), some (.iaload, 1, 0), some (.istore 5, 2, 0), none, some (.iload 2, 1, 0), some (.ifCond .eq 90, 3, 0), none, none, some (.iload 4, 2, 0), none, some (.ifCond .eq 86, 3, 0), none, none, some (.iload 5, 2, 0), none, some (.multianewarray 115 1, 3, 1153), none, none, some (.ifCond .eq 86, 3, 0), none, none, some (.aload 0, 1, 0), some (.iload 5, 2, 0), none, some (.iconst (64), 2, 0), none, some (.isub, 1, 0)]
noncomputable def pm_c155_2 : List (Option pm_I) := [some (.invokeinterface 12139 2, 3, 1156), none, none, some (.ifCond .eq 90, 3, 0), none, none, some (.iconst (1), 1, 0), some (.goto 91, 3, 0), none, none, some (.iconst (0), 1, 0), some (.istore 2, 1, 0), some (.iinc 3 1, 3, 0), none, none, some (.goto 4, 3, 0), none, none, some (.iload 2, 1, 0), some (.freturn, 1, 0)]
/-- FrameTyperModel.isFrameGood(I)Z -/
noncomputable def pm_c155 : List (Option pm_I) := List.append pm_c155_0 (List.append pm_c155_1 pm_c155_2)
noncomputable def pm_c156_0 : List (Option pm_I) := [some (.aload 0, 1, 0), some (.iload 1, 1, 0), some (.invokeinterface 12153 2, 3, 1133), none, none, some (.istore 3, 1, 0), some (.aload 0, 1, 0), some (.iload 1, 1, 0), some (.invokeinterface 12137 2, 3, 1118), none, none, some (.ifCond .ne 22, 3, 0), none, none, some (.aload 0, 1, 0), some (.iconst (1), 1, 0), some (.putfield 791, 3, 958), none, none, some (.goto 82, 3, 0), none, none, some (.iload 2, 1, 0), some (.ifCond .ne 39, 3, 0), none, none, some (.iload 3, 1, 0), some (.iconst (-1), 1, 0), some (.if_icmp .ne 39, 3, 0), none, none, some (.aload 0, 1, 0), some (.iconst (2), 1, 0), some (.putfield 791, 3, 958), none, none, some (.goto 82, 3, 0), none, none, some (.iload 2, 1, 0)]
noncomputable def pm_c156_1 : List (Option pm_I) := [some (.ifCond .eq 64, 3, 0), none, none, some (.iload 3, 1, 0), some (.iconst (-1), 1, 0), some (.if_icmp .eq 64, 3, 0), none, none, some (.aload 0, 1, 0), some (.iload 3, 1, 0), some (.invokeinterface 12154 2, 3, 1137), none, none, some (.ifCond .ne 64, 3, 0), none, none, some (.aload 0, 1, 0), some (.iconst (3), 1, 0), some (.putfield 791, 3, 958), none, none, some (.goto 82, 3, 0), none, none, some (.iload 3, 1, 0), some (.iconst (-1), 1, 0), some (.if_icmp .eq 82, 3, 0), none, none, some (.aload 0, 1, 0), some (.iload 3, 1, 0), some (.invokeinterface 12155 2, 3, 1149), none, none, some (.ifCond .ne 82, 3, 0), none, none, some (.aload 0, 1, 0), some (.iconst (4), 1, 0), some (.putfield 791, 3, 958)]
noncomputable def pm_c156_2 : List (Option pm_I) := [none, none, some (.aload 0, 1, 0), some (.getfield 791, 3, 958), none, none, some (.ifCond .le 90, 3, 0), none, none, some (.return_, 1, 0), some (.iconst (0), 1, 0), some (.istore 4, 2, 0), none, some (.iload 4, 2, 0), none, some (.iconst (10), 2, 0), none, some (.if_icmp .ge 130, 3, 0), none, none, some (.iload 3, 1, 0), some (.iconst (-1), 1, 0), some (.if_icmp .eq 130, 3, 0), none, none, some (.aload 0, 1, 0), some (.getfield 788, 3, 955), none, none, some (.iload 4, 2, 0), none, some (.aload 0, 1, 0), some (.getfield 785, 3, 952), none, none, some (.iconst (10), 2, 0), none, some (.iload 3, 1, 0), some (.imul, 1, 0), some (.iload 4, 2, 0)]
noncomputable def pm_c156_3 : List (Option pm_I) := [none, some (.iadd, 1, 0), some (.iaload, 1, 0), some (.iastore, 1, 0), some (.iinc 4 1, 3, 0), none, none, some (.goto 93, 3, 0), none, none, some (.aload 0, 1, 0), some (.iload 1, 1, 0), some (.invokeinterface 12151 2, 3, 1160), none, none, some (.aload 0, 1, 0), some (.getfield 791, 3, 958), none, none, some (.ifCond .ne 192, 3, 0), none, none, some (.aload 0, 1, 0), some (.getfield 790, 3, 957), none, none, some (.iconst (1000), 3, 0), none, none, some (.if_icmp .ge 192, 3, 0), none, none, some (.aload 0, 1, 0), some (.aload 0, 1, 0), some (.getfield 790, 3, 957), none, none, some (.invokeinterface 12153 2, 3, 1133), none, none]
noncomputable def pm_c156_4 : List (Option pm_I) := [some (.istore 4, 2, 0), none, some (.aload 0, 1, 0), some (.iload 4, 2, 0), none, some (.iconst (-1), 1, 0), some (.if_icmp .ne 174, 3, 0), none, none, some (.iconst (8), 2, 0), none, some (.goto 189, 3, 0), none, none, some (.aload 0, 1, 0), some (.iload 4, 2, 0), none, some (.invokeinterface 12154 2, 3, 1137), none, none, some (.ifCond .eq 187, 3, 0), none, none, some (.iconst (0), 1, 0), some (.goto 189, 3, 0), none, none, some (.iconst (9), 2, 0), none, some (.putfield 791, 3, 958), none, none, some (.return_, 1, 0)]
/-- FrameTyperModel.look(IZ)V -/
noncomputable def pm_c156 : List (Option pm_I) := List.append pm_c156_0 (List.append pm_c156_1 (List.append pm_c156_2 (List.append pm_c156_3 pm_c156_4)))
noncomputable def pm_c157_0 : List (Option pm_I) := [some (.aload 0, 1, 0), some (.aload 0, 1, 0), some (.invokeinterface 12133 1, 3, 1082), none, none, some (.ifCond .eq 12, 3, 0), none, none, some (.iconst (0), 1, 0), some (.goto 13, 3, 0), none, none, some (.iconst (1), 1, 0), some (.putfield 768, 3, 935), none, none, some (.aload 0, 1, 0), some (.getfield 768, 3, 935), none, none, some (.ifCond .le 25, 3, 0), none, none, some (.iconst (0), 1, 0), some (.ireturn, 1, 0), some (.aload 0, 1, 0), some (.invokeinterface 12138 1, 3, 1114), none, none, some (.aload 0, 1, 0), some (.invokeinterface 12152 1, 3, 1125), none, none, some (.aload 0, 1, 0), some (.iconst (0), 1, 0), some (.putfield 791, 3, 958), none, none, some (.iconst (1), 1, 0), some (.istore 1, 1, 0)]
noncomputable def pm_c157_1 : List (Option pm_I) := [some (.iconst (0), 1, 0), some (.istore 2, 1, 0), some (.iload 2, 1, 0), some (.aload 0, 1, 0), some (.getfield 779, 3, 946), none, none, some (.if_icmp .ge 101, 3, 0), none, none, some (.aload 0, 1, 0), some (.iload 2, 1, 0), some (.iload 1, 1, 0), some (.invokeinterface 12156 3, 3, 1129), none, none, some (.aload 0, 1, 0), some (.getfield 791, 3, 958), none, none, some (.ifCond .le 73, 3, 0), none, none, some (.iconst (100), 2, 0), none, some (.aload 0, 1, 0), some (.getfield 791, 3, 958), none, none, some (.imul, 1, 0), some (.iload 2, 1, 0), some (.iadd, 1, 0), some (.ireturn, 1, 0), some (.aload 0, 1, 0), some (.getfield 789, 3, 956), none, none, some (.istore 1, 1, 0), some (.iload 2, 1, 0), some (.aload 0, 1, 0)]
noncomputable def pm_c157_2 : List (Option pm_I) := [some (.getfield 778, 3, 945), none, none, some (.iload 2, 1, 0), some (.iaload, 1, 0), some (.multianewarray 136 1, 3, 1122), none, none, some (.ifCond .eq 95, 3, 0), none, none, some (.iconst (2), 1, 0), some (.goto 96, 3, 0), none, none, some (.iconst (1), 1, 0), some (.iadd, 1, 0), some (.istore 2, 1, 0), some (.goto 42, 3, 0), none, none, some (.iload 1, 1, 0), some (.ifCond .eq 113, 3, 0), none, none, some (.iconst (100), 2, 0), none, some (.aload 0, 1, 0), some (.getfield 779, 3, 946), none, none, some (.iadd, 1, 0), some (.ireturn, 1, 0), some (.iconst (0), 1, 0), some (.istore 3, 1, 0), some (.iload 3, 1, 0), some (.aload 0, 1, 0), some (.getfield 782, 3, 949), none, none]
noncomputable def pm_c157_3 : List (Option pm_I) := [some (.if_icmp .ge 167, 3, 0), none, none, some (.aload 0, 1, 0), some (.getfield 783, 3, 950), none, none, some (.iload 3, 1, 0), some (.iaload, 1, 0), some (.aload 0, 1, 0), some (.getfield 779, 3, 946), none, none, some (.if_icmp .ge 150, 3, 0), none, none, some (.aload 0, 1, 0), some (.getfield 792, 3, 959), none, none, some (.aload 0, 1, 0), some (.getfield 783, 3, 950), none, none, some (.iload 3, 1, 0), some (.iaload, 1, 0), some (.baload, 1, 0), some (.ifCond .ne 161, 3, 0), none, none, some (.iconst (1000), 3, 0), none, none, some (.aload 0, 1, 0), some (.getfield 783, 3, 950), none, none, some (.iload 3, 1, 0), some (.iaload, 1, 0), some (.iadd, 1, 0)]
noncomputable def pm_c157_4 : List (Option pm_I) := [some (.ireturn, 1, 0), some (.iinc 3 1, 3, 0), none, none, some (.goto 115, 3, 0), none, none, some (.iconst (0), 1, 0), some (.ireturn, 1, 0)]
/-- FrameTyperModel.check()I -/
noncomputable def pm_c157 : List (Option pm_I) := List.append pm_c157_0 (List.append pm_c157_1 (List.append pm_c157_2 (List.append pm_c157_3 pm_c157_4)))
noncomputable def pm_c158_0 : List (Option pm_I) := [some (.aload 0, 1, 0), some (.getfield 793, 3, 960), none, none, some (.iload 1, 1, 0), some (.baload, 1, 0), some (.ifCond .ne 56, 3, 0), none, none, some (.aload 0, 1, 0), some (.getfield 793, 3, 960), none, none, some (.iload 1, 1, 0), some (.iconst (1), 1, 0), some (.bastore, 1, 0), some (.aload 0, 1, 0), some (.getfield 794, 3, 961), none, none, some (.iload 1, 1, 0), some (.iconst (1), 1, 0), some (.bastore, 1, 0), some (.iconst (0), 1, 0), some (.istore 2, 1, 0), some (.iload 2, 1, 0), some (.iconst (10), 2, 0), none, some (.if_icmp .ge 54, 3, 0), none, none, some (.aload 0, 1, 0), some (.getfield 796, 3, 963), none, none, some (.iconst (10), 2, 0), none, some (.iload 1, 1, 0), some (.imul, 1, 0), some (.iload 2, 1, 0)]
noncomputable def pm_c158_1 : List (Option pm_I) := [some (.iadd, 1, 0), some (.aload 0, 1, 0), some (.getfield 788, 3, 955), none, none, some (.iload 2, 1, 0), some (.iaload, 1, 0), some (.iastore, 1, 0), some (.iinc 2 1, 3, 0), none, none, some (.goto 25, 3, 0), none, none, some (.iconst (1), 1, 0), some (.freturn, 1, 0), some (.aload 0, 1, 0), some (.getfield 796, 3, 963), none, none, some (.iconst (10), 2, 0), none, some (.iload 1, 1, 0), some (.imul, 1, 0), some (.iconst (4), 1, 0), some (.iadd, 1, 0), some (.iaload, 1, 0), some (.aload 0, 1, 0), some (.getfield 788, 3, 955), none, none, some (.iconst (4), 1, 0), some (.iaload, 1, 0), some (.if_icmp .eq 78, 3, 0), none, none, some (.iconst (0), 1, 0), some (.freturn, 1, 0), some (.iconst (0), 1, 0), some (.istore 2, 1, 0)]
noncomputable def pm_c158_2 : List (Option pm_I) := [some (.iload 2, 1, 0), some (.iconst (5), 1, 0), some (.aload 0, 1, 0), some (.getfield 788, 3, 955), none, none, some (.iconst (4), 1, 0), some (.iaload, 1, 0), some (.iadd, 1, 0), some (.if_icmp .ge 172, 3, 0), none, none, some (.iload 2, 1, 0), some (.iconst (4), 1, 0), some (.if_icmp .eq 166, 3, 0), none, none, some (.aload 0, 1, 0), some (.aload 0, 1, 0), some (.getfield 796, 3, 963), none, none, some (.iconst (10), 2, 0), none, some (.iload 1, 1, 0), some (.imul, 1, 0), some (.iload 2, 1, 0), some (.iadd, 1, 0), some (.iaload, 1, 0), some (.aload 0, 1, 0), some (.getfield 788, 3, 955), none, none, some (.iload 2, 1, 0), some (.iaload, 1, 0), some (.invokeinterface 12118 3, 3, 1218), none, none, some (.istore 3, 1, 0), some (.aload 0, 1, 0)]
noncomputable def pm_c158_3 : List (Option pm_I) := [some (.getfield 794, 3, 961), none, none, some (.iload 1, 1, 0), some (.aload 0, 1, 0), some (.getfield 794, 3, 961), none, none, some (.iload 1, 1, 0), some (.baload, 1, 0), some (.ifCond .ne 148, 3, 0), none, none, some (.iload 3, 1, 0), some (.aload 0, 1, 0), some (.getfield 796, 3, 963), none, none, some (.iconst (10), 2, 0), none, some (.iload 1, 1, 0), some (.imul, 1, 0), some (.iload 2, 1, 0), some (.iadd, 1, 0), some (.iaload, 1, 0), some (.if_icmp .eq 152, 3, 0), none, none, some (.iconst (1), 1, 0), some (.goto 153, 3, 0), none, none, some (.iconst (0), 1, 0), some (.bastore, 1, 0), some (.aload 0, 1, 0), some (.getfield 796, 3, 963), none, none, some (.iconst (10), 2, 0), none]
noncomputable def pm_c158_4 : List (Option pm_I) := [some (.iload 1, 1, 0), some (.imul, 1, 0), some (.iload 2, 1, 0), some (.iadd, 1, 0), some (.iload 3, 1, 0), some (.iastore, 1, 0), some (.iinc 2 1, 3, 0), none, none, some (.goto 80, 3, 0), none, none, some (.iconst (1), 1, 0), some (.freturn, 1, 0)]
/-- FrameTyperModel.comes(I)Z -/
noncomputable def pm_c158 : List (Option pm_I) := List.append pm_c158_0 (List.append pm_c158_1 (List.append pm_c158_2 (List.append pm_c158_3 pm_c158_4)))
noncomputable def pm_c159_0 : List (Option pm_I) := [some (.iconst (0), 1, 0), some (.istore 1, 1, 0), some (.iload 1, 1, 0), some (.aload 0, 1, 0), some (.getfield 779, 3, 946), none, none, some (.if_icmp .gt 25, 3, 0), none, none, some (.aload 0, 1, 0), some (.getfield 794, 3, 961), none, none, some (.iload 1, 1, 0), some (.baload, 1, 0), some (.ifCond .ne 25, 3, 0), none, none, some (.iinc 1 1, 3, 0), none, none, some (.goto 2, 3, 0), none, none, some (.iload 1, 1, 0), some (.ireturn, 1, 0)]
/-- FrameTyperModel.lowest()I -/
noncomputable def pm_c159 : List (Option pm_I) := pm_c159_0
noncomputable def pm_c160_0 : List (Option pm_I) := [some (.aload 0, 1, 0), some (.getfield 794, 3, 961), none, none, some (.iload 1, 1, 0), some (.iconst (0), 1, 0), some (.bastore, 1, 0), some (.iload 1, 1, 0), some (.aload 0, 1, 0), some (.getfield 779, 3, 946), none, none, some (.if_icmp .eq 23, 3, 0), none, none, some (.aload 0, 1, 0), some (.iload 1, 1, 0), some (.invokeinterface 12137 2, 3, 1118), none, none, some (.ifCond .ne 28, 3, 0), none, none, some (.iconst (100), 2, 0), none, some (.iload 1, 1, 0), some (.iadd, 1, 0), some (.ireturn, 1, 0), some (.iconst (0), 1, 0), some (.istore 2, 1, 0), some (.iload 2, 1, 0), some (.iconst (10), 2, 0), none, some (.if_icmp .ge 59, 3, 0), none, none, some (.aload 0, 1, 0), some (.getfield 788, 3, 955), none, none]
noncomputable def pm_c160_1 : List (Option pm_I) := [some (.iload 2, 1, 0), some (.aload 0, 1, 0), some (.getfield 796, 3, 963), none, none, some (.iconst (10), 2, 0), none, some (.iload 1, 1, 0), some (.imul, 1, 0), some (.iload 2, 1, 0), some (.iadd, 1, 0), some (.iaload, 1, 0), some (.iastore, 1, 0), some (.iinc 2 1, 3, 0), none, none, some (.goto 30, 3, 0), none, none, some (.aload 0, 1, 0), some (.iload 1, 1, 0), some (.invokeinterface 12151 2, 3, 1160), none, none, some (.aload 0, 1, 0), some (.getfield 791, 3, 958), none, none, some (.ifCond .ne 85, 3, 0), none, none, some (.aload 0, 1, 0), some (.getfield 790, 3, 957), none, none, some (.iconst (1000), 3, 0), none, none, some (.if_icmp .ge 85, 3, 0), none]
noncomputable def pm_c160_2 : List (Option pm_I) := [none, some (.iconst (1), 1, 0), some (.goto 86, 3, 0), none, none, some (.iconst (0), 1, 0), some (.istore 2, 1, 0), some (.iload 2, 1, 0), some (.ifCond .eq 127, 3, 0), none, none, some (.aload 0, 1, 0), some (.getfield 790, 3, 957), none, none, some (.ifCond .lt 121, 3, 0), none, none, some (.aload 0, 1, 0), some (.getfield 790, 3, 957), none, none, some (.aload 0, 1, 0), some (.getfield 779, 3, 946), none, none, some (.if_icmp .ge 121, 3, 0), none, none, some (.aload 0, 1, 0), some (.getfield 792, 3, 959), none, none, some (.aload 0, 1, 0), some (.getfield 790, 3, 957), none, none, some (.baload, 1, 0), some (.ifCond .ne 127, 3, 0), none]
noncomputable def pm_c160_3 : List (Option pm_I) := [none, some (.aload 0, 1, 0), some (.iconst (8), 2, 0), none, some (.putfield 791, 3, 958), none, none, some (.aload 0, 1, 0), some (.getfield 791, 3, 958), none, none, some (.ifCond .le 144, 3, 0), none, none, some (.iconst (100), 2, 0), none, some (.aload 0, 1, 0), some (.getfield 791, 3, 958), none, none, some (.imul, 1, 0), some (.iload 1, 1, 0), some (.iadd, 1, 0), some (.ireturn, 1, 0), some (.iload 1, 1, 0), some (.aload 0, 1, 0), some (.getfield 778, 3, 945), none, none, some (.iload 1, 1, 0), some (.iaload, 1, 0), some (.multianewarray 136 1, 3, 1122), none, none, some (.ifCond .eq 161, 3, 0), none, none, some (.iconst (2), 1, 0), some (.goto 162, 3, 0), none]
noncomputable def pm_c160_4 : List (Option pm_I) := [none, some (.iconst (1), 1, 0), some (.iadd, 1, 0), some (.istore 3, 1, 0), some (.aload 0, 1, 0), some (.getfield 789, 3, 956), none, none, some (.ifCond .ne 181, 3, 0), none, none, some (.aload 0, 1, 0), some (.getfield 795, 3, 962), none, none, some (.iload 3, 1, 0), some (.iconst (1), 1, 0), some (.bastore, 1, 0), some (.goto 195, 3, 0), none, none, some (.aload 0, 1, 0), some (.iload 3, 1, 0), some (.invokeinterface 12158 2, 3, 1214), none, none, some (.ifCond .ne 195, 3, 0), none, none, some (.iconst (300), 3, 0), none, none, some (.iload 3, 1, 0), some (.iadd, 1, 0), some (.ireturn, 1, 0), some (.iload 2, 1, 0), some (.ifCond .eq 229, 3, 0), none, none, some (.aload 0, 1, 0)]
noncomputable def pm_c160_5 : List (Option pm_I) := [some (.getfield 795, 3, 962), none, none, some (.aload 0, 1, 0), some (.getfield 790, 3, 957), none, none, some (.iconst (1), 1, 0), some (.bastore, 1, 0), some (.aload 0, 1, 0), some (.aload 0, 1, 0), some (.getfield 790, 3, 957), none, none, some (.invokeinterface 12158 2, 3, 1214), none, none, some (.ifCond .ne 229, 3, 0), none, none, some (.iconst (300), 3, 0), none, none, some (.aload 0, 1, 0), some (.getfield 790, 3, 957), none, none, some (.iadd, 1, 0), some (.ireturn, 1, 0), some (.iconst (0), 1, 0), some (.ireturn, 1, 0)]
/-- FrameTyperModel.workOn(I)I -/
noncomputable def pm_c160 : List (Option pm_I) := List.append pm_c160_0 (List.append pm_c160_1 (List.append pm_c160_2 (List.append pm_c160_3 (List.append pm_c160_4 pm_c160_5))))
noncomputable def pm_c161_0 : List (Option pm_I) := [some (.aload 0, 1, 0), some (.invokeinterface 12138 1, 3, 1114), none, none, some (.iconst (0), 1, 0), some (.istore 1, 1, 0), some (.iload 1, 1, 0), some (.iconst (48), 2, 0), none, some (.if_icmp .gt 39, 3, 0), none, none, some (.aload 0, 1, 0), some (.getfield 793, 3, 960), none, none, some (.iload 1, 1, 0), some (.iconst (0), 1, 0), some (.bastore, 1, 0), some (.aload 0, 1, 0), some (.getfield 794, 3, 961), none, none, some (.iload 1, 1, 0), some (.iconst (0), 1, 0), some (.bastore, 1, 0), some (.aload 0, 1, 0), some (.getfield 795, 3, 962), none, none, some (.iload 1, 1, 0), some (.iconst (0), 1, 0), some (.bastore, 1, 0), some (.iinc 1 1, 3, 0), none, none, some (.goto 6, 3, 0), none, none, some (.aload 0, 1, 0)]
noncomputable def pm_c161_1 : List (Option pm_I) := [some (.invokeinterface 12152 1, 3, 1125), none, none, some (.aload 0, 1, 0), some (.iconst (0), 1, 0), some (.putfield 791, 3, 958), none, none, some (.aload 0, 1, 0), some (.iconst (0), 1, 0), some (.invokeinterface 12158 2, 3, 1214), none, none, some (.istore 1, 1, 0), some (.iconst (0), 1, 0), some (.istore 2, 1, 0), some (.aload 0, 1, 0), some (.invokeinterface 12159 1, 3, 1222), none, none, some (.istore 3, 1, 0), some (.iload 3, 1, 0), some (.aload 0, 1, 0), some (.getfield 779, 3, 946), none, none, some (.if_icmp .gt 87, 3, 0), none, none, some (.iload 2, 1, 0), some (.ifCond .ne 87, 3, 0), none, none, some (.aload 0, 1, 0), some (.iload 3, 1, 0), some (.invokeinterface 12160 2, 3, 1226), none, none, some (.istore 2, 1, 0), some (.aload 0, 1, 0)]
noncomputable def pm_c161_2 : List (Option pm_I) := [some (.invokeinterface 12159 1, 3, 1222), none, none, some (.istore 3, 1, 0), some (.goto 61, 3, 0), none, none, some (.iconst (0), 1, 0), some (.istore 4, 2, 0), none, some (.iload 4, 2, 0), none, some (.aload 0, 1, 0), some (.getfield 779, 3, 946), none, none, some (.if_icmp .ge 140, 3, 0), none, none, some (.iload 2, 1, 0), some (.ifCond .ne 140, 3, 0), none, none, some (.aload 0, 1, 0), some (.getfield 792, 3, 959), none, none, some (.iload 4, 2, 0), none, some (.baload, 1, 0), some (.ifCond .eq 132, 3, 0), none, none, some (.aload 0, 1, 0), some (.getfield 793, 3, 960), none, none, some (.iload 4, 2, 0), none, some (.baload, 1, 0)]
noncomputable def pm_c161_3 : List (Option pm_I) := [some (.ifCond .ne 132, 3, 0), none, none, some (.iconst (200), 3, 0), none, none, some (.iload 4, 2, 0), none, some (.iadd, 1, 0), some (.goto 133, 3, 0), none, none, some (.iconst (0), 1, 0), some (.istore 2, 1, 0), some (.iinc 4 1, 3, 0), none, none, some (.goto 90, 3, 0), none, none, some (.iload 2, 1, 0), some (.ireturn, 1, 0)]
/-- FrameTyperModel.findStates()I -/
noncomputable def pm_c161 : List (Option pm_I) := List.append pm_c161_0 (List.append pm_c161_1 (List.append pm_c161_2 pm_c161_3))
noncomputable def pm_c162_0 : List (Option pm_I) := [some (.aload 0, 1, 0), some (.getfield 797, 3, 964), none, none, some (.aload 0, 1, 0), some (.getfield 798, 3, 965), none, none, some (.iload 1, 1, 0), some (.iastore, 1, 0), some (.aload 0, 1, 0), some (.dup, 1, 0), some (.getfield 798, 3, 965), none, none, some (.iconst (1), 1, 0), some (.iadd, 1, 0), some (.putfield 798, 3, 965), none, none, some (.return_, 1, 0)]
/-- FrameTyperModel.pack(I)V -/
noncomputable def pm_c162 : List (Option pm_I) := pm_c162_0
noncomputable def pm_c163_0 : List (Option pm_I) := [some (.iload 1, 1, 0), some (.multianewarray 113 1, 3, 1047), none, none, some (.ifCond .eq 24, 3, 0), none, none, some (.aload 0, 1, 0), some (.iconst (7), 2, 0), none, some (.invokeinterface 12162 2, 3, 1238), none, none, some (.aload 0, 1, 0), some (.iload 1, 1, 0), some (.iconst (16), 2, 0), none, some (.isub, 1, 0), some (.invokeinterface 12162 2, 3, 1238), none, none, some (.goto 53, 3, 0), none, none, some (.iload 1, 1, 0), some (.multianewarray 115 1, 3, 1153), none, none, some (.ifCond .eq 48, 3, 0), none, none, some (.aload 0, 1, 0), some (.iconst (8), 2, 0), none, some (.invokeinterface 12162 2, 3, 1238), none, none, some (.aload 0, 1, 0), some (.iload 1, 1, 0), some (.iconst (64), 2, 0)]
noncomputable def pm_c163_1 : List (Option pm_I) := [none, some (.isub, 1, 0), some (.invokeinterface 12162 2, 3, 1238), none, none, some (.goto 53, 3, 0), none, none, some (.aload 0, 1, 0), some (.iload 1, 1, 0), some (.invokeinterface 12162 2, 3, 1238), none, none, some (.return_, 1, 0)]
/-- FrameTyperModel.packType(I)V -/
noncomputable def pm_c163 : List (Option pm_I) := List.append pm_c163_0 pm_c163_1
noncomputable def pm_c164_0 : List (Option pm_I) := [some (.iconst (4), 1, 0), some (.istore 2, 1, 0), some (.iload 2, 1, 0), some (.ifCond .le 28, 3, 0), none, none, some (.aload 0, 1, 0), some (.getfield 796, 3, 963), none, none, some (.iconst (10), 2, 0), none, some (.iload 1, 1, 0), some (.imul, 1, 0), some (.iload 2, 1, 0), some (.iadd, 1, 0), some (.iconst (1), 1, 0), some (.isub, 1, 0), some (.iaload, 1, 0), some (.ifCond .ne 28, 3, 0), none, none, some (.iinc 2 (-1), 3, 0), none, none, some (.goto 2, 3, 0), none, none, some (.iload 2, 1, 0), some (.ireturn, 1, 0)]
/-- FrameTyperModel.manyAt(I)I -/
noncomputable def pm_c164 : List (Option pm_I) := pm_c164_0
noncomputable def pm_c165_0 : List (Option pm_I) := [some (.aload 0, 1, 0), some (.iload 1, 1, 0), some (.invokeinterface 12164 2, 3, 1234), none, none, some (.istore 4, 2, 0), none, some (.aload 0, 1, 0), some (.getfield 796, 3, 963), none, none, some (.iconst (10), 2, 0), none, some (.iload 1, 1, 0), some (.imul, 1, 0), some (.iconst (4), 1, 0), some (.iadd, 1, 0), some (.iaload, 1, 0), some (.istore 5, 2, 0), none, some (.iconst (0), 1, 0), some (.istore 6, 2, 0), none, some (.iload 6, 2, 0), none, some (.iload 4, 2, 0), none, some (.if_icmp .ge 64, 3, 0), none, none, some (.iload 6, 2, 0), none, some (.iload 3, 1, 0), some (.if_icmp .ge 64, 3, 0), none, none, some (.aload 0, 1, 0), some (.getfield 799, 3, 966), none, none]
noncomputable def pm_c165_1 : List (Option pm_I) := [some (.iload 6, 2, 0), none, some (.iaload, 1, 0), some (.aload 0, 1, 0), some (.getfield 796, 3, 963), none, none, some (.iconst (10), 2, 0), none, some (.iload 1, 1, 0), some (.imul, 1, 0), some (.iload 6, 2, 0), none, some (.iadd, 1, 0), some (.iaload, 1, 0), some (.if_icmp .ne 64, 3, 0), none, none, some (.iinc 6 1, 3, 0), none, none, some (.goto 23, 3, 0), none, none, some (.iload 6, 2, 0), none, some (.iload 4, 2, 0), none, some (.if_icmp .ne 81, 3, 0), none, none, some (.iload 4, 2, 0), none, some (.iload 3, 1, 0), some (.if_icmp .ne 81, 3, 0), none, none, some (.iconst (1), 1, 0), some (.goto 82, 3, 0), none]
noncomputable def pm_c165_2 : List (Option pm_I) := [none, some (.iconst (0), 1, 0), some (.istore 7, 2, 0), none, some (.iload 7, 2, 0), none, some (.ifCond .eq 102, 3, 0), none, none, some (.iload 5, 2, 0), none, some (.ifCond .ne 102, 3, 0), none, none, some (.aload 0, 1, 0), some (.iload 2, 1, 0), some (.invokeinterface 12162 2, 3, 1238), none, none, some (.goto 356, 3, 0), none, none, some (.iload 7, 2, 0), none, some (.ifCond .eq 139, 3, 0), none, none, some (.iload 5, 2, 0), none, some (.iconst (1), 1, 0), some (.if_icmp .ne 139, 3, 0), none, none, some (.aload 0, 1, 0), some (.iconst (64), 2, 0), none, some (.iload 2, 1, 0), some (.iadd, 1, 0), some (.invokeinterface 12162 2, 3, 1238), none]
noncomputable def pm_c165_3 : List (Option pm_I) := [none, some (.aload 0, 1, 0), some (.aload 0, 1, 0), some (.getfield 796, 3, 963), none, none, some (.iconst (10), 2, 0), none, some (.iload 1, 1, 0), some (.imul, 1, 0), some (.iconst (5), 1, 0), some (.iadd, 1, 0), some (.iaload, 1, 0), some (.invokeinterface 12163 2, 3, 1242), none, none, some (.goto 356, 3, 0), none, none, some (.iload 5, 2, 0), none, some (.ifCond .ne 187, 3, 0), none, none, some (.iload 6, 2, 0), none, some (.iload 4, 2, 0), none, some (.if_icmp .ne 187, 3, 0), none, none, some (.iload 3, 1, 0), some (.iload 4, 2, 0), none, some (.isub, 1, 0), some (.iconst (1), 1, 0), some (.if_icmp .lt 187, 3, 0), none, none, some (.iload 3, 1, 0)]
noncomputable def pm_c165_4 : List (Option pm_I) := [some (.iload 4, 2, 0), none, some (.isub, 1, 0), some (.iconst (3), 1, 0), some (.if_icmp .gt 187, 3, 0), none, none, some (.aload 0, 1, 0), some (.iconst (251), 3, 0), none, none, some (.iload 3, 1, 0), some (.iload 4, 2, 0), none, some (.isub, 1, 0), some (.isub, 1, 0), some (.invokeinterface 12162 2, 3, 1238), none, none, some (.aload 0, 1, 0), some (.iload 2, 1, 0), some (.invokeinterface 12162 2, 3, 1238), none, none, some (.goto 356, 3, 0), none, none, some (.iload 5, 2, 0), none, some (.ifCond .ne 266, 3, 0), none, none, some (.iload 6, 2, 0), none, some (.iload 3, 1, 0), some (.if_icmp .ne 266, 3, 0), none, none, some (.iload 4, 2, 0), none]
noncomputable def pm_c165_5 : List (Option pm_I) := [some (.iload 3, 1, 0), some (.isub, 1, 0), some (.iconst (1), 1, 0), some (.if_icmp .lt 266, 3, 0), none, none, some (.iload 4, 2, 0), none, some (.iload 3, 1, 0), some (.isub, 1, 0), some (.iconst (3), 1, 0), some (.if_icmp .gt 266, 3, 0), none, none, some (.aload 0, 1, 0), some (.iconst (251), 3, 0), none, none, some (.iload 4, 2, 0), none, some (.iadd, 1, 0), some (.iload 3, 1, 0), some (.isub, 1, 0), some (.invokeinterface 12162 2, 3, 1238), none, none, some (.aload 0, 1, 0), some (.iload 2, 1, 0), some (.invokeinterface 12162 2, 3, 1238), none, none, some (.iload 3, 1, 0), some (.istore 8, 2, 0), none, some (.iload 8, 2, 0), none, some (.iload 4, 2, 0), none, some (.if_icmp .ge 263, 3, 0), none]
noncomputable def pm_c165_6 : List (Option pm_I) := [none, some (.aload 0, 1, 0), some (.aload 0, 1, 0), some (.getfield 796, 3, 963), none, none, some (.iconst (10), 2, 0), none, some (.iload 1, 1, 0), some (.imul, 1, 0), some (.iload 8, 2, 0), none, some (.iadd, 1, 0), some (.iaload, 1, 0), some (.invokeinterface 12163 2, 3, 1242), none, none, some (.iinc 8 1, 3, 0), none, none, some (.goto 234, 3, 0), none, none, some (.goto 356, 3, 0), none, none, some (.aload 0, 1, 0), some (.iconst (255), 3, 0), none, none, some (.invokeinterface 12162 2, 3, 1238), none, none, some (.aload 0, 1, 0), some (.iload 2, 1, 0), some (.invokeinterface 12162 2, 3, 1238), none, none, some (.aload 0, 1, 0), some (.iload 4, 2, 0)]
noncomputable def pm_c165_7 : List (Option pm_I) := [none, some (.invokeinterface 12162 2, 3, 1238), none, none, some (.iconst (0), 1, 0), some (.istore 8, 2, 0), none, some (.iload 8, 2, 0), none, some (.iload 4, 2, 0), none, some (.if_icmp .ge 316, 3, 0), none, none, some (.aload 0, 1, 0), some (.aload 0, 1, 0), some (.getfield 796, 3, 963), none, none, some (.iconst (10), 2, 0), none, some (.iload 1, 1, 0), some (.imul, 1, 0), some (.iload 8, 2, 0), none, some (.iadd, 1, 0), some (.iaload, 1, 0), some (.invokeinterface 12163 2, 3, 1242), none, none, some (.iinc 8 1, 3, 0), none, none, some (.goto 287, 3, 0), none, none, some (.aload 0, 1, 0), some (.iload 5, 2, 0), none, some (.invokeinterface 12162 2, 3, 1238)]
noncomputable def pm_c165_8 : List (Option pm_I) := [none, none, some (.iconst (0), 1, 0), some (.istore 8, 2, 0), none, some (.iload 8, 2, 0), none, some (.iload 5, 2, 0), none, some (.if_icmp .ge 356, 3, 0), none, none, some (.aload 0, 1, 0), some (.aload 0, 1, 0), some (.getfield 796, 3, 963), none, none, some (.iconst (10), 2, 0), none, some (.iload 1, 1, 0), some (.imul, 1, 0), some (.iconst (5), 1, 0), some (.iadd, 1, 0), some (.iload 8, 2, 0), none, some (.iadd, 1, 0), some (.iaload, 1, 0), some (.invokeinterface 12163 2, 3, 1242), none, none, some (.iinc 8 1, 3, 0), none, none, some (.goto 325, 3, 0), none, none, some (.return_, 1, 0)]
/-- FrameTyperModel.packFrame(III)V -/
noncomputable def pm_c165 : List (Option pm_I) := List.append pm_c165_0 (List.append pm_c165_1 (List.append pm_c165_2 (List.append pm_c165_3 (List.append pm_c165_4 (List.append pm_c165_5 (List.append pm_c165_6 (List.append pm_c165_7 pm_c165_8)))))))
noncomputable def pm_c166_0 : List (Option pm_I) := [some (.aload 0, 1, 0), some (.iconst (0), 1, 0), some (.putfield 768, 3, 935), none, none, some (.aload 0, 1, 0), some (.invokeinterface 12161 1, 3, 1210), none, none, some (.istore 1, 1, 0), some (.iload 1, 1, 0), some (.ifCond .le 17, 3, 0), none, none, some (.iload 1, 1, 0), some (.ineg, 1, 0), some (.ireturn, 1, 0), some (.aload 0, 1, 0), some (.iconst (1), 1, 0), some (.putfield 798, 3, 965), none, none, some (.iconst (0), 1, 0), some (.istore 2, 1, 0), some (.aload 0, 1, 0), some (.getfield 776, 3, 943), none, none, some (.istore 3, 1, 0), some (.iconst (0), 1, 0), some (.istore 4, 2, 0), none, some (.iload 4, 2, 0), none, some (.aload 0, 1, 0), some (.getfield 776, 3, 943), none, none, some (.if_icmp .ge 61, 3, 0), none]
noncomputable def pm_c166_1 : List (Option pm_I) := [none, some (.aload 0, 1, 0), some (.getfield 799, 3, 966), none, none, some (.iload 4, 2, 0), none, some (.aload 0, 1, 0), some (.getfield 775, 3, 942), none, none, some (.iload 4, 2, 0), none, some (.iaload, 1, 0), some (.iastore, 1, 0), some (.iinc 4 1, 3, 0), none, none, some (.goto 32, 3, 0), none, none, some (.iconst (-1), 1, 0), some (.istore 4, 2, 0), none, some (.iconst (0), 1, 0), some (.istore 5, 2, 0), none, some (.iload 5, 2, 0), none, some (.aload 0, 1, 0), some (.getfield 779, 3, 946), none, none, some (.if_icmp .ge 155, 3, 0), none, none, some (.aload 0, 1, 0), some (.getfield 795, 3, 962), none, none]
noncomputable def pm_c166_2 : List (Option pm_I) := [some (.iload 5, 2, 0), none, some (.baload, 1, 0), some (.ifCond .eq 149, 3, 0), none, none, some (.aload 0, 1, 0), some (.iload 5, 2, 0), none, some (.iload 5, 2, 0), none, some (.iload 4, 2, 0), none, some (.isub, 1, 0), some (.iconst (1), 1, 0), some (.isub, 1, 0), some (.iload 3, 1, 0), some (.invokeinterface 12165 4, 3, 1230), none, none, some (.aload 0, 1, 0), some (.iload 5, 2, 0), none, some (.invokeinterface 12164 2, 3, 1234), none, none, some (.istore 3, 1, 0), some (.iconst (0), 1, 0), some (.istore 6, 2, 0), none, some (.iload 6, 2, 0), none, some (.iload 3, 1, 0), some (.if_icmp .ge 142, 3, 0), none, none, some (.aload 0, 1, 0), some (.getfield 799, 3, 966), none, none]
noncomputable def pm_c166_3 : List (Option pm_I) := [some (.iload 6, 2, 0), none, some (.aload 0, 1, 0), some (.getfield 796, 3, 963), none, none, some (.iconst (10), 2, 0), none, some (.iload 5, 2, 0), none, some (.imul, 1, 0), some (.iload 6, 2, 0), none, some (.iadd, 1, 0), some (.iaload, 1, 0), some (.iastore, 1, 0), some (.iinc 6 1, 3, 0), none, none, some (.goto 110, 3, 0), none, none, some (.iload 5, 2, 0), none, some (.istore 4, 2, 0), none, some (.iinc 2 1, 3, 0), none, none, some (.iinc 5 1, 3, 0), none, none, some (.goto 67, 3, 0), none, none, some (.aload 0, 1, 0), some (.getfield 797, 3, 964), none, none, some (.iconst (0), 1, 0)]
noncomputable def pm_c166_4 : List (Option pm_I) := [some (.iload 2, 1, 0), some (.iastore, 1, 0), some (.aload 0, 1, 0), some (.aload 0, 1, 0), some (.getfield 798, 3, 965), none, none, some (.iconst (120), 2, 0), none, some (.if_icmp .le 176, 3, 0), none, none, some (.iconst (1), 1, 0), some (.goto 177, 3, 0), none, none, some (.iconst (0), 1, 0), some (.putfield 768, 3, 935), none, none, some (.aload 0, 1, 0), some (.getfield 768, 3, 935), none, none, some (.ifCond .le 189, 3, 0), none, none, some (.iconst (0), 1, 0), some (.ireturn, 1, 0), some (.iconst (0), 1, 0), some (.istore 5, 2, 0), none, some (.iload 5, 2, 0), none, some (.aload 0, 1, 0), some (.getfield 798, 3, 965), none, none, some (.if_icmp .ge 221, 3, 0), none]
noncomputable def pm_c166_5 : List (Option pm_I) := [none, some (.aload 0, 1, 0), some (.getfield 780, 3, 947), none, none, some (.iload 5, 2, 0), none, some (.aload 0, 1, 0), some (.getfield 797, 3, 964), none, none, some (.iload 5, 2, 0), none, some (.iaload, 1, 0), some (.iastore, 1, 0), some (.iinc 5 1, 3, 0), none, none, some (.goto 192, 3, 0), none, none, some (.aload 0, 1, 0), some (.aload 0, 1, 0), some (.getfield 798, 3, 965), none, none, some (.putfield 781, 3, 948), none, none, some (.aload 0, 1, 0), some (.getfield 781, 3, 948), none, none, some (.ireturn, 1, 0)]
/-- FrameTyperModel.make()I -/
noncomputable def pm_c166 : List (Option pm_I) := List.append pm_c166_0 (List.append pm_c166_1 (List.append pm_c166_2 (List.append pm_c166_3 (List.append pm_c166_4 pm_c166_5))))
noncomputable def pm_c167_0 : List (Option pm_I) := [some (.iconst (0), 1, 0), some (.istore 2, 1, 0), some (.aload 0, 1, 0), some (.arraylength, 1, 0), some (.istore 3, 1, 0), some (.iload 2, 1, 0), some (.iload 3, 1, 0), some (.if_icmp .ge 20, 3, 0), none, none, some (.aload 0, 1, 0), some (.iload 2, 1, 0), some (.iload 1, 1, 0), some (.iastore, 1, 0), some (.iinc 2 1, 3, 0), none, none, some (.goto 5, 3, 0), none, none, some (.return_, 1, 0)]
/-- java/util/Arrays.fill([II)V -/
noncomputable def pm_c167 : List (Option pm_I) := pm_c167_0
noncomputable def pm_c168_0 : List (Option pm_I) := [some (.new 11, 3, 92), none, none, some (.dup, 1, 0), some (.invokeinterface 11098 1, 3, 94), none, none, some (.astore 1, 1, 0), some (.new 12, 3, 929), none, none, some (.dup, 1, 0), some (.invokeinterface 12111 1, 3, 931), none, none, some (.astore 2, 1, 0), some (.iconst (1), 1, 0), some (.newarray .long, 2, 0), none, some (.astore 3, 1, 0), some (.iconst (0), 1, 0), some (.istore 4, 2, 0), none, some (.iload 4, 2, 0), none, some (.aload 0, 1, 0), some (.arraylength, 1, 0), some (.iconst (6), 2, 0), none, some (.isub, 1, 0), some (.if_icmp .gt 718, 3, 0), none, none, some (.aload 0, 1, 0), some (.iload 4, 2, 0), none, some (.iaload, 1, 0), some (.iconst (15), 2, 0), none, some (.iand, 1, 0)]
noncomputable def pm_c168_1 : List (Option pm_I) := [some (.tableswitch 712 (0) (11) #[104, 141, 190, 263, 336, 405, 418, 487, 512, 556, 624, 668], 64, 0), none, none, none, none, none, none, none, none, none, none, none, none, none, none, none, none, none, none, none, none, none, none, none, none, none, none, none, none, none, none, none, none, none, none, none, none, none, none, none]
noncomputable def pm_c168_2 : List (Option pm_I) := [none, none, none, none, none, none, none, none, none, none, none, none, none, none, none, none, none, none, none, none, none, none, none, none, some (.aload 1, 1, 0), some (.aload 0, 1, 0), some (.iload 4, 2, 0), none, some (.iconst (1), 1, 0), some (.iadd, 1, 0), some (.iaload, 1, 0), some (.aload 0, 1, 0), some (.iload 4, 2, 0), none, some (.iconst (2), 1, 0), some (.iadd, 1, 0), some (.iaload, 1, 0), some (.invokeinterface 11099 3, 3, 388), none, none]
noncomputable def pm_c168_3 : List (Option pm_I) := [some (.aload 2, 1, 0), some (.aload 0, 1, 0), some (.iload 4, 2, 0), none, some (.iconst (1), 1, 0), some (.iadd, 1, 0), some (.iaload, 1, 0), some (.aload 0, 1, 0), some (.iload 4, 2, 0), none, some (.iconst (2), 1, 0), some (.iadd, 1, 0), some (.iaload, 1, 0), some (.invokeinterface 12119 3, 3, 1036), none, none, some (.if_icmp .eq 712, 3, 0), none, none, some (.iconst (0), 1, 0), some (.freturn, 1, 0), some (.aload 1, 1, 0), some (.aload 0, 1, 0), some (.iload 4, 2, 0), none, some (.iconst (1), 1, 0), some (.iadd, 1, 0), some (.iaload, 1, 0), some (.aload 0, 1, 0), some (.iload 4, 2, 0), none, some (.iconst (2), 1, 0), some (.iadd, 1, 0), some (.iaload, 1, 0), some (.aload 0, 1, 0), some (.iload 4, 2, 0), none, some (.iconst (3), 1, 0), some (.iadd, 1, 0), some (.iaload, 1, 0)]
noncomputable def pm_c168_4 : List (Option pm_I) := [some (.invokeinterface 11100 4, 3, 396), none, none, some (.aload 2, 1, 0), some (.aload 0, 1, 0), some (.iload 4, 2, 0), none, some (.iconst (1), 1, 0), some (.iadd, 1, 0), some (.iaload, 1, 0), some (.aload 0, 1, 0), some (.iload 4, 2, 0), none, some (.iconst (2), 1, 0), some (.iadd, 1, 0), some (.iaload, 1, 0), some (.aload 0, 1, 0), some (.iload 4, 2, 0), none, some (.iconst (3), 1, 0), some (.iadd, 1, 0), some (.iaload, 1, 0), some (.invokeinterface 12120 4, 3, 1040), none, none, some (.if_icmp .eq 712, 3, 0), none, none, some (.iconst (0), 1, 0), some (.freturn, 1, 0), some (.aload 1, 1, 0), some (.aload 0, 1, 0), some (.iload 4, 2, 0), none, some (.iconst (1), 1, 0), some (.iadd, 1, 0), some (.iaload, 1, 0), some (.aload 0, 1, 0), some (.iload 4, 2, 0), none]
noncomputable def pm_c168_5 : List (Option pm_I) := [some (.iconst (2), 1, 0), some (.iadd, 1, 0), some (.iaload, 1, 0), some (.aload 0, 1, 0), some (.iload 4, 2, 0), none, some (.iconst (3), 1, 0), some (.iadd, 1, 0), some (.iaload, 1, 0), some (.aload 0, 1, 0), some (.iload 4, 2, 0), none, some (.iconst (4), 1, 0), some (.iadd, 1, 0), some (.iaload, 1, 0), some (.aload 0, 1, 0), some (.iload 4, 2, 0), none, some (.iconst (5), 1, 0), some (.iadd, 1, 0), some (.iaload, 1, 0), some (.invokeinterface 11101 6, 3, 413), none, none, some (.aload 2, 1, 0), some (.aload 0, 1, 0), some (.iload 4, 2, 0), none, some (.iconst (1), 1, 0), some (.iadd, 1, 0), some (.iaload, 1, 0), some (.aload 0, 1, 0), some (.iload 4, 2, 0), none, some (.iconst (2), 1, 0), some (.iadd, 1, 0), some (.iaload, 1, 0), some (.aload 0, 1, 0), some (.iload 4, 2, 0), none]
noncomputable def pm_c168_6 : List (Option pm_I) := [some (.iconst (3), 1, 0), some (.iadd, 1, 0), some (.iaload, 1, 0), some (.aload 0, 1, 0), some (.iload 4, 2, 0), none, some (.iconst (4), 1, 0), some (.iadd, 1, 0), some (.iaload, 1, 0), some (.aload 0, 1, 0), some (.iload 4, 2, 0), none, some (.iconst (5), 1, 0), some (.iadd, 1, 0), some (.iaload, 1, 0), some (.invokeinterface 12122 6, 3, 1050), none, none, some (.if_icmp .eq 712, 3, 0), none, none, some (.iconst (0), 1, 0), some (.freturn, 1, 0), some (.aload 1, 1, 0), some (.aload 0, 1, 0), some (.iload 4, 2, 0), none, some (.iconst (1), 1, 0), some (.iadd, 1, 0), some (.iaload, 1, 0), some (.aload 0, 1, 0), some (.iload 4, 2, 0), none, some (.iconst (2), 1, 0), some (.iadd, 1, 0), some (.iaload, 1, 0), some (.aload 0, 1, 0), some (.iload 4, 2, 0), none, some (.iconst (3), 1, 0)]
noncomputable def pm_c168_7 : List (Option pm_I) := [some (.iadd, 1, 0), some (.iaload, 1, 0), some (.aload 0, 1, 0), some (.iload 4, 2, 0), none, some (.iconst (4), 1, 0), some (.iadd, 1, 0), some (.iaload, 1, 0), some (.aload 0, 1, 0), some (.iload 4, 2, 0), none, some (.iconst (5), 1, 0), some (.iadd, 1, 0), some (.iaload, 1, 0), some (.invokeinterface 11102 6, 3, 425), none, none, some (.aload 2, 1, 0), some (.aload 0, 1, 0), some (.iload 4, 2, 0), none, some (.iconst (1), 1, 0), some (.iadd, 1, 0), some (.iaload, 1, 0), some (.aload 0, 1, 0), some (.iload 4, 2, 0), none, some (.iconst (2), 1, 0), some (.iadd, 1, 0), some (.iaload, 1, 0), some (.aload 0, 1, 0), some (.iload 4, 2, 0), none, some (.iconst (3), 1, 0), some (.iadd, 1, 0), some (.iaload, 1, 0), some (.aload 0, 1, 0), some (.iload 4, 2, 0), none, some (.iconst (4), 1, 0)]
noncomputable def pm_c168_8 : List (Option pm_I) := [some (.iadd, 1, 0), some (.iaload, 1, 0), some (.aload 0, 1, 0), some (.iload 4, 2, 0), none, some (.iconst (5), 1, 0), some (.iadd, 1, 0), some (.iaload, 1, 0), some (.invokeinterface 12123 6, 3, 1057), none, none, some (.if_icmp .eq 712, 3, 0), none, none, some (.iconst (0), 1, 0), some (.freturn, 1, 0), some (.aload 1, 1, 0), some (.aload 0, 1, 0), some (.iload 4, 2, 0), none, some (.iconst (1), 1, 0), some (.iadd, 1, 0), some (.iaload, 1, 0), some (.i2l, 1, 0), some (.iconst (32), 2, 0), none, some (.lshl, 1, 0), some (.aload 0, 1, 0), some (.iload 4, 2, 0), none, some (.iconst (2), 1, 0), some (.iadd, 1, 0), some (.iaload, 1, 0), some (.i2l, 1, 0), some (.ldc2_w 4294967295, 3, 1246), none, none, some (.land, 1, 0), some (.lor, 1, 0), some (.aload 0, 1, 0)]
noncomputable def pm_c168_9 : List (Option pm_I) := [some (.iload 4, 2, 0), none, some (.iconst (3), 1, 0), some (.iadd, 1, 0), some (.iaload, 1, 0), some (.invokeinterface 11103 3, 3, 429), none, none, some (.aload 2, 1, 0), some (.aload 0, 1, 0), some (.iload 4, 2, 0), none, some (.iconst (1), 1, 0), some (.iadd, 1, 0), some (.iaload, 1, 0), some (.i2l, 1, 0), some (.iconst (32), 2, 0), none, some (.lshl, 1, 0), some (.aload 0, 1, 0), some (.iload 4, 2, 0), none, some (.iconst (2), 1, 0), some (.iadd, 1, 0), some (.iaload, 1, 0), some (.i2l, 1, 0), some (.ldc2_w 4294967295, 3, 1246), none, none, some (.land, 1, 0), some (.lor, 1, 0), some (.aload 0, 1, 0), some (.iload 4, 2, 0), none, some (.iconst (3), 1, 0), some (.iadd, 1, 0), some (.iaload, 1, 0), some (.invokeinterface 12124 3, 3, 1061), none, none]
noncomputable def pm_c168_10 : List (Option pm_I) := [some (.if_icmp .eq 712, 3, 0), none, none, some (.iconst (0), 1, 0), some (.freturn, 1, 0), some (.aload 1, 1, 0), some (.invokeinterface 11104 1, 3, 438), none, none, some (.aload 2, 1, 0), some (.invokeinterface 12125 1, 3, 1066), none, none, some (.if_icmp .eq 712, 3, 0), none, none, some (.iconst (0), 1, 0), some (.freturn, 1, 0), some (.aload 1, 1, 0), some (.aload 0, 1, 0), some (.iload 4, 2, 0), none, some (.iconst (1), 1, 0), some (.iadd, 1, 0), some (.iaload, 1, 0), some (.i2l, 1, 0), some (.iconst (32), 2, 0), none, some (.lshl, 1, 0), some (.aload 0, 1, 0), some (.iload 4, 2, 0), none, some (.iconst (2), 1, 0), some (.iadd, 1, 0), some (.iaload, 1, 0), some (.i2l, 1, 0), some (.ldc2_w 4294967295, 3, 1246), none, none, some (.land, 1, 0)]
noncomputable def pm_c168_11 : List (Option pm_I) := [some (.lor, 1, 0), some (.aload 0, 1, 0), some (.iload 4, 2, 0), none, some (.iconst (3), 1, 0), some (.iadd, 1, 0), some (.iaload, 1, 0), some (.invokeinterface 11105 3, 3, 446), none, none, some (.aload 2, 1, 0), some (.aload 0, 1, 0), some (.iload 4, 2, 0), none, some (.iconst (1), 1, 0), some (.iadd, 1, 0), some (.iaload, 1, 0), some (.i2l, 1, 0), some (.iconst (32), 2, 0), none, some (.lshl, 1, 0), some (.aload 0, 1, 0), some (.iload 4, 2, 0), none, some (.iconst (2), 1, 0), some (.iadd, 1, 0), some (.iaload, 1, 0), some (.i2l, 1, 0), some (.ldc2_w 4294967295, 3, 1246), none, none, some (.land, 1, 0), some (.lor, 1, 0), some (.aload 0, 1, 0), some (.iload 4, 2, 0), none, some (.iconst (3), 1, 0), some (.iadd, 1, 0), some (.iaload, 1, 0), some (.invokeinterface 12126 3, 3, 1070)]
noncomputable def pm_c168_12 : List (Option pm_I) := [none, none, some (.if_icmp .eq 712, 3, 0), none, none, some (.iconst (0), 1, 0), some (.freturn, 1, 0), some (.aload 1, 1, 0), some (.aload 0, 1, 0), some (.iload 4, 2, 0), none, some (.iconst (1), 1, 0), some (.iadd, 1, 0), some (.iaload, 1, 0), some (.invokeinterface 11106 2, 3, 450), none, none, some (.aload 2, 1, 0), some (.aload 0, 1, 0), some (.iload 4, 2, 0), none, some (.iconst (1), 1, 0), some (.iadd, 1, 0), some (.iaload, 1, 0), some (.invokeinterface 12127 2, 3, 1074), none, none, some (.if_icmp .eq 712, 3, 0), none, none, some (.iconst (0), 1, 0), some (.freturn, 1, 0), some (.aload 1, 1, 0), some (.aload 3, 1, 0), some (.multianewarray 500 2, 3, 458), none, none, some (.istore 5, 2, 0), none, some (.aload 2, 1, 0)]
noncomputable def pm_c168_13 : List (Option pm_I) := [some (.invokeinterface 12134 1, 3, 1078), none, none, some (.istore 6, 2, 0), none, some (.aload 2, 1, 0), some (.invokeinterface 12112 1, 3, 1032), none, none, some (.iload 5, 2, 0), none, some (.if_icmp .eq 536, 3, 0), none, none, some (.iconst (0), 1, 0), some (.freturn, 1, 0), some (.iload 5, 2, 0), none, some (.ifCond .ne 553, 3, 0), none, none, some (.aload 3, 1, 0), some (.iconst (0), 1, 0), some (.laload, 1, 0), some (.iload 6, 2, 0), none, some (.i2l, 1, 0), some (.lcmp, 1, 0), some (.ifCond .eq 553, 3, 0), none, none, some (.iconst (0), 1, 0), some (.freturn, 1, 0), some (.goto 712, 3, 0), none, none, some (.aload 1, 1, 0), some (.aload 0, 1, 0), some (.iload 4, 2, 0), none]
noncomputable def pm_c168_14 : List (Option pm_I) := [some (.iconst (1), 1, 0), some (.iadd, 1, 0), some (.iaload, 1, 0), some (.aload 0, 1, 0), some (.iload 4, 2, 0), none, some (.iconst (2), 1, 0), some (.iadd, 1, 0), some (.iaload, 1, 0), some (.aload 3, 1, 0), some (.multianewarray 501 4, 3, 583), none, none, some (.istore 5, 2, 0), none, some (.aload 2, 1, 0), some (.aload 0, 1, 0), some (.iload 4, 2, 0), none, some (.iconst (1), 1, 0), some (.iadd, 1, 0), some (.iaload, 1, 0), some (.aload 0, 1, 0), some (.iload 4, 2, 0), none, some (.iconst (2), 1, 0), some (.iadd, 1, 0), some (.iaload, 1, 0), some (.invokeinterface 12135 3, 3, 1106), none, none, some (.istore 6, 2, 0), none, some (.aload 2, 1, 0), some (.invokeinterface 12112 1, 3, 1032), none, none, some (.iload 5, 2, 0), none, some (.if_icmp .eq 604, 3, 0)]
noncomputable def pm_c168_15 : List (Option pm_I) := [none, none, some (.iconst (0), 1, 0), some (.freturn, 1, 0), some (.iload 5, 2, 0), none, some (.ifCond .ne 621, 3, 0), none, none, some (.aload 3, 1, 0), some (.iconst (0), 1, 0), some (.laload, 1, 0), some (.iload 6, 2, 0), none, some (.i2l, 1, 0), some (.lcmp, 1, 0), some (.ifCond .eq 621, 3, 0), none, none, some (.iconst (0), 1, 0), some (.freturn, 1, 0), some (.goto 712, 3, 0), none, none, some (.aload 1, 1, 0), some (.aload 3, 1, 0), some (.multianewarray 502 2, 3, 606), none, none, some (.istore 5, 2, 0), none, some (.aload 2, 1, 0), some (.invokeinterface 12157 1, 3, 1110), none, none, some (.istore 6, 2, 0), none, some (.aload 2, 1, 0), some (.invokeinterface 12112 1, 3, 1032), none]
noncomputable def pm_c168_16 : List (Option pm_I) := [none, some (.iload 5, 2, 0), none, some (.if_icmp .eq 648, 3, 0), none, none, some (.iconst (0), 1, 0), some (.freturn, 1, 0), some (.iload 5, 2, 0), none, some (.ifCond .ne 665, 3, 0), none, none, some (.aload 3, 1, 0), some (.iconst (0), 1, 0), some (.laload, 1, 0), some (.iload 6, 2, 0), none, some (.i2l, 1, 0), some (.lcmp, 1, 0), some (.ifCond .eq 665, 3, 0), none, none, some (.iconst (0), 1, 0), some (.freturn, 1, 0), some (.goto 712, 3, 0), none, none, some (.aload 1, 1, 0), some (.aload 3, 1, 0), some (.multianewarray 503 2, 3, 794), none, none, some (.istore 5, 2, 0), none, some (.aload 2, 1, 0), some (.invokeinterface 12166 1, 3, 1206), none, none, some (.istore 6, 2, 0)]
noncomputable def pm_c168_17 : List (Option pm_I) := [none, some (.aload 2, 1, 0), some (.invokeinterface 12112 1, 3, 1032), none, none, some (.iload 5, 2, 0), none, some (.if_icmp .eq 692, 3, 0), none, none, some (.iconst (0), 1, 0), some (.freturn, 1, 0), some (.iload 5, 2, 0), none, some (.ifCond .ne 709, 3, 0), none, none, some (.aload 3, 1, 0), some (.iconst (0), 1, 0), some (.laload, 1, 0), some (.iload 6, 2, 0), none, some (.i2l, 1, 0), some (.lcmp, 1, 0), some (.ifCond .eq 709, 3, 0), none, none, some (.iconst (0), 1, 0), some (.freturn, 1, 0), some (.goto 712, 3, 0), none, none, some (.iinc 4 6, 3, 0), none, none, some (.goto 23, 3, 0), none, none, some (.iconst (1), 1, 0), some (.freturn, 1, 0)]
/-- FrameTyperLaw.law([I)Z -/
noncomputable def pm_c168 : List (Option pm_I) := List.append pm_c168_0 (List.append pm_c168_1 (List.append pm_c168_2 (List.append pm_c168_3 (List.append pm_c168_4 (List.append pm_c168_5 (List.append pm_c168_6 (List.append pm_c168_7 (List.append pm_c168_8 (List.append pm_c168_9 (List.append pm_c168_10 (List.append pm_c168_11 (List.append pm_c168_12 (List.append pm_c168_13 (List.append pm_c168_14 (List.append pm_c168_15 (List.append pm_c168_16 pm_c168_17))))))))))))))))
noncomputable def pm_cds : List (List (Option pm_I)) := [pm_c0, pm_c1, pm_c2, pm_c3, pm_c4, pm_c5, pm_c6, pm_c7, pm_c8, pm_c9, pm_c10, pm_c11, pm_c12, pm_c13, pm_c14, pm_c15, pm_c16, pm_c17, pm_c18, pm_c19, pm_c20, pm_c21, pm_c22, pm_c23, pm_c24, pm_c25, pm_c26, pm_c27, pm_c28, pm_c29, pm_c30, pm_c31, pm_c32, pm_c33, pm_c34, pm_c35, pm_c36, pm_c37, pm_c38, pm_c39, pm_c40, pm_c41, pm_c42, pm_c43, pm_c44, pm_c45, pm_c46, pm_c47, pm_c48, pm_c49, pm_c50, pm_c51, pm_c52, pm_c53, pm_c54, pm_c55, pm_c56, pm_c57, pm_c58, pm_c59, pm_c60, pm_c61, pm_c62, pm_c63, pm_c64, pm_c65, pm_c66, pm_c67, pm_c68, pm_c69, pm_c70, pm_c71, pm_c72, pm_c73, pm_c74, pm_c75, pm_c76, pm_c77, pm_c78, pm_c79, pm_c80, pm_c81, pm_c82, pm_c83, pm_c84, pm_c85, pm_c86, pm_c87, pm_c88, pm_c89, pm_c90, pm_c91, pm_c92, pm_c93, pm_c94, pm_c95, pm_c96, pm_c97, pm_c98, pm_c99, pm_c100, pm_c101, pm_c102, pm_c103, pm_c104, pm_c105, pm_c106, pm_c107, pm_c108, pm_c109, pm_c110, pm_c111, pm_c112, pm_c113, pm_c114, pm_c115, pm_c116, pm_c117, pm_c118, pm_c119, pm_c120, pm_c121, pm_c122, pm_c123, pm_c124, pm_c125, pm_c126, pm_c127, pm_c128, pm_c129, pm_c130, pm_c131, pm_c132, pm_c133, pm_c134, pm_c135, pm_c136, pm_c137, pm_c138, pm_c139, pm_c140, pm_c141, pm_c142, pm_c143, pm_c144, pm_c145, pm_c146, pm_c147, pm_c148, pm_c149, pm_c150, pm_c151, pm_c152, pm_c153, pm_c154, pm_c155, pm_c156, pm_c157, pm_c158, pm_c159, pm_c160, pm_c161, pm_c162, pm_c163, pm_c164, pm_c165, pm_c166, pm_c167, pm_c168]
noncomputable def pm_ins (k pc : Nat) : Option pm_I := match (pm_cds.getD k [])[pc]? with
  | some (some x) => some x
  | _ => none
noncomputable def pm_ys : List (MethodName) := [yX0_init, yX0_empty, yX0_get, yX0_append, yX0_put, yX0_become, yX1_init, yX1_firstFault, yX1_faultAt, yX1_enterFrame, yX1_areNewsRight, yX1_goingFault, yX1_strayFrame, yX2_init, yX2_size, yX2_number, yX2_x, yX2_xBound, yX2_behind, yX2_isWhole, yX2_isXRight, yX2_findBegins, yX2_begins, yX2_isNewOfClass, yX2_goes, yX2_goesOn, yX2_target, yX3_init, yX3_firstFault, yX3_unmark, yX3_pack, yX3_lowestWaiting, yX3_work, yX3_comesTo, yX3_firstUnreached, yX3_markFramed, yX3_markFrom, yX4_init, yX4_set, yX5_init, yX5_enter, yX5_fromTop, yX5_push, yX5_drop, yX5_stackHas, yX5_replace, yX6_init, yX6_forgetAll, yX6_has, yX6_height, yX6_local, yX6_stacked, yX6_store, yX6_load, yX6_isFitBy, yX6_meet, yX7_init, yX7_step, yX7_want, yX7_listWanted, yX7_wantAll, yX7_wantGiven, yX7_wantedFit, yX7_localFits, yX7_isNewStacked, yX7_givenCount, yX7_changeLocals, yX7_give, yX8_init, yX8_read, yX8_tell, yX8_next, yX8_readFrame, yX8_keepLocals, yX8_addLocals, yX8_readStack, yX8_readType, yX9_init, yX9_begin, yX9_write, yX9_localCount, yX9_sharesLocals, yX9_putFull, yX9_putLocals, yX9_putType, yX9_remember, yX10_init, yX10_isClass, yX10_isObject, yX10_isNew, yX10_isReference, yX10_isKnown, yX10_isKnownOrNone, yX10_setParent, yX10_setField, yX10_sharedClass, yX10_fits, yX10_meet, yX11_init, yX11_parent, yX11_field, yX11_routine, yX11_method, yX11_code, yX11_clear, yX11_table, yX11_tableAt, yX11_frames, yX11_frame, yX11_check, yX11_make, yX12_init, yX12_thrown, yX12_isObject, yX12_isKnown, yX12_isNew, yX12_isBelow, yX12_fits, yX12_meet, yX12_parent, yX12_field, yX12_mayBe, yX12_routine, yX12_method, yX12_code, yX12_clear, yX12_table, yX12_tableAt, yX12_next, yX12_type, yX12_locals, yX12_stack, yX12_frameOf, yX12_reads, yX12_frames, yX12_frame, yX12_hasSecond, yX12_isWhole, yX12_findBegins, yX12_makes, yX12_isPlain, yX12_isSecondGood, yX12_takenBy, yX12_topmost, yX12_doTypesFit, yX12_standsOnStack, yX12_doesRoutineFit, yX12_givenBy, yX12_give, yX12_become, yX12_work, yX12_step, yX12_begin, yX12_frameAt, yX12_fitsFrame, yX12_isFrameGood, yX12_look, yX12_check, yX12_comes, yX12_lowest, yX12_workOn, yX12_findStates, yX12_pack, yX12_packType, yX12_manyAt, yX12_packFrame, yX12_make, yJ7_fill_53178, yL_law]
noncomputable def pm_y (k : Nat) : MethodName := pm_ys.getD k objectInit
noncomputable def pm_bs : List (ByteArray) := [cX0_init, cX0_empty, cX0_get, cX0_append, cX0_put, cX0_become, cX1_init, cX1_firstFault, cX1_faultAt, cX1_enterFrame, cX1_areNewsRight, cX1_goingFault, cX1_strayFrame, cX2_init, cX2_size, cX2_number, cX2_x, cX2_xBound, cX2_behind, cX2_isWhole, cX2_isXRight, cX2_findBegins, cX2_begins, cX2_isNewOfClass, cX2_goes, cX2_goesOn, cX2_target, cX3_init, cX3_firstFault, cX3_unmark, cX3_pack, cX3_lowestWaiting, cX3_work, cX3_comesTo, cX3_firstUnreached, cX3_markFramed, cX3_markFrom, cX4_init, cX4_set, cX5_init, cX5_enter, cX5_fromTop, cX5_push, cX5_drop, cX5_stackHas, cX5_replace, cX6_init, cX6_forgetAll, cX6_has, cX6_height, cX6_local, cX6_stacked, cX6_store, cX6_load, cX6_isFitBy, cX6_meet, cX7_init, cX7_step, cX7_want, cX7_listWanted, cX7_wantAll, cX7_wantGiven, cX7_wantedFit, cX7_localFits, cX7_isNewStacked, cX7_givenCount, cX7_changeLocals, cX7_give, cX8_init, cX8_read, cX8_tell, cX8_next, cX8_readFrame, cX8_keepLocals, cX8_addLocals, cX8_readStack, cX8_readType, cX9_init, cX9_begin, cX9_write, cX9_localCount, cX9_sharesLocals, cX9_putFull, cX9_putLocals, cX9_putType, cX9_remember, cX10_init, cX10_isClass, cX10_isObject, cX10_isNew, cX10_isReference, cX10_isKnown, cX10_isKnownOrNone, cX10_setParent, cX10_setField, cX10_sharedClass, cX10_fits, cX10_meet, cX11_init, cX11_parent, cX11_field, cX11_routine, cX11_method, cX11_code, cX11_clear, cX11_table, cX11_tableAt, cX11_frames, cX11_frame, cX11_check, cX11_make, cX12_init, cX12_thrown, cX12_isObject, cX12_isKnown, cX12_isNew, cX12_isBelow, cX12_fits, cX12_meet, cX12_parent, cX12_field, cX12_mayBe, cX12_routine, cX12_method, cX12_code, cX12_clear, cX12_table, cX12_tableAt, cX12_next, cX12_type, cX12_locals, cX12_stack, cX12_frameOf, cX12_reads, cX12_frames, cX12_frame, cX12_hasSecond, cX12_isWhole, cX12_findBegins, cX12_makes, cX12_isPlain, cX12_isSecondGood, cX12_takenBy, cX12_topmost, cX12_doTypesFit, cX12_standsOnStack, cX12_doesRoutineFit, cX12_givenBy, cX12_give, cX12_become, cX12_work, cX12_step, cX12_begin, cX12_frameAt, cX12_fitsFrame, cX12_isFrameGood, cX12_look, cX12_check, cX12_comes, cX12_lowest, cX12_workOn, cX12_findStates, cX12_pack, cX12_packType, cX12_manyAt, cX12_packFrame, cX12_make, cJ7_fill_53178, cL_law]
noncomputable def pm_b (k : Nat) : ByteArray := pm_bs.getD k ByteArray.empty
noncomputable def pm_mLs : List (Nat) := [2, 1, 2, 5, 2, 3, 5, 4, 4, 3, 4, 2, 2, 1, 1, 2, 2, 3, 2, 3, 2, 3, 2, 2, 3, 3, 2, 4, 4, 2, 2, 2, 6, 3, 2, 3, 2, 1, 6, 1, 2, 2, 2, 2, 3, 4, 2, 1, 2, 2, 3, 3, 3, 3, 4, 7, 3, 6, 2, 3, 3, 2, 5, 3, 3, 3, 3, 5, 3, 4, 6, 2, 5, 3, 3, 3, 4, 1, 3, 8, 4, 5, 6, 6, 2, 5, 2, 1, 1, 1, 1, 1, 1, 3, 4, 4, 3, 3, 2, 3, 4, 6, 6, 4, 2, 4, 2, 1, 3, 1, 3, 2, 1, 1, 1, 1, 4, 3, 4, 3, 4, 2, 6, 6, 5, 2, 5, 2, 1, 3, 5, 4, 7, 3, 1, 3, 1, 2, 3, 2, 1, 2, 3, 2, 4, 4, 4, 3, 2, 4, 6, 4, 2, 3, 4, 6, 5, 4, 4, 2, 4, 5, 2, 2, 3, 9, 7, 4, 7]
noncomputable def pm_mL (k : Nat) : Nat := pm_mLs.getD k 0
noncomputable def pm_rts : List (Option FieldType) := [none, none, some .int, some .int, none, none, none, some .int, some .int, some .int, some .boolean, some .int, some .int, none, some .int, some .int, some .int, some .int, some .int, some .boolean, some .boolean, none, some .boolean, some .boolean, some .boolean, some .boolean, some .int, none, some .int, none, some (.object "FrameTyper$Bytes"), some .int, some .int, some .boolean, some .int, some .int, none, none, some .boolean, none, none, some .int, none, none, some .boolean, none, none, none, some .boolean, some .int, some .int, some .int, none, none, some .boolean, some .boolean, none, some .int, none, none, none, none, some .boolean, some .boolean, some .boolean, some .int, none, none, none, some .boolean, some .int, some .int, some .int, none, none, none, some .int, none, none, none, some .int, some .boolean, none, none, none, none, none, some .boolean, some .boolean, some .boolean, some .boolean, some .boolean, some .boolean, some .boolean, some .boolean, some .int, some .boolean, some .int, none, some .boolean, some .boolean, some .boolean, some .boolean, some .int, some .int, some .int, some .int, some .int, some .int, some .int, some .int, none, some .int, some .boolean, some .boolean, some .boolean, some .boolean, some .boolean, some .int, some .boolean, some .boolean, some .boolean, some .boolean, some .boolean, some .int, some .int, some .int, some .int, some .int, some .int, none, none, none, some .boolean, some .int, some .int, some .boolean, some .boolean, none, some .boolean, some .boolean, some .boolean, some .int, some .int, some .boolean, some .boolean, some .boolean, some .int, none, none, none, none, none, some .int, some .boolean, some .boolean, none, some .int, some .boolean, some .int, some .int, some .int, none, none, some .int, none, some .int, none, some .boolean]
noncomputable def pm_rt (k : Nat) : Option FieldType := pm_rts.getD k none
noncomputable def pm_rfs : List (Nat) := [1, 0, 0, 1, 0, 1, 1, 5, 4, 3, 2, 3, 1, 2, 0, 1, 1, 1, 2, 3, 2, 4, 0, 1, 2, 2, 2, 3, 5, 0, 5, 0, 4, 3, 1, 4, 3, 1, 3, 1, 1, 0, 0, 1, 0, 0, 1, 1, 0, 0, 0, 0, 1, 1, 2, 2, 2, 3, 0, 2, 1, 1, 2, 2, 1, 0, 2, 2, 2, 5, 1, 1, 4, 0, 3, 3, 2, 2, 1, 4, 1, 1, 3, 2, 1, 1, 2, 0, 0, 0, 1, 1, 2, 0, 2, 0, 1, 1, 4, 1, 3, 4, 4, 2, 1, 2, 1, 7, 7, 7, 7, 1, 0, 0, 1, 0, 0, 1, 1, 0, 2, 2, 3, 3, 0, 0, 0, 0, 0, 1, 2, 2, 3, 4, 5, 5, 0, 1, 2, 2, 1, 0, 0, 0, 3, 0, 2, 0, 0, 0, 1, 4, 0, 0, 2, 3, 5, 6, 2, 0, 5, 6, 0, 1, 0, 2, 7, 0, 9]
noncomputable def pm_rf (k : Nat) : Nat := pm_rfs.getD k 0
noncomputable def pm_rls : List (Nat) := [20, 0, 0, 21, 0, 21, 20, 117, 94, 68, 42, 68, 21, 41, 0, 21, 21, 21, 43, 64, 43, 86, 0, 21, 42, 42, 42, 61, 119, 0, 119, 0, 94, 71, 21, 85, 64, 20, 60, 20, 26, 0, 0, 21, 0, 0, 23, 23, 0, 0, 0, 0, 26, 26, 45, 45, 40, 69, 0, 43, 21, 21, 45, 40, 22, 0, 42, 42, 44, 111, 22, 21, 87, 0, 65, 65, 42, 41, 26, 92, 22, 22, 67, 42, 21, 22, 40, 0, 0, 0, 20, 20, 40, 0, 40, 0, 23, 23, 84, 22, 63, 85, 85, 45, 20, 45, 21, 134, 134, 140, 142, 20, 0, 0, 20, 0, 0, 23, 23, 0, 40, 40, 61, 61, 0, 0, 0, 0, 0, 20, 42, 42, 66, 92, 114, 114, 0, 20, 41, 41, 20, 0, 0, 0, 68, 0, 45, 0, 0, 0, 23, 91, 0, 0, 45, 62, 114, 138, 46, 0, 114, 137, 0, 21, 0, 42, 161, 0, 187]
noncomputable def pm_rl (k : Nat) : Nat := pm_rls.getD k 0
noncomputable def pm_mis : List (Nat × Nat × Nat × Nat × Nat × Nat × Nat) := [(2, 1, 0, 170, 169, 0, 76), (0, 0, 0, 445, 443, 444, 76), (0, 1, 0, 457, 455, 456, 76), (0, 2, 0, 436, 434, 435, 76), (0, 1, 0, 196, 194, 195, 76), (0, 1, 0, 926, 924, 925, 76), (2, 4, 1, 302, 301, 0, 81), (0, 0, 1, 616, 614, 615, 81), (0, 2, 1, 653, 652, 8, 81), (0, 2, 1, 662, 661, 9, 81), (0, 1, 1, 682, 681, 10, 81), (0, 1, 1, 785, 784, 21, 81), (0, 0, 1, 793, 792, 22, 81), (2, 0, 2, 164, 163, 0, 75), (0, 0, 2, 624, 622, 623, 75), (0, 1, 2, 632, 630, 631, 75), (0, 1, 2, 700, 698, 699, 75), (0, 1, 2, 641, 640, 7, 75), (0, 1, 2, 637, 635, 636, 75), (0, 1, 2, 628, 626, 627, 75), (0, 1, 2, 704, 702, 703, 75), (0, 0, 2, 620, 618, 619, 75), (0, 1, 2, 649, 647, 648, 75), (0, 1, 2, 689, 687, 688, 75), (0, 1, 2, 777, 775, 776, 75), (0, 1, 2, 789, 787, 788, 75), (0, 1, 2, 781, 779, 780, 75), (2, 3, 3, 321, 320, 0, 82), (0, 0, 3, 805, 803, 804, 82), (1, 1, 3, 810, 809, 0, 82), (0, 0, 3, 852, 850, 851, 82), (0, 0, 3, 831, 830, 24, 82), (0, 1, 3, 835, 834, 25, 82), (0, 1, 3, 815, 814, 23, 82), (0, 0, 3, 847, 846, 26, 82), (0, 0, 3, 856, 855, 27, 82), (0, 1, 3, 860, 859, 28, 82), (2, 0, 4, 111, 110, 0, 73), (0, 5, 4, 420, 418, 419, 73), (2, 0, 5, 207, 206, 0, 78), (0, 1, 5, 477, 475, 476, 78), (0, 1, 5, 729, 727, 728, 78), (0, 1, 5, 502, 500, 501, 78), (0, 1, 5, 757, 755, 756, 78), (0, 1, 5, 747, 745, 746, 78), (0, 2, 5, 768, 766, 767, 78), (2, 1, 6, 229, 228, 0, 79), (0, 0, 6, 473, 471, 472, 79), (0, 1, 6, 658, 656, 657, 79), (0, 1, 6, 601, 599, 600, 79), (0, 2, 6, 597, 595, 596, 79), (0, 2, 6, 605, 603, 604, 79), (0, 2, 6, 514, 512, 513, 79), (0, 2, 6, 678, 676, 677, 79), (0, 2, 6, 666, 664, 665, 79), (0, 2, 6, 822, 820, 821, 79), (2, 2, 7, 276, 275, 0, 80), (0, 1, 7, 695, 693, 694, 80), (0, 1, 7, 713, 712, 12, 80), (0, 2, 7, 709, 708, 11, 80), (0, 1, 7, 717, 716, 13, 80), (0, 1, 7, 721, 720, 14, 80), (0, 0, 7, 725, 724, 15, 80), (0, 2, 7, 739, 738, 16, 80), (0, 2, 7, 743, 742, 17, 80), (0, 2, 7, 751, 750, 18, 80), (0, 2, 7, 764, 763, 19, 80), (0, 3, 7, 772, 771, 20, 80), (2, 2, 8, 201, 200, 0, 77), (0, 0, 8, 469, 467, 468, 77), (0, 2, 8, 593, 591, 592, 77), (0, 0, 8, 485, 484, 0, 77), (0, 1, 8, 490, 489, 1, 77), (0, 1, 8, 506, 505, 4, 77), (0, 1, 8, 510, 509, 5, 77), (0, 1, 8, 494, 493, 2, 77), (0, 0, 8, 498, 497, 3, 77), (2, 0, 9, 327, 326, 0, 83), (0, 2, 9, 864, 862, 863, 83), (0, 2, 9, 871, 869, 870, 83), (0, 2, 9, 875, 874, 29, 83), (0, 3, 9, 884, 883, 30, 83), (0, 4, 9, 902, 901, 33, 83), (0, 4, 9, 898, 897, 32, 83), (0, 1, 9, 889, 888, 31, 83), (0, 3, 9, 906, 905, 34, 83), (2, 0, 10, 104, 103, 0, 72), (1, 1, 10, 406, 405, 0, 72), (1, 1, 10, 412, 411, 0, 72), (1, 1, 10, 685, 684, 0, 72), (1, 1, 10, 732, 731, 0, 72), (1, 1, 10, 409, 408, 0, 72), (1, 1, 10, 424, 423, 0, 72), (0, 2, 10, 395, 393, 394, 72), (0, 3, 10, 403, 401, 402, 72), (0, 2, 10, 674, 672, 673, 72), (0, 2, 10, 670, 668, 669, 72), (0, 2, 10, 826, 824, 825, 72), (2, 0, 11, 96, 95, 0, 71), (0, 2, 11, 391, 389, 390, 71), (0, 3, 11, 399, 397, 398, 71), (0, 5, 11, 416, 414, 415, 71), (0, 5, 11, 428, 426, 427, 71), (0, 2, 11, 432, 430, 431, 71), (0, 0, 11, 441, 439, 440, 71), (0, 2, 11, 449, 447, 448, 71), (0, 1, 11, 453, 451, 452, 71), (0, 0, 11, 465, 463, 464, 71), (0, 2, 11, 589, 587, 588, 71), (0, 0, 11, 612, 610, 611, 71), (0, 0, 11, 801, 799, 800, 71), (2, 0, 12, 933, 932, 0, 84), (0, 0, 12, 1035, 1033, 1034, 84), (1, 1, 12, 1049, 1048, 0, 84), (1, 1, 12, 1046, 1045, 0, 84), (1, 1, 12, 1155, 1154, 0, 84), (0, 2, 12, 1148, 1147, 48, 84), (0, 2, 12, 1144, 1143, 47, 84), (0, 2, 12, 1221, 1220, 63, 84), (0, 2, 12, 1039, 1037, 1038, 84), (0, 3, 12, 1043, 1041, 1042, 84), (1, 2, 12, 1056, 1055, 0, 84), (0, 5, 12, 1053, 1051, 1052, 84), (0, 5, 12, 1060, 1058, 1059, 84), (0, 2, 12, 1064, 1062, 1063, 84), (0, 0, 12, 1069, 1067, 1068, 84), (0, 2, 12, 1073, 1071, 1072, 84), (0, 1, 12, 1077, 1075, 1076, 84), (0, 0, 12, 1089, 1088, 36, 84), (0, 0, 12, 1101, 1100, 39, 84), (0, 3, 12, 1105, 1104, 40, 84), (0, 2, 12, 1097, 1096, 38, 84), (0, 1, 12, 1093, 1092, 37, 84), (0, 0, 12, 1085, 1084, 35, 84), (0, 0, 12, 1081, 1079, 1080, 84), (0, 2, 12, 1109, 1107, 1108, 84), (1, 1, 12, 1124, 1123, 0, 84), (0, 1, 12, 1121, 1120, 42, 84), (0, 0, 12, 1117, 1116, 41, 84), (0, 1, 12, 1159, 1158, 50, 84), (1, 1, 12, 1177, 1176, 0, 84), (1, 2, 12, 1166, 1165, 0, 84), (0, 2, 12, 1170, 1169, 52, 84), (0, 1, 12, 1181, 1180, 54, 84), (0, 3, 12, 1174, 1173, 53, 84), (0, 1, 12, 1185, 1184, 55, 84), (0, 1, 12, 1189, 1188, 56, 84), (0, 2, 12, 1193, 1192, 57, 84), (0, 1, 12, 1201, 1200, 59, 84), (0, 2, 12, 1205, 1204, 60, 84), (0, 3, 12, 1197, 1196, 58, 84), (0, 1, 12, 1163, 1162, 51, 84), (0, 0, 12, 1128, 1127, 43, 84), (0, 1, 12, 1136, 1135, 45, 84), (0, 1, 12, 1140, 1139, 46, 84), (0, 1, 12, 1152, 1151, 49, 84), (0, 2, 12, 1132, 1131, 44, 84), (0, 0, 12, 1113, 1111, 1112, 84), (0, 1, 12, 1217, 1216, 62, 84), (0, 0, 12, 1225, 1224, 64, 84), (0, 1, 12, 1229, 1228, 65, 84), (0, 0, 12, 1213, 1212, 61, 84), (0, 1, 12, 1241, 1240, 68, 84), (0, 1, 12, 1245, 1244, 69, 84), (0, 1, 12, 1237, 1236, 67, 84), (0, 3, 12, 1233, 1232, 66, 84), (0, 0, 12, 1209, 1207, 1208, 84), (1, 2, 99, 134, 133, 0, 74), (1, 1, 99, 0, 0, 0, 70)]
noncomputable def pm_mi (k : Nat) : Nat × Nat × Nat × Nat × Nat × Nat × Nat := pm_mis.getD k (9, 0, 0, 0, 0, 0, 0)
noncomputable def pm_dfs : List (List Value) := [[.null, .int 0], [.null, .null, .null, .null], [.null, .null], [.null, .null, .null, .null, .null, .null, .null], [.null, .int 0, .int 0], [.null, .int 0], [.null, .null, .null], [.null, .null, .null, .null, .int 0], [.null, .int 0, .null, .null, .null, .null, .int 0, .int 0, .int 0], [.null, .null, .int 0, .int 0], [.null, .null, .null, .null, .null], [.null, .null, .null, .null, .null, .null], [.int 0, .null, .null, .null, .null, .null, .null, .null, .int 0, .int 0, .null, .int 0, .null, .int 0, .int 0, .null, .null, .null, .int 0, .int 0, .null, .int 0, .int 0, .int 0, .null, .null, .null, .null, .null, .null, .int 0, .null]]
noncomputable def pm_cps : List (Nat × Nat) := [(167, 76), (299, 81), (161, 75), (318, 82), (108, 73), (204, 78), (226, 79), (273, 80), (198, 77), (324, 83), (101, 72), (93, 71), (930, 84)]
noncomputable def pm_fps : List (List Nat) := [[177, 179], [308, 310, 312, 314], [185, 187], [354, 356, 358, 360, 362, 364, 366], [124, 126, 128], [220, 222], [235, 237, 239], [287, 289, 291, 293, 295], [253, 255, 257, 259, 261, 263, 265, 267, 269], [336, 338, 340, 342], [149, 151, 153, 155, 157], [375, 377, 379, 381, 383, 385], [967, 969, 971, 973, 975, 977, 979, 981, 983, 985, 987, 989, 991, 993, 995, 997, 999, 1001, 1003, 1005, 1007, 1009, 1011, 1013, 1015, 1017, 1019, 1021, 1023, 1025, 1027, 1029]]
-- arrayClass int, boolean, long: 131 190 1247; arraycopy native, static, System initialized: 481 480 85; objectInit instanceMethod, code: 98 99
end
section
/-! what the pure code has to do with the bytes and the tables' words: checked by the kernel -/
def pm_wd (pos : Nat) (w : Jvm.Cond) : Bool := decide (lw_tbl[pos]? = some w)
noncomputable def pm_okf (k idx x pos : Nat) : Bool := match vwCl[x / 64]? with
  | some (_, T, N) => decide (x % 64 < N) && pm_wd pos (.fieldLink (pm_y k).cls idx (T (x % 64)).1 (T (x % 64)).2.1 (T (x % 64)).2.2.1)
  | none => false
/-- a field that may be written here: not final, or in its class's own constructor -/
noncomputable def pm_okw (k x : Nat) (f : FieldType → Bool) : Bool := match vwCl[x / 64]? with
  | some (_, T, _) => (match parseFieldDescriptor (T (x % 64)).2.2.1 with
    | some ty => f ty
    | none => false) && (decide ((T (x % 64)).2.2.2 = false) || (decide ((pm_y k).name = "<init>") && decide ((T (x % 64)).1 = (pm_y k).cls)))
  | none => false
def pm_refT : FieldType → Bool
  | .object _ => true
  | .array _ => true
  | _ => false
noncomputable def pm_okc (k idx pos k' n kind ci : Nat) : Bool := decide (k' < 168) && pm_wd pos (.methodLink (pm_y k).cls idx (pm_y k')) && decide ((pm_mi k').1 = kind) && decide ((pm_mi k').2.2.1 = ci) && decide (n = (pm_mi k').2.1 + (if kind = 1 then 0 else 1)) && decide (pm_rf k' + 1 ≤ pm_rf k) && decide (8 + (pm_mL k' + 11) + pm_rl k' ≤ pm_rl k)
def pm_plain : Instr → Bool
  | .iadd | .isub | .imul | .iand | .irem | .ineg | .i2l | .l2i | .i2b | .land | .lor | .lshl | .lshr | .lushr | .lcmp | .dup | .dup2 | .pop | .iaload | .baload | .laload | .aaload | .iastore | .bastore | .lastore | .aastore | .arraylength => true
  | _ => false
noncomputable def pm_okJ (k pc : Nat) (i pi : Instr) (len pos : Nat) : Bool := match i with
  | .getfield idx => match pi with
    | .getfield x => decide (len = 3) && pm_okf k idx x pos
    | _ => false
  | .putfield idx => match pi with
    | .putfield x => decide (len = 3) && pm_okf k idx x pos && pm_okw k x (fun t => decide (t = .int))
    | .putstatic x => decide (len = 3) && pm_okf k idx x pos && pm_okw k x (fun t => decide (t = .boolean))
    | .checkcast x => decide (len = 3) && pm_okf k idx x pos && pm_okw k x pm_refT
    | _ => false
  | .getstatic idx => match pi with
    | .getstatic a => decide (len = 3) && ((decide (a = 1001) && pm_wd pos (.fieldLink (pm_y k).cls idx RX2 "X_BOUNDS" "[I")) || (decide (a = 1002) && pm_wd pos (.fieldLink (pm_y k).cls idx RX7 "GIVEN" "[I")))
    | _ => false
  | .new idx => match pi with
    | .new ci => match vwCl[ci]? with
      | some (C, _, _) => decide (len = 3) && pm_wd pos (.classLink (pm_y k).cls idx C)
      | none => false
    | .nop => true
    | _ => false
  | .newarray t => decide (pi = .newarray t) && decide (len = 2)
  | .anewarray idx => decide (pi = .anewarray 0) && decide (len = 3) && pm_wd pos (.classLink (pm_y k).cls idx RX4)
  | .invokespecial idx => match pi with
    | .invokespecial _ => decide (len = 3) && pm_wd pos (.methodLink (pm_y k).cls idx objectInit) && decide (1 ≤ pm_rf k) && decide (20 ≤ pm_rl k)
    | .invokeinterface x n => decide (len = 3) && pm_okc k idx pos (x % 1000) n 2 (x / 1000)
    | .nop => true
    | _ => false
  | .invokevirtual idx => match pi with
    | .invokeinterface x n => decide (len = 3) && pm_okc k idx pos (x % 1000) n 0 (x / 1000)
    | _ => false
  | .invokestatic idx => match pi with
    | .multianewarray k' n => decide (len = 3) && (decide (500 ≤ k' ∧ k = 168) || pm_okc k idx pos k' n 1 (pm_mi k').2.2.1)
    | .invokedynamic _ => decide (len = 3) && pm_wd pos (.methodLink (pm_y k).cls idx arraycopyName) && decide (1 ≤ pm_rf k) && decide (26 ≤ pm_rl k)
    | .dadd => decide (len = 3) && pm_wd pos (.methodLink (pm_y k).cls idx Lib.Math.max.name) && decide (1 ≤ pm_rf k) && decide (21 ≤ pm_rl k)
    | .dsub => decide (len = 3) && pm_wd pos (.methodLink (pm_y k).cls idx Lib.Math.min.name) && decide (1 ≤ pm_rf k) && decide (21 ≤ pm_rl k)
    | .dneg => decide (len = 3) && pm_wd pos (.methodLink (pm_y k).cls idx Lib.Math.abs.name) && decide (1 ≤ pm_rf k) && decide (21 ≤ pm_rl k)
    | _ => false
  | .ireturn => ((decide (pi = .ireturn) && decide (pm_rt k = some .int)) || (decide (pi = .freturn) && decide (pm_rt k = some .boolean))) && decide (len = 1)
  | .areturn => decide (pi = .areturn) && decide (len = 1) && (match pm_rt k with
    | some (.object _) => true
    | _ => false)
  | .return_ => decide (pi = .return_) && decide (len = 1) && decide (pm_rt k = none)
  | .ldc idx => match pi with
    | .iconst v => decide (len = 2) && pm_wd pos (.constant (pm_y k).cls idx (Int32.ofInt v))
    | .nop => true
    | _ => false
  | .ldc2_w idx => match pi with
    | .ldc2_w v => decide (len = 3) && pm_wd pos (.constantLong (pm_y k).cls idx (Int64.ofNat v))
    | _ => false
  | .iconst v => decide (pi = .iconst v) && decide (len = 1)
  | .bipush v => decide (pi = .iconst v) && decide (len = 2) && decide ((Int8.ofInt v).toInt32 = Int32.ofInt v)
  | .sipush v => decide (pi = .iconst v) && decide (len = 3) && decide ((Int16.ofInt v).toInt32 = Int32.ofInt v)
  | .iload_n n => decide (pi = .iload n) && decide (len = 1)
  | .iload n => decide (pi = .iload n) && decide (len = 2)
  | .aload_n n => decide (pi = .aload n) && decide (len = 1)
  | .aload n => decide (pi = .aload n) && decide (len = 2)
  | .lload_n n => decide (pi = .lload n) && decide (len = 1)
  | .istore_n n => decide (pi = .istore n) && decide (len = 1) && decide ((n : Nat) < pm_mL k)
  | .istore n => decide (pi = .istore n) && decide (len = 2) && decide (n < pm_mL k)
  | .astore_n n => decide (pi = .astore n) && decide (len = 1) && decide ((n : Nat) < pm_mL k)
  | .astore n => decide (pi = .astore n) && decide (len = 2) && decide (n < pm_mL k)
  | .iinc n z => decide (pi = .iinc n z) && decide (len = 3) && decide (n < pm_mL k)
  | .goto o => decide (pi = .goto (pc + o)) && decide (len = 3) && decide (0 ≤ (pc : Int) + o)
  | .ifCond c o => decide (pi = .ifCond c (pc + o)) && decide (len = 3) && decide (0 ≤ (pc : Int) + o)
  | .if_icmp c o => decide (pi = .if_icmp c (pc + o)) && decide (len = 3) && decide (0 ≤ (pc : Int) + o)
  | .tableswitch d lo hi offs => decide (pi = .tableswitch (pc + d) lo hi (offs.map (fun o => (pc : Int) + o))) && decide (0 ≤ (pc : Int) + d) && offs.toList.all (fun o => decide (0 ≤ (pc : Int) + o))
  | .lookupswitch d ps => decide (pi = .lookupswitch (pc + d) (ps.map (fun q => (q.1, (pc : Int) + q.2)))) && decide (0 ≤ (pc : Int) + d) && ps.toList.all (fun q => decide (0 ≤ (pc : Int) + q.2)) && (ps.toList.zip (ps.toList.drop 1)).all (fun (a, next) => a.1 < next.1)
  | .athrow => decide (pi = .nop)
  | i => pm_plain i && decide (pi = i) && decide (len = 1)
noncomputable def pm_okI (k pc : Nat) (e : pm_I) : Bool := match decode (pm_b k) pc with
  | .ok (i, len) => decide (len = e.2.1) && pm_okJ k pc i e.1 e.2.1 e.2.2
  | _ => false
noncomputable def pm_okk (k : Nat) : Bool := (pm_cds.getD k []).zipIdx.all (fun q => match q.1 with
  | some e => pm_okI k q.2 e
  | none => true)
theorem pm_okk_spec {k pc : Nat} {e : pm_I} (h : pm_okk k = true) (hi : pm_ins k pc = some e) : pm_okI k pc e = true := by
  unfold pm_ins at hi
  split at hi
  · rename_i x hx
    cases hi
    unfold pm_okk at h
    have h1 := List.all_eq_true.mp h (some e, pc) (by
      rw [List.mem_zipIdx_iff_getElem?]
      exact hx)
    exact h1
  · cases hi
theorem pm_okr_0 : ((List.range' 0 12).all pm_okk) = true := by decide +kernel
theorem pm_okr_12 : ((List.range' 12 12).all pm_okk) = true := by decide +kernel
theorem pm_okr_24 : ((List.range' 24 12).all pm_okk) = true := by decide +kernel
theorem pm_okr_36 : ((List.range' 36 12).all pm_okk) = true := by decide +kernel
theorem pm_okr_48 : ((List.range' 48 12).all pm_okk) = true := by decide +kernel
theorem pm_okr_60 : ((List.range' 60 12).all pm_okk) = true := by decide +kernel
theorem pm_okr_72 : ((List.range' 72 12).all pm_okk) = true := by decide +kernel
theorem pm_okr_84 : ((List.range' 84 12).all pm_okk) = true := by decide +kernel
theorem pm_okr_96 : ((List.range' 96 12).all pm_okk) = true := by decide +kernel
theorem pm_okr_108 : ((List.range' 108 12).all pm_okk) = true := by decide +kernel
theorem pm_okr_120 : ((List.range' 120 12).all pm_okk) = true := by decide +kernel
theorem pm_okr_132 : ((List.range' 132 12).all pm_okk) = true := by decide +kernel
theorem pm_okr_144 : ((List.range' 144 12).all pm_okk) = true := by decide +kernel
theorem pm_okr_156 : ((List.range' 156 12).all pm_okk) = true := by decide +kernel
theorem pm_okr_168 : ((List.range' 168 1).all pm_okk) = true := by decide +kernel
end
section
def pm_tv (ad : Nat → Nat) (v : Value) : Value := match v with
  | .ref a => .ref (ad a)
  | v => v
theorem pm_tv_cat (ad : Nat → Nat) (v : Value) : (pm_tv ad v).category = v.category := by cases v <;> rfl
noncomputable def pm_ws : List Jvm.Cond := lw_tbl.filter goodWord
theorem pm_wd_in {pos : Nat} {w : Jvm.Cond} (h : pm_wd pos w = true) (hg : goodWord w = true) : w ∈ pm_ws := by
  refine List.mem_filter.mpr ⟨?_, hg⟩
  exact List.mem_of_getElem? (of_decide_eq_true h)
theorem pm_in (ws : List Jvm.Cond) (ps : List Nat) (hp : ws = ps.filterMap (fun i => lw_tbl[i]?)) (hg : ws.all goodWord = true) : ∀ w ∈ ws, w ∈ pm_ws := by
  intro w hw
  refine List.mem_filter.mpr ⟨?_, List.all_eq_true.mp hg w hw⟩
  rw [hp] at hw
  obtain ⟨i, -, hi⟩ := List.mem_filterMap.mp hw
  exact List.mem_of_getElem? hi
def pm_clsOK (ci : Nat) (C : String) (T : u_T) (N : Nat) : Prop := (∀ w ∈ u_ws C T N, w ∈ pm_ws) ∧ (∃ ty : Nat → FieldType, (∀ k, k < N → parseFieldDescriptor (T k).2.2.1 = some (ty k)) ∧ ∃ fs : List Value, pm_dfs[ci]? = some fs ∧ fs.length = N ∧ fs.map (pm_tv (fun a => a)) = fs ∧ (∀ ad, fs.map (pm_tv ad) = fs) ∧ ∀ j, j < N → defaultValue (ty j) = vp_V fs j) ∧ (∀ a, a < N → ∀ b, b < N → a ≠ b → (T a).2.1 ≠ (T b).2.1) ∧ Jvm.Cond.instantiable C N ∈ pm_ws ∧ Jvm.Cond.initialized C ∈ pm_ws
set_option maxRecDepth 100000 in
theorem pm_cl0 : pm_clsOK 0 RX0 TX0 2 := ⟨pm_in _ [177, 179] (by decide +kernel) (by decide +kernel), ⟨tyX0, tyX0_ok, _, rfl, rfl, rfl, fun _ => rfl, by decide +kernel⟩, nmX0, pm_wd_in (pos := 167) (by decide +kernel) rfl, pm_wd_in (pos := 76) (by decide +kernel) rfl⟩
set_option maxRecDepth 100000 in
theorem pm_cl1 : pm_clsOK 1 RX1 TX1 4 := ⟨pm_in _ [308, 310, 312, 314] (by decide +kernel) (by decide +kernel), ⟨tyX1, tyX1_ok, _, rfl, rfl, rfl, fun _ => rfl, by decide +kernel⟩, nmX1, pm_wd_in (pos := 299) (by decide +kernel) rfl, pm_wd_in (pos := 81) (by decide +kernel) rfl⟩
set_option maxRecDepth 100000 in
theorem pm_cl2 : pm_clsOK 2 RX2 TX2 2 := ⟨pm_in _ [185, 187] (by decide +kernel) (by decide +kernel), ⟨tyX2, tyX2_ok, _, rfl, rfl, rfl, fun _ => rfl, by decide +kernel⟩, nmX2, pm_wd_in (pos := 161) (by decide +kernel) rfl, pm_wd_in (pos := 75) (by decide +kernel) rfl⟩
set_option maxRecDepth 100000 in
theorem pm_cl3 : pm_clsOK 3 RX3 TX3 7 := ⟨pm_in _ [354, 356, 358, 360, 362, 364, 366] (by decide +kernel) (by decide +kernel), ⟨tyX3, tyX3_ok, _, rfl, rfl, rfl, fun _ => rfl, by decide +kernel⟩, nmX3, pm_wd_in (pos := 318) (by decide +kernel) rfl, pm_wd_in (pos := 82) (by decide +kernel) rfl⟩
set_option maxRecDepth 100000 in
theorem pm_cl4 : pm_clsOK 4 RX4 TX4 3 := ⟨pm_in _ [124, 126, 128] (by decide +kernel) (by decide +kernel), ⟨tyX4, tyX4_ok, _, rfl, rfl, rfl, fun _ => rfl, by decide +kernel⟩, nmX4, pm_wd_in (pos := 108) (by decide +kernel) rfl, pm_wd_in (pos := 73) (by decide +kernel) rfl⟩
set_option maxRecDepth 100000 in
theorem pm_cl5 : pm_clsOK 5 RX5 TX5 2 := ⟨pm_in _ [220, 222] (by decide +kernel) (by decide +kernel), ⟨tyX5, tyX5_ok, _, rfl, rfl, rfl, fun _ => rfl, by decide +kernel⟩, nmX5, pm_wd_in (pos := 204) (by decide +kernel) rfl, pm_wd_in (pos := 78) (by decide +kernel) rfl⟩
set_option maxRecDepth 100000 in
theorem pm_cl6 : pm_clsOK 6 RX6 TX6 3 := ⟨pm_in _ [235, 237, 239] (by decide +kernel) (by decide +kernel), ⟨tyX6, tyX6_ok, _, rfl, rfl, rfl, fun _ => rfl, by decide +kernel⟩, nmX6, pm_wd_in (pos := 226) (by decide +kernel) rfl, pm_wd_in (pos := 79) (by decide +kernel) rfl⟩
set_option maxRecDepth 100000 in
theorem pm_cl7 : pm_clsOK 7 RX7 TX7 5 := ⟨pm_in _ [287, 289, 291, 293, 295] (by decide +kernel) (by decide +kernel), ⟨tyX7, tyX7_ok, _, rfl, rfl, rfl, fun _ => rfl, by decide +kernel⟩, nmX7, pm_wd_in (pos := 273) (by decide +kernel) rfl, pm_wd_in (pos := 80) (by decide +kernel) rfl⟩
set_option maxRecDepth 100000 in
theorem pm_cl8 : pm_clsOK 8 RX8 TX8 9 := ⟨pm_in _ [253, 255, 257, 259, 261, 263, 265, 267, 269] (by decide +kernel) (by decide +kernel), ⟨tyX8, tyX8_ok, _, rfl, rfl, rfl, fun _ => rfl, by decide +kernel⟩, nmX8, pm_wd_in (pos := 198) (by decide +kernel) rfl, pm_wd_in (pos := 77) (by decide +kernel) rfl⟩
set_option maxRecDepth 100000 in
theorem pm_cl9 : pm_clsOK 9 RX9 TX9 4 := ⟨pm_in _ [336, 338, 340, 342] (by decide +kernel) (by decide +kernel), ⟨tyX9, tyX9_ok, _, rfl, rfl, rfl, fun _ => rfl, by decide +kernel⟩, nmX9, pm_wd_in (pos := 324) (by decide +kernel) rfl, pm_wd_in (pos := 83) (by decide +kernel) rfl⟩
set_option maxRecDepth 100000 in
theorem pm_cl10 : pm_clsOK 10 RX10 TX10 5 := ⟨pm_in _ [149, 151, 153, 155, 157] (by decide +kernel) (by decide +kernel), ⟨tyX10, tyX10_ok, _, rfl, rfl, rfl, fun _ => rfl, by decide +kernel⟩, nmX10, pm_wd_in (pos := 101) (by decide +kernel) rfl, pm_wd_in (pos := 72) (by decide +kernel) rfl⟩
set_option maxRecDepth 100000 in
theorem pm_cl11 : pm_clsOK 11 RX11 TX11 6 := ⟨pm_in _ [375, 377, 379, 381, 383, 385] (by decide +kernel) (by decide +kernel), ⟨tyX11, tyX11_ok, _, rfl, rfl, rfl, fun _ => rfl, by decide +kernel⟩, nmX11, pm_wd_in (pos := 93) (by decide +kernel) rfl, pm_wd_in (pos := 71) (by decide +kernel) rfl⟩
set_option maxRecDepth 100000 in
theorem pm_cl12 : pm_clsOK 12 RX12 TX12 32 := ⟨pm_in _ [967, 969, 971, 973, 975, 977, 979, 981, 983, 985, 987, 989, 991, 993, 995, 997, 999, 1001, 1003, 1005, 1007, 1009, 1011, 1013, 1015, 1017, 1019, 1021, 1023, 1025, 1027, 1029] (by decide +kernel) (by decide +kernel), ⟨tyX12, tyX12_ok, _, rfl, rfl, rfl, fun _ => rfl, by decide +kernel⟩, nmX12, pm_wd_in (pos := 930) (by decide +kernel) rfl, pm_wd_in (pos := 84) (by decide +kernel) rfl⟩
theorem pm_cls : ∀ (ci : Nat) (C : String) (T : u_T) (N : Nat), vwCl[ci]? = some (C, T, N) → pm_clsOK ci C T N := by
  intro ci C T N h
  match ci, h with
  | 0, h => cases h; exact pm_cl0
  | 1, h => cases h; exact pm_cl1
  | 2, h => cases h; exact pm_cl2
  | 3, h => cases h; exact pm_cl3
  | 4, h => cases h; exact pm_cl4
  | 5, h => cases h; exact pm_cl5
  | 6, h => cases h; exact pm_cl6
  | 7, h => cases h; exact pm_cl7
  | 8, h => cases h; exact pm_cl8
  | 9, h => cases h; exact pm_cl9
  | 10, h => cases h; exact pm_cl10
  | 11, h => cases h; exact pm_cl11
  | 12, h => cases h; exact pm_cl12
  | n + 13, h => simp [vwCl] at h
/-- what the tables say of the method k -/
def pm_mOK (k : Nat) : Prop := Jvm.Cond.code (pm_y k) (pm_b k) (pm_mL k) (pm_rt k) ∈ pm_ws ∧ Jvm.Cond.initialized (pm_y k).cls ∈ pm_ws ∧ plainName (pm_y k).cls = true ∧ ((pm_y k).cls ≠ "java/lang/invoke/MethodHandle" ∧ (pm_y k).cls ≠ "java/lang/invoke/VarHandle") ∧ (parseMethodDescriptor (pm_y k).desc).map (fun d => d.parameters.length) = some (pm_mi k).2.1 ∧
  (((pm_mi k).1 = 0 ∧ Jvm.Cond.instanceMethod (pm_y k) ∈ pm_ws ∧ Jvm.Cond.selects (pm_y k).cls (pm_y k) (pm_y k) ∈ pm_ws ∧ (vwCl[(pm_mi k).2.2.1]?).map (fun q => q.1) = some (pm_y k).cls) ∨ ((pm_mi k).1 = 1 ∧ Jvm.Cond.static (pm_y k) ∈ pm_ws) ∨ ((pm_mi k).1 = 2 ∧ Jvm.Cond.instanceMethod (pm_y k) ∈ pm_ws ∧ (pm_y k).name = "<init>" ∧ pm_rt k = none))
theorem pm_cw {pos : Nat} {w : Jvm.Cond} (h : lw_tbl[pos]? = some w) (hg : goodWord w = true) : w ∈ pm_ws := List.mem_filter.mpr ⟨List.mem_of_getElem? h, hg⟩
set_option maxRecDepth 100000 in
theorem pm_m0 : pm_mOK 0 := ⟨pm_cw (pos := 170) rfl rfl, pm_wd_in (pos := 76) (by decide +kernel) rfl, by decide +kernel, ⟨by decide +kernel, by decide +kernel⟩, by decide +kernel, Or.inr (Or.inr ⟨rfl, pm_wd_in (pos := 169) (by decide +kernel) rfl, rfl, rfl⟩)⟩
set_option maxRecDepth 100000 in
theorem pm_m1 : pm_mOK 1 := ⟨pm_cw (pos := 445) rfl rfl, pm_wd_in (pos := 76) (by decide +kernel) rfl, by decide +kernel, ⟨by decide +kernel, by decide +kernel⟩, by decide +kernel, Or.inl ⟨rfl, pm_wd_in (pos := 443) (by decide +kernel) rfl, pm_wd_in (pos := 444) (by decide +kernel) rfl, rfl⟩⟩
set_option maxRecDepth 100000 in
theorem pm_m2 : pm_mOK 2 := ⟨pm_cw (pos := 457) rfl rfl, pm_wd_in (pos := 76) (by decide +kernel) rfl, by decide +kernel, ⟨by decide +kernel, by decide +kernel⟩, by decide +kernel, Or.inl ⟨rfl, pm_wd_in (pos := 455) (by decide +kernel) rfl, pm_wd_in (pos := 456) (by decide +kernel) rfl, rfl⟩⟩
set_option maxRecDepth 100000 in
theorem pm_m3 : pm_mOK 3 := ⟨pm_cw (pos := 436) rfl rfl, pm_wd_in (pos := 76) (by decide +kernel) rfl, by decide +kernel, ⟨by decide +kernel, by decide +kernel⟩, by decide +kernel, Or.inl ⟨rfl, pm_wd_in (pos := 434) (by decide +kernel) rfl, pm_wd_in (pos := 435) (by decide +kernel) rfl, rfl⟩⟩
set_option maxRecDepth 100000 in
theorem pm_m4 : pm_mOK 4 := ⟨pm_cw (pos := 196) rfl rfl, pm_wd_in (pos := 76) (by decide +kernel) rfl, by decide +kernel, ⟨by decide +kernel, by decide +kernel⟩, by decide +kernel, Or.inl ⟨rfl, pm_wd_in (pos := 194) (by decide +kernel) rfl, pm_wd_in (pos := 195) (by decide +kernel) rfl, rfl⟩⟩
set_option maxRecDepth 100000 in
theorem pm_m5 : pm_mOK 5 := ⟨pm_cw (pos := 926) rfl rfl, pm_wd_in (pos := 76) (by decide +kernel) rfl, by decide +kernel, ⟨by decide +kernel, by decide +kernel⟩, by decide +kernel, Or.inl ⟨rfl, pm_wd_in (pos := 924) (by decide +kernel) rfl, pm_wd_in (pos := 925) (by decide +kernel) rfl, rfl⟩⟩
set_option maxRecDepth 100000 in
theorem pm_m6 : pm_mOK 6 := ⟨pm_cw (pos := 302) rfl rfl, pm_wd_in (pos := 81) (by decide +kernel) rfl, by decide +kernel, ⟨by decide +kernel, by decide +kernel⟩, by decide +kernel, Or.inr (Or.inr ⟨rfl, pm_wd_in (pos := 301) (by decide +kernel) rfl, rfl, rfl⟩)⟩
set_option maxRecDepth 100000 in
theorem pm_m7 : pm_mOK 7 := ⟨pm_cw (pos := 616) rfl rfl, pm_wd_in (pos := 81) (by decide +kernel) rfl, by decide +kernel, ⟨by decide +kernel, by decide +kernel⟩, by decide +kernel, Or.inl ⟨rfl, pm_wd_in (pos := 614) (by decide +kernel) rfl, pm_wd_in (pos := 615) (by decide +kernel) rfl, rfl⟩⟩
set_option maxRecDepth 100000 in
theorem pm_m8 : pm_mOK 8 := ⟨pm_cw (pos := 653) rfl rfl, pm_wd_in (pos := 81) (by decide +kernel) rfl, by decide +kernel, ⟨by decide +kernel, by decide +kernel⟩, by decide +kernel, Or.inl ⟨rfl, pm_wd_in (pos := 652) (by decide +kernel) rfl, pm_wd_in (pos := 8) (by decide +kernel) rfl, rfl⟩⟩
set_option maxRecDepth 100000 in
theorem pm_m9 : pm_mOK 9 := ⟨pm_cw (pos := 662) rfl rfl, pm_wd_in (pos := 81) (by decide +kernel) rfl, by decide +kernel, ⟨by decide +kernel, by decide +kernel⟩, by decide +kernel, Or.inl ⟨rfl, pm_wd_in (pos := 661) (by decide +kernel) rfl, pm_wd_in (pos := 9) (by decide +kernel) rfl, rfl⟩⟩
set_option maxRecDepth 100000 in
theorem pm_m10 : pm_mOK 10 := ⟨pm_cw (pos := 682) rfl rfl, pm_wd_in (pos := 81) (by decide +kernel) rfl, by decide +kernel, ⟨by decide +kernel, by decide +kernel⟩, by decide +kernel, Or.inl ⟨rfl, pm_wd_in (pos := 681) (by decide +kernel) rfl, pm_wd_in (pos := 10) (by decide +kernel) rfl, rfl⟩⟩
set_option maxRecDepth 100000 in
theorem pm_m11 : pm_mOK 11 := ⟨pm_cw (pos := 785) rfl rfl, pm_wd_in (pos := 81) (by decide +kernel) rfl, by decide +kernel, ⟨by decide +kernel, by decide +kernel⟩, by decide +kernel, Or.inl ⟨rfl, pm_wd_in (pos := 784) (by decide +kernel) rfl, pm_wd_in (pos := 21) (by decide +kernel) rfl, rfl⟩⟩
set_option maxRecDepth 100000 in
theorem pm_m12 : pm_mOK 12 := ⟨pm_cw (pos := 793) rfl rfl, pm_wd_in (pos := 81) (by decide +kernel) rfl, by decide +kernel, ⟨by decide +kernel, by decide +kernel⟩, by decide +kernel, Or.inl ⟨rfl, pm_wd_in (pos := 792) (by decide +kernel) rfl, pm_wd_in (pos := 22) (by decide +kernel) rfl, rfl⟩⟩
set_option maxRecDepth 100000 in
theorem pm_m13 : pm_mOK 13 := ⟨pm_cw (pos := 164) rfl rfl, pm_wd_in (pos := 75) (by decide +kernel) rfl, by decide +kernel, ⟨by decide +kernel, by decide +kernel⟩, by decide +kernel, Or.inr (Or.inr ⟨rfl, pm_wd_in (pos := 163) (by decide +kernel) rfl, rfl, rfl⟩)⟩
set_option maxRecDepth 100000 in
theorem pm_m14 : pm_mOK 14 := ⟨pm_cw (pos := 624) rfl rfl, pm_wd_in (pos := 75) (by decide +kernel) rfl, by decide +kernel, ⟨by decide +kernel, by decide +kernel⟩, by decide +kernel, Or.inl ⟨rfl, pm_wd_in (pos := 622) (by decide +kernel) rfl, pm_wd_in (pos := 623) (by decide +kernel) rfl, rfl⟩⟩
set_option maxRecDepth 100000 in
theorem pm_m15 : pm_mOK 15 := ⟨pm_cw (pos := 632) rfl rfl, pm_wd_in (pos := 75) (by decide +kernel) rfl, by decide +kernel, ⟨by decide +kernel, by decide +kernel⟩, by decide +kernel, Or.inl ⟨rfl, pm_wd_in (pos := 630) (by decide +kernel) rfl, pm_wd_in (pos := 631) (by decide +kernel) rfl, rfl⟩⟩
set_option maxRecDepth 100000 in
theorem pm_m16 : pm_mOK 16 := ⟨pm_cw (pos := 700) rfl rfl, pm_wd_in (pos := 75) (by decide +kernel) rfl, by decide +kernel, ⟨by decide +kernel, by decide +kernel⟩, by decide +kernel, Or.inl ⟨rfl, pm_wd_in (pos := 698) (by decide +kernel) rfl, pm_wd_in (pos := 699) (by decide +kernel) rfl, rfl⟩⟩
set_option maxRecDepth 100000 in
theorem pm_m17 : pm_mOK 17 := ⟨pm_cw (pos := 641) rfl rfl, pm_wd_in (pos := 75) (by decide +kernel) rfl, by decide +kernel, ⟨by decide +kernel, by decide +kernel⟩, by decide +kernel, Or.inl ⟨rfl, pm_wd_in (pos := 640) (by decide +kernel) rfl, pm_wd_in (pos := 7) (by decide +kernel) rfl, rfl⟩⟩
set_option maxRecDepth 100000 in
theorem pm_m18 : pm_mOK 18 := ⟨pm_cw (pos := 637) rfl rfl, pm_wd_in (pos := 75) (by decide +kernel) rfl, by decide +kernel, ⟨by decide +kernel, by decide +kernel⟩, by decide +kernel, Or.inl ⟨rfl, pm_wd_in (pos := 635) (by decide +kernel) rfl, pm_wd_in (pos := 636) (by decide +kernel) rfl, rfl⟩⟩
set_option maxRecDepth 100000 in
theorem pm_m19 : pm_mOK 19 := ⟨pm_cw (pos := 628) rfl rfl, pm_wd_in (pos := 75) (by decide +kernel) rfl, by decide +kernel, ⟨by decide +kernel, by decide +kernel⟩, by decide +kernel, Or.inl ⟨rfl, pm_wd_in (pos := 626) (by decide +kernel) rfl, pm_wd_in (pos := 627) (by decide +kernel) rfl, rfl⟩⟩
set_option maxRecDepth 100000 in
theorem pm_m20 : pm_mOK 20 := ⟨pm_cw (pos := 704) rfl rfl, pm_wd_in (pos := 75) (by decide +kernel) rfl, by decide +kernel, ⟨by decide +kernel, by decide +kernel⟩, by decide +kernel, Or.inl ⟨rfl, pm_wd_in (pos := 702) (by decide +kernel) rfl, pm_wd_in (pos := 703) (by decide +kernel) rfl, rfl⟩⟩
set_option maxRecDepth 100000 in
theorem pm_m21 : pm_mOK 21 := ⟨pm_cw (pos := 620) rfl rfl, pm_wd_in (pos := 75) (by decide +kernel) rfl, by decide +kernel, ⟨by decide +kernel, by decide +kernel⟩, by decide +kernel, Or.inl ⟨rfl, pm_wd_in (pos := 618) (by decide +kernel) rfl, pm_wd_in (pos := 619) (by decide +kernel) rfl, rfl⟩⟩
set_option maxRecDepth 100000 in
theorem pm_m22 : pm_mOK 22 := ⟨pm_cw (pos := 649) rfl rfl, pm_wd_in (pos := 75) (by decide +kernel) rfl, by decide +kernel, ⟨by decide +kernel, by decide +kernel⟩, by decide +kernel, Or.inl ⟨rfl, pm_wd_in (pos := 647) (by decide +kernel) rfl, pm_wd_in (pos := 648) (by decide +kernel) rfl, rfl⟩⟩
set_option maxRecDepth 100000 in
theorem pm_m23 : pm_mOK 23 := ⟨pm_cw (pos := 689) rfl rfl, pm_wd_in (pos := 75) (by decide +kernel) rfl, by decide +kernel, ⟨by decide +kernel, by decide +kernel⟩, by decide +kernel, Or.inl ⟨rfl, pm_wd_in (pos := 687) (by decide +kernel) rfl, pm_wd_in (pos := 688) (by decide +kernel) rfl, rfl⟩⟩
set_option maxRecDepth 100000 in
theorem pm_m24 : pm_mOK 24 := ⟨pm_cw (pos := 777) rfl rfl, pm_wd_in (pos := 75) (by decide +kernel) rfl, by decide +kernel, ⟨by decide +kernel, by decide +kernel⟩, by decide +kernel, Or.inl ⟨rfl, pm_wd_in (pos := 775) (by decide +kernel) rfl, pm_wd_in (pos := 776) (by decide +kernel) rfl, rfl⟩⟩
set_option maxRecDepth 100000 in
theorem pm_m25 : pm_mOK 25 := ⟨pm_cw (pos := 789) rfl rfl, pm_wd_in (pos := 75) (by decide +kernel) rfl, by decide +kernel, ⟨by decide +kernel, by decide +kernel⟩, by decide +kernel, Or.inl ⟨rfl, pm_wd_in (pos := 787) (by decide +kernel) rfl, pm_wd_in (pos := 788) (by decide +kernel) rfl, rfl⟩⟩
set_option maxRecDepth 100000 in
theorem pm_m26 : pm_mOK 26 := ⟨pm_cw (pos := 781) rfl rfl, pm_wd_in (pos := 75) (by decide +kernel) rfl, by decide +kernel, ⟨by decide +kernel, by decide +kernel⟩, by decide +kernel, Or.inl ⟨rfl, pm_wd_in (pos := 779) (by decide +kernel) rfl, pm_wd_in (pos := 780) (by decide +kernel) rfl, rfl⟩⟩
set_option maxRecDepth 100000 in
theorem pm_m27 : pm_mOK 27 := ⟨pm_cw (pos := 321) rfl rfl, pm_wd_in (pos := 82) (by decide +kernel) rfl, by decide +kernel, ⟨by decide +kernel, by decide +kernel⟩, by decide +kernel, Or.inr (Or.inr ⟨rfl, pm_wd_in (pos := 320) (by decide +kernel) rfl, rfl, rfl⟩)⟩
set_option maxRecDepth 100000 in
theorem pm_m28 : pm_mOK 28 := ⟨pm_cw (pos := 805) rfl rfl, pm_wd_in (pos := 82) (by decide +kernel) rfl, by decide +kernel, ⟨by decide +kernel, by decide +kernel⟩, by decide +kernel, Or.inl ⟨rfl, pm_wd_in (pos := 803) (by decide +kernel) rfl, pm_wd_in (pos := 804) (by decide +kernel) rfl, rfl⟩⟩
set_option maxRecDepth 100000 in
theorem pm_m29 : pm_mOK 29 := ⟨pm_cw (pos := 810) rfl rfl, pm_wd_in (pos := 82) (by decide +kernel) rfl, by decide +kernel, ⟨by decide +kernel, by decide +kernel⟩, by decide +kernel, Or.inr (Or.inl ⟨rfl, pm_wd_in (pos := 809) (by decide +kernel) rfl⟩)⟩
set_option maxRecDepth 100000 in
theorem pm_m30 : pm_mOK 30 := ⟨pm_cw (pos := 852) rfl rfl, pm_wd_in (pos := 82) (by decide +kernel) rfl, by decide +kernel, ⟨by decide +kernel, by decide +kernel⟩, by decide +kernel, Or.inl ⟨rfl, pm_wd_in (pos := 850) (by decide +kernel) rfl, pm_wd_in (pos := 851) (by decide +kernel) rfl, rfl⟩⟩
set_option maxRecDepth 100000 in
theorem pm_m31 : pm_mOK 31 := ⟨pm_cw (pos := 831) rfl rfl, pm_wd_in (pos := 82) (by decide +kernel) rfl, by decide +kernel, ⟨by decide +kernel, by decide +kernel⟩, by decide +kernel, Or.inl ⟨rfl, pm_wd_in (pos := 830) (by decide +kernel) rfl, pm_wd_in (pos := 24) (by decide +kernel) rfl, rfl⟩⟩
set_option maxRecDepth 100000 in
theorem pm_m32 : pm_mOK 32 := ⟨pm_cw (pos := 835) rfl rfl, pm_wd_in (pos := 82) (by decide +kernel) rfl, by decide +kernel, ⟨by decide +kernel, by decide +kernel⟩, by decide +kernel, Or.inl ⟨rfl, pm_wd_in (pos := 834) (by decide +kernel) rfl, pm_wd_in (pos := 25) (by decide +kernel) rfl, rfl⟩⟩
set_option maxRecDepth 100000 in
theorem pm_m33 : pm_mOK 33 := ⟨pm_cw (pos := 815) rfl rfl, pm_wd_in (pos := 82) (by decide +kernel) rfl, by decide +kernel, ⟨by decide +kernel, by decide +kernel⟩, by decide +kernel, Or.inl ⟨rfl, pm_wd_in (pos := 814) (by decide +kernel) rfl, pm_wd_in (pos := 23) (by decide +kernel) rfl, rfl⟩⟩
set_option maxRecDepth 100000 in
theorem pm_m34 : pm_mOK 34 := ⟨pm_cw (pos := 847) rfl rfl, pm_wd_in (pos := 82) (by decide +kernel) rfl, by decide +kernel, ⟨by decide +kernel, by decide +kernel⟩, by decide +kernel, Or.inl ⟨rfl, pm_wd_in (pos := 846) (by decide +kernel) rfl, pm_wd_in (pos := 26) (by decide +kernel) rfl, rfl⟩⟩
set_option maxRecDepth 100000 in
theorem pm_m35 : pm_mOK 35 := ⟨pm_cw (pos := 856) rfl rfl, pm_wd_in (pos := 82) (by decide +kernel) rfl, by decide +kernel, ⟨by decide +kernel, by decide +kernel⟩, by decide +kernel, Or.inl ⟨rfl, pm_wd_in (pos := 855) (by decide +kernel) rfl, pm_wd_in (pos := 27) (by decide +kernel) rfl, rfl⟩⟩
set_option maxRecDepth 100000 in
theorem pm_m36 : pm_mOK 36 := ⟨pm_cw (pos := 860) rfl rfl, pm_wd_in (pos := 82) (by decide +kernel) rfl, by decide +kernel, ⟨by decide +kernel, by decide +kernel⟩, by decide +kernel, Or.inl ⟨rfl, pm_wd_in (pos := 859) (by decide +kernel) rfl, pm_wd_in (pos := 28) (by decide +kernel) rfl, rfl⟩⟩
set_option maxRecDepth 100000 in
theorem pm_m37 : pm_mOK 37 := ⟨pm_cw (pos := 111) rfl rfl, pm_wd_in (pos := 73) (by decide +kernel) rfl, by decide +kernel, ⟨by decide +kernel, by decide +kernel⟩, by decide +kernel, Or.inr (Or.inr ⟨rfl, pm_wd_in (pos := 110) (by decide +kernel) rfl, rfl, rfl⟩)⟩
set_option maxRecDepth 100000 in
theorem pm_m38 : pm_mOK 38 := ⟨pm_cw (pos := 420) rfl rfl, pm_wd_in (pos := 73) (by decide +kernel) rfl, by decide +kernel, ⟨by decide +kernel, by decide +kernel⟩, by decide +kernel, Or.inl ⟨rfl, pm_wd_in (pos := 418) (by decide +kernel) rfl, pm_wd_in (pos := 419) (by decide +kernel) rfl, rfl⟩⟩
set_option maxRecDepth 100000 in
theorem pm_m39 : pm_mOK 39 := ⟨pm_cw (pos := 207) rfl rfl, pm_wd_in (pos := 78) (by decide +kernel) rfl, by decide +kernel, ⟨by decide +kernel, by decide +kernel⟩, by decide +kernel, Or.inr (Or.inr ⟨rfl, pm_wd_in (pos := 206) (by decide +kernel) rfl, rfl, rfl⟩)⟩
set_option maxRecDepth 100000 in
theorem pm_m40 : pm_mOK 40 := ⟨pm_cw (pos := 477) rfl rfl, pm_wd_in (pos := 78) (by decide +kernel) rfl, by decide +kernel, ⟨by decide +kernel, by decide +kernel⟩, by decide +kernel, Or.inl ⟨rfl, pm_wd_in (pos := 475) (by decide +kernel) rfl, pm_wd_in (pos := 476) (by decide +kernel) rfl, rfl⟩⟩
set_option maxRecDepth 100000 in
theorem pm_m41 : pm_mOK 41 := ⟨pm_cw (pos := 729) rfl rfl, pm_wd_in (pos := 78) (by decide +kernel) rfl, by decide +kernel, ⟨by decide +kernel, by decide +kernel⟩, by decide +kernel, Or.inl ⟨rfl, pm_wd_in (pos := 727) (by decide +kernel) rfl, pm_wd_in (pos := 728) (by decide +kernel) rfl, rfl⟩⟩
set_option maxRecDepth 100000 in
theorem pm_m42 : pm_mOK 42 := ⟨pm_cw (pos := 502) rfl rfl, pm_wd_in (pos := 78) (by decide +kernel) rfl, by decide +kernel, ⟨by decide +kernel, by decide +kernel⟩, by decide +kernel, Or.inl ⟨rfl, pm_wd_in (pos := 500) (by decide +kernel) rfl, pm_wd_in (pos := 501) (by decide +kernel) rfl, rfl⟩⟩
set_option maxRecDepth 100000 in
theorem pm_m43 : pm_mOK 43 := ⟨pm_cw (pos := 757) rfl rfl, pm_wd_in (pos := 78) (by decide +kernel) rfl, by decide +kernel, ⟨by decide +kernel, by decide +kernel⟩, by decide +kernel, Or.inl ⟨rfl, pm_wd_in (pos := 755) (by decide +kernel) rfl, pm_wd_in (pos := 756) (by decide +kernel) rfl, rfl⟩⟩
set_option maxRecDepth 100000 in
theorem pm_m44 : pm_mOK 44 := ⟨pm_cw (pos := 747) rfl rfl, pm_wd_in (pos := 78) (by decide +kernel) rfl, by decide +kernel, ⟨by decide +kernel, by decide +kernel⟩, by decide +kernel, Or.inl ⟨rfl, pm_wd_in (pos := 745) (by decide +kernel) rfl, pm_wd_in (pos := 746) (by decide +kernel) rfl, rfl⟩⟩
set_option maxRecDepth 100000 in
theorem pm_m45 : pm_mOK 45 := ⟨pm_cw (pos := 768) rfl rfl, pm_wd_in (pos := 78) (by decide +kernel) rfl, by decide +kernel, ⟨by decide +kernel, by decide +kernel⟩, by decide +kernel, Or.inl ⟨rfl, pm_wd_in (pos := 766) (by decide +kernel) rfl, pm_wd_in (pos := 767) (by decide +kernel) rfl, rfl⟩⟩
set_option maxRecDepth 100000 in
theorem pm_m46 : pm_mOK 46 := ⟨pm_cw (pos := 229) rfl rfl, pm_wd_in (pos := 79) (by decide +kernel) rfl, by decide +kernel, ⟨by decide +kernel, by decide +kernel⟩, by decide +kernel, Or.inr (Or.inr ⟨rfl, pm_wd_in (pos := 228) (by decide +kernel) rfl, rfl, rfl⟩)⟩
set_option maxRecDepth 100000 in
theorem pm_m47 : pm_mOK 47 := ⟨pm_cw (pos := 473) rfl rfl, pm_wd_in (pos := 79) (by decide +kernel) rfl, by decide +kernel, ⟨by decide +kernel, by decide +kernel⟩, by decide +kernel, Or.inl ⟨rfl, pm_wd_in (pos := 471) (by decide +kernel) rfl, pm_wd_in (pos := 472) (by decide +kernel) rfl, rfl⟩⟩
set_option maxRecDepth 100000 in
theorem pm_m48 : pm_mOK 48 := ⟨pm_cw (pos := 658) rfl rfl, pm_wd_in (pos := 79) (by decide +kernel) rfl, by decide +kernel, ⟨by decide +kernel, by decide +kernel⟩, by decide +kernel, Or.inl ⟨rfl, pm_wd_in (pos := 656) (by decide +kernel) rfl, pm_wd_in (pos := 657) (by decide +kernel) rfl, rfl⟩⟩
set_option maxRecDepth 100000 in
theorem pm_m49 : pm_mOK 49 := ⟨pm_cw (pos := 601) rfl rfl, pm_wd_in (pos := 79) (by decide +kernel) rfl, by decide +kernel, ⟨by decide +kernel, by decide +kernel⟩, by decide +kernel, Or.inl ⟨rfl, pm_wd_in (pos := 599) (by decide +kernel) rfl, pm_wd_in (pos := 600) (by decide +kernel) rfl, rfl⟩⟩
set_option maxRecDepth 100000 in
theorem pm_m50 : pm_mOK 50 := ⟨pm_cw (pos := 597) rfl rfl, pm_wd_in (pos := 79) (by decide +kernel) rfl, by decide +kernel, ⟨by decide +kernel, by decide +kernel⟩, by decide +kernel, Or.inl ⟨rfl, pm_wd_in (pos := 595) (by decide +kernel) rfl, pm_wd_in (pos := 596) (by decide +kernel) rfl, rfl⟩⟩
set_option maxRecDepth 100000 in
theorem pm_m51 : pm_mOK 51 := ⟨pm_cw (pos := 605) rfl rfl, pm_wd_in (pos := 79) (by decide +kernel) rfl, by decide +kernel, ⟨by decide +kernel, by decide +kernel⟩, by decide +kernel, Or.inl ⟨rfl, pm_wd_in (pos := 603) (by decide +kernel) rfl, pm_wd_in (pos := 604) (by decide +kernel) rfl, rfl⟩⟩
set_option maxRecDepth 100000 in
theorem pm_m52 : pm_mOK 52 := ⟨pm_cw (pos := 514) rfl rfl, pm_wd_in (pos := 79) (by decide +kernel) rfl, by decide +kernel, ⟨by decide +kernel, by decide +kernel⟩, by decide +kernel, Or.inl ⟨rfl, pm_wd_in (pos := 512) (by decide +kernel) rfl, pm_wd_in (pos := 513) (by decide +kernel) rfl, rfl⟩⟩
set_option maxRecDepth 100000 in
theorem pm_m53 : pm_mOK 53 := ⟨pm_cw (pos := 678) rfl rfl, pm_wd_in (pos := 79) (by decide +kernel) rfl, by decide +kernel, ⟨by decide +kernel, by decide +kernel⟩, by decide +kernel, Or.inl ⟨rfl, pm_wd_in (pos := 676) (by decide +kernel) rfl, pm_wd_in (pos := 677) (by decide +kernel) rfl, rfl⟩⟩
set_option maxRecDepth 100000 in
theorem pm_m54 : pm_mOK 54 := ⟨pm_cw (pos := 666) rfl rfl, pm_wd_in (pos := 79) (by decide +kernel) rfl, by decide +kernel, ⟨by decide +kernel, by decide +kernel⟩, by decide +kernel, Or.inl ⟨rfl, pm_wd_in (pos := 664) (by decide +kernel) rfl, pm_wd_in (pos := 665) (by decide +kernel) rfl, rfl⟩⟩
set_option maxRecDepth 100000 in
theorem pm_m55 : pm_mOK 55 := ⟨pm_cw (pos := 822) rfl rfl, pm_wd_in (pos := 79) (by decide +kernel) rfl, by decide +kernel, ⟨by decide +kernel, by decide +kernel⟩, by decide +kernel, Or.inl ⟨rfl, pm_wd_in (pos := 820) (by decide +kernel) rfl, pm_wd_in (pos := 821) (by decide +kernel) rfl, rfl⟩⟩
set_option maxRecDepth 100000 in
theorem pm_m56 : pm_mOK 56 := ⟨pm_cw (pos := 276) rfl rfl, pm_wd_in (pos := 80) (by decide +kernel) rfl, by decide +kernel, ⟨by decide +kernel, by decide +kernel⟩, by decide +kernel, Or.inr (Or.inr ⟨rfl, pm_wd_in (pos := 275) (by decide +kernel) rfl, rfl, rfl⟩)⟩
set_option maxRecDepth 100000 in
theorem pm_m57 : pm_mOK 57 := ⟨pm_cw (pos := 695) rfl rfl, pm_wd_in (pos := 80) (by decide +kernel) rfl, by decide +kernel, ⟨by decide +kernel, by decide +kernel⟩, by decide +kernel, Or.inl ⟨rfl, pm_wd_in (pos := 693) (by decide +kernel) rfl, pm_wd_in (pos := 694) (by decide +kernel) rfl, rfl⟩⟩
set_option maxRecDepth 100000 in
theorem pm_m58 : pm_mOK 58 := ⟨pm_cw (pos := 713) rfl rfl, pm_wd_in (pos := 80) (by decide +kernel) rfl, by decide +kernel, ⟨by decide +kernel, by decide +kernel⟩, by decide +kernel, Or.inl ⟨rfl, pm_wd_in (pos := 712) (by decide +kernel) rfl, pm_wd_in (pos := 12) (by decide +kernel) rfl, rfl⟩⟩
set_option maxRecDepth 100000 in
theorem pm_m59 : pm_mOK 59 := ⟨pm_cw (pos := 709) rfl rfl, pm_wd_in (pos := 80) (by decide +kernel) rfl, by decide +kernel, ⟨by decide +kernel, by decide +kernel⟩, by decide +kernel, Or.inl ⟨rfl, pm_wd_in (pos := 708) (by decide +kernel) rfl, pm_wd_in (pos := 11) (by decide +kernel) rfl, rfl⟩⟩
set_option maxRecDepth 100000 in
theorem pm_m60 : pm_mOK 60 := ⟨pm_cw (pos := 717) rfl rfl, pm_wd_in (pos := 80) (by decide +kernel) rfl, by decide +kernel, ⟨by decide +kernel, by decide +kernel⟩, by decide +kernel, Or.inl ⟨rfl, pm_wd_in (pos := 716) (by decide +kernel) rfl, pm_wd_in (pos := 13) (by decide +kernel) rfl, rfl⟩⟩
set_option maxRecDepth 100000 in
theorem pm_m61 : pm_mOK 61 := ⟨pm_cw (pos := 721) rfl rfl, pm_wd_in (pos := 80) (by decide +kernel) rfl, by decide +kernel, ⟨by decide +kernel, by decide +kernel⟩, by decide +kernel, Or.inl ⟨rfl, pm_wd_in (pos := 720) (by decide +kernel) rfl, pm_wd_in (pos := 14) (by decide +kernel) rfl, rfl⟩⟩
set_option maxRecDepth 100000 in
theorem pm_m62 : pm_mOK 62 := ⟨pm_cw (pos := 725) rfl rfl, pm_wd_in (pos := 80) (by decide +kernel) rfl, by decide +kernel, ⟨by decide +kernel, by decide +kernel⟩, by decide +kernel, Or.inl ⟨rfl, pm_wd_in (pos := 724) (by decide +kernel) rfl, pm_wd_in (pos := 15) (by decide +kernel) rfl, rfl⟩⟩
set_option maxRecDepth 100000 in
theorem pm_m63 : pm_mOK 63 := ⟨pm_cw (pos := 739) rfl rfl, pm_wd_in (pos := 80) (by decide +kernel) rfl, by decide +kernel, ⟨by decide +kernel, by decide +kernel⟩, by decide +kernel, Or.inl ⟨rfl, pm_wd_in (pos := 738) (by decide +kernel) rfl, pm_wd_in (pos := 16) (by decide +kernel) rfl, rfl⟩⟩
set_option maxRecDepth 100000 in
theorem pm_m64 : pm_mOK 64 := ⟨pm_cw (pos := 743) rfl rfl, pm_wd_in (pos := 80) (by decide +kernel) rfl, by decide +kernel, ⟨by decide +kernel, by decide +kernel⟩, by decide +kernel, Or.inl ⟨rfl, pm_wd_in (pos := 742) (by decide +kernel) rfl, pm_wd_in (pos := 17) (by decide +kernel) rfl, rfl⟩⟩
set_option maxRecDepth 100000 in
theorem pm_m65 : pm_mOK 65 := ⟨pm_cw (pos := 751) rfl rfl, pm_wd_in (pos := 80) (by decide +kernel) rfl, by decide +kernel, ⟨by decide +kernel, by decide +kernel⟩, by decide +kernel, Or.inl ⟨rfl, pm_wd_in (pos := 750) (by decide +kernel) rfl, pm_wd_in (pos := 18) (by decide +kernel) rfl, rfl⟩⟩
set_option maxRecDepth 100000 in
theorem pm_m66 : pm_mOK 66 := ⟨pm_cw (pos := 764) rfl rfl, pm_wd_in (pos := 80) (by decide +kernel) rfl, by decide +kernel, ⟨by decide +kernel, by decide +kernel⟩, by decide +kernel, Or.inl ⟨rfl, pm_wd_in (pos := 763) (by decide +kernel) rfl, pm_wd_in (pos := 19) (by decide +kernel) rfl, rfl⟩⟩
set_option maxRecDepth 100000 in
theorem pm_m67 : pm_mOK 67 := ⟨pm_cw (pos := 772) rfl rfl, pm_wd_in (pos := 80) (by decide +kernel) rfl, by decide +kernel, ⟨by decide +kernel, by decide +kernel⟩, by decide +kernel, Or.inl ⟨rfl, pm_wd_in (pos := 771) (by decide +kernel) rfl, pm_wd_in (pos := 20) (by decide +kernel) rfl, rfl⟩⟩
set_option maxRecDepth 100000 in
theorem pm_m68 : pm_mOK 68 := ⟨pm_cw (pos := 201) rfl rfl, pm_wd_in (pos := 77) (by decide +kernel) rfl, by decide +kernel, ⟨by decide +kernel, by decide +kernel⟩, by decide +kernel, Or.inr (Or.inr ⟨rfl, pm_wd_in (pos := 200) (by decide +kernel) rfl, rfl, rfl⟩)⟩
set_option maxRecDepth 100000 in
theorem pm_m69 : pm_mOK 69 := ⟨pm_cw (pos := 469) rfl rfl, pm_wd_in (pos := 77) (by decide +kernel) rfl, by decide +kernel, ⟨by decide +kernel, by decide +kernel⟩, by decide +kernel, Or.inl ⟨rfl, pm_wd_in (pos := 467) (by decide +kernel) rfl, pm_wd_in (pos := 468) (by decide +kernel) rfl, rfl⟩⟩
set_option maxRecDepth 100000 in
theorem pm_m70 : pm_mOK 70 := ⟨pm_cw (pos := 593) rfl rfl, pm_wd_in (pos := 77) (by decide +kernel) rfl, by decide +kernel, ⟨by decide +kernel, by decide +kernel⟩, by decide +kernel, Or.inl ⟨rfl, pm_wd_in (pos := 591) (by decide +kernel) rfl, pm_wd_in (pos := 592) (by decide +kernel) rfl, rfl⟩⟩
set_option maxRecDepth 100000 in
theorem pm_m71 : pm_mOK 71 := ⟨pm_cw (pos := 485) rfl rfl, pm_wd_in (pos := 77) (by decide +kernel) rfl, by decide +kernel, ⟨by decide +kernel, by decide +kernel⟩, by decide +kernel, Or.inl ⟨rfl, pm_wd_in (pos := 484) (by decide +kernel) rfl, pm_wd_in (pos := 0) (by decide +kernel) rfl, rfl⟩⟩
set_option maxRecDepth 100000 in
theorem pm_m72 : pm_mOK 72 := ⟨pm_cw (pos := 490) rfl rfl, pm_wd_in (pos := 77) (by decide +kernel) rfl, by decide +kernel, ⟨by decide +kernel, by decide +kernel⟩, by decide +kernel, Or.inl ⟨rfl, pm_wd_in (pos := 489) (by decide +kernel) rfl, pm_wd_in (pos := 1) (by decide +kernel) rfl, rfl⟩⟩
set_option maxRecDepth 100000 in
theorem pm_m73 : pm_mOK 73 := ⟨pm_cw (pos := 506) rfl rfl, pm_wd_in (pos := 77) (by decide +kernel) rfl, by decide +kernel, ⟨by decide +kernel, by decide +kernel⟩, by decide +kernel, Or.inl ⟨rfl, pm_wd_in (pos := 505) (by decide +kernel) rfl, pm_wd_in (pos := 4) (by decide +kernel) rfl, rfl⟩⟩
set_option maxRecDepth 100000 in
theorem pm_m74 : pm_mOK 74 := ⟨pm_cw (pos := 510) rfl rfl, pm_wd_in (pos := 77) (by decide +kernel) rfl, by decide +kernel, ⟨by decide +kernel, by decide +kernel⟩, by decide +kernel, Or.inl ⟨rfl, pm_wd_in (pos := 509) (by decide +kernel) rfl, pm_wd_in (pos := 5) (by decide +kernel) rfl, rfl⟩⟩
set_option maxRecDepth 100000 in
theorem pm_m75 : pm_mOK 75 := ⟨pm_cw (pos := 494) rfl rfl, pm_wd_in (pos := 77) (by decide +kernel) rfl, by decide +kernel, ⟨by decide +kernel, by decide +kernel⟩, by decide +kernel, Or.inl ⟨rfl, pm_wd_in (pos := 493) (by decide +kernel) rfl, pm_wd_in (pos := 2) (by decide +kernel) rfl, rfl⟩⟩
set_option maxRecDepth 100000 in
theorem pm_m76 : pm_mOK 76 := ⟨pm_cw (pos := 498) rfl rfl, pm_wd_in (pos := 77) (by decide +kernel) rfl, by decide +kernel, ⟨by decide +kernel, by decide +kernel⟩, by decide +kernel, Or.inl ⟨rfl, pm_wd_in (pos := 497) (by decide +kernel) rfl, pm_wd_in (pos := 3) (by decide +kernel) rfl, rfl⟩⟩
set_option maxRecDepth 100000 in
theorem pm_m77 : pm_mOK 77 := ⟨pm_cw (pos := 327) rfl rfl, pm_wd_in (pos := 83) (by decide +kernel) rfl, by decide +kernel, ⟨by decide +kernel, by decide +kernel⟩, by decide +kernel, Or.inr (Or.inr ⟨rfl, pm_wd_in (pos := 326) (by decide +kernel) rfl, rfl, rfl⟩)⟩
set_option maxRecDepth 100000 in
theorem pm_m78 : pm_mOK 78 := ⟨pm_cw (pos := 864) rfl rfl, pm_wd_in (pos := 83) (by decide +kernel) rfl, by decide +kernel, ⟨by decide +kernel, by decide +kernel⟩, by decide +kernel, Or.inl ⟨rfl, pm_wd_in (pos := 862) (by decide +kernel) rfl, pm_wd_in (pos := 863) (by decide +kernel) rfl, rfl⟩⟩
set_option maxRecDepth 100000 in
theorem pm_m79 : pm_mOK 79 := ⟨pm_cw (pos := 871) rfl rfl, pm_wd_in (pos := 83) (by decide +kernel) rfl, by decide +kernel, ⟨by decide +kernel, by decide +kernel⟩, by decide +kernel, Or.inl ⟨rfl, pm_wd_in (pos := 869) (by decide +kernel) rfl, pm_wd_in (pos := 870) (by decide +kernel) rfl, rfl⟩⟩
set_option maxRecDepth 100000 in
theorem pm_m80 : pm_mOK 80 := ⟨pm_cw (pos := 875) rfl rfl, pm_wd_in (pos := 83) (by decide +kernel) rfl, by decide +kernel, ⟨by decide +kernel, by decide +kernel⟩, by decide +kernel, Or.inl ⟨rfl, pm_wd_in (pos := 874) (by decide +kernel) rfl, pm_wd_in (pos := 29) (by decide +kernel) rfl, rfl⟩⟩
set_option maxRecDepth 100000 in
theorem pm_m81 : pm_mOK 81 := ⟨pm_cw (pos := 884) rfl rfl, pm_wd_in (pos := 83) (by decide +kernel) rfl, by decide +kernel, ⟨by decide +kernel, by decide +kernel⟩, by decide +kernel, Or.inl ⟨rfl, pm_wd_in (pos := 883) (by decide +kernel) rfl, pm_wd_in (pos := 30) (by decide +kernel) rfl, rfl⟩⟩
set_option maxRecDepth 100000 in
theorem pm_m82 : pm_mOK 82 := ⟨pm_cw (pos := 902) rfl rfl, pm_wd_in (pos := 83) (by decide +kernel) rfl, by decide +kernel, ⟨by decide +kernel, by decide +kernel⟩, by decide +kernel, Or.inl ⟨rfl, pm_wd_in (pos := 901) (by decide +kernel) rfl, pm_wd_in (pos := 33) (by decide +kernel) rfl, rfl⟩⟩
set_option maxRecDepth 100000 in
theorem pm_m83 : pm_mOK 83 := ⟨pm_cw (pos := 898) rfl rfl, pm_wd_in (pos := 83) (by decide +kernel) rfl, by decide +kernel, ⟨by decide +kernel, by decide +kernel⟩, by decide +kernel, Or.inl ⟨rfl, pm_wd_in (pos := 897) (by decide +kernel) rfl, pm_wd_in (pos := 32) (by decide +kernel) rfl, rfl⟩⟩
set_option maxRecDepth 100000 in
theorem pm_m84 : pm_mOK 84 := ⟨pm_cw (pos := 889) rfl rfl, pm_wd_in (pos := 83) (by decide +kernel) rfl, by decide +kernel, ⟨by decide +kernel, by decide +kernel⟩, by decide +kernel, Or.inl ⟨rfl, pm_wd_in (pos := 888) (by decide +kernel) rfl, pm_wd_in (pos := 31) (by decide +kernel) rfl, rfl⟩⟩
set_option maxRecDepth 100000 in
theorem pm_m85 : pm_mOK 85 := ⟨pm_cw (pos := 906) rfl rfl, pm_wd_in (pos := 83) (by decide +kernel) rfl, by decide +kernel, ⟨by decide +kernel, by decide +kernel⟩, by decide +kernel, Or.inl ⟨rfl, pm_wd_in (pos := 905) (by decide +kernel) rfl, pm_wd_in (pos := 34) (by decide +kernel) rfl, rfl⟩⟩
set_option maxRecDepth 100000 in
theorem pm_m86 : pm_mOK 86 := ⟨pm_cw (pos := 104) rfl rfl, pm_wd_in (pos := 72) (by decide +kernel) rfl, by decide +kernel, ⟨by decide +kernel, by decide +kernel⟩, by decide +kernel, Or.inr (Or.inr ⟨rfl, pm_wd_in (pos := 103) (by decide +kernel) rfl, rfl, rfl⟩)⟩
set_option maxRecDepth 100000 in
theorem pm_m87 : pm_mOK 87 := ⟨pm_cw (pos := 406) rfl rfl, pm_wd_in (pos := 72) (by decide +kernel) rfl, by decide +kernel, ⟨by decide +kernel, by decide +kernel⟩, by decide +kernel, Or.inr (Or.inl ⟨rfl, pm_wd_in (pos := 405) (by decide +kernel) rfl⟩)⟩
set_option maxRecDepth 100000 in
theorem pm_m88 : pm_mOK 88 := ⟨pm_cw (pos := 412) rfl rfl, pm_wd_in (pos := 72) (by decide +kernel) rfl, by decide +kernel, ⟨by decide +kernel, by decide +kernel⟩, by decide +kernel, Or.inr (Or.inl ⟨rfl, pm_wd_in (pos := 411) (by decide +kernel) rfl⟩)⟩
set_option maxRecDepth 100000 in
theorem pm_m89 : pm_mOK 89 := ⟨pm_cw (pos := 685) rfl rfl, pm_wd_in (pos := 72) (by decide +kernel) rfl, by decide +kernel, ⟨by decide +kernel, by decide +kernel⟩, by decide +kernel, Or.inr (Or.inl ⟨rfl, pm_wd_in (pos := 684) (by decide +kernel) rfl⟩)⟩
set_option maxRecDepth 100000 in
theorem pm_m90 : pm_mOK 90 := ⟨pm_cw (pos := 732) rfl rfl, pm_wd_in (pos := 72) (by decide +kernel) rfl, by decide +kernel, ⟨by decide +kernel, by decide +kernel⟩, by decide +kernel, Or.inr (Or.inl ⟨rfl, pm_wd_in (pos := 731) (by decide +kernel) rfl⟩)⟩
set_option maxRecDepth 100000 in
theorem pm_m91 : pm_mOK 91 := ⟨pm_cw (pos := 409) rfl rfl, pm_wd_in (pos := 72) (by decide +kernel) rfl, by decide +kernel, ⟨by decide +kernel, by decide +kernel⟩, by decide +kernel, Or.inr (Or.inl ⟨rfl, pm_wd_in (pos := 408) (by decide +kernel) rfl⟩)⟩
set_option maxRecDepth 100000 in
theorem pm_m92 : pm_mOK 92 := ⟨pm_cw (pos := 424) rfl rfl, pm_wd_in (pos := 72) (by decide +kernel) rfl, by decide +kernel, ⟨by decide +kernel, by decide +kernel⟩, by decide +kernel, Or.inr (Or.inl ⟨rfl, pm_wd_in (pos := 423) (by decide +kernel) rfl⟩)⟩
set_option maxRecDepth 100000 in
theorem pm_m93 : pm_mOK 93 := ⟨pm_cw (pos := 395) rfl rfl, pm_wd_in (pos := 72) (by decide +kernel) rfl, by decide +kernel, ⟨by decide +kernel, by decide +kernel⟩, by decide +kernel, Or.inl ⟨rfl, pm_wd_in (pos := 393) (by decide +kernel) rfl, pm_wd_in (pos := 394) (by decide +kernel) rfl, rfl⟩⟩
set_option maxRecDepth 100000 in
theorem pm_m94 : pm_mOK 94 := ⟨pm_cw (pos := 403) rfl rfl, pm_wd_in (pos := 72) (by decide +kernel) rfl, by decide +kernel, ⟨by decide +kernel, by decide +kernel⟩, by decide +kernel, Or.inl ⟨rfl, pm_wd_in (pos := 401) (by decide +kernel) rfl, pm_wd_in (pos := 402) (by decide +kernel) rfl, rfl⟩⟩
set_option maxRecDepth 100000 in
theorem pm_m95 : pm_mOK 95 := ⟨pm_cw (pos := 674) rfl rfl, pm_wd_in (pos := 72) (by decide +kernel) rfl, by decide +kernel, ⟨by decide +kernel, by decide +kernel⟩, by decide +kernel, Or.inl ⟨rfl, pm_wd_in (pos := 672) (by decide +kernel) rfl, pm_wd_in (pos := 673) (by decide +kernel) rfl, rfl⟩⟩
set_option maxRecDepth 100000 in
theorem pm_m96 : pm_mOK 96 := ⟨pm_cw (pos := 670) rfl rfl, pm_wd_in (pos := 72) (by decide +kernel) rfl, by decide +kernel, ⟨by decide +kernel, by decide +kernel⟩, by decide +kernel, Or.inl ⟨rfl, pm_wd_in (pos := 668) (by decide +kernel) rfl, pm_wd_in (pos := 669) (by decide +kernel) rfl, rfl⟩⟩
set_option maxRecDepth 100000 in
theorem pm_m97 : pm_mOK 97 := ⟨pm_cw (pos := 826) rfl rfl, pm_wd_in (pos := 72) (by decide +kernel) rfl, by decide +kernel, ⟨by decide +kernel, by decide +kernel⟩, by decide +kernel, Or.inl ⟨rfl, pm_wd_in (pos := 824) (by decide +kernel) rfl, pm_wd_in (pos := 825) (by decide +kernel) rfl, rfl⟩⟩
set_option maxRecDepth 100000 in
theorem pm_m98 : pm_mOK 98 := ⟨pm_cw (pos := 96) rfl rfl, pm_wd_in (pos := 71) (by decide +kernel) rfl, by decide +kernel, ⟨by decide +kernel, by decide +kernel⟩, by decide +kernel, Or.inr (Or.inr ⟨rfl, pm_wd_in (pos := 95) (by decide +kernel) rfl, rfl, rfl⟩)⟩
set_option maxRecDepth 100000 in
theorem pm_m99 : pm_mOK 99 := ⟨pm_cw (pos := 391) rfl rfl, pm_wd_in (pos := 71) (by decide +kernel) rfl, by decide +kernel, ⟨by decide +kernel, by decide +kernel⟩, by decide +kernel, Or.inl ⟨rfl, pm_wd_in (pos := 389) (by decide +kernel) rfl, pm_wd_in (pos := 390) (by decide +kernel) rfl, rfl⟩⟩
set_option maxRecDepth 100000 in
theorem pm_m100 : pm_mOK 100 := ⟨pm_cw (pos := 399) rfl rfl, pm_wd_in (pos := 71) (by decide +kernel) rfl, by decide +kernel, ⟨by decide +kernel, by decide +kernel⟩, by decide +kernel, Or.inl ⟨rfl, pm_wd_in (pos := 397) (by decide +kernel) rfl, pm_wd_in (pos := 398) (by decide +kernel) rfl, rfl⟩⟩
set_option maxRecDepth 100000 in
theorem pm_m101 : pm_mOK 101 := ⟨pm_cw (pos := 416) rfl rfl, pm_wd_in (pos := 71) (by decide +kernel) rfl, by decide +kernel, ⟨by decide +kernel, by decide +kernel⟩, by decide +kernel, Or.inl ⟨rfl, pm_wd_in (pos := 414) (by decide +kernel) rfl, pm_wd_in (pos := 415) (by decide +kernel) rfl, rfl⟩⟩
set_option maxRecDepth 100000 in
theorem pm_m102 : pm_mOK 102 := ⟨pm_cw (pos := 428) rfl rfl, pm_wd_in (pos := 71) (by decide +kernel) rfl, by decide +kernel, ⟨by decide +kernel, by decide +kernel⟩, by decide +kernel, Or.inl ⟨rfl, pm_wd_in (pos := 426) (by decide +kernel) rfl, pm_wd_in (pos := 427) (by decide +kernel) rfl, rfl⟩⟩
set_option maxRecDepth 100000 in
theorem pm_m103 : pm_mOK 103 := ⟨pm_cw (pos := 432) rfl rfl, pm_wd_in (pos := 71) (by decide +kernel) rfl, by decide +kernel, ⟨by decide +kernel, by decide +kernel⟩, by decide +kernel, Or.inl ⟨rfl, pm_wd_in (pos := 430) (by decide +kernel) rfl, pm_wd_in (pos := 431) (by decide +kernel) rfl, rfl⟩⟩
set_option maxRecDepth 100000 in
theorem pm_m104 : pm_mOK 104 := ⟨pm_cw (pos := 441) rfl rfl, pm_wd_in (pos := 71) (by decide +kernel) rfl, by decide +kernel, ⟨by decide +kernel, by decide +kernel⟩, by decide +kernel, Or.inl ⟨rfl, pm_wd_in (pos := 439) (by decide +kernel) rfl, pm_wd_in (pos := 440) (by decide +kernel) rfl, rfl⟩⟩
set_option maxRecDepth 100000 in
theorem pm_m105 : pm_mOK 105 := ⟨pm_cw (pos := 449) rfl rfl, pm_wd_in (pos := 71) (by decide +kernel) rfl, by decide +kernel, ⟨by decide +kernel, by decide +kernel⟩, by decide +kernel, Or.inl ⟨rfl, pm_wd_in (pos := 447) (by decide +kernel) rfl, pm_wd_in (pos := 448) (by decide +kernel) rfl, rfl⟩⟩
set_option maxRecDepth 100000 in
theorem pm_m106 : pm_mOK 106 := ⟨pm_cw (pos := 453) rfl rfl, pm_wd_in (pos := 71) (by decide +kernel) rfl, by decide +kernel, ⟨by decide +kernel, by decide +kernel⟩, by decide +kernel, Or.inl ⟨rfl, pm_wd_in (pos := 451) (by decide +kernel) rfl, pm_wd_in (pos := 452) (by decide +kernel) rfl, rfl⟩⟩
set_option maxRecDepth 100000 in
theorem pm_m107 : pm_mOK 107 := ⟨pm_cw (pos := 465) rfl rfl, pm_wd_in (pos := 71) (by decide +kernel) rfl, by decide +kernel, ⟨by decide +kernel, by decide +kernel⟩, by decide +kernel, Or.inl ⟨rfl, pm_wd_in (pos := 463) (by decide +kernel) rfl, pm_wd_in (pos := 464) (by decide +kernel) rfl, rfl⟩⟩
set_option maxRecDepth 100000 in
theorem pm_m108 : pm_mOK 108 := ⟨pm_cw (pos := 589) rfl rfl, pm_wd_in (pos := 71) (by decide +kernel) rfl, by decide +kernel, ⟨by decide +kernel, by decide +kernel⟩, by decide +kernel, Or.inl ⟨rfl, pm_wd_in (pos := 587) (by decide +kernel) rfl, pm_wd_in (pos := 588) (by decide +kernel) rfl, rfl⟩⟩
set_option maxRecDepth 100000 in
theorem pm_m109 : pm_mOK 109 := ⟨pm_cw (pos := 612) rfl rfl, pm_wd_in (pos := 71) (by decide +kernel) rfl, by decide +kernel, ⟨by decide +kernel, by decide +kernel⟩, by decide +kernel, Or.inl ⟨rfl, pm_wd_in (pos := 610) (by decide +kernel) rfl, pm_wd_in (pos := 611) (by decide +kernel) rfl, rfl⟩⟩
set_option maxRecDepth 100000 in
theorem pm_m110 : pm_mOK 110 := ⟨pm_cw (pos := 801) rfl rfl, pm_wd_in (pos := 71) (by decide +kernel) rfl, by decide +kernel, ⟨by decide +kernel, by decide +kernel⟩, by decide +kernel, Or.inl ⟨rfl, pm_wd_in (pos := 799) (by decide +kernel) rfl, pm_wd_in (pos := 800) (by decide +kernel) rfl, rfl⟩⟩
set_option maxRecDepth 100000 in
theorem pm_m111 : pm_mOK 111 := ⟨pm_cw (pos := 933) rfl rfl, pm_wd_in (pos := 84) (by decide +kernel) rfl, by decide +kernel, ⟨by decide +kernel, by decide +kernel⟩, by decide +kernel, Or.inr (Or.inr ⟨rfl, pm_wd_in (pos := 932) (by decide +kernel) rfl, rfl, rfl⟩)⟩
set_option maxRecDepth 100000 in
theorem pm_m112 : pm_mOK 112 := ⟨pm_cw (pos := 1035) rfl rfl, pm_wd_in (pos := 84) (by decide +kernel) rfl, by decide +kernel, ⟨by decide +kernel, by decide +kernel⟩, by decide +kernel, Or.inl ⟨rfl, pm_wd_in (pos := 1033) (by decide +kernel) rfl, pm_wd_in (pos := 1034) (by decide +kernel) rfl, rfl⟩⟩
set_option maxRecDepth 100000 in
theorem pm_m113 : pm_mOK 113 := ⟨pm_cw (pos := 1049) rfl rfl, pm_wd_in (pos := 84) (by decide +kernel) rfl, by decide +kernel, ⟨by decide +kernel, by decide +kernel⟩, by decide +kernel, Or.inr (Or.inl ⟨rfl, pm_wd_in (pos := 1048) (by decide +kernel) rfl⟩)⟩
set_option maxRecDepth 100000 in
theorem pm_m114 : pm_mOK 114 := ⟨pm_cw (pos := 1046) rfl rfl, pm_wd_in (pos := 84) (by decide +kernel) rfl, by decide +kernel, ⟨by decide +kernel, by decide +kernel⟩, by decide +kernel, Or.inr (Or.inl ⟨rfl, pm_wd_in (pos := 1045) (by decide +kernel) rfl⟩)⟩
set_option maxRecDepth 100000 in
theorem pm_m115 : pm_mOK 115 := ⟨pm_cw (pos := 1155) rfl rfl, pm_wd_in (pos := 84) (by decide +kernel) rfl, by decide +kernel, ⟨by decide +kernel, by decide +kernel⟩, by decide +kernel, Or.inr (Or.inl ⟨rfl, pm_wd_in (pos := 1154) (by decide +kernel) rfl⟩)⟩
set_option maxRecDepth 100000 in
theorem pm_m116 : pm_mOK 116 := ⟨pm_cw (pos := 1148) rfl rfl, pm_wd_in (pos := 84) (by decide +kernel) rfl, by decide +kernel, ⟨by decide +kernel, by decide +kernel⟩, by decide +kernel, Or.inl ⟨rfl, pm_wd_in (pos := 1147) (by decide +kernel) rfl, pm_wd_in (pos := 48) (by decide +kernel) rfl, rfl⟩⟩
set_option maxRecDepth 100000 in
theorem pm_m117 : pm_mOK 117 := ⟨pm_cw (pos := 1144) rfl rfl, pm_wd_in (pos := 84) (by decide +kernel) rfl, by decide +kernel, ⟨by decide +kernel, by decide +kernel⟩, by decide +kernel, Or.inl ⟨rfl, pm_wd_in (pos := 1143) (by decide +kernel) rfl, pm_wd_in (pos := 47) (by decide +kernel) rfl, rfl⟩⟩
set_option maxRecDepth 100000 in
theorem pm_m118 : pm_mOK 118 := ⟨pm_cw (pos := 1221) rfl rfl, pm_wd_in (pos := 84) (by decide +kernel) rfl, by decide +kernel, ⟨by decide +kernel, by decide +kernel⟩, by decide +kernel, Or.inl ⟨rfl, pm_wd_in (pos := 1220) (by decide +kernel) rfl, pm_wd_in (pos := 63) (by decide +kernel) rfl, rfl⟩⟩
set_option maxRecDepth 100000 in
theorem pm_m119 : pm_mOK 119 := ⟨pm_cw (pos := 1039) rfl rfl, pm_wd_in (pos := 84) (by decide +kernel) rfl, by decide +kernel, ⟨by decide +kernel, by decide +kernel⟩, by decide +kernel, Or.inl ⟨rfl, pm_wd_in (pos := 1037) (by decide +kernel) rfl, pm_wd_in (pos := 1038) (by decide +kernel) rfl, rfl⟩⟩
set_option maxRecDepth 100000 in
theorem pm_m120 : pm_mOK 120 := ⟨pm_cw (pos := 1043) rfl rfl, pm_wd_in (pos := 84) (by decide +kernel) rfl, by decide +kernel, ⟨by decide +kernel, by decide +kernel⟩, by decide +kernel, Or.inl ⟨rfl, pm_wd_in (pos := 1041) (by decide +kernel) rfl, pm_wd_in (pos := 1042) (by decide +kernel) rfl, rfl⟩⟩
set_option maxRecDepth 100000 in
theorem pm_m121 : pm_mOK 121 := ⟨pm_cw (pos := 1056) rfl rfl, pm_wd_in (pos := 84) (by decide +kernel) rfl, by decide +kernel, ⟨by decide +kernel, by decide +kernel⟩, by decide +kernel, Or.inr (Or.inl ⟨rfl, pm_wd_in (pos := 1055) (by decide +kernel) rfl⟩)⟩
set_option maxRecDepth 100000 in
theorem pm_m122 : pm_mOK 122 := ⟨pm_cw (pos := 1053) rfl rfl, pm_wd_in (pos := 84) (by decide +kernel) rfl, by decide +kernel, ⟨by decide +kernel, by decide +kernel⟩, by decide +kernel, Or.inl ⟨rfl, pm_wd_in (pos := 1051) (by decide +kernel) rfl, pm_wd_in (pos := 1052) (by decide +kernel) rfl, rfl⟩⟩
set_option maxRecDepth 100000 in
theorem pm_m123 : pm_mOK 123 := ⟨pm_cw (pos := 1060) rfl rfl, pm_wd_in (pos := 84) (by decide +kernel) rfl, by decide +kernel, ⟨by decide +kernel, by decide +kernel⟩, by decide +kernel, Or.inl ⟨rfl, pm_wd_in (pos := 1058) (by decide +kernel) rfl, pm_wd_in (pos := 1059) (by decide +kernel) rfl, rfl⟩⟩
set_option maxRecDepth 100000 in
theorem pm_m124 : pm_mOK 124 := ⟨pm_cw (pos := 1064) rfl rfl, pm_wd_in (pos := 84) (by decide +kernel) rfl, by decide +kernel, ⟨by decide +kernel, by decide +kernel⟩, by decide +kernel, Or.inl ⟨rfl, pm_wd_in (pos := 1062) (by decide +kernel) rfl, pm_wd_in (pos := 1063) (by decide +kernel) rfl, rfl⟩⟩
set_option maxRecDepth 100000 in
theorem pm_m125 : pm_mOK 125 := ⟨pm_cw (pos := 1069) rfl rfl, pm_wd_in (pos := 84) (by decide +kernel) rfl, by decide +kernel, ⟨by decide +kernel, by decide +kernel⟩, by decide +kernel, Or.inl ⟨rfl, pm_wd_in (pos := 1067) (by decide +kernel) rfl, pm_wd_in (pos := 1068) (by decide +kernel) rfl, rfl⟩⟩
set_option maxRecDepth 100000 in
theorem pm_m126 : pm_mOK 126 := ⟨pm_cw (pos := 1073) rfl rfl, pm_wd_in (pos := 84) (by decide +kernel) rfl, by decide +kernel, ⟨by decide +kernel, by decide +kernel⟩, by decide +kernel, Or.inl ⟨rfl, pm_wd_in (pos := 1071) (by decide +kernel) rfl, pm_wd_in (pos := 1072) (by decide +kernel) rfl, rfl⟩⟩
set_option maxRecDepth 100000 in
theorem pm_m127 : pm_mOK 127 := ⟨pm_cw (pos := 1077) rfl rfl, pm_wd_in (pos := 84) (by decide +kernel) rfl, by decide +kernel, ⟨by decide +kernel, by decide +kernel⟩, by decide +kernel, Or.inl ⟨rfl, pm_wd_in (pos := 1075) (by decide +kernel) rfl, pm_wd_in (pos := 1076) (by decide +kernel) rfl, rfl⟩⟩
set_option maxRecDepth 100000 in
theorem pm_m128 : pm_mOK 128 := ⟨pm_cw (pos := 1089) rfl rfl, pm_wd_in (pos := 84) (by decide +kernel) rfl, by decide +kernel, ⟨by decide +kernel, by decide +kernel⟩, by decide +kernel, Or.inl ⟨rfl, pm_wd_in (pos := 1088) (by decide +kernel) rfl, pm_wd_in (pos := 36) (by decide +kernel) rfl, rfl⟩⟩
set_option maxRecDepth 100000 in
theorem pm_m129 : pm_mOK 129 := ⟨pm_cw (pos := 1101) rfl rfl, pm_wd_in (pos := 84) (by decide +kernel) rfl, by decide +kernel, ⟨by decide +kernel, by decide +kernel⟩, by decide +kernel, Or.inl ⟨rfl, pm_wd_in (pos := 1100) (by decide +kernel) rfl, pm_wd_in (pos := 39) (by decide +kernel) rfl, rfl⟩⟩
set_option maxRecDepth 100000 in
theorem pm_m130 : pm_mOK 130 := ⟨pm_cw (pos := 1105) rfl rfl, pm_wd_in (pos := 84) (by decide +kernel) rfl, by decide +kernel, ⟨by decide +kernel, by decide +kernel⟩, by decide +kernel, Or.inl ⟨rfl, pm_wd_in (pos := 1104) (by decide +kernel) rfl, pm_wd_in (pos := 40) (by decide +kernel) rfl, rfl⟩⟩
set_option maxRecDepth 100000 in
theorem pm_m131 : pm_mOK 131 := ⟨pm_cw (pos := 1097) rfl rfl, pm_wd_in (pos := 84) (by decide +kernel) rfl, by decide +kernel, ⟨by decide +kernel, by decide +kernel⟩, by decide +kernel, Or.inl ⟨rfl, pm_wd_in (pos := 1096) (by decide +kernel) rfl, pm_wd_in (pos := 38) (by decide +kernel) rfl, rfl⟩⟩
set_option maxRecDepth 100000 in
theorem pm_m132 : pm_mOK 132 := ⟨pm_cw (pos := 1093) rfl rfl, pm_wd_in (pos := 84) (by decide +kernel) rfl, by decide +kernel, ⟨by decide +kernel, by decide +kernel⟩, by decide +kernel, Or.inl ⟨rfl, pm_wd_in (pos := 1092) (by decide +kernel) rfl, pm_wd_in (pos := 37) (by decide +kernel) rfl, rfl⟩⟩
set_option maxRecDepth 100000 in
theorem pm_m133 : pm_mOK 133 := ⟨pm_cw (pos := 1085) rfl rfl, pm_wd_in (pos := 84) (by decide +kernel) rfl, by decide +kernel, ⟨by decide +kernel, by decide +kernel⟩, by decide +kernel, Or.inl ⟨rfl, pm_wd_in (pos := 1084) (by decide +kernel) rfl, pm_wd_in (pos := 35) (by decide +kernel) rfl, rfl⟩⟩
set_option maxRecDepth 100000 in
theorem pm_m134 : pm_mOK 134 := ⟨pm_cw (pos := 1081) rfl rfl, pm_wd_in (pos := 84) (by decide +kernel) rfl, by decide +kernel, ⟨by decide +kernel, by decide +kernel⟩, by decide +kernel, Or.inl ⟨rfl, pm_wd_in (pos := 1079) (by decide +kernel) rfl, pm_wd_in (pos := 1080) (by decide +kernel) rfl, rfl⟩⟩
set_option maxRecDepth 100000 in
theorem pm_m135 : pm_mOK 135 := ⟨pm_cw (pos := 1109) rfl rfl, pm_wd_in (pos := 84) (by decide +kernel) rfl, by decide +kernel, ⟨by decide +kernel, by decide +kernel⟩, by decide +kernel, Or.inl ⟨rfl, pm_wd_in (pos := 1107) (by decide +kernel) rfl, pm_wd_in (pos := 1108) (by decide +kernel) rfl, rfl⟩⟩
set_option maxRecDepth 100000 in
theorem pm_m136 : pm_mOK 136 := ⟨pm_cw (pos := 1124) rfl rfl, pm_wd_in (pos := 84) (by decide +kernel) rfl, by decide +kernel, ⟨by decide +kernel, by decide +kernel⟩, by decide +kernel, Or.inr (Or.inl ⟨rfl, pm_wd_in (pos := 1123) (by decide +kernel) rfl⟩)⟩
set_option maxRecDepth 100000 in
theorem pm_m137 : pm_mOK 137 := ⟨pm_cw (pos := 1121) rfl rfl, pm_wd_in (pos := 84) (by decide +kernel) rfl, by decide +kernel, ⟨by decide +kernel, by decide +kernel⟩, by decide +kernel, Or.inl ⟨rfl, pm_wd_in (pos := 1120) (by decide +kernel) rfl, pm_wd_in (pos := 42) (by decide +kernel) rfl, rfl⟩⟩
set_option maxRecDepth 100000 in
theorem pm_m138 : pm_mOK 138 := ⟨pm_cw (pos := 1117) rfl rfl, pm_wd_in (pos := 84) (by decide +kernel) rfl, by decide +kernel, ⟨by decide +kernel, by decide +kernel⟩, by decide +kernel, Or.inl ⟨rfl, pm_wd_in (pos := 1116) (by decide +kernel) rfl, pm_wd_in (pos := 41) (by decide +kernel) rfl, rfl⟩⟩
set_option maxRecDepth 100000 in
theorem pm_m139 : pm_mOK 139 := ⟨pm_cw (pos := 1159) rfl rfl, pm_wd_in (pos := 84) (by decide +kernel) rfl, by decide +kernel, ⟨by decide +kernel, by decide +kernel⟩, by decide +kernel, Or.inl ⟨rfl, pm_wd_in (pos := 1158) (by decide +kernel) rfl, pm_wd_in (pos := 50) (by decide +kernel) rfl, rfl⟩⟩
set_option maxRecDepth 100000 in
theorem pm_m140 : pm_mOK 140 := ⟨pm_cw (pos := 1177) rfl rfl, pm_wd_in (pos := 84) (by decide +kernel) rfl, by decide +kernel, ⟨by decide +kernel, by decide +kernel⟩, by decide +kernel, Or.inr (Or.inl ⟨rfl, pm_wd_in (pos := 1176) (by decide +kernel) rfl⟩)⟩
set_option maxRecDepth 100000 in
theorem pm_m141 : pm_mOK 141 := ⟨pm_cw (pos := 1166) rfl rfl, pm_wd_in (pos := 84) (by decide +kernel) rfl, by decide +kernel, ⟨by decide +kernel, by decide +kernel⟩, by decide +kernel, Or.inr (Or.inl ⟨rfl, pm_wd_in (pos := 1165) (by decide +kernel) rfl⟩)⟩
set_option maxRecDepth 100000 in
theorem pm_m142 : pm_mOK 142 := ⟨pm_cw (pos := 1170) rfl rfl, pm_wd_in (pos := 84) (by decide +kernel) rfl, by decide +kernel, ⟨by decide +kernel, by decide +kernel⟩, by decide +kernel, Or.inl ⟨rfl, pm_wd_in (pos := 1169) (by decide +kernel) rfl, pm_wd_in (pos := 52) (by decide +kernel) rfl, rfl⟩⟩
set_option maxRecDepth 100000 in
theorem pm_m143 : pm_mOK 143 := ⟨pm_cw (pos := 1181) rfl rfl, pm_wd_in (pos := 84) (by decide +kernel) rfl, by decide +kernel, ⟨by decide +kernel, by decide +kernel⟩, by decide +kernel, Or.inl ⟨rfl, pm_wd_in (pos := 1180) (by decide +kernel) rfl, pm_wd_in (pos := 54) (by decide +kernel) rfl, rfl⟩⟩
set_option maxRecDepth 100000 in
theorem pm_m144 : pm_mOK 144 := ⟨pm_cw (pos := 1174) rfl rfl, pm_wd_in (pos := 84) (by decide +kernel) rfl, by decide +kernel, ⟨by decide +kernel, by decide +kernel⟩, by decide +kernel, Or.inl ⟨rfl, pm_wd_in (pos := 1173) (by decide +kernel) rfl, pm_wd_in (pos := 53) (by decide +kernel) rfl, rfl⟩⟩
set_option maxRecDepth 100000 in
theorem pm_m145 : pm_mOK 145 := ⟨pm_cw (pos := 1185) rfl rfl, pm_wd_in (pos := 84) (by decide +kernel) rfl, by decide +kernel, ⟨by decide +kernel, by decide +kernel⟩, by decide +kernel, Or.inl ⟨rfl, pm_wd_in (pos := 1184) (by decide +kernel) rfl, pm_wd_in (pos := 55) (by decide +kernel) rfl, rfl⟩⟩
set_option maxRecDepth 100000 in
theorem pm_m146 : pm_mOK 146 := ⟨pm_cw (pos := 1189) rfl rfl, pm_wd_in (pos := 84) (by decide +kernel) rfl, by decide +kernel, ⟨by decide +kernel, by decide +kernel⟩, by decide +kernel, Or.inl ⟨rfl, pm_wd_in (pos := 1188) (by decide +kernel) rfl, pm_wd_in (pos := 56) (by decide +kernel) rfl, rfl⟩⟩
set_option maxRecDepth 100000 in
theorem pm_m147 : pm_mOK 147 := ⟨pm_cw (pos := 1193) rfl rfl, pm_wd_in (pos := 84) (by decide +kernel) rfl, by decide +kernel, ⟨by decide +kernel, by decide +kernel⟩, by decide +kernel, Or.inl ⟨rfl, pm_wd_in (pos := 1192) (by decide +kernel) rfl, pm_wd_in (pos := 57) (by decide +kernel) rfl, rfl⟩⟩
set_option maxRecDepth 100000 in
theorem pm_m148 : pm_mOK 148 := ⟨pm_cw (pos := 1201) rfl rfl, pm_wd_in (pos := 84) (by decide +kernel) rfl, by decide +kernel, ⟨by decide +kernel, by decide +kernel⟩, by decide +kernel, Or.inl ⟨rfl, pm_wd_in (pos := 1200) (by decide +kernel) rfl, pm_wd_in (pos := 59) (by decide +kernel) rfl, rfl⟩⟩
set_option maxRecDepth 100000 in
theorem pm_m149 : pm_mOK 149 := ⟨pm_cw (pos := 1205) rfl rfl, pm_wd_in (pos := 84) (by decide +kernel) rfl, by decide +kernel, ⟨by decide +kernel, by decide +kernel⟩, by decide +kernel, Or.inl ⟨rfl, pm_wd_in (pos := 1204) (by decide +kernel) rfl, pm_wd_in (pos := 60) (by decide +kernel) rfl, rfl⟩⟩
set_option maxRecDepth 100000 in
theorem pm_m150 : pm_mOK 150 := ⟨pm_cw (pos := 1197) rfl rfl, pm_wd_in (pos := 84) (by decide +kernel) rfl, by decide +kernel, ⟨by decide +kernel, by decide +kernel⟩, by decide +kernel, Or.inl ⟨rfl, pm_wd_in (pos := 1196) (by decide +kernel) rfl, pm_wd_in (pos := 58) (by decide +kernel) rfl, rfl⟩⟩
set_option maxRecDepth 100000 in
theorem pm_m151 : pm_mOK 151 := ⟨pm_cw (pos := 1163) rfl rfl, pm_wd_in (pos := 84) (by decide +kernel) rfl, by decide +kernel, ⟨by decide +kernel, by decide +kernel⟩, by decide +kernel, Or.inl ⟨rfl, pm_wd_in (pos := 1162) (by decide +kernel) rfl, pm_wd_in (pos := 51) (by decide +kernel) rfl, rfl⟩⟩
set_option maxRecDepth 100000 in
theorem pm_m152 : pm_mOK 152 := ⟨pm_cw (pos := 1128) rfl rfl, pm_wd_in (pos := 84) (by decide +kernel) rfl, by decide +kernel, ⟨by decide +kernel, by decide +kernel⟩, by decide +kernel, Or.inl ⟨rfl, pm_wd_in (pos := 1127) (by decide +kernel) rfl, pm_wd_in (pos := 43) (by decide +kernel) rfl, rfl⟩⟩
set_option maxRecDepth 100000 in
theorem pm_m153 : pm_mOK 153 := ⟨pm_cw (pos := 1136) rfl rfl, pm_wd_in (pos := 84) (by decide +kernel) rfl, by decide +kernel, ⟨by decide +kernel, by decide +kernel⟩, by decide +kernel, Or.inl ⟨rfl, pm_wd_in (pos := 1135) (by decide +kernel) rfl, pm_wd_in (pos := 45) (by decide +kernel) rfl, rfl⟩⟩
set_option maxRecDepth 100000 in
theorem pm_m154 : pm_mOK 154 := ⟨pm_cw (pos := 1140) rfl rfl, pm_wd_in (pos := 84) (by decide +kernel) rfl, by decide +kernel, ⟨by decide +kernel, by decide +kernel⟩, by decide +kernel, Or.inl ⟨rfl, pm_wd_in (pos := 1139) (by decide +kernel) rfl, pm_wd_in (pos := 46) (by decide +kernel) rfl, rfl⟩⟩
set_option maxRecDepth 100000 in
theorem pm_m155 : pm_mOK 155 := ⟨pm_cw (pos := 1152) rfl rfl, pm_wd_in (pos := 84) (by decide +kernel) rfl, by decide +kernel, ⟨by decide +kernel, by decide +kernel⟩, by decide +kernel, Or.inl ⟨rfl, pm_wd_in (pos := 1151) (by decide +kernel) rfl, pm_wd_in (pos := 49) (by decide +kernel) rfl, rfl⟩⟩
set_option maxRecDepth 100000 in
theorem pm_m156 : pm_mOK 156 := ⟨pm_cw (pos := 1132) rfl rfl, pm_wd_in (pos := 84) (by decide +kernel) rfl, by decide +kernel, ⟨by decide +kernel, by decide +kernel⟩, by decide +kernel, Or.inl ⟨rfl, pm_wd_in (pos := 1131) (by decide +kernel) rfl, pm_wd_in (pos := 44) (by decide +kernel) rfl, rfl⟩⟩
set_option maxRecDepth 100000 in
theorem pm_m157 : pm_mOK 157 := ⟨pm_cw (pos := 1113) rfl rfl, pm_wd_in (pos := 84) (by decide +kernel) rfl, by decide +kernel, ⟨by decide +kernel, by decide +kernel⟩, by decide +kernel, Or.inl ⟨rfl, pm_wd_in (pos := 1111) (by decide +kernel) rfl, pm_wd_in (pos := 1112) (by decide +kernel) rfl, rfl⟩⟩
set_option maxRecDepth 100000 in
theorem pm_m158 : pm_mOK 158 := ⟨pm_cw (pos := 1217) rfl rfl, pm_wd_in (pos := 84) (by decide +kernel) rfl, by decide +kernel, ⟨by decide +kernel, by decide +kernel⟩, by decide +kernel, Or.inl ⟨rfl, pm_wd_in (pos := 1216) (by decide +kernel) rfl, pm_wd_in (pos := 62) (by decide +kernel) rfl, rfl⟩⟩
set_option maxRecDepth 100000 in
theorem pm_m159 : pm_mOK 159 := ⟨pm_cw (pos := 1225) rfl rfl, pm_wd_in (pos := 84) (by decide +kernel) rfl, by decide +kernel, ⟨by decide +kernel, by decide +kernel⟩, by decide +kernel, Or.inl ⟨rfl, pm_wd_in (pos := 1224) (by decide +kernel) rfl, pm_wd_in (pos := 64) (by decide +kernel) rfl, rfl⟩⟩
set_option maxRecDepth 100000 in
theorem pm_m160 : pm_mOK 160 := ⟨pm_cw (pos := 1229) rfl rfl, pm_wd_in (pos := 84) (by decide +kernel) rfl, by decide +kernel, ⟨by decide +kernel, by decide +kernel⟩, by decide +kernel, Or.inl ⟨rfl, pm_wd_in (pos := 1228) (by decide +kernel) rfl, pm_wd_in (pos := 65) (by decide +kernel) rfl, rfl⟩⟩
set_option maxRecDepth 100000 in
theorem pm_m161 : pm_mOK 161 := ⟨pm_cw (pos := 1213) rfl rfl, pm_wd_in (pos := 84) (by decide +kernel) rfl, by decide +kernel, ⟨by decide +kernel, by decide +kernel⟩, by decide +kernel, Or.inl ⟨rfl, pm_wd_in (pos := 1212) (by decide +kernel) rfl, pm_wd_in (pos := 61) (by decide +kernel) rfl, rfl⟩⟩
set_option maxRecDepth 100000 in
theorem pm_m162 : pm_mOK 162 := ⟨pm_cw (pos := 1241) rfl rfl, pm_wd_in (pos := 84) (by decide +kernel) rfl, by decide +kernel, ⟨by decide +kernel, by decide +kernel⟩, by decide +kernel, Or.inl ⟨rfl, pm_wd_in (pos := 1240) (by decide +kernel) rfl, pm_wd_in (pos := 68) (by decide +kernel) rfl, rfl⟩⟩
set_option maxRecDepth 100000 in
theorem pm_m163 : pm_mOK 163 := ⟨pm_cw (pos := 1245) rfl rfl, pm_wd_in (pos := 84) (by decide +kernel) rfl, by decide +kernel, ⟨by decide +kernel, by decide +kernel⟩, by decide +kernel, Or.inl ⟨rfl, pm_wd_in (pos := 1244) (by decide +kernel) rfl, pm_wd_in (pos := 69) (by decide +kernel) rfl, rfl⟩⟩
set_option maxRecDepth 100000 in
theorem pm_m164 : pm_mOK 164 := ⟨pm_cw (pos := 1237) rfl rfl, pm_wd_in (pos := 84) (by decide +kernel) rfl, by decide +kernel, ⟨by decide +kernel, by decide +kernel⟩, by decide +kernel, Or.inl ⟨rfl, pm_wd_in (pos := 1236) (by decide +kernel) rfl, pm_wd_in (pos := 67) (by decide +kernel) rfl, rfl⟩⟩
set_option maxRecDepth 100000 in
theorem pm_m165 : pm_mOK 165 := ⟨pm_cw (pos := 1233) rfl rfl, pm_wd_in (pos := 84) (by decide +kernel) rfl, by decide +kernel, ⟨by decide +kernel, by decide +kernel⟩, by decide +kernel, Or.inl ⟨rfl, pm_wd_in (pos := 1232) (by decide +kernel) rfl, pm_wd_in (pos := 66) (by decide +kernel) rfl, rfl⟩⟩
set_option maxRecDepth 100000 in
theorem pm_m166 : pm_mOK 166 := ⟨pm_cw (pos := 1209) rfl rfl, pm_wd_in (pos := 84) (by decide +kernel) rfl, by decide +kernel, ⟨by decide +kernel, by decide +kernel⟩, by decide +kernel, Or.inl ⟨rfl, pm_wd_in (pos := 1207) (by decide +kernel) rfl, pm_wd_in (pos := 1208) (by decide +kernel) rfl, rfl⟩⟩
set_option maxRecDepth 100000 in
theorem pm_m167 : pm_mOK 167 := ⟨pm_cw (pos := 134) rfl rfl, pm_wd_in (pos := 74) (by decide +kernel) rfl, by decide +kernel, ⟨by decide +kernel, by decide +kernel⟩, by decide +kernel, Or.inr (Or.inl ⟨rfl, pm_wd_in (pos := 133) (by decide +kernel) rfl⟩)⟩
theorem pm_mok : ∀ k, k < 168 → pm_mOK k := by
  intro k hk
  match k, hk with
  | 0, _ => exact pm_m0
  | 1, _ => exact pm_m1
  | 2, _ => exact pm_m2
  | 3, _ => exact pm_m3
  | 4, _ => exact pm_m4
  | 5, _ => exact pm_m5
  | 6, _ => exact pm_m6
  | 7, _ => exact pm_m7
  | 8, _ => exact pm_m8
  | 9, _ => exact pm_m9
  | 10, _ => exact pm_m10
  | 11, _ => exact pm_m11
  | 12, _ => exact pm_m12
  | 13, _ => exact pm_m13
  | 14, _ => exact pm_m14
  | 15, _ => exact pm_m15
  | 16, _ => exact pm_m16
  | 17, _ => exact pm_m17
  | 18, _ => exact pm_m18
  | 19, _ => exact pm_m19
  | 20, _ => exact pm_m20
  | 21, _ => exact pm_m21
  | 22, _ => exact pm_m22
  | 23, _ => exact pm_m23
  | 24, _ => exact pm_m24
  | 25, _ => exact pm_m25
  | 26, _ => exact pm_m26
  | 27, _ => exact pm_m27
  | 28, _ => exact pm_m28
  | 29, _ => exact pm_m29
  | 30, _ => exact pm_m30
  | 31, _ => exact pm_m31
  | 32, _ => exact pm_m32
  | 33, _ => exact pm_m33
  | 34, _ => exact pm_m34
  | 35, _ => exact pm_m35
  | 36, _ => exact pm_m36
  | 37, _ => exact pm_m37
  | 38, _ => exact pm_m38
  | 39, _ => exact pm_m39
  | 40, _ => exact pm_m40
  | 41, _ => exact pm_m41
  | 42, _ => exact pm_m42
  | 43, _ => exact pm_m43
  | 44, _ => exact pm_m44
  | 45, _ => exact pm_m45
  | 46, _ => exact pm_m46
  | 47, _ => exact pm_m47
  | 48, _ => exact pm_m48
  | 49, _ => exact pm_m49
  | 50, _ => exact pm_m50
  | 51, _ => exact pm_m51
  | 52, _ => exact pm_m52
  | 53, _ => exact pm_m53
  | 54, _ => exact pm_m54
  | 55, _ => exact pm_m55
  | 56, _ => exact pm_m56
  | 57, _ => exact pm_m57
  | 58, _ => exact pm_m58
  | 59, _ => exact pm_m59
  | 60, _ => exact pm_m60
  | 61, _ => exact pm_m61
  | 62, _ => exact pm_m62
  | 63, _ => exact pm_m63
  | 64, _ => exact pm_m64
  | 65, _ => exact pm_m65
  | 66, _ => exact pm_m66
  | 67, _ => exact pm_m67
  | 68, _ => exact pm_m68
  | 69, _ => exact pm_m69
  | 70, _ => exact pm_m70
  | 71, _ => exact pm_m71
  | 72, _ => exact pm_m72
  | 73, _ => exact pm_m73
  | 74, _ => exact pm_m74
  | 75, _ => exact pm_m75
  | 76, _ => exact pm_m76
  | 77, _ => exact pm_m77
  | 78, _ => exact pm_m78
  | 79, _ => exact pm_m79
  | 80, _ => exact pm_m80
  | 81, _ => exact pm_m81
  | 82, _ => exact pm_m82
  | 83, _ => exact pm_m83
  | 84, _ => exact pm_m84
  | 85, _ => exact pm_m85
  | 86, _ => exact pm_m86
  | 87, _ => exact pm_m87
  | 88, _ => exact pm_m88
  | 89, _ => exact pm_m89
  | 90, _ => exact pm_m90
  | 91, _ => exact pm_m91
  | 92, _ => exact pm_m92
  | 93, _ => exact pm_m93
  | 94, _ => exact pm_m94
  | 95, _ => exact pm_m95
  | 96, _ => exact pm_m96
  | 97, _ => exact pm_m97
  | 98, _ => exact pm_m98
  | 99, _ => exact pm_m99
  | 100, _ => exact pm_m100
  | 101, _ => exact pm_m101
  | 102, _ => exact pm_m102
  | 103, _ => exact pm_m103
  | 104, _ => exact pm_m104
  | 105, _ => exact pm_m105
  | 106, _ => exact pm_m106
  | 107, _ => exact pm_m107
  | 108, _ => exact pm_m108
  | 109, _ => exact pm_m109
  | 110, _ => exact pm_m110
  | 111, _ => exact pm_m111
  | 112, _ => exact pm_m112
  | 113, _ => exact pm_m113
  | 114, _ => exact pm_m114
  | 115, _ => exact pm_m115
  | 116, _ => exact pm_m116
  | 117, _ => exact pm_m117
  | 118, _ => exact pm_m118
  | 119, _ => exact pm_m119
  | 120, _ => exact pm_m120
  | 121, _ => exact pm_m121
  | 122, _ => exact pm_m122
  | 123, _ => exact pm_m123
  | 124, _ => exact pm_m124
  | 125, _ => exact pm_m125
  | 126, _ => exact pm_m126
  | 127, _ => exact pm_m127
  | 128, _ => exact pm_m128
  | 129, _ => exact pm_m129
  | 130, _ => exact pm_m130
  | 131, _ => exact pm_m131
  | 132, _ => exact pm_m132
  | 133, _ => exact pm_m133
  | 134, _ => exact pm_m134
  | 135, _ => exact pm_m135
  | 136, _ => exact pm_m136
  | 137, _ => exact pm_m137
  | 138, _ => exact pm_m138
  | 139, _ => exact pm_m139
  | 140, _ => exact pm_m140
  | 141, _ => exact pm_m141
  | 142, _ => exact pm_m142
  | 143, _ => exact pm_m143
  | 144, _ => exact pm_m144
  | 145, _ => exact pm_m145
  | 146, _ => exact pm_m146
  | 147, _ => exact pm_m147
  | 148, _ => exact pm_m148
  | 149, _ => exact pm_m149
  | 150, _ => exact pm_m150
  | 151, _ => exact pm_m151
  | 152, _ => exact pm_m152
  | 153, _ => exact pm_m153
  | 154, _ => exact pm_m154
  | 155, _ => exact pm_m155
  | 156, _ => exact pm_m156
  | 157, _ => exact pm_m157
  | 158, _ => exact pm_m158
  | 159, _ => exact pm_m159
  | 160, _ => exact pm_m160
  | 161, _ => exact pm_m161
  | 162, _ => exact pm_m162
  | 163, _ => exact pm_m163
  | 164, _ => exact pm_m164
  | 165, _ => exact pm_m165
  | 166, _ => exact pm_m166
  | 167, _ => exact pm_m167
  | n + 168, hk => exact absurd hk (by omega)
theorem pm_okr : ∀ k, k < 169 → pm_okk k = true := by
  intro k hk
  by_cases h0 : k < 12
  · exact List.all_eq_true.mp pm_okr_0 k (List.mem_range'_1.mpr ⟨by omega, by omega⟩)
  by_cases h12 : k < 24
  · exact List.all_eq_true.mp pm_okr_12 k (List.mem_range'_1.mpr ⟨by omega, by omega⟩)
  by_cases h24 : k < 36
  · exact List.all_eq_true.mp pm_okr_24 k (List.mem_range'_1.mpr ⟨by omega, by omega⟩)
  by_cases h36 : k < 48
  · exact List.all_eq_true.mp pm_okr_36 k (List.mem_range'_1.mpr ⟨by omega, by omega⟩)
  by_cases h48 : k < 60
  · exact List.all_eq_true.mp pm_okr_48 k (List.mem_range'_1.mpr ⟨by omega, by omega⟩)
  by_cases h60 : k < 72
  · exact List.all_eq_true.mp pm_okr_60 k (List.mem_range'_1.mpr ⟨by omega, by omega⟩)
  by_cases h72 : k < 84
  · exact List.all_eq_true.mp pm_okr_72 k (List.mem_range'_1.mpr ⟨by omega, by omega⟩)
  by_cases h84 : k < 96
  · exact List.all_eq_true.mp pm_okr_84 k (List.mem_range'_1.mpr ⟨by omega, by omega⟩)
  by_cases h96 : k < 108
  · exact List.all_eq_true.mp pm_okr_96 k (List.mem_range'_1.mpr ⟨by omega, by omega⟩)
  by_cases h108 : k < 120
  · exact List.all_eq_true.mp pm_okr_108 k (List.mem_range'_1.mpr ⟨by omega, by omega⟩)
  by_cases h120 : k < 132
  · exact List.all_eq_true.mp pm_okr_120 k (List.mem_range'_1.mpr ⟨by omega, by omega⟩)
  by_cases h132 : k < 144
  · exact List.all_eq_true.mp pm_okr_132 k (List.mem_range'_1.mpr ⟨by omega, by omega⟩)
  by_cases h144 : k < 156
  · exact List.all_eq_true.mp pm_okr_144 k (List.mem_range'_1.mpr ⟨by omega, by omega⟩)
  by_cases h156 : k < 168
  · exact List.all_eq_true.mp pm_okr_156 k (List.mem_range'_1.mpr ⟨by omega, by omega⟩)
  by_cases h168 : k < 169
  · exact List.all_eq_true.mp pm_okr_168 k (List.mem_range'_1.mpr ⟨by omega, by omega⟩)
  omega
theorem pm_ac0 : Jvm.Cond.arrayClass .int ∈ pm_ws := pm_wd_in (pos := 131) (by decide +kernel) rfl
theorem pm_ac1 : Jvm.Cond.arrayClass .boolean ∈ pm_ws := pm_wd_in (pos := 190) (by decide +kernel) rfl
theorem pm_ac2 : Jvm.Cond.arrayClass .long ∈ pm_ws := pm_wd_in (pos := 1247) (by decide +kernel) rfl
theorem pm_ay1 : Jvm.Cond.native arraycopyName ∈ pm_ws := pm_wd_in (pos := 481) (by decide +kernel) rfl
theorem pm_ay2 : Jvm.Cond.static arraycopyName ∈ pm_ws := pm_wd_in (pos := 480) (by decide +kernel) rfl
theorem pm_ay3 : Jvm.Cond.initialized "java/lang/System" ∈ pm_ws := pm_wd_in (pos := 85) (by decide +kernel) rfl
theorem pm_oi1 : Jvm.Cond.instanceMethod objectInit ∈ pm_ws := pm_wd_in (pos := 98) (by decide +kernel) rfl
theorem pm_mi0 : Jvm.Cond.initialized "java/lang/Math" ∈ pm_ws := pm_wd_in (pos := 90) (by decide +kernel) rfl
theorem pm_mx1 : Jvm.Cond.static Lib.Math.max.name ∈ pm_ws := pm_wd_in (pos := 759) (by decide +kernel) rfl
theorem pm_mn1 : Jvm.Cond.static Lib.Math.min.name ∈ pm_ws := pm_wd_in (pos := 879) (by decide +kernel) rfl
theorem pm_mb1 : Jvm.Cond.static Lib.Math.abs.name ∈ pm_ws := pm_wd_in (pos := 893) (by decide +kernel) rfl
set_option maxRecDepth 100000 in
theorem pm_oi2 : Jvm.Cond.code objectInit ⟨#[0xb1]⟩ 1 none ∈ pm_ws := pm_cw (pos := 99) rfl rfl
set_option maxRecDepth 100000 in
theorem pm_mx2 : Jvm.Cond.code Lib.Math.max.name Lib.Math.max.code 2 (some .int) ∈ pm_ws := pm_cw (pos := 760) rfl rfl
set_option maxRecDepth 100000 in
theorem pm_mn2 : Jvm.Cond.code Lib.Math.min.name Lib.Math.min.code 2 (some .int) ∈ pm_ws := pm_cw (pos := 880) rfl rfl
set_option maxRecDepth 100000 in
theorem pm_mb2 : Jvm.Cond.code Lib.Math.abs.name Lib.Math.abs.code 1 (some .int) ∈ pm_ws := pm_cw (pos := 894) rfl rfl
end
section
/-- the locals that are read from here on -/
noncomputable def pm_lt0 : List (List Nat) := [[0, 1], [0, 1], [], [], [0, 1], [1], [], [], [], [], [], []]
noncomputable def pm_lt1 : List (List Nat) := [[0], [], [], [], [], []]
noncomputable def pm_lt2 : List (List Nat) := [[0, 1], [0, 1], [], [], [0, 1], [0, 1], [0, 1], [], [], [0, 1], [], [], [0, 1], [0, 1], [0, 1], [], [], [0, 1], [0, 1], [], [], [0, 1], [1], [], [], [1], [], [], [], [], [], []]
noncomputable def pm_lt3 : List (List Nat) := [[0, 1, 3], [0, 1, 3], [0, 1, 3], [], [], [0, 1, 3], [0, 1, 3], [], [0, 1, 3], [], [], [0, 1, 3], [0, 1, 3], [], [], [0, 1, 3], [0, 1, 3], [0, 1, 3], [0, 1, 3], [], [], [0, 1, 3], [0, 1, 3], [], [], [], [], [0, 1, 3], [0, 1], [0, 1], [0, 1], [], [0, 1, 4], [], [0, 1, 4], [], [], [0, 1, 4], [0, 1, 4], [0, 1, 4], [], [0, 1, 4], [], [0, 1, 4], [0, 1, 4], [0, 1, 4], [0, 1, 4], [], [], [0, 1, 4], [0, 1, 4], [], [], [0, 1, 4], [], [], [0, 1, 4], [], [], [0], [], [], [], []]
noncomputable def pm_lt4 : List (List Nat) := [[0, 1], [0, 1], [], [], [0, 1], [0, 1], [], [], [0, 1], [0, 1], [], [], [0, 1], [0, 1], [], [], [0, 1], [0, 1], [], [], [0, 1], [0], [0], [], [], [], [], [], [], [], [], [], []]
noncomputable def pm_lt5 : List (List Nat) := [[0, 1], [0, 1], [], [], [0, 1], [0, 1], [0, 1, 2], [0, 1, 2], [0, 1, 2], [], [], [0, 1, 2], [], [], [0, 1, 2], [0, 1, 2], [0, 1, 2], [0, 1, 2], [], [], [0, 1, 2], [], [], [0, 1, 2], [], [], [0, 1, 2], [], [], []]
noncomputable def pm_lt6 : List (List Nat) := [[0, 1, 2, 3, 4], [0, 1, 2, 3, 4], [], [], [0, 1, 2, 3, 4], [0, 1, 2, 3, 4], [0, 2, 3, 4], [], [], [0, 2, 3, 4], [0, 2, 3, 4], [0, 3, 4], [], [], [0, 3, 4], [0, 3, 4], [0, 4], [], [], [0, 4], [4], [], [], [], [], []]
noncomputable def pm_lt7 : List (List Nat) := [[0], [0], [], [], [0], [], [], [0], [0], [], [], [0], [], [], [0], [0], [], [], [0], [], [], [0], [], [], [0], [0], [0, 1], [0, 1], [0, 1, 2], [0, 1, 2], [0, 1, 2], [], [], [0, 1, 2], [], [], [0, 1, 2], [], [], [0, 1, 2], [0, 1, 2], [], [], [0, 1, 2], [0, 1, 2], [], [], [0, 1, 2], [], [], [0, 1, 2], [0, 1, 2], [0, 1, 2], [0, 2], [], [], [0, 2], [0, 2, 3], [0, 2, 3], [], [], [2, 3], [], [2, 3], [2], [2], [], [], [0, 2], [0, 2], [], [], [0, 2], [0, 2], [], [], [0, 2], [0, 1, 2], [], [], [0, 1, 2], [], [], [0, 1], [0], [], [], [0], [], [0], [], [], [], [], [], [], [], [], [], [], [0], [], [], [], []]
noncomputable def pm_lt8 : List (List Nat) := [[0, 1, 2], [0, 1, 2], [], [], [0, 1, 2], [0, 1, 2], [], [], [0, 1, 2], [], [], [], [], [0, 1, 2], [0, 1, 2], [], [], [0, 1, 2], [0, 1, 2], [], [], [0, 1, 2], [], [], [0, 1, 2], [0, 1, 2], [0, 1, 2], [0, 1], [], [], [0, 1], [], [], [0, 1, 2], [0, 1], [], [], [0, 1], [0, 1], [], [], [0, 1], [0, 1], [0, 1, 3], [0, 1, 3], [], [], [0, 1], [0, 1], [], [], [0, 1], [0, 1], [], [], [0, 1], [0, 1, 3], [0, 1, 3], [], [], [0, 1, 3], [0, 1, 3], [], [], [0, 1, 3], [0, 1, 3], [], [], [0, 1, 3], [], [], [0, 1], [0, 1], [1], [], [], [1], [], [], [], [], [], [], [], [3], []]
noncomputable def pm_lt9 : List (List Nat) := [[0, 1, 2], [0, 1], [], [], [0, 1], [0, 1], [], [], [0, 1], [0, 1], [], [], [0, 1], [], [], [0, 1], [0, 1], [], [], [0, 1], [], [], [], [], [0, 1], [0, 1], [], [], [0, 1], [0], [0], [], [], [0], [], [], [0], [], [], [0], [0], [], [], [], [], [], [], [], [], [], [], [], [], [], [], [], [], [], []]
noncomputable def pm_lt10 : List (List Nat) := [[0, 1], [0, 1], [0, 1, 2], [0, 1, 2], [0, 1, 2], [0, 1, 2], [], [], [0, 1, 2], [0, 1, 2], [], [], [0, 1, 2], [0, 1, 2], [], [], [0, 1, 2], [0, 1, 2], [0, 1, 2], [0, 1, 2, 3], [0, 1, 2, 3], [], [], [0, 1, 2, 3], [], [], [0, 1, 2, 3], [0, 1, 2, 3], [], [], [0, 1, 2, 3], [0, 1, 2], [], [0, 1, 2], [0, 1, 2], [], [], [0, 1, 2], [], [], [], [], [0, 1, 2], [], [], [0, 1, 2], [], [], [], []]
noncomputable def pm_lt11 : List (List Nat) := [[0, 1], [0, 1], [], [], [0, 1], [0, 1], [], [], [0, 1], [], [], [], [], [], [0, 1], [0, 1], [], [], [0, 1], [1], [], [], [1], [], [], [1], [], [], [], [], [], [], [], [], [], [], [], [], []]
noncomputable def pm_lt12 : List (List Nat) := [[0], [0], [0, 1], [0, 1], [], [0, 1], [], [], [0, 1], [0, 1], [], [], [0, 1], [0, 1], [], [], [0, 1], [], [], [0, 1], [0, 1], [], [], [0, 1], [0, 1], [], [], [0, 1], [], [], [1], [], [], [1], [], [], [0, 1], [], [], [0, 1], [], [], [], []]
noncomputable def pm_lt13 : List (List Nat) := [[0], [0], [], [], [0], [0], [], [], [0], [0], [], [0], [], [], [0], [], [], [0], [], [], [], [], [], [], [], []]
noncomputable def pm_lt14 : List (List Nat) := [[0], [], [], [], [], [], [], []]
noncomputable def pm_lt15 : List (List Nat) := [[0, 1], [1], [], [], [1], [], [], [], []]
noncomputable def pm_lt16 : List (List Nat) := [[0, 1], [1], [], [], [1], [], [], [], [], [], []]
noncomputable def pm_lt17 : List (List Nat) := [[0, 1], [1], [], [], [1], [], [], [], [], [2], [2], [], [], [2], [2], [], [2], [], [], [2], [], [], [2], [], [], [], [], [], []]
noncomputable def pm_lt18 : List (List Nat) := [[0, 1], [1], [1], [], [], [1], [], [], [1], [], [], [], [], [], [1], [], [], []]
noncomputable def pm_lt19 : List (List Nat) := [[0, 1], [0, 1], [0, 1], [], [], [0, 1], [0, 1, 2], [0, 1, 2], [], [], [0, 1, 2], [0, 1], [], [0, 1], [], [], [0, 1], [0, 1], [0], [], [], [0], [], [], [], [], [], [], [], [], [], [], [], []]
noncomputable def pm_lt20 : List (List Nat) := [[0, 1], [0, 1], [0, 1], [], [], [0, 1], [], [], [0, 1], [0, 1], [0, 1], [], [], [0, 1], [1], [], [], [], [], [], [], [], [], [], [], [], []]
noncomputable def pm_lt21 : List (List Nat) := [[0], [0], [0, 1], [0, 1], [0, 1, 2], [0, 1, 2], [], [0, 1, 2], [], [], [0, 1, 2], [0, 1, 2], [], [], [0, 1, 2], [0, 1, 2], [0, 1, 2], [0, 1, 2], [], [], [0, 1, 2], [0, 1, 2], [0, 1, 2], [], [], [0, 1, 2], [], [], [0, 1, 2], [0, 1, 2], [], [], [0, 1, 2], [0, 1, 2], [0, 1, 2], [0, 1, 2], [], [], [0, 1, 2], [0, 1, 2], [0, 1, 2], [], [], [0, 1, 2], [0, 1, 2], [0, 1, 2], [], [], [0, 1, 2], [], [], [0, 2], [0, 2], [0, 2], [], [], [0, 2], [0, 1, 2], [], [], [0, 1, 2], [], [], []]
noncomputable def pm_lt22 : List (List Nat) := [[0, 1], [0, 1], [], [], [0, 1], [0, 1], [], [0, 1], [], [], [0, 1], [1], [], [], [1], [], [], [], [], [], [], [], [], [], []]
noncomputable def pm_lt23 : List (List Nat) := [[0, 1], [0, 1], [0, 1], [], [], [0, 1], [], [], [0, 1], [0, 1], [], [], [0, 1], [0, 1], [], [], [0, 1], [], [0, 1], [], [], [0, 1], [1], [], [], [1], [], [], [], [], [], [], [], [], [], [], [], [], [], [], [], [], []]
noncomputable def pm_lt24 : List (List Nat) := [[0, 1], [1], [], [], [], [], [2], [2], [], [2], [], [], [2], [2], [], [2], [], [], [2], [], [], [], [], [], [], [], [], [], [], []]
noncomputable def pm_lt25 : List (List Nat) := [[0, 1], [1], [], [], [], [], [2], [2], [], [2], [], [], [2], [2], [], [2], [], [], [2], [], [], [], [], [], [], [], [], [], [], []]
noncomputable def pm_lt26 : List (List Nat) := [[0, 1], [0, 1], [1], [], [], [], [], [], []]
noncomputable def pm_lt27 : List (List Nat) := [[0, 1, 2, 3], [0, 1, 2, 3], [], [], [0, 1, 2, 3], [0, 1, 2, 3], [], [], [0, 1, 2, 3], [0, 1, 2, 3], [], [], [0, 1, 2, 3], [], [], [0, 1, 2, 3], [0, 1, 2, 3], [], [0, 1, 2, 3], [], [0, 1, 2, 3], [], [], [0, 1, 2, 3], [0, 1, 2, 3], [], [0, 1, 2, 3], [], [0, 1, 2, 3], [], [], [0, 1, 2, 3], [0, 1, 2, 3], [0, 1, 2, 3], [], [], [0, 1, 2, 3], [0, 1, 2, 3], [0, 1, 3], [], [], [0, 1, 3], [0, 1, 3], [0, 1], [], [], [0, 1], [1], [], [], [1], [1], [], [], [], [], [], [], []]
noncomputable def pm_lt28 : List (List Nat) := [[0], [0], [], [], [0], [], [], [0], [0], [], [], [0], [], [], [0], [0], [], [], [0], [], [], [0], [0], [], [], [0], [], [], [0], [0], [], [], [0], [], [], [0], [], [], [0], [0], [0], [], [], [0], [0], [0], [0, 1], [0, 1], [], [0, 1], [], [], [0, 1], [0, 1], [], [], [0, 1], [0, 1, 2], [0, 1, 2], [0, 1, 2], [], [], [0], [], [], [0, 1, 2], [0, 1, 2], [0, 1], [], [], [0, 1], [0, 1, 3], [0, 1, 3], [], [], [3], [], [0, 1], [], [], [0, 1], [], [], [0], [], [], [], []]
noncomputable def pm_lt29 : List (List Nat) := [[0], [0], [0, 1], [0, 1], [0, 1], [0, 1], [], [], [0, 1], [0, 1], [0, 1], [0, 1], [0, 1], [], [], [0, 1], [], [], []]
noncomputable def pm_lt30 : List (List Nat) := [[0], [0], [], [], [0], [0], [], [], [0], [], [], [0], [0], [], [], [0], [], [], [0], [0], [0, 1], [0, 1], [0, 1], [], [], [0, 1], [], [], [0, 1], [], [], [0, 1], [0, 1], [], [], [0, 1], [0, 1], [0, 1], [], [], [0, 1], [0, 1], [], [], [0, 1], [0, 1], [], [], [0, 1], [0, 1], [], [], [0, 1], [], [], [0, 1], [], [], [0], [], [], [], [], [], [], []]
noncomputable def pm_lt31 : List (List Nat) := [[0], [0], [0, 1], [0, 1], [], [0, 1], [], [], [0, 1], [0, 1], [], [], [0, 1], [0, 1], [0, 1], [], [], [1], [], [0, 1], [], [], [0, 1], [], [], [], []]
noncomputable def pm_lt32 : List (List Nat) := [[0, 1], [0, 1], [], [], [0, 1], [0, 1], [0, 1], [0, 1], [0, 1], [], [], [0, 1], [0, 1], [], [], [0, 1], [], [], [1], [], [1], [], [], [0, 1], [0, 1], [], [], [0, 1], [0, 1], [0, 1], [], [], [0, 1], [], [], [0, 1], [], [], [0, 1], [0, 1], [], [], [0, 1], [0, 1], [], [], [0, 1], [0, 1, 2], [0, 1, 2], [], [], [1, 2], [], [1, 2], [1], [1], [], [], [0, 1], [0, 1], [], [], [0, 1], [0, 1], [], [], [0, 1], [0, 1, 3], [0, 1, 3], [], [], [0, 1, 3], [0, 1, 3], [], [], [0, 1, 3], [], [0, 1, 3, 4], [0, 1, 3, 4], [], [], [0, 1, 3, 4], [0, 1, 3, 4], [], [], [0, 1, 3, 4], [], [0, 1, 3, 4], [], [], [0, 1, 3, 4], [], [], [1], [], [], [1], [], [], [0, 1, 3, 4], [0, 1, 3, 4], [], [], [0, 1, 3, 4], [0, 1, 3, 4], [], [], [0, 1, 3, 4], [], [0, 1, 3, 4, 5], [0, 1, 3, 4, 5], [], [], [0, 1, 3, 4, 5], [0, 3, 4, 5], [], [], [0, 3, 4, 5], [], [], [0, 3, 4, 5], [0, 3, 4, 5], [], [0, 3, 4, 5], [], [], [0, 3, 4, 5], [], [], [5], [], [], [5], [], [], [], [0, 3, 4], [0, 4], [], [], [0, 4], [4], [], [4], [], [], [4], [], [], [4], [], [], [4], [], [], [], [], []]
noncomputable def pm_lt33 : List (List Nat) := [[0, 1], [0, 1], [], [], [0, 1], [], [], [0, 1], [0, 1, 2], [0, 1, 2], [], [], [0, 1, 2], [0, 1, 2], [], [], [0, 1, 2], [], [], [0, 1, 2], [0, 1, 2], [], [], [0, 1, 2], [0, 1, 2], [0, 1], [], [], [0, 1], [1], [], [], [1], [], [], [], [], [0, 1, 2], [0, 1, 2], [], [], [0, 1, 2], [0, 1, 2], [], [], [0, 1, 2], [0, 1, 2], [], [], [0, 1, 2], [], [], [], [], [0, 1, 2], [0, 1, 2], [], [], [0, 1, 2], [0, 1], [0, 1], [], [], [0, 1], [], [], [0, 1], [1], [], [], [1], [], [], [], []]
noncomputable def pm_lt34 : List (List Nat) := [[0], [0], [0, 1], [0, 1], [0, 1], [], [], [0, 1], [], [], [0, 1], [], [], [0, 1], [0, 1], [], [], [0, 1], [0, 1], [], [], [0, 1], [], [], [0, 1], [0, 1], [], [], [0, 1], [0, 1], [], [], [0, 1], [], [], [1], [], [], [1], [], [], [0, 1], [], [], [0, 1], [], [], [], []]
noncomputable def pm_lt35 : List (List Nat) := [[0], [0], [], [], [0], [], [], [0], [0], [0, 1], [0, 1], [0, 1], [], [], [0, 1], [], [], [0, 1], [], [], [0, 1], [0, 1], [], [], [0, 1], [0, 1], [], [], [0, 1], [], [], [0, 1], [0, 1], [0, 1], [], [], [0, 1], [], [], [0, 1], [], [], [0], [0], [0, 1], [0, 1], [0, 1, 2], [0, 1, 2], [0, 1, 2], [], [], [0, 1, 2], [], [], [0, 1, 2], [], [], [0, 1, 2], [0, 1, 2], [], [], [0, 1, 2], [0, 1, 2], [0, 1, 2], [], [], [0, 1, 2], [], [], [0, 1, 2], [], [], [0, 1, 2], [], [], [1], []]
noncomputable def pm_lt36 : List (List Nat) := [[0, 1], [0, 1], [], [], [0, 1], [0, 1], [], [], [0, 1], [], [], [0, 1], [0, 1], [], [], [0, 1], [0, 1], [], [], [0, 1], [0, 1], [], [], [0, 1], [], [], [0, 1], [], [], [0, 1], [0, 1], [], [], [0, 1], [0, 1], [], [], [0, 1], [0, 1], [], [], [0, 1], [0, 1], [0, 1], [0, 1], [], [], [0, 1], [0, 1], [], [], [0, 1], [], [], [0, 1], [0, 1], [], [], [0, 1], [0, 1], [], [], [0, 1], [0, 1], [], [], [0, 1], [], [], [0, 1], [], [], [0, 1], [0, 1], [], [], [0, 1], [1], [], [], [1], [], [], [], [], [], []]
noncomputable def pm_lt37 : List (List Nat) := [[0], [0], [], [], [0], [], [], [], [], [], [], []]
noncomputable def pm_lt38 : List (List Nat) := [[0, 1, 2, 3, 4, 5], [], [0, 1, 2, 3, 4, 5], [], [], [0, 1, 2, 3, 4, 5], [], [0, 1, 2, 3, 4, 5], [], [], [0, 1, 2, 3, 4, 5], [], [], [], [], [0, 1, 2, 3, 4, 5], [0, 1, 2, 3, 4, 5], [], [], [0, 1, 2, 3, 4, 5], [], [], [0, 1, 2, 3, 4, 5], [0, 1, 2, 3, 4, 5], [], [], [0, 1, 2, 3, 4, 5], [], [], [0, 1, 2, 3, 4, 5], [0, 1, 2, 3, 4, 5], [], [], [0, 1, 2, 3, 4, 5], [], [], [0, 1, 2, 3, 4, 5], [], [0, 1, 2, 3, 4, 5], [], [], [0, 1, 2, 3, 4, 5], [], [], [], [], [0, 1, 2, 3, 4, 5], [0, 1, 2, 3, 4, 5], [0, 1, 2, 3, 4, 5], [], [], [0, 1, 2, 3, 4, 5], [0, 1, 2, 3, 4, 5], [0, 1, 2, 3, 4, 5], [], [], [0, 1, 2, 3, 4, 5], [0, 1, 2, 3, 4, 5], [0, 1, 2, 3, 4, 5], [], [], [0, 1, 2, 3, 4, 5], [0, 1, 2, 3, 4, 5], [0, 1, 2, 3, 4, 5], [], [], [0, 1, 2, 3, 4, 5], [0, 1, 2, 3, 4, 5], [0, 1, 2, 3, 4, 5], [], [], [0, 1, 2, 3, 4, 5], [], [0, 1, 2, 3, 4, 5], [0, 1, 2, 3, 4, 5], [], [], [], [], [0, 1, 2, 3, 4, 5], [0, 1, 2, 3, 4, 5], [], [], [0, 1, 2, 3, 4, 5], [0, 1, 2, 3, 4, 5], [0, 1, 2, 3, 4, 5], [0, 1, 2, 3, 4, 5], [0, 1, 2, 3, 4, 5], [], [], [0, 1, 2, 3, 4, 5], [0, 1, 2, 3, 4, 5], [0, 1, 2, 3, 4, 5], [0, 1, 2, 3, 4, 5], [0, 1, 2, 3, 4, 5], [], [], [0, 1, 2, 3, 4, 5], [0, 1, 2, 3, 4, 5], [0, 1, 2, 3, 4, 5], [0, 1, 2, 3, 4, 5], [0, 1, 2, 3, 4, 5], [], [], [0, 1, 2, 3, 4, 5], [0, 1, 2, 3, 4, 5], [], [0, 1, 2, 3, 4, 5], [0, 1, 2, 3, 4, 5], [0, 1, 2, 3, 4, 5], [0, 2, 3, 4, 5], [0, 2, 3, 4, 5], [], [], [0, 5], [0, 5], [], [], [0, 2, 3, 4, 5], [0, 3, 4, 5], [0, 3, 4, 5], [], [], [0, 5], [0, 5], [], [], [0, 3, 4, 5], [0, 4, 5], [0, 4, 5], [], [], [0, 5], [0, 5], [], [], [0, 4, 5], [], [0, 5], [0, 5], [], [], [0, 5], [0, 5], [], [], [0, 5], [0, 5], [], [], [0, 5], [5], [], [], [], [], [], []]
noncomputable def pm_lt39 : List (List Nat) := [[0], [0], [], [], [0], [], [], [], [], [], [], [], []]
noncomputable def pm_lt40 : List (List Nat) := [[0, 1], [0, 1], [], [], [0, 1], [0, 1], [], [], [0, 1], [0, 1], [], [], [0, 1], [0, 1], [0, 1], [], [], [0, 1], [0, 1], [0], [], [], [0], [], [], [0], [], [], [], [], []]
noncomputable def pm_lt41 : List (List Nat) := [[0, 1], [0, 1], [0, 1], [], [], [0, 1], [], [], [0, 1], [0, 1], [], [], [0, 1], [0, 1], [1], [], [], [1], [1], [1], [1], [], [], [], [], [], [], []]
noncomputable def pm_lt42 : List (List Nat) := [[0, 1], [0, 1], [], [], [0, 1], [0, 1], [], [], [0, 1], [0, 1], [], [], [0, 1], [0, 1], [0, 1], [], [], [0, 1], [0, 1], [0], [0], [], [], [], [], [], [], [], [], [], []]
noncomputable def pm_lt43 : List (List Nat) := [[0, 1], [0, 1], [0, 1], [1], [], [], [1], [], [], [], [], [], [], [], []]
noncomputable def pm_lt44 : List (List Nat) := [[0, 1], [0, 1], [0, 1, 2], [0, 1, 2], [0, 1, 2], [], [], [0, 1, 2], [], [], [0, 1, 2], [0, 1, 2], [], [], [0, 1, 2], [0, 1, 2], [0, 1, 2], [0, 1, 2], [0, 1, 2], [0, 1, 2], [], [], [], [], [0, 1, 2], [], [], [0, 1, 2], [], [], [], []]
noncomputable def pm_lt45 : List (List Nat) := [[0, 1, 2], [0, 1, 2], [0, 1, 2, 3], [0, 1, 2, 3], [0, 1, 2, 3], [0, 1, 2, 3], [], [], [0, 1, 2, 3], [0, 1, 2, 3], [], [], [0, 1, 2, 3], [0, 1, 2, 3], [], [], [0, 1, 2, 3], [0, 1, 2, 3], [0, 1, 2, 3], [0, 1, 2, 3], [], [], [0, 1, 2, 3], [0, 1, 2, 3], [], [], [0, 1, 2, 3], [0, 1, 2, 3], [0, 1, 2, 3], [0, 1, 2, 3], [], [], [0, 1, 2, 3], [], [], []]
noncomputable def pm_lt46 : List (List Nat) := [[0, 1], [0, 1], [], [], [0, 1], [0, 1], [], [], [0, 1], [], [0, 1], [], [], [0, 1], [0, 1], [], [0, 1], [], [0, 1], [], [], [0, 1], [0, 1], [0], [], [], [0], [], [], [], [], [], [], [], []]
noncomputable def pm_lt47 : List (List Nat) := [[0], [], [], [], [], [], [], [], []]
noncomputable def pm_lt48 : List (List Nat) := [[0, 1], [0, 1], [], [], [0, 1], [0, 1], [], [0, 1], [], [], [0, 1], [1], [], [], [1], [], [], [], [], [], [], [], [], [], [], []]
noncomputable def pm_lt49 : List (List Nat) := [[0, 1], [1], [], [], [1], [], []]
noncomputable def pm_lt50 : List (List Nat) := [[0, 1, 2], [1, 2], [], [], [1, 2], [2], [], [2], [2], [], [], []]
noncomputable def pm_lt51 : List (List Nat) := [[0, 1, 2], [1, 2], [], [], [1, 2], [2], [], [2], [2], [2], [2], [], [], []]
noncomputable def pm_lt52 : List (List Nat) := [[0, 1, 2], [0, 1, 2], [], [], [0, 1, 2], [0, 1, 2], [0, 1, 2], [], [], [0, 1, 2], [0, 1, 2], [0, 1], [], [], [0, 1], [0, 1], [1], [], [], [1], [], [], [], [], [], [], [], [], []]
noncomputable def pm_lt53 : List (List Nat) := [[0, 1, 2], [0, 1, 2], [0, 1, 2], [], [], [0, 1, 2], [0, 1, 2], [0, 1, 2], [], [], [0, 1, 2], [1, 2], [], [], [1, 2], [2], [], [2], [2], [], [], [], [], [], [], [], [], [], []]
noncomputable def pm_lt54 : List (List Nat) := [[0, 1, 2], [0, 1, 2], [], [], [0, 1, 2], [0, 1, 2], [], [], [0, 1, 2], [0, 1, 2], [0, 1, 2], [], [], [], [], [0, 1, 2], [0, 1, 2], [0, 1, 2, 3], [0, 1, 2, 3], [0, 1, 2, 3], [0, 1, 2, 3], [], [], [0, 1, 2, 3], [0, 1, 2, 3], [], [], [0, 1, 2, 3], [0, 1, 2, 3], [], [], [0, 1, 2, 3], [0, 1, 2, 3], [], [], [0, 1, 2, 3], [0, 1, 2, 3], [0, 1, 2, 3], [0, 1, 2, 3], [], [], [0, 1, 2, 3], [0, 1, 2, 3], [], [0, 1, 2, 3], [0, 1, 2, 3], [0, 1, 2, 3], [0, 1, 2, 3], [0, 1, 2, 3], [], [], [0, 1, 2, 3], [], [], [], [], [0, 1, 2, 3], [], [], [0, 1, 2, 3], [], [], [], []]
noncomputable def pm_lt55 : List (List Nat) := [[0, 1, 2], [0, 1, 2], [0, 1, 2, 3], [0, 1, 2, 3], [], [0, 1, 2, 3, 4], [], [0, 1, 2, 3, 4], [0, 1, 2, 3, 4], [0, 1, 2, 3, 4], [], [], [0, 1, 2, 3, 4], [0, 1, 2, 3, 4], [0, 1, 2, 3, 4], [0, 1, 2, 3, 4], [], [], [0, 1, 2, 3, 4], [0, 1, 2, 3, 4], [], [], [0, 1, 2, 3, 4], [0, 1, 2, 3, 4], [], [0, 1, 2, 3, 4], [0, 1, 2, 3, 4], [], [0, 1, 2, 3, 4], [0, 1, 2, 3, 4], [0, 1, 2, 3, 4], [], [0, 1, 2, 3, 4, 5], [0, 1, 2, 3, 4, 5], [], [], [0, 1, 2, 3, 4, 5], [], [0, 1, 2, 3, 4, 5], [0, 1, 2, 3, 4, 5], [], [], [0, 1, 2, 3, 4, 5], [], [0, 1, 2, 3, 4, 5], [0, 1, 2, 3, 4, 5], [], [], [0, 1, 2, 3, 4, 5], [], [0, 1, 2, 3, 4, 5, 6], [0, 1, 2, 3, 4, 5, 6], [], [], [0, 1, 2, 3, 4, 5, 6], [0, 1, 2, 3, 4, 5, 6], [], [0, 1, 2, 3, 4, 5, 6], [0, 1, 2, 3, 4, 5, 6], [], [0, 1, 2, 3, 4, 5, 6], [0, 1, 2, 3, 4, 5, 6], [], [0, 1, 2, 3, 4, 5, 6], [0, 1, 2, 3, 4, 5, 6], [0, 1, 2, 4, 5, 6], [], [], [0, 1, 2, 4, 5, 6], [], [0, 1, 2, 4, 5], [], [0, 1, 2, 4], [], [], [0, 1, 2, 4], [0, 1, 2, 4], [], [], [0, 1, 2, 4], [0, 1, 2, 4], [0, 1, 2, 3, 4], [], [], [0, 1, 2, 3, 4], [], [], [3], []]
noncomputable def pm_lt56 : List (List Nat) := [[0, 1, 2], [0, 1, 2], [], [], [0, 1, 2], [0, 1, 2], [], [], [0, 1, 2], [0, 1, 2], [], [], [0, 1, 2], [], [], [0, 1, 2], [0, 1, 2], [0, 1, 2], [], [0, 1, 2], [], [], [0, 1, 2], [0, 1, 2], [0, 2], [], [], [0, 2], [2], [], [], [], []]
noncomputable def pm_lt57 : List (List Nat) := [[0, 1], [0, 1], [], [], [0, 1], [0, 1], [], [], [0, 1], [0, 1, 2], [0, 1, 2], [], [], [0, 1, 2], [0, 1, 2], [], [], [0, 1, 2], [0, 1, 2, 3], [0, 1, 2, 3], [], [], [0, 1, 2, 3], [0, 1, 2, 3], [], [], [0, 1, 2, 3], [], [], [], [], [0, 1, 2, 3], [0, 1, 2, 3], [0, 1, 2, 3], [0, 1, 2, 3], [], [], [0, 1, 2, 3], [0, 1, 2, 3], [], [], [0, 1, 2, 3], [], [], [0, 1, 2, 3], [0, 1, 2, 3], [], [], [0, 1, 2, 3], [], [], [], [], [0, 1, 2, 3], [0, 1, 2, 3], [], [], [0, 1, 2, 3], [], [], [0, 1, 2, 3], [0, 1, 2, 3], [0, 1, 2, 3], [0, 1, 2, 3], [], [], [0, 1, 2, 3], [], [], [0, 1, 2, 3], [0, 1, 2, 3], [0, 1, 2, 3], [0, 1, 2, 3], [], [], [0, 1, 2, 3], [], [], [], [], [], [0, 1, 2, 3], [0, 1, 2, 3], [], [], [0, 1, 2, 3], [], [], [0, 1, 2, 3], [0, 1, 2, 3], [], [], [0, 1, 2, 3], [0, 1, 2, 3], [0, 1, 2, 3], [0, 1, 3], [0, 1], [], [], [0, 1], [0, 1], [0, 1], [], [], [], [], [], [0, 1], [0, 1], [], [], [0, 1], [0, 1], [], [], [0, 1], [], [0, 1, 4], [0, 1, 4], [], [], [0, 1, 4], [0, 1, 4], [], [], [0, 1, 4], [], [0, 1, 4, 5], [0, 1, 4, 5], [], [], [0, 1, 4, 5], [0, 1, 4, 5], [], [], [0, 1, 4, 5], [], [], [0, 1, 4, 5], [0, 1, 4, 5], [0, 1, 4, 5], [], [0, 1, 4, 5], [], [], [0, 1, 4, 5], [1, 4, 5], [4, 5], [], [5], [], [], [], [], [], []]
noncomputable def pm_lt58 : List (List Nat) := [[0, 1], [0, 1], [], [], [0, 1], [0, 1], [], [], [0, 1], [0], [0], [], [], [], [], [], [], [], [], [], []]
noncomputable def pm_lt59 : List (List Nat) := [[0, 1, 2], [0, 1, 2], [0, 1, 2], [], [], [0, 1, 2], [0, 2], [], [], [], [], [], [], [], [], [], [], [], [], [], [], [], [], [], [], [], [], [], [], [], [], [], [], [], [], [], [], [], [], [], [], [], [], [], [], [], [], [], [], [], [], [], [], [], [], [], [], [], [], [], [], [], [], [], [], [], [], [], [], [], [], [], [], [], [], [], [], [], [], [], [], [], [], [], [], [], [], [], [], [], [], [], [0], [], [], [], [], [], [], [], [0], [], [], [], [], [], [], [], [], [0], [0], [0], [], [], [0], [], [], [], [], [], [], [], [0], [], [], [], [], [], [], [], [0], [0], [0], [], [], [0], [], [], [], [], [], [], [], [0], [], [], [], [], [], [], [], [], [0], [], [], [], [], [], [], [], [], [0, 2], [0, 2], [], [0, 2], [2], [], [], [2], [], [], [2], [], [], [], [], [], [], [], [], [0, 2], [0, 2], [], [0, 2], [0, 2], [], [], [0, 2], [], [], [0, 2], [0, 2], [0, 2], [0, 2], [], [], [0, 2], [0, 2], [2], [], [], [2], [], [], [2], [], [], [], [], [], [], [], [0, 2], [0, 2], [2], [], [], [2], [], [], [2], [], [], [], [], [], [], [], [0], [0], [], [], [], [], [], [], [], [], [], [], [], [], []]
noncomputable def pm_lt60 : List (List Nat) := [[0, 1], [0, 1], [0, 1, 2], [0, 1, 2], [0, 1, 2], [], [], [0, 1, 2], [], [], [0, 1, 2], [0, 1, 2], [0, 1, 2], [], [], [0, 1, 2], [0, 1, 2], [0, 1, 2], [], [], [0, 1, 2], [], [], [0, 1, 2], [], [], []]
noncomputable def pm_lt61 : List (List Nat) := [[0, 1], [0, 1], [], [], [0, 1], [], [], [0, 1], [1], [], [], [], [], [], [], []]
noncomputable def pm_lt62 : List (List Nat) := [[0], [0], [0, 1], [0, 1], [0, 1], [], [], [0, 1], [], [], [0, 1], [0, 1], [], [], [0, 1], [0, 1], [0, 1], [0, 1, 2], [0, 1, 2], [], [], [0, 1, 2], [0, 1, 2], [], [], [0, 1, 2], [0, 1, 2], [0, 1, 2], [0, 1, 2], [0, 1, 2], [], [], [0, 1, 2], [0, 1, 2, 3], [0, 1, 2, 3], [], [0, 1, 2, 3], [], [], [0, 1, 3], [0, 1], [], [], [0, 1], [], [], [0, 1, 2, 3], [0, 1, 2, 3], [], [0, 1, 2, 3], [], [], [0, 1, 3], [0, 1], [], [], [0, 1], [], [], [0, 1, 2, 3], [0, 1, 2, 3], [], [], [0, 1, 2, 3], [0, 1, 2], [0, 1], [], [], [0, 1], [], [0, 1, 4], [], [0, 1], [], [], [], [], [0, 1], [], [], [0, 1], [], [], [], []]
noncomputable def pm_lt63 : List (List Nat) := [[0, 1, 2], [0, 1, 2], [0, 1, 2], [], [], [0, 2], [2], [], [], [2], [], [], [2], [], [], [], [], [], [], [], [], [], [], [], [0, 1, 2], [0, 2], [0, 2], [], [], [0, 2], [2], [], [], [2], [], [], [2], [], [], [], [], [], [], [], [], [], [], [], [], []]
noncomputable def pm_lt64 : List (List Nat) := [[0, 1, 2], [0, 2], [], [0, 2], [], [], [0, 2], [2], [], [], [2], [], [2], [], [], [], [], [], [], [], [], [], [], [], [], []]
noncomputable def pm_lt65 : List (List Nat) := [[0, 1, 2], [0, 1, 2], [], [0, 1, 2], [], [], [0, 2], [2], [], [], [2], [], [], [2], [], [], [], [], [], [], [], [], [], [], [], [], [], [1], [], [], [1], [], []]
noncomputable def pm_lt66 : List (List Nat) := [[0, 1, 2], [0, 1, 2], [], [], [0, 1, 2], [0, 1, 2], [], [], [0, 1, 2], [], [], [], [], [], [], [], [], [], [], [], [], [], [], [], [], [], [], [], [], [], [], [], [], [], [], [], [], [], [], [], [], [], [], [], [], [], [], [], [], [], [], [], [0, 1, 2], [0, 1, 2], [], [], [0, 1, 2], [], [], [0, 1, 2], [1, 2], [], [], [1, 2], [2], [], [], [2], [], [], [], [], [0, 1], [1], [], [], [1], [], [1], [], [], [], [], [], [], [], [], [0, 2], [0, 2], [], [], [0, 2], [0, 2], [], [0, 2], [2], [], [], [2], [], [], [], [], [], [], [], [], [], [], [], [], [], []]
noncomputable def pm_lt67 : List (List Nat) := [[0, 1, 2, 3], [0, 1, 2, 3], [], [], [0, 1, 2, 3], [0, 1, 2, 3], [], [], [0, 1, 2, 3], [], [0, 1, 2, 3, 4], [0, 1, 2, 3, 4], [], [], [0, 1, 2, 3, 4], [0, 1, 2, 3, 4], [], [], [0, 1, 2, 3, 4], [], [], [], [], [], [], [], [], [], [], [], [], [], [], [], [], [], [], [], [], [], [], [], [], [], [], [], [], [], [], [], [], [], [], [], [], [], [], [], [], [], [], [], [], [], [], [], [], [], [], [], [], [], [], [], [], [], [], [], [], [], [], [], [], [], [], [], [], [], [], [], [], [], [], [], [], [], [], [], [], [], [], [], [], [], [], [], [], [], [], [], [], [], [0], [], [], [], [], [], [], [], [], [], [], [0], [], [], [], [], [], [], [], [], [], [], [0, 4], [0, 4], [], [], [0, 4], [4], [], [], [4], [], [], [4], [], [], [], [], [], [], [], [], [0, 2], [0, 2], [], [], [0, 2], [0, 2], [], [], [0, 2], [2], [], [], [2], [], [], [], [], [], [], [0, 2, 3], [0, 2, 3], [], [], [0, 2, 3], [0, 3], [], [], [0, 3], [3], [], [], [3], [], [], [], [], [], [], [0, 1], [1], [], [], [1], [], [1], [], [], [], [], [], [], [], [0, 4], [0, 4], [], [], [0, 4], [4], [], [], [4], [], [], [4], [], [], [], [], [], [], [], [], [0, 4], [0, 4], [], [], [0, 4], [], [], [0, 4], [], [0, 4], [0, 4], [], [], [0, 4], [], [], [0, 4], [0, 4], [], [], [0, 4], [4], [], [], [4], [], [], [4], [], [], [], [], [], [], [], [], [], [], [], [0, 4], [4], [], [], [4], [], [4], [], [], [], [], [], [], [], [], []]
noncomputable def pm_lt68 : List (List Nat) := [[0, 1, 2], [0, 1, 2], [], [], [0, 1, 2], [0, 1, 2], [], [0, 1, 2], [], [0, 1, 2], [], [], [0, 1, 2], [0, 1, 2], [], [], [0, 1, 2], [0, 1, 2], [], [], [0, 1, 2], [], [], [0, 1, 2], [0, 1, 2], [0, 1, 2], [], [], [0, 1, 2], [0, 1, 2], [0, 1], [], [], [0, 1], [1], [], [], [1], [1], [], [], [], [], [], [], []]
noncomputable def pm_lt69 : List (List Nat) := [[0], [0], [], [], [0], [], [], [0], [0], [0], [], [], [0], [0], [0], [], [], [0], [0], [0], [], [], [0], [0], [], [], [0], [0], [], [], [0], [], [], [0], [], [], [0], [0], [0], [], [], [0], [], [], [0], [], [], [0], [], [], [0], [0], [], [], [0], [0, 1], [0, 1], [0, 1, 2], [0, 1, 2], [0, 1, 2, 3], [0, 1, 2, 3], [0, 1, 2, 3], [], [], [0, 1, 2, 3], [0, 1, 2, 3], [], [], [0, 1, 2, 3], [], [], [0, 1, 2, 3], [0, 1, 2, 3], [0, 1, 3], [], [], [0, 1, 3], [0, 1, 2, 3], [], [], [0, 1, 2, 3], [], [], [0], [0], [], [], [0], [], [], [0], [0], [], [], [0], [], [], [], [], [], [], [], [], [], [], [], [], [], [], []]
noncomputable def pm_lt70 : List (List Nat) := [[0, 1, 2], [0, 1, 2], [], [], [0, 1, 2], [0, 1, 2], [0, 1, 2], [], [], [0, 1, 2], [], [], [0, 1, 2], [0, 1, 2], [], [], [0, 1, 2], [0, 1, 2], [], [0, 1, 2], [], [], [], [], [0, 1, 2], [0, 1, 2], [], [], [0, 1, 2], [0, 2], [0, 2], [0, 2, 3], [0, 2, 3], [], [], [3], [], [0, 2, 3], [0, 2, 3], [0, 2, 3], [], [], [0, 2, 3], [2, 3], [], [], [2, 3], [2], [], [], [], [], [], [], [0, 2, 3], [0, 2, 3], [], [], [0, 2, 3], [0, 2, 3], [], [], [0, 2, 3], [], [0, 2, 3, 4], [0, 2, 3, 4], [0, 2, 3, 4], [], [], [4], [], [], [0, 2, 3, 4], [0, 3, 4], [0, 3, 4], [0, 3, 4], [0, 3, 4], [0, 3, 4], [], [0, 3, 4, 5], [], [0, 3, 4, 5], [], [0, 3, 5], [], [], [0, 3, 5], [3, 5], [], [], [3, 5], [5], [], [], [], [], [], [], [], [], []]
noncomputable def pm_lt71 : List (List Nat) := [[0], [0], [], [], [0], [0], [], [], [0], [], [], [0], [0, 1], [0, 1], [0, 1], [], [], [0], [], [], [], [], [], [], [0, 1], [1], [1], [], [], [1], [1], [1], [], [], [1], []]
noncomputable def pm_lt72 : List (List Nat) := [[0, 1], [0, 1], [], [], [0, 1], [0, 1, 2], [0, 1, 2], [], [], [0, 1, 2], [], [], [0, 1, 2], [0, 1, 2], [], [], [0, 1, 2], [], [], [0, 1], [1], [1], [], [], [1], [], [0, 1, 2], [0, 1, 2], [], [], [0, 1, 2], [], [], [0, 1, 2], [0, 1, 2], [], [0, 1, 2], [0, 1, 2], [], [], [0, 1, 2], [0, 1, 2], [], [], [0, 1, 2], [0, 1, 2, 3], [0, 1, 2, 3], [0, 1, 2, 3], [0, 1, 2, 3], [0, 1, 2], [0, 1, 2], [], [0, 1, 2, 4], [0, 1, 2, 4], [], [], [0, 1, 2, 4], [0, 1, 2, 4], [], [], [0, 1, 2, 4], [0, 1, 2, 4], [], [0, 1, 2, 4], [], [], [0, 1, 2, 4], [0, 1, 2, 4], [], [], [0, 1, 2, 4], [], [], [0, 1, 4], [0, 1, 4], [0, 1, 4], [], [], [0, 1, 4], [], [], [0, 1, 2, 4], [0, 1, 2, 4], [], [], [0, 1, 2, 4], [], [], [0, 1, 4], [0, 1, 4], [0, 1, 4], [], [], [0, 1, 4], [0, 1, 4], [0, 1, 4], [], [], [0, 1, 4], [], [], [0, 1, 4], [0, 1, 4], [0, 1, 4], [], [], [0, 1, 4], [], [], [0, 1, 4], [], [], [0, 1, 2, 4], [0, 1, 2, 4], [], [], [0, 1, 2, 4], [], [], [0, 1, 2, 4], [0, 1, 2, 4], [0, 1, 4], [], [], [0, 1, 4], [0, 1, 4], [], [], [0, 1, 4], [], [], [0, 1, 2, 4], [0, 1, 2, 4], [], [], [0, 1, 2, 4], [], [], [0, 1, 2, 4], [0, 1, 2, 4], [0, 1, 2, 4], [], [], [0, 1, 2, 4], [], [], [0, 1, 2, 4], [0, 1, 4], [0, 1, 4], [0, 1, 4], [], [], [0, 1, 4], [], [0, 1, 4], [], [0, 1, 4], [], [], [0, 1, 4], [0, 1, 4], [], [], [0, 1, 4], [], [], [0, 1], [1], [1], [], [], [1], [], [0, 4], [0, 4], [], [], [0, 4], [], [0, 4], [0, 4], [], [], [0, 4], [], [], [0, 4], [0, 4], [], [], [0, 4], [0, 4], [], [], [0, 4], [], [0, 4], [0, 4], [4], [4], [], [], [4], [4], [4], [], [], [4], [], []]
noncomputable def pm_lt73 : List (List Nat) := [[0, 1], [0, 1], [], [], [0], [], [], [], [], [], [0, 1], [0, 1], [0, 1, 2], [0, 1, 2], [0, 1, 2], [], [], [0, 1, 2], [0, 1, 2], [], [], [0, 1, 2], [], [], [0, 1, 2], [0, 1, 2], [0, 1, 2], [0, 1, 2], [], [], [0, 1, 2], [], [], [0, 1], [1], [], [], [], []]
noncomputable def pm_lt74 : List (List Nat) := [[0, 1], [0, 1], [], [], [0, 1], [0, 1], [0, 1], [0, 1], [], [], [0], [], [], [], [], [], [0, 1], [0, 1], [0, 1, 2], [0, 1, 2], [0, 1, 2], [], [], [0, 1, 2], [0, 1, 2], [], [], [0, 1, 2], [], [], [0, 1, 2], [0, 1, 2], [], [], [0, 1, 2], [0, 1, 2], [], [], [0, 1, 2], [0, 1, 2], [0, 1, 2], [0, 1, 2], [], [], [0, 1, 2], [0, 1, 2], [0, 1, 2], [], [], [0, 1, 2], [], [], [0, 1, 2], [], [], []]
noncomputable def pm_lt75 : List (List Nat) := [[0, 1], [0, 1], [0, 1], [], [], [0], [], [], [], [], [], [0, 1], [0, 1], [0, 1, 2], [0, 1, 2], [0, 1, 2], [], [], [0, 1, 2], [0, 1, 2], [], [], [0, 1, 2], [0, 1, 2], [], [], [0, 1, 2], [], [], [0, 1, 2], [], [], [0, 1, 2], [], [], []]
noncomputable def pm_lt76 : List (List Nat) := [[0], [0], [], [], [0], [0, 1], [0, 1], [0, 1], [], [], [1], [], [0, 1], [0, 1], [], [0, 1], [], [], [0, 1], [], [0, 1], [], [], [0, 1], [0, 1], [], [0, 1], [], [], [0, 1], [], [0, 1], [], [], [0, 1], [0, 1], [0, 1, 2], [0, 1, 2], [], [], [0, 1, 2], [0, 1, 2, 3], [0, 1, 2, 3], [0, 1, 3], [], [], [0], [], [], [], [], [], [], [1, 3], [3], [], [3], [], [], [3], [], [3], [], [], [], [], [3], [], [3], [], []]
noncomputable def pm_lt77 : List (List Nat) := [[0], [0], [], [], [0], [0], [], [], [0], [0], [], [0], [], [], [0], [], [], [0], [], [], [], [], [], [], []]
noncomputable def pm_lt78 : List (List Nat) := [[0, 1, 2], [0, 1, 2], [], [], [0, 1, 2], [0, 1, 2], [0, 1, 2], [], [], [0, 1, 2], [0, 1, 2], [0, 1, 2], [], [], [0, 1, 2], [0, 1, 2], [0, 2], [], [], [0, 2], [], [], [0, 2], [0, 2], [0, 2], [], [], [0, 2], [0, 2], [], [], [0, 2], [], [], [0, 2], [2], [], [], [2], [], [], [], []]
noncomputable def pm_lt79 : List (List Nat) := [[0, 1, 2], [0, 1, 2], [0, 1, 2], [], [], [0, 1, 2], [0, 1, 2], [0, 1, 2], [0, 1, 2], [0, 1, 2, 3], [0, 1, 2, 3], [0, 1, 2, 3], [0, 1, 2, 3], [], [], [0, 1, 2, 3], [], [0, 1, 2, 3, 4], [], [0, 1, 2, 3, 4], [0, 1, 2, 3, 4], [], [], [0, 1, 2, 3, 4], [0, 1, 2, 3, 4], [], [0, 1, 2, 3, 4, 5], [0, 1, 2, 3, 4, 5], [0, 1, 2, 3, 4, 5], [], [], [0, 1, 2, 3, 4, 5], [], [0, 1, 2, 3, 4, 5, 6], [0, 1, 2, 3, 4, 5, 6], [0, 1, 2, 3, 4, 5, 6], [0, 1, 2, 3, 4, 5, 6], [], [0, 1, 2, 3, 4, 5, 6], [0, 1, 2, 3, 4, 5, 6], [], [], [0, 1, 2, 3, 4, 5, 6], [], [], [0, 1, 2, 3, 4, 5, 6], [], [], [0, 1, 2, 3, 4, 5, 6], [], [0, 1, 2, 3, 4, 5, 6, 7], [], [0, 1, 2, 3, 4, 5, 6, 7], [], [], [0, 1, 2, 3, 4, 5, 6, 7], [], [0, 1, 2, 3, 4, 5, 6, 7], [], [], [0, 1, 2, 3, 4, 5, 6, 7], [], [0, 1, 2, 3, 4, 5, 6, 7], [], [], [0, 1, 2, 3, 4], [0, 1, 2, 3, 4], [], [], [0, 1, 2, 3, 4], [0, 1, 2, 4], [], [], [0, 1, 2, 4], [], [], [0, 1, 2, 3, 4, 5, 6, 7], [], [0, 1, 2, 3, 4, 5, 6, 7], [], [], [0, 1, 2, 3, 4, 5, 6, 7], [], [0, 1, 2, 3, 4, 5, 6, 7], [], [], [0, 1, 2, 3, 4, 5, 6, 7], [], [0, 1, 2, 3, 4, 5, 6, 7], [0, 1, 2, 3, 4, 5, 6, 7], [], [], [0, 1, 2, 3, 4], [0, 1, 2, 3, 4], [], [], [0, 1, 2, 3, 4], [], [0, 1, 2, 3, 4], [0, 1, 2, 4], [0, 1, 2, 4], [], [], [0, 1, 2, 4], [0, 1, 2, 4], [0, 1, 2, 4], [0, 1, 2, 4], [0, 1, 2, 4], [], [], [0, 1, 2, 4], [], [], [0, 1, 2, 4], [], [], [0, 1, 2, 3, 4, 5, 6, 7], [], [0, 1, 2, 3, 4, 5, 6], [], [], [0, 1, 2, 3, 4, 5, 6], [], [0, 1, 2, 3, 4, 5], [], [], [0, 1, 2, 3, 4, 5], [], [0, 1, 2, 3, 4, 5], [], [], [0, 1, 2, 3, 4, 5], [0, 1, 2, 3, 4, 5], [], [], [0, 1, 2, 3, 4, 5], [0, 1, 2, 3, 4, 5], [], [], [0, 1, 2, 3, 4, 5], [], [], [0, 1, 2, 3, 4, 5], [], [0, 1, 2, 3, 4], [0, 1, 2, 3, 4], [], [], [0, 1, 2, 3, 4], [0, 1, 2, 3, 4], [], [], [0, 1, 2, 3, 4], [0, 1, 2, 4], [], [], [0, 1, 2, 4], [0, 1, 2, 4], [0, 1, 2, 4], [0, 1, 2, 4], [0, 1, 2, 4], [], [], [0, 1, 2, 4], [], [0, 1, 2, 4], [], [], [0, 1, 2, 4], [], [], [0, 1, 2, 3, 4], [0, 1, 2, 3, 4], [0, 1, 2, 3, 4], [0, 1, 2, 3, 4], [0, 1, 2, 4], [], [0, 1, 2, 4], [], [], [0, 1, 2, 4], [1, 2, 4], [2, 4], [4], [], [], [], [], []]
noncomputable def pm_lt80 : List (List Nat) := [[1, 2], [1, 2], [1, 2, 3], [1, 2, 3], [], [], [1, 2, 3], [1, 2, 3], [1, 2, 3], [1, 2, 3], [1, 2, 3], [1, 2, 3], [], [], [1, 2, 3], [], [], [3], [], [1, 2, 3], [], [], [1, 2, 3], [], [], [], []]
noncomputable def pm_lt81 : List (List Nat) := [[0, 1, 2, 3], [0, 1, 2, 3], [], [0, 1, 2, 3, 4], [], [0, 1, 2, 3, 4], [0, 1, 2, 3, 4], [], [], [0, 1, 2, 3, 4], [0, 1, 2, 3, 4], [0, 1, 2, 3, 4], [], [0, 1, 2, 3, 4], [], [], [0, 1, 2, 3, 4], [0, 1, 2, 3, 4], [], [], [0, 1, 2, 3, 4], [], [0, 1, 2, 3, 4], [0, 1, 2, 3, 4], [], [], [], [], [0, 1, 2, 3, 4], [], [], [0, 1, 2, 3, 4], [], [], [], []]
noncomputable def pm_lt82 : List (List Nat) := [[0, 1, 2, 3, 4], [0, 1, 2, 3, 4], [], [], [0, 1, 2, 3, 4], [], [], [0, 1, 2, 3, 4], [], [], [0, 1, 2, 3, 4], [0, 1, 2, 3, 4], [], [], [0, 1, 2, 3, 4], [0, 1, 2, 4], [], [], [0, 1, 2, 4], [0, 1, 2, 4], [], [], [0, 1, 2, 4], [], [0, 1, 2, 4], [], [], [0, 1, 2, 4], [0, 1, 2, 4], [0, 1, 2, 4], [0, 1, 2, 4], [0, 1, 2, 4], [], [0, 1, 2], [], [], [0, 1, 2], [0, 1, 2], [], [], [0, 1, 2], [0, 1, 2], [0, 1, 2], [], [], [0, 1, 2], [], [], [0, 1, 2], [0, 1, 2], [], [0, 1, 2, 5], [], [0, 1, 2, 5], [0, 1, 2, 5], [0, 1, 2, 5], [], [], [0, 1, 2, 5], [], [], [0, 1, 2, 5], [0, 1, 2, 5], [0, 1, 2, 5], [0, 1, 2, 5], [], [0, 1, 2, 5], [], [], [0, 1, 2, 5], [], [], [0, 1, 2, 5], [], [], [0, 1, 2, 5], [], [], []]
noncomputable def pm_lt83 : List (List Nat) := [[0, 1, 2, 3, 4], [0, 1, 2, 4], [], [0, 1, 2, 4, 5], [], [0, 1, 2, 4, 5], [], [0, 1, 2, 4, 5], [], [], [0, 1, 2, 4, 5], [0, 1, 2, 4, 5], [0, 1, 2, 4, 5], [0, 1, 2, 4, 5], [], [0, 1, 2, 4, 5], [], [], [0, 1, 2, 4, 5], [], [], [0, 1, 2, 4, 5], [], [], [0, 1, 2, 4, 5], [], [], []]
noncomputable def pm_lt84 : List (List Nat) := [[0, 1], [0, 1], [], [], [0, 1], [], [], [0, 1], [0, 1], [], [], [0, 1], [], [0, 1], [], [], [0, 1], [1], [], [], [1], [], [], [], [], [], [], [], [], [], [0, 1], [0, 1], [], [], [0, 1], [], [], [0, 1], [0, 1], [], [], [0, 1], [], [0, 1], [], [], [0, 1], [1], [], [], [1], [], [], [], [], [], [], [], [], [], [0, 1], [1], [], [], [1], [], [], [], []]
noncomputable def pm_lt85 : List (List Nat) := [[0, 1, 2, 3], [0, 1, 2, 3], [], [0, 1, 2, 3, 4], [], [0, 1, 2, 3, 4], [0, 1, 2, 3, 4], [], [], [0, 1, 2, 3, 4], [0, 1, 2, 3, 4], [], [], [0, 1, 2, 3, 4], [], [0, 1, 2, 3, 4], [0, 1, 2, 3, 4], [0, 1, 2, 3, 4], [], [0, 1, 2, 3, 4], [], [], [0, 1, 2, 3, 4], [0, 1, 2, 3, 4], [], [], [0, 1, 2, 3, 4], [], [], [0, 2, 3], [0, 2, 3], [0, 2], [], [], [0, 2], [2], [], [], [], []]
noncomputable def pm_lt86 : List (List Nat) := [[0], [0], [], [], [0], [0], [], [0], [], [0], [], [], [0], [0], [], [0], [], [0], [], [], [0], [0], [], [0], [], [0], [], [], [0], [0], [], [0], [], [], [0], [], [], [0], [0], [], [], [0], [0], [], [], [0], [], [], [0], [0], [], [], [0], [0], [], [], [0], [0], [0, 1], [0, 1], [], [0, 1], [], [], [0, 1], [0, 1], [], [], [0, 1], [0, 1], [], [], [0, 1], [0, 1], [], [], [0, 1], [0, 1], [], [], [0, 1], [], [], []]
noncomputable def pm_lt87 : List (List Nat) := [[0], [0], [], [], [0], [], [], [], [], [], [], [], [], [], [], []]
noncomputable def pm_lt88 : List (List Nat) := [[0], [0], [], [0], [], [], [0], [], [], [], [], [], [], [], [], [], [], []]
noncomputable def pm_lt89 : List (List Nat) := [[0], [0], [], [0], [], [], [0], [], [], [], [], [], [], [], [], [], [], []]
noncomputable def pm_lt90 : List (List Nat) := [[0], [0], [0], [], [], [0], [0], [], [], [0], [], [], [0], [], [], [], [], [], [], [], [], [], [], [], []]
noncomputable def pm_lt91 : List (List Nat) := [[0], [0], [0], [], [], [0], [], [], [], [], [], [], [], [], [], [], [], []]
noncomputable def pm_lt92 : List (List Nat) := [[0], [0], [0], [], [], [0], [], [], [], [], [], [], [], [], [], [], [], []]
noncomputable def pm_lt93 : List (List Nat) := [[0, 1, 2], [0, 1, 2], [0, 1, 2], [], [], [0, 1, 2], [0, 1, 2], [], [0, 1, 2], [], [], [0, 1, 2], [0, 1, 2], [], [], [0, 1, 2], [0, 1, 2], [0, 1, 2], [], [], [], [], [0, 1, 2], [1, 2], [], [], [1, 2], [2], [], [], []]
noncomputable def pm_lt94 : List (List Nat) := [[0, 1, 2, 3], [0, 1, 2, 3], [], [], [0, 1, 2, 3], [0, 1, 2, 3], [], [0, 1, 2, 3], [], [], [0, 1, 2, 3], [0, 1, 2, 3], [], [], [0, 1, 2, 3], [], [], [0, 1, 2, 3], [0, 1, 2, 3], [], [], [0, 1, 2, 3], [], [], [], [], [0, 1, 2, 3], [0, 1, 2, 3], [], [], [0, 1, 2, 3], [0, 1, 2, 3], [0, 1, 3], [0, 1, 3], [1, 3], [], [], [1, 3], [3], [], [], []]
noncomputable def pm_lt95 : List (List Nat) := [[0, 1, 2], [0, 1, 2], [0, 1, 2, 3], [0, 1, 2, 3], [], [0, 1, 2, 3], [], [], [0, 1, 2, 3], [0, 1, 2, 3], [0, 1, 2, 3], [], [], [0, 1, 2, 3], [0, 1, 2, 3], [0, 1, 2, 3], [], [], [0, 1, 2, 3], [0, 1, 2, 3], [], [], [0, 1, 2, 3], [0, 2, 3], [0, 2, 3], [0, 1, 2, 3], [], [], [0, 1, 2, 3], [0, 1, 2, 3], [], [], [0, 1, 2, 3], [0, 1, 3], [0, 1, 3], [0, 1, 2, 3], [], [], [0, 1, 2, 3], [], [], [1], []]
noncomputable def pm_lt96 : List (List Nat) := [[0, 1, 2], [0, 1, 2], [], [], [0, 1, 2], [0, 1, 2], [0, 1, 2], [], [], [], [], [0, 1, 2], [0, 1, 2], [], [], [0, 1, 2], [], [], [], [], [0, 1, 2], [0, 1, 2], [0, 1, 2], [], [], [], [], [0, 1, 2], [0, 1, 2], [], [], [0, 1, 2], [], [], [0, 1, 2], [1, 2], [2], [], [2], [2], [2], [], [2], [2], [], [], [2], [], [], [], [], [], [], [], [], [], [], [], []]
noncomputable def pm_lt97 : List (List Nat) := [[0, 1, 2], [0, 1, 2], [0, 1, 2], [], [], [1], [], [0, 1, 2], [0, 1, 2], [0, 1, 2], [], [], [0, 1, 2], [0, 1, 2], [], [], [0, 1, 2], [], [], [2], [], [0, 1, 2], [0, 1, 2], [0, 1, 2], [], [], [0, 1, 2], [0, 1, 2], [], [], [0, 1, 2], [], [], [1], [], [0, 1, 2], [0, 1, 2], [], [], [0, 1, 2], [], [], [0, 1, 2], [0, 1, 2], [], [], [0, 1, 2], [], [], [0, 1, 2], [], [0, 1, 2], [1, 2], [2], [], [2], [2], [], [], [], [], [], [], [], [], [], []]
noncomputable def pm_lt98 : List (List Nat) := [[0], [0], [], [], [0], [0], [], [], [0], [0], [], [], [0], [], [], [0], [0], [], [], [0], [0], [], [], [0], [], [], [0], [0], [], [], [0], [0], [], [0], [], [], [0], [], [], [0], [0], [], [], [0], [0], [], [], [0], [0], [], [], [0], [0], [0], [], [], [0], [0], [], [], [0], [], [], [0], [], [], [0], [], [], [0], [0], [0], [], [], [0], [0], [], [], [0], [], [], [0], [0, 1], [0, 1], [], [], [0, 1], [0, 1], [0, 1], [], [], [0, 1], [0, 1], [], [], [0, 1], [0, 1], [0, 1], [], [], [0, 1], [], [], [0, 1], [], [], [0, 1], [], [], [0, 1], [0, 1], [], [], [0, 1], [0, 1], [0, 1], [], [], [0, 1], [1], [], [], [1], [], [], [], [], [], [], []]
noncomputable def pm_lt99 : List (List Nat) := [[0, 1, 2], [1, 2], [], [], [1, 2], [2], [], [], [], []]
noncomputable def pm_lt100 : List (List Nat) := [[0, 1, 2, 3], [1, 2, 3], [], [], [1, 2, 3], [2, 3], [3], [], [], [], []]
noncomputable def pm_lt101 : List (List Nat) := [[0, 1, 2, 3, 4, 5], [0, 1, 2, 3, 4, 5], [], [], [0, 1, 2, 3, 4, 5], [0, 1, 2, 3, 4, 5], [], [0, 1, 2, 3, 4, 5], [], [], [], [], [0, 1, 2, 3, 4, 5], [1, 2, 3, 4, 5], [], [], [1, 2, 3, 4, 5], [], [], [1, 2, 3, 4, 5], [2, 3, 4, 5], [2, 3, 4, 5], [3, 4, 5], [4, 5], [], [5], [5], [], [], [], [], []]
noncomputable def pm_lt102 : List (List Nat) := [[0, 1, 2, 3, 4, 5], [1, 2, 3, 4, 5], [], [], [1, 2, 3, 4, 5], [], [], [1, 2, 3, 4, 5], [2, 3, 4, 5], [3, 4, 5], [4, 5], [], [5], [], [], [], [], []]
noncomputable def pm_lt103 : List (List Nat) := [[0, 1, 3], [1, 3], [], [], [1, 3], [], [], [1, 3], [3], [], [], [], []]
noncomputable def pm_lt104 : List (List Nat) := [[0], [0], [], [], [0], [], [], [0], [], [], [0], [0, 1], [1], [], [], [1], [], [], [1], [], [], [1], []]
noncomputable def pm_lt105 : List (List Nat) := [[0, 1, 3], [0, 1, 3], [], [], [0], [], [], [], [], [], [], [], [], [0, 1, 3], [1, 3], [], [], [1, 3], [3], [], [], [], []]
noncomputable def pm_lt106 : List (List Nat) := [[0, 1], [1], [], [], [1], [], [], [], []]
noncomputable def pm_lt107 : List (List Nat) := [[0], [0], [], [], [0], [], [], [0], [], [], [], [], [], [], [], [], [], [], [], [], [0], [], [], [], [], [], [], []]
noncomputable def pm_lt108 : List (List Nat) := [[0, 1, 2], [0, 1, 2], [], [], [0, 1, 2], [], [], [0, 1, 2], [], [], [], [], [], [], [], [], [], [], [], [], [0, 1, 2], [1, 2], [], [], [1, 2], [2], [], [], [], []]
noncomputable def pm_lt109 : List (List Nat) := [[0], [0], [], [], [0], [], [], [0], [], [], [], [], [], [], [], [], [], [], [], [], [0], [], [], [], [], [], [], []]
noncomputable def pm_lt110 : List (List Nat) := [[0], [0], [], [], [0], [], [], [0], [0, 1], [0, 1], [], [], [1], [], [], [0], [0], [], [], [0], [], [], [0], [0, 2], [0, 2], [], [], [0, 2], [], [0, 2], [], [], [], [], [], [], [], [], [], [], [], [], [0, 2], [0, 2], [], [], [0, 2], [0], [], [], [0], [], [], [], [], [], [], []]
noncomputable def pm_lt111 : List (List Nat) := [[0], [0], [], [], [0], [0], [], [0], [], [0], [], [], [0], [0], [], [0], [], [0], [], [], [0], [0], [], [0], [], [0], [], [], [0], [0], [], [0], [], [0], [], [], [0], [0], [], [0], [], [0], [], [], [0], [0], [], [0], [], [0], [], [], [0], [0], [0], [], [0], [], [], [0], [0], [], [0], [], [0], [], [], [0], [0], [], [0], [], [0], [], [], [0], [0], [0], [], [], [0], [0], [], [0], [], [0], [], [], [0], [0], [], [0], [], [0], [], [], [0], [0], [], [], [0], [], [0], [], [], [0], [0], [], [0], [], [0], [], [], [0], [0], [], [0], [], [0], [], [], [0], [0], [], [0], [], [0], [], [], [0], [0], [], [0], [], [0], [], [], [0], [0], [], [0], [], [0], [], [], [0], [0], [], [], [0], [], [0], [], [], [0], [0], [], [], [0], [], [0], [], [], [0], [0], [0], [], [0], [], [], [0], [0], [0, 1], [0, 1], [], [0, 1], [], [], [0, 1], [0, 1], [], [], [0, 1], [0, 1], [0, 1], [0, 1], [], [], [0, 1], [], [], []]
noncomputable def pm_lt112 : List (List Nat) := [[0], [], [], [], []]
noncomputable def pm_lt113 : List (List Nat) := [[0], [0], [], [0], [], [], [0], [], [], [], [], [], [], [], [], [], [], []]
noncomputable def pm_lt114 : List (List Nat) := [[0], [0], [0], [], [], [0], [], [], [], [], [], [], [], [], [], [], [], []]
noncomputable def pm_lt115 : List (List Nat) := [[0], [], [], [], [], [], [], [], [], [], [], []]
noncomputable def pm_lt116 : List (List Nat) := [[0, 1, 2], [0, 2], [0, 2, 3], [0, 2, 3], [0, 2, 3], [], [], [0, 2, 3], [0, 2, 3], [], [], [0, 2, 3], [0, 2], [0, 2], [0, 2, 3], [], [], [2, 3], [2], [], [], [], [], [], [], [], [], []]
noncomputable def pm_lt117 : List (List Nat) := [[0, 1, 2], [0, 1, 2], [], [], [0, 1, 2], [0, 1, 2], [0, 1, 2], [], [], [0, 1, 2], [0, 1, 2], [0, 1, 2], [], [], [0, 1, 2], [0, 1, 2], [], [], [0, 1, 2], [], [], [0, 1, 2], [0, 1, 2], [], [], [0, 1, 2], [], [], [0, 1, 2], [0, 1, 2], [], [], [0, 1, 2], [], [], [0, 1, 2], [1, 2], [2], [], [2], [2], [], [], [], [], [], [], [], [], [], [], [], [], [], [], []]
noncomputable def pm_lt118 : List (List Nat) := [[0, 1, 2], [0, 1, 2], [0, 1, 2], [], [], [1], [], [0, 1, 2], [0, 1, 2], [0, 1, 2], [], [], [0, 1, 2], [0, 1, 2], [], [], [0, 1, 2], [], [], [2], [], [0, 1, 2], [0, 1, 2], [0, 1, 2], [], [], [0, 1, 2], [0, 1, 2], [], [], [0, 1, 2], [], [], [1], [], [0, 1, 2], [0, 1, 2], [], [], [0, 1, 2], [], [], [0, 1, 2], [0, 1, 2], [], [], [0, 1, 2], [], [], [], [], [0, 1, 2], [0, 2], [], [0, 2], [0, 2], [0, 2, 3], [0, 2, 3], [0, 2, 3], [], [0, 2, 3], [0, 2, 3], [0, 2, 3], [], [], [0, 2, 3], [], [], [0, 2, 3], [0, 2, 3], [], [], [0, 2, 3], [0, 2], [0, 2], [0, 2, 3], [], [], [3], [], [3], [], []]
noncomputable def pm_lt119 : List (List Nat) := [[0, 1, 2], [0, 1, 2], [0, 1, 2], [], [], [0, 1, 2], [0, 1, 2], [0, 1, 2], [], [], [0, 1, 2], [0, 1, 2], [], [0, 1, 2], [], [], [0, 1, 2], [0, 1, 2], [], [], [0, 1, 2], [0, 1, 2], [0, 1, 2], [], [], [], [], [0, 1, 2], [1, 2], [], [], [1, 2], [2], [], [], []]
noncomputable def pm_lt120 : List (List Nat) := [[0, 1, 2, 3], [0, 1, 2, 3], [0, 1, 2, 3], [], [], [0, 1, 2, 3], [0, 1, 2, 3], [], [], [0, 1, 2, 3], [0, 1, 2, 3], [0, 1, 2, 3], [], [], [0, 1, 2, 3], [0, 1, 2, 3], [], [], [0, 1, 2, 3], [0, 1, 2, 3], [], [0, 1, 2, 3], [], [], [0, 1, 2, 3], [0, 1, 2, 3], [], [], [0, 1, 2, 3], [], [], [], [], [0, 1, 2, 3], [0, 1, 2, 3], [], [], [0, 1, 2, 3], [0, 1, 2, 3], [0, 1, 3], [0, 1, 3], [1, 3], [], [], [1, 3], [3], [], [], []]
noncomputable def pm_lt121 : List (List Nat) := [[0, 1], [0, 1], [0, 1], [], [], [0, 1], [1], [1], [], [], [1], [], [], [], [], [], [], [], [], [], [], [], []]
noncomputable def pm_lt122 : List (List Nat) := [[0, 1, 2, 3, 4, 5], [0, 1, 2, 3, 4, 5], [0, 1, 2, 3, 4, 5], [], [], [0, 1, 2, 3, 4, 5], [0, 1, 2, 3, 4, 5], [], [], [0, 1, 2, 3, 4, 5], [0, 1, 2, 3, 4, 5], [0, 1, 2, 3, 4, 5], [], [], [0, 1, 2, 3, 4, 5], [0, 1, 2, 3, 4, 5], [0, 1, 2, 3, 4, 5], [], [], [0, 1, 2, 3, 4, 5], [], [], [0, 1, 2, 3, 4, 5], [0, 1, 2, 3, 4, 5], [0, 1, 2, 3, 4, 5], [], [], [0, 1, 2, 3, 4, 5], [], [], [0, 1, 2, 3, 4, 5], [0, 1, 2, 3, 4, 5], [], [0, 1, 2, 3, 4, 5], [], [], [0, 1, 2, 3, 4, 5], [], [], [0, 1, 2, 3, 4, 5], [], [0, 1, 2, 3, 4, 5], [], [], [0, 1, 2, 3, 4, 5], [], [0, 1, 2, 3, 4, 5], [], [], [0, 1, 2, 3, 4, 5], [], [], [], [], [0, 1, 2, 3, 4, 5], [0, 1, 2, 3, 4, 5], [], [], [0, 1, 2, 3, 4, 5], [0, 1, 2, 3, 4, 5], [0, 1, 2, 3, 4, 5], [0, 1, 2, 3, 4, 5], [0, 1, 2, 3, 4, 5], [0, 1, 2, 3, 4, 5], [0, 1, 2, 3, 4, 5], [], [], [0, 1, 2, 3, 4, 5], [0, 1, 2, 3, 4, 5], [0, 1, 2, 3, 4, 5], [0, 1, 2, 3, 4, 5], [0, 1, 2, 3, 4, 5], [0, 1, 2, 3, 4, 5], [0, 1, 2, 3, 4, 5], [0, 1, 2, 3, 4, 5], [0, 1, 2, 3, 4, 5], [], [], [0, 1, 2, 3, 4, 5], [0, 1, 2, 3, 4, 5], [0, 1, 2, 3, 4, 5], [0, 1, 2, 3, 4, 5], [0, 1, 2, 3, 4, 5], [0, 1, 2, 3, 4, 5], [], [0, 1, 2, 3, 4, 5], [0, 1, 2, 3, 4, 5], [0, 1, 2, 3, 4, 5], [], [], [0, 1, 2, 3, 4, 5], [0, 1, 2, 3, 4, 5], [0, 1, 3, 4, 5], [0, 1, 3, 4, 5], [], [], [0, 1, 5], [0, 1, 5], [], [], [0, 1, 3, 4, 5], [0, 1, 4, 5], [0, 1, 4, 5], [], [], [0, 1, 5], [0, 1, 5], [], [], [0, 1, 4, 5], [], [0, 1, 5], [0, 1, 5], [], [], [0, 1, 5], [0, 1, 5], [], [], [0, 1, 5], [0, 1, 5], [0, 1, 5], [1, 5], [], [], [1, 5], [5], [], [], [], []]
noncomputable def pm_lt123 : List (List Nat) := [[0, 1, 2, 3, 4, 5], [0, 1, 2, 3, 4, 5], [0, 1, 2, 3, 4, 5], [], [], [0, 1, 2, 3, 4, 5], [0, 1, 2, 3, 4, 5], [0, 1, 2, 3, 4, 5], [], [], [0, 1, 2, 3, 4, 5], [], [], [0, 1, 2, 3, 4, 5], [0, 1, 2, 3, 4, 5], [0, 1, 2, 3, 4, 5], [], [], [0, 1, 2, 3, 4, 5], [], [], [0, 1, 2, 3, 4, 5], [0, 1, 2, 3, 4, 5], [0, 1, 2, 3, 4, 5], [], [], [0, 1, 2, 3, 4, 5], [], [], [0, 1, 2, 3, 4, 5], [0, 1, 2, 3, 4, 5], [], [0, 1, 2, 3, 4, 5], [], [], [0, 1, 2, 3, 4, 5], [], [], [0, 1, 2, 3, 4, 5], [], [0, 1, 2, 3, 4, 5], [], [], [0, 1, 2, 3, 4, 5], [], [0, 1, 2, 3, 4, 5], [], [], [0, 1, 2, 3, 4, 5], [], [], [], [], [0, 1, 2, 3, 4, 5], [0, 1, 2, 3, 4, 5], [], [], [0, 1, 2, 3, 4, 5], [0, 1, 2, 3, 4, 5], [0, 1, 2, 3, 4, 5], [0, 1, 2, 3, 4, 5], [0, 1, 2, 3, 4, 5], [], [], [0, 1, 2, 3, 4, 5], [0, 1, 2, 3, 4, 5], [0, 1, 2, 3, 4, 5], [0, 1, 2, 3, 4, 5], [0, 1, 2, 3, 4, 5], [], [], [0, 1, 2, 3, 4, 5], [0, 1, 2, 3, 4, 5], [0, 1, 2, 3, 4, 5], [0, 1, 2, 3, 4, 5], [0, 1, 2, 3, 4, 5], [], [], [0, 1, 2, 3, 4, 5], [0, 1, 2, 3, 4, 5], [], [0, 1, 2, 3, 4, 5], [0, 1, 2, 3, 4, 5], [0, 1, 2, 3, 4, 5], [0, 2, 3, 4, 5], [0, 2, 3, 4, 5], [], [], [0, 5], [0, 5], [], [], [0, 2, 3, 4, 5], [0, 3, 4, 5], [0, 3, 4, 5], [], [], [0, 5], [0, 5], [], [], [0, 3, 4, 5], [0, 4, 5], [0, 4, 5], [], [], [0, 5], [0, 5], [], [], [0, 4, 5], [], [0, 5], [0, 5], [], [], [0, 5], [0, 5], [], [], [0, 5], [0, 5], [], [], [0, 5], [5], [], [], [], [], [], []]
noncomputable def pm_lt124 : List (List Nat) := [[0, 1, 3], [0, 1, 3], [0, 1, 3], [], [], [0, 1, 3], [0, 1, 3], [0, 1, 3], [], [], [0, 1, 3], [0, 1, 3], [], [0, 1, 3], [], [], [0, 1, 3], [0, 1, 3], [], [], [0, 1, 3], [0, 1, 3], [0, 1, 3], [], [0, 1, 3], [], [], [], [], [0, 1, 3], [0, 1], [0, 1], [0, 1], [], [0, 1, 4], [], [0, 1, 4], [], [], [0, 1, 4], [0, 1, 4], [], [], [0, 1, 4], [0, 1, 4], [], [], [0, 1, 4], [0, 1, 4], [], [0, 1, 4], [], [0, 1, 4], [0, 1, 4], [0, 1, 4], [], [], [0, 1, 4], [0, 1, 4], [0, 1, 4], [0, 1, 4], [0, 1, 4], [0, 1, 4], [], [], [0, 1, 4], [0, 1, 4], [0, 1, 4], [], [], [0, 1, 4], [], [], [0, 1, 4], [], [], [0], [], [], [], []]
noncomputable def pm_lt125 : List (List Nat) := [[0], [0], [0], [], [], [0], [0], [], [], [0], [0, 1], [1], [1], [], [], [1], []]
noncomputable def pm_lt126 : List (List Nat) := [[0, 1, 3], [0, 1, 3], [0, 1, 3], [], [], [0, 1, 3], [0, 1, 3], [], [], [0], [], [], [], [], [], [], [0, 1, 3], [0, 1, 3], [], [], [0, 1, 3], [0, 1, 3], [], [0, 1, 3], [], [], [0, 1, 3], [0, 1, 3], [], [], [0, 1, 3], [0, 1, 3], [0, 1, 3], [], [0, 1, 3], [], [], [], [], [0, 1, 3], [0, 1], [0, 1], [0, 1], [], [0, 1, 4], [], [0, 1, 4], [], [], [0, 1, 4], [0, 1, 4], [], [], [0, 1, 4], [0, 1, 4], [], [], [0, 1, 4], [0, 1, 4], [], [0, 1, 4], [], [0, 1, 4], [0, 1, 4], [0, 1, 4], [], [], [0, 1, 4], [0, 1, 4], [0, 1, 4], [0, 1, 4], [0, 1, 4], [0, 1, 4], [], [], [0, 1, 4], [0, 1, 4], [0, 1, 4], [], [], [0, 1, 4], [], [], [0, 1, 4], [], [], [0], [], [], [], []]
noncomputable def pm_lt127 : List (List Nat) := [[0, 1], [0, 1], [0, 1], [], [], [0, 1], [0, 1], [], [], [0, 1], [0, 1], [0, 1], [], [], [0, 1], [], [], [], [], [], [], [0, 1], [1], [], [], [1], [], []]
noncomputable def pm_lt128 : List (List Nat) := [[0], [0], [], [], [0], [0], [], [], [0], [], [], [0], [], [], [], [], [], [], [0], [0], [0], [], [], [0], [0], [0], [], [], [0], [0], [], [], [0], [], [], [], [], [], [], []]
noncomputable def pm_lt129 : List (List Nat) := [[0], [0], [], [], [0], [0, 1], [0, 1], [0, 1], [], [], [1], [], [0, 1], [0, 1], [], [0, 1], [], [], [0, 1], [0, 1], [], [0, 1], [], [], [0, 1], [0, 1], [], [], [0, 1], [], [], [0, 1], [0, 1], [0, 1, 2], [0, 1, 2], [1, 2], [], [], [1, 2], [], [], [1, 2], [1, 2], [], [1, 2], [], [], [1, 2], [1, 2], [], [1, 2], [], [], [1, 2], [1, 2], [], [1, 2], [], [], [1, 2], [1, 2], [], [1, 2], [], [], [1, 2], [1, 2], [], [1, 2], [], [], [1, 2], [1, 2], [], [1, 2], [], [], [1, 2], [1, 2], [], [], [1, 2], [1, 2], [], [], [1, 2], [2], [], [2], [], [], [2], [], [2], [], [], [], [], [2], [], [2], [], []]
noncomputable def pm_lt130 : List (List Nat) := [[0, 1, 2, 3], [0, 1, 2, 3], [0, 1, 2, 3], [], [], [0, 1, 2, 3], [], [], [0, 1, 2, 3], [0, 1, 2, 3], [0, 1, 2, 3], [0, 1, 2, 3], [0, 1, 2, 3], [], [], [0, 1, 2, 3], [0, 1, 2, 3], [], [], [0, 1, 2, 3], [0, 1, 2, 3], [], [], [0, 1, 2, 3], [0, 1, 2, 3], [], [0, 1, 2, 3, 4], [], [0, 1, 2, 3, 4], [0, 1, 2, 3, 4], [0, 1, 2, 3, 4], [0, 1, 2, 3, 4], [], [], [0, 1, 2, 3, 4], [0, 1, 2, 3, 4], [], [], [0, 1, 2, 3, 4], [], [], [0, 1, 2, 3, 4], [0, 1, 2, 3, 4], [], [], [0, 1, 2, 3, 4], [], [0, 1, 2, 3, 4], [0, 1, 2, 3, 4], [0, 1, 2, 3, 4], [], [0, 1, 2, 3, 4], [0, 1, 2, 3, 4], [0, 1, 2, 3, 4], [], [], [0, 1, 2, 3, 4], [0, 1, 2, 3, 4], [], [], [0, 1, 2, 3, 4], [], [], [0, 1, 2, 3], [1, 2, 3], [], [], [1, 2, 3], [2, 3], [3], [], [], []]
noncomputable def pm_lt131 : List (List Nat) := [[0, 1, 2], [0, 1, 2], [0, 1, 2], [], [], [0, 1, 2], [], [], [0, 1, 2], [0, 1, 2], [0, 1, 2], [], [], [0, 1, 2], [0, 1, 2], [], [], [0, 1, 2], [0, 1, 2], [], [], [0, 1, 2], [0, 1, 2], [], [], [0, 1, 2], [], [0, 1, 2], [0, 1, 2], [0, 1, 2], [0, 1, 2], [0, 1, 2], [0, 1, 2], [0, 1, 2], [0, 1, 2], [0, 1, 2, 3], [0, 1, 2, 3], [0, 1, 2, 3], [], [], [0, 1, 2, 3], [0, 1, 2, 3], [], [], [0, 1, 2, 3], [], [], [0, 1, 2, 3], [0, 1, 2, 3], [], [], [0, 1, 2, 3], [], [0, 1, 2, 3], [0, 1, 2, 3], [0, 1, 2, 3], [0, 1, 2, 3], [0, 1, 2, 3], [0, 1, 2, 3], [0, 1, 2, 3], [0, 1, 2, 3], [], [], [0, 1, 2, 3], [0, 1, 2, 3], [], [], [0, 1, 2, 3], [], [], []]
noncomputable def pm_lt132 : List (List Nat) := [[0, 1], [0, 1], [], [], [0, 1], [0, 1, 2], [0, 1, 2], [0, 1, 2], [], [], [0, 1, 2], [], [], [0, 1, 2], [0, 1, 2], [], [0, 1, 2], [], [], [0, 1, 2], [0, 1, 2], [], [], [0, 1, 2], [], [], [0, 1, 2], [0, 1, 2], [], [], [0, 1, 2], [0, 1, 2], [], [], [0, 1, 2], [0, 1, 2], [], [], [0, 1, 2], [], [], [], [0, 1, 2], [0, 1, 2], [], [0, 1, 2], [], [], [0, 1, 2], [0, 1, 2], [], [], [0, 1, 2], [0, 1, 2], [], [], [0, 1, 2], [], [], [0, 1, 2], [0, 1, 2], [], [0, 1, 2], [0, 1, 2], [], [], [0, 1, 2], [0, 1, 2], [], [], [0, 1, 2], [0, 1, 2, 3], [0, 1, 2, 3], [], [], [0, 1, 2, 3], [0, 1, 2, 3], [0, 1, 2, 3], [], [], [0, 1, 2, 3], [0, 1, 2], [], [], [0, 1, 2, 3], [0, 1, 2, 3], [], [], [0, 1, 2, 3], [0, 1, 2, 3], [0, 1, 2, 3], [0, 1, 2, 3], [0, 1, 2, 3], [0, 1, 2], [0, 1, 2], [0, 1, 2], [0, 1, 2], [0, 1, 2], [0, 1, 2], [0, 1, 2], [], [], [0, 1, 2], [], [], [0, 1, 2], [0, 1, 2], [], [], [0, 1, 2], [0, 1, 2], [0, 1, 2], [], [0, 1, 2], [], [], [0, 1, 2], [0, 1, 2], [], [], [0, 1, 2], [0, 1, 2], [], [], [0, 1, 2], [0, 1, 2], [], [], [0, 1, 2], [0, 1, 2], [], [], [0, 1, 2], [], [], [0, 1, 2], [0, 1, 2], [], [], [0, 1, 2], [0, 1, 2], [0, 1, 2], [0, 1, 2], [0, 1, 2], [], [0, 1, 2, 4], [0, 1, 2, 4], [], [0, 1, 2, 4, 5], [], [0, 1, 2, 4, 5], [0, 1, 2, 4, 5], [], [], [0, 1, 2, 4, 5], [0, 1, 2, 4, 5], [], [], [0, 1, 2, 4, 5], [], [0, 1, 2, 4, 5], [0, 1, 2, 4, 5], [0, 1, 2, 4, 5], [], [0, 1, 2, 4, 5], [0, 1, 2, 4, 5], [], [0, 1, 2, 4, 5], [], [0, 1, 2, 4, 5], [], [], [0, 1, 2, 4, 5], [0, 1, 2, 4, 5], [], [], [0, 1, 2, 4, 5], [0, 1, 2, 4, 5], [], [], [0, 1, 2, 4, 5], [0, 1, 2, 4, 5], [], [], [0, 1, 2, 4, 5], [], [0, 1, 2, 4, 5], [0, 1, 2, 4, 5], [], [], [0, 1, 2, 4, 5], [0, 1, 2, 4, 5], [], [], [0, 1, 2, 4, 5], [], [0, 1, 2, 4, 5], [0, 1, 2, 4, 5], [0, 1, 2, 4, 5], [0, 1, 2, 4, 5], [0, 1, 2, 4, 5], [], [0, 1, 2, 4, 5], [0, 1, 2, 4, 5], [0, 1, 2, 4, 5], [0, 1, 2, 4, 5], [], [], [0, 1, 2, 4, 5], [], [], [0, 1, 2, 4], [0, 1, 2, 4], [], [], [0, 1, 2, 4], [0, 1, 2, 4], [], [0, 1, 2, 4], [0, 1, 2, 4], [0, 1, 2, 4], [], [], [0, 1, 2, 4], [], [0, 1, 2, 4], [0, 1, 2, 4], [0, 1, 2, 4], [0, 1, 2, 4], [0, 1, 2, 4], [0, 1, 2, 4], [0, 1, 2, 4], [0, 1, 2, 4], [], [0, 1, 2, 4], [], [], [0, 1, 2, 4], [0, 1, 2, 4], [], [0, 1, 2, 4], [], [], [0, 1, 2, 4], [0, 1, 2, 4], [], [], [0, 1, 2, 4], [], [], [0, 1], [1], [], [], [], [], [], [], [], [0, 1, 2, 4], [0, 1, 2, 4], [], [], [0, 1, 2, 4], [], [], [0, 1, 2, 4], [0, 1, 2, 4], [], [], [0, 1, 2, 4], [], [], [0, 1, 2, 4], [], [0, 1, 2], [], [], [0, 1, 2], [0, 1], [0, 1], [0, 1], [], [0, 1, 5], [0, 1, 5], [0, 1, 5], [], [], [0, 1, 5], [], [], [0, 1, 5], [], [0, 1, 5], [], [], [0, 1, 5], [0, 1, 5], [], [], [0, 1, 5], [0, 1, 5], [], [], [0, 1, 5], [], [0, 1, 5], [], [], [0, 1, 5], [0, 1, 5], [], [], [0, 1, 5], [], [0, 1, 5], [], [0, 1, 5, 6], [], [0, 1, 5, 6], [0, 1, 5, 6], [], [], [0, 1, 5, 6], [0, 1, 5, 6], [], [], [0, 1, 5, 6], [], [0, 1, 5, 6], [0, 1, 5, 6], [0, 1, 5, 6], [], [0, 1, 5, 6], [0, 1, 5, 6], [0, 1, 5, 6], [0, 1, 5, 6], [], [], [0, 1, 5, 6], [], [], [0, 1, 5], [1, 5], [], [], [1, 5], [5], [], [], [], [], [], [0, 1, 2, 4], [0, 1, 2, 4], [], [], [0, 1, 2, 4], [], [], [0, 1, 2, 4], [0, 1, 2, 4], [], [], [0, 1, 2, 4], [], [], [0, 1, 2, 4], [1, 2, 4], [2, 4], [], [2], [], [], [], [], [], [], [], [], [], [], [0, 1, 2], [0, 1], [], [], [0, 1], [], [], [0, 1], [0, 1], [], [0, 1, 5], [], [0, 1, 5], [0, 1, 5], [], [], [0, 1, 5], [0, 1, 5], [], [], [0, 1, 5], [], [0, 1, 5], [0, 1, 5], [0, 1, 5], [], [0, 1, 5], [0, 1, 5], [0, 1, 5], [0, 1, 5], [], [], [0, 1, 5], [], [], [0, 1], [0, 1], [0, 1], [0, 1], [0, 1], [], [], [0, 1], [], [], [0, 1], [0, 1], [], [], [0, 1], [], [], [0, 1], [0, 1], [0], [], [], [], [], [], [], []]
noncomputable def pm_lt133 : List (List Nat) := [[0], [0], [0], [], [], [0], [0], [0], [], [], [0], [0], [0], [], [], [0], [0], [], [], [0], [0, 1], [0, 1], [0, 1, 2], [0, 1, 2], [0, 1, 2], [], [], [0, 1, 2], [0, 1, 2], [], [], [0, 1, 2], [], [], [0, 1, 2], [0, 1, 2], [0, 1, 2], [], [0, 1, 2], [], [], [0, 1, 2], [0, 1, 2], [], [], [0, 1, 2], [0, 1, 2], [], [], [0, 1, 2], [0, 1, 2], [], [], [0, 1, 2], [], [], [0, 1, 2], [0, 1, 2], [0, 1, 2], [], [], [0, 1, 2], [], [], [0, 1, 2], [], [], [0, 1], [0, 1], [0], [], [], [0], [0], [], [], [0], [], [], [0], [0], [], [], [0], [], [], [], [], [], [], [], [], [], [], [], []]
noncomputable def pm_lt134 : List (List Nat) := [[0], [0], [0], [], [], [0], [], [], [0], [0], [], [], [0], [0], [], [], [0], [0], [], [], [0], [], [], [], [], [], [], [0], [], [], [], []]
noncomputable def pm_lt135 : List (List Nat) := [[0, 1, 2], [0, 1, 2], [0, 1, 2], [], [], [0, 1, 2], [], [], [0, 1, 2], [0, 1, 2], [], [], [0, 1, 2], [0, 1, 2], [], [], [0, 1, 2], [0, 1, 2], [], [], [0, 1, 2], [], [], [], [], [0, 1, 2], [0, 1, 2], [], [], [0, 1, 2], [0, 1, 2], [0, 1, 2], [], [], [0, 1, 2], [], [], [0, 1, 2], [0, 1, 2], [], [], [0, 1, 2], [0, 1, 2], [], [0, 1, 2], [], [], [], [], [0, 1, 2], [0, 1, 2], [], [], [0, 1], [1], [], [], [1], [], [], [0, 1, 2], [0, 1, 2], [0, 1, 2], [], [], [0, 1, 2], [0, 1, 2], [], [0, 1, 2], [0, 1, 2], [0, 1, 2], [], [], [0, 1, 2], [], [0, 1, 2], [0, 1, 2], [0, 1, 2], [0, 1, 2], [0, 1, 2], [0, 1, 2], [], [], [], [], [], [], [0, 1, 2], [1, 2], [], [], [1, 2], [], [1, 2], [2], [2], [], [], [], [], []]
noncomputable def pm_lt136 : List (List Nat) := [[0], [0], [0], [], [], [0], [0], [0], [], [], [0], [0], [], [0], [], [], [0], [0], [], [0], [], [], [0], [0], [], [0], [], [], [0], [0], [], [0], [], [], [0], [0], [], [0], [], [], [0], [], [], [], [], [], [], [], [], [], [], []]
noncomputable def pm_lt137 : List (List Nat) := [[0, 1], [0, 1], [], [], [0, 1], [0, 1], [0, 1], [], [0, 1], [], [], [0, 1], [0, 1], [], [], [0, 1], [0, 1], [0, 1], [], [], [0, 1], [], [], [0, 1], [0], [0], [0], [], [], [], [], [], [], [], [], [], [], [], []]
noncomputable def pm_lt138 : List (List Nat) := [[0], [0], [0, 1], [0, 1], [], [0, 1], [], [], [0, 1], [0, 1], [], [], [0, 1], [0, 1], [0, 1], [0, 1], [], [], [0, 1], [], [], [0], [0], [0, 1], [0, 1], [], [], [0, 1], [], [], [0, 1], [0, 1], [], [], [0, 1], [0, 1], [0, 1, 2], [0, 1], [], [], [0, 1], [0, 1], [], [], [0, 1], [0, 1], [0, 1], [0, 1], [0, 1], [0, 1], [], [], [0, 1], [0, 1, 2], [0, 1, 2], [0, 1, 2], [], [], [0, 1, 2], [0, 2], [0, 2], [], [], [0, 2], [], [], [0, 2], [0, 2], [], [], [0, 2], [0, 2], [0, 2], [0, 1, 2], [0, 1], [], [], [0, 1], [0, 1], [0, 1], [], [], [0, 1], [], [], [0, 1], [0, 1], [], [], [0, 1], [0, 1], [0, 1, 2], [], [], []]
noncomputable def pm_lt139 : List (List Nat) := [[0, 1], [0, 1], [0, 1], [], [], [0, 1], [], [], [0, 1], [0, 1], [], [], [0, 1], [0, 1], [0, 1], [], [], [0, 1], [0, 1], [0, 1], [], [], [0, 1], [], [], [0, 1], [0, 1], [], [], [0, 1], [0, 1], [0, 1], [], [0, 1], [], [], [0, 1], [1], [], [], [1], [], [], [], [], [], [], [], [], [], [], [], [], [], []]
noncomputable def pm_lt140 : List (List Nat) := [[0], [0], [0], [], [], [0], [], [], [], [], [], [], [], [], [], [], [], []]
noncomputable def pm_lt141 : List (List Nat) := [[0, 1], [0, 1], [0, 1], [], [], [0, 1], [0, 1], [], [0, 1], [], [], [1], [], [], [], [], [], [], [], [], [], [], [0, 1], [0, 1], [], [0, 1], [], [], [0, 1], [0, 1], [], [0, 1], [], [], [1], [], [], [], [], [], [], [], [], [], [], [], [0, 1], [0, 1], [], [0, 1], [], [], [0, 1], [1], [], [1], [], [], [1], [], [], [], [], [], [], [], [], [], [], []]
noncomputable def pm_lt142 : List (List Nat) := [[0, 1, 2], [0, 2], [], [], [], [], [], [], [], [], [], [], [], [], [], [], [], [], [], [], [], [], [], [], [], [], [], [], [], [], [], [], [], [], [], [], [], [], [], [], [], [], [], [], [], [], [], [], [], [], [], [], [], [], [], [], [], [], [], [], [], [], [], [], [], [], [], [], [], [], [], [], [], [], [], [], [], [], [], [], [], [], [], [], [], [], [], [], [], [], [], [], [0, 2], [2], [], [], [2], [], [], [0], [], [], [], [], [], [], [], [], [], [], [], [], [], []]
noncomputable def pm_lt143 : List (List Nat) := [[0, 1], [0, 1], [], [], [0, 1], [0, 1], [1], [], [], [1], [1], [1], [1], [], [], []]
noncomputable def pm_lt144 : List (List Nat) := [[0, 1, 2, 3], [0, 2, 3], [], [], [], [], [], [], [], [], [], [], [], [], [], [], [], [], [], [], [], [], [], [], [], [], [], [], [], [], [], [], [], [], [], [], [], [], [], [], [], [], [], [], [], [], [], [], [], [], [], [], [], [], [], [], [], [], [], [], [], [], [], [], [], [], [], [], [], [], [], [], [], [], [], [], [], [], [], [], [], [], [], [], [], [], [], [], [], [], [], [], [0, 2], [2], [], [], [2], [], [], [], [], [], [], [], [], [], [], [], [0, 2], [0, 2], [], [], [0, 2], [0, 2], [0, 2], [], [], [0, 2], [], [], [0, 2], [2], [], [], [2], [], [], [], [], [], [], [], [], [], [], [], [], [], [0], [], [], [], [], [], [], [], [], [], [], [], [], [], [], [0], [0], [0], [], [], [0], [], [], [0], [], [], [0], [], [], [], [], [], [], [], [], [], [], [], [], [], [], [], [], [0], [0], [0], [], [], [0], [0], [], [], [0], [], [], [], [], [], [], [], [], [], [], [], [], [], [], [0], [], [], [], [], [], [], [], [], [0, 3], [3], [], [3], [], [], [], [], [], [], [], [], [], [], [], [], [], [0], [], [], [], [], [], [], [], [], [0, 2], [0, 2], [0, 2], [0, 2], [], [], [0, 2], [], [0, 2], [2], [], [], [2], [], [], [], [], [], [], [0, 2], [0, 2], [0, 2], [0, 2], [], [], [0, 2], [0, 2], [], [], [0, 2], [0, 2], [0, 2], [], [], [0, 2], [], [], [0, 2], [0, 2], [0, 2], [0, 2], [], [], [0, 2], [], [0, 2], [2], [], [], [2], [], [], [], [], [], [], [], [], [], [], [], [], [], [], [0, 2], [2], [], [], [], [], [0], [0], [], [], [0], [], [], [0], [0], [0], [0], [], [], [0], [], [], [], [], [], [], [], [], [], [], [], [], [], [], [], [], []]
noncomputable def pm_lt145 : List (List Nat) := [[0, 1], [0, 1], [0, 1, 2], [0, 1, 2], [0, 1, 2, 3], [0, 1, 2, 3], [0, 1, 2, 3], [], [], [0, 1, 2, 3], [0, 1, 2, 3], [0, 1, 2, 3], [], [], [0, 1, 2, 3], [0, 1, 3], [], [], [0, 1, 3], [0, 1, 3], [], [], [0, 1, 3], [0, 1, 3], [0, 1, 3], [0, 1, 3], [0, 1, 3], [0, 1, 3], [], [], [0, 1, 3], [0, 1, 3], [], [], [0, 1, 3], [0, 1, 3], [0, 1, 2, 3], [], [], [0, 1, 2, 3], [], [], [2], []]
noncomputable def pm_lt146 : List (List Nat) := [[0, 1], [0, 1], [0, 1, 2], [0, 1, 2], [0, 1, 2, 3], [0, 1, 2, 3], [0, 1, 2, 3], [], [], [0, 1, 2, 3], [0, 1, 2, 3], [0, 1, 2, 3], [], [], [0, 1, 2, 3], [0, 1, 3], [], [], [0, 1, 3], [0, 1, 3], [0, 1, 3], [0, 1, 3], [], [], [0, 1, 3], [0, 1, 3], [0, 1, 3], [0, 1, 3], [0, 1, 3], [0, 1, 3], [0, 1, 3], [], [], [0, 1, 3], [0, 1, 3], [], [], [0, 1, 3], [0, 1, 3], [0, 1, 3], [0, 1, 3], [0, 1, 3], [0, 1, 3], [0, 1, 3], [], [], [0, 1, 3], [], [], [0, 1, 3], [0, 1, 3], [], [], [0, 1, 3], [0, 1, 3], [0, 1, 2, 3], [], [], [0, 1, 2, 3], [], [], [2], []]
noncomputable def pm_lt147 : List (List Nat) := [[0, 1, 2], [0, 2], [], [], [], [], [], [], [], [], [], [], [], [], [], [], [], [], [], [], [], [], [], [], [], [], [], [], [], [], [], [], [], [], [], [], [], [], [], [], [], [], [], [], [], [], [], [], [], [], [], [], [], [], [], [], [], [], [], [], [], [], [], [], [], [], [], [], [], [], [], [], [], [], [], [], [], [], [], [], [], [], [], [], [], [], [], [], [], [], [], [], [], [], [], [], [], [], [], [], [0, 2], [2], [], [], [2], [], [], [], [], [], [], [], [], [], [], [], []]
noncomputable def pm_lt148 : List (List Nat) := [[0, 1], [0, 1], [], [], [0, 1], [0, 1], [0, 1], [], [], [0, 1], [0, 1], [0, 1], [0, 1], [0], [0], [], [], [], [], [], [], [], [], [], []]
noncomputable def pm_lt149 : List (List Nat) := [[0, 1, 2], [0, 1, 2], [0, 1, 2, 3], [0, 1, 2, 3], [0, 1, 2, 3], [], [], [0, 1, 2, 3], [0, 1, 2, 3], [], [], [0, 1, 2, 3], [0, 1, 2, 3], [0, 1, 2, 3], [], [], [0, 1, 2, 3], [0, 1, 2, 3], [0, 1, 2, 3], [0, 1, 2, 3], [], [], [0, 1, 2, 3], [0, 1, 2, 3], [], [], [0, 1, 2, 3], [0, 1, 2, 3], [], [], [0, 1, 2, 3], [0, 1, 2, 3], [0, 1, 2, 3], [0, 1, 2, 3], [], [], [0, 1, 2, 3], [], [], [0, 1, 2], [0, 1, 2], [0, 1, 2, 3], [0, 1, 2, 3], [0, 1, 2, 3], [], [], [0, 1, 2, 3], [0, 1, 2, 3], [0, 1, 2, 3], [], [], [0, 1, 2, 3], [0, 1, 2, 3], [], [], [0, 1, 2, 3], [0, 1, 2, 3], [0, 1, 2, 3], [0, 1, 2, 3], [0, 1, 2, 3], [], [], [0, 1, 2, 3], [0, 1, 2, 3], [0, 1, 2, 3], [0, 1, 2, 3], [0, 1, 2, 3], [0, 1, 2, 3], [], [], [0, 1, 2, 3], [0, 1, 2, 3], [], [], [0, 1, 2, 3], [0, 1, 2, 3], [], [], [0, 1, 2, 3], [0, 1, 2, 3], [0, 1, 2, 3], [0, 1, 2, 3], [0, 1, 2, 3], [0, 1, 2, 3], [], [], [0, 1, 2, 3], [], [], []]
noncomputable def pm_lt150 : List (List Nat) := [[0, 1, 2, 3], [0, 1, 2, 3], [], [], [0, 1, 2, 3], [0, 1, 2, 3], [0, 1, 2, 3], [], [], [0, 1, 2, 3], [0, 1, 2, 3], [0, 1, 2, 3], [], [], [0, 1, 2, 3], [], [], [0, 1, 2, 3], [0, 1, 2, 3], [], [0, 1, 2, 3, 4], [0, 1, 2, 3, 4], [], [], [0, 1, 2, 3, 4], [0, 1, 2, 3, 4], [0, 1, 2, 3, 4], [0, 1, 2, 3, 4], [], [], [0, 1, 2, 3, 4], [0, 1, 2, 3, 4], [0, 1, 2, 3, 4], [], [], [0, 1, 2, 3, 4], [], [], [0, 1, 2, 3, 4], [0, 1, 2, 3, 4], [], [0, 1, 2, 3, 4, 5], [0, 1, 2, 3, 4, 5], [], [], [0, 1, 2, 3, 4, 5], [0, 1, 2, 3, 4, 5], [0, 1, 2, 3, 4, 5], [0, 1, 2, 3, 4, 5], [0, 1, 2, 3, 4, 5], [0, 1, 2, 3, 4, 5], [0, 1, 2, 3, 4, 5], [], [], [0, 1, 2, 3, 4, 5], [0, 1, 2, 3, 4, 5], [0, 1, 2, 3, 4, 5], [0, 2, 3, 4, 5], [], [], [], [], [], [], [], [], [], [], [], [], [], [], [], [], [], [], [], [], [], [], [], [], [], [], [], [], [], [], [], [], [], [], [], [], [], [], [], [], [], [], [], [], [], [], [], [], [], [], [], [], [], [], [], [], [], [], [], [], [], [], [], [], [], [], [], [], [], [], [], [], [], [], [], [], [], [], [], [], [], [], [], [], [], [], [], [], [], [], [], [], [], [], [0], [], [], [], [], [], [], [], [0], [], [], [], [], [], [], [], [0, 2], [2], [], [], [2], [], [], [], [], [], [0, 2], [0, 2], [2], [], [], [2], [], [], [], [], [], [], [], [0, 2, 4], [2, 4], [], [], [2, 4], [4], [], [], [], [], [], [0, 4], [0, 4], [], [0, 4], [], [], [0, 4], [4], [], [], [], [], [], [], [], [0, 4, 5], [0, 4, 5], [], [0, 5], [], [], [0, 5], [5], [], [], [], [], [], [], [], [0, 3], [0, 3], [], [0, 3], [0, 3], [0, 3], [0, 3], [], [], [0, 3], [3], [], [3], [], [], [], [], [], [], [], [0, 4], [0, 4], [], [0, 4], [], [0, 4], [4], [], [], [4], [], [], [], [], [], [], [], [], [], [], [], [], [], [], [0, 2], [0, 2], [2], [], [], [2], [], [], [], [], [], [], [], [0, 2], [0, 2], [], [], [0, 2], [0, 2], [0, 2], [], [], [0, 2], [0, 2], [2], [], [], [2], [], [], [], [], [], [], [], [0, 2], [2], [], [2], [], [], [], [], [], [], [], []]
noncomputable def pm_lt151 : List (List Nat) := [[0, 1], [0, 1], [], [], [0, 1], [0, 1], [0, 1], [0, 1, 2], [0, 1, 2], [], [], [0, 1, 2], [], [], [0, 1, 2], [0, 1, 2], [], [], [0, 1, 2], [0, 1, 2], [0, 1, 2], [0, 1, 2], [0, 1, 2], [], [], [0, 1, 2], [0, 1, 2], [0, 1, 2, 3], [0, 1, 2, 3], [0, 1, 2, 3], [], [], [0, 1, 2, 3], [], [], [0], [], [], [], [], [], [], [], [0, 1, 2, 3], [0, 1, 2, 3], [], [], [0, 1, 2, 3], [0, 1, 2, 3], [0, 1, 2, 3], [0, 1, 2, 3], [0, 1, 2, 3], [0, 1, 2, 3], [], [], [0, 1, 2, 3], [], [], [0], [], [], [], [], [], [], [], [0, 1, 2, 3], [0, 1, 2, 3], [0, 1, 2, 3], [0, 1, 2, 3], [0, 1, 2, 3], [], [], [0, 1, 2, 3], [], [], [0], [], [], [], [], [], [], [], [], [0, 1, 2, 3], [0, 1, 2, 3], [], [], [0, 1, 2, 3], [0, 1, 2, 3], [0, 1, 2, 3], [0, 1, 2, 3], [0, 1, 2, 3], [0, 1, 2, 3], [], [], [0, 1, 2, 3], [0, 1, 2, 3], [0, 1, 2, 3], [0, 1, 2, 3], [0, 1, 2, 3], [], [], [0, 1, 2, 3], [0, 1, 2, 3], [0, 1, 2, 3], [], [], [0], [], [], [], [], [], [], [], [], [0, 1, 2, 3], [0, 1, 2, 3], [0, 1, 2, 3], [0, 1, 2, 3], [0, 1, 2, 3], [], [], [0, 1, 2, 3], [0, 1, 2, 3], [0, 1, 2, 3], [], [0, 1, 2, 3], [], [], [0, 1, 2, 3], [0, 1, 2, 3], [], [0, 1, 2, 3], [], [], [0, 1, 2, 3], [0, 1, 2, 3], [], [0, 1, 2, 3], [], [], [0, 1, 2, 3], [0, 1, 2, 3], [], [], [0, 1, 2, 3], [0, 1, 2, 3], [], [], [0, 1, 2, 3], [1, 2, 3], [1, 2, 3], [], [1, 2, 3], [], [], [1, 2, 3], [1, 3], [], [1, 3], [], [], [1, 3], [3], [3], [], [3], [], [], [3], [], [], [], [], [], [], [], [3], [], [], [], [], [], [], [], [], [], [], []]
noncomputable def pm_lt152 : List (List Nat) := [[0], [0], [0, 1], [0, 1], [0, 1], [], [], [0, 1], [0, 1], [], [], [0, 1], [0, 1], [0, 1], [0, 1], [], [], [0, 1], [], [], [0, 1], [0, 1], [], [], [0, 1], [0, 1], [0, 1], [], [], [0, 1], [0, 1], [0, 1], [], [], [0, 1], [], [], [0], [], [], [], [], [], [], []]
noncomputable def pm_lt153 : List (List Nat) := [[0, 1], [0, 1], [0, 1, 2], [0, 1, 2], [0, 1, 2], [], [], [0, 1, 2], [], [], [0, 1, 2], [0, 1, 2], [], [], [0, 1, 2], [0, 1, 2], [0, 1, 2], [0, 1, 2], [], [], [2], [], [0, 1, 2], [], [], [0, 1, 2], [], [], [], []]
noncomputable def pm_lt154 : List (List Nat) := [[0, 1], [0, 1], [], [], [0, 1], [0, 1], [0, 1], [0, 1], [], [], [0, 1], [], [0, 1], [0, 1], [0, 1], [0, 1], [0, 1], [0, 1], [], [], [0, 1], [0, 1], [], [], [0, 1], [0, 1], [0, 1, 2], [0, 1, 2], [0, 1, 2, 3], [0, 1, 2, 3], [0, 1, 2, 3], [], [], [0, 1, 2, 3], [0, 1, 3], [], [], [0, 1, 3], [0, 1, 3], [0, 1, 3], [], [], [0, 1, 3], [0, 1, 3], [0, 1, 3], [0, 1, 3], [], [], [0, 1, 3], [], [0, 1, 3], [0, 1, 3], [0, 1, 3], [0, 1, 3], [0, 1, 3], [0, 1, 3], [], [], [0, 1, 3], [], [], [0, 1, 3], [0, 1, 3], [], [], [0, 1, 3], [0, 1, 3], [0, 1, 2, 3], [], [], [0, 1, 2, 3], [], [], [0, 1, 2], [0, 1, 2], [0, 1, 2, 3], [0, 1, 2, 3], [0, 1, 2, 3], [], [], [0, 1, 2, 3], [0, 1, 2, 3], [0, 1, 2, 3], [], [], [0, 1, 2, 3], [0, 1, 2, 3], [], [], [0, 1, 3], [0, 1, 3], [0, 1, 3], [], [], [0, 1, 3], [0, 1, 3], [0, 1, 3], [0, 1, 3], [0, 1, 3], [0, 1, 3], [], [], [0, 1, 3], [], [0, 1, 3], [0, 1, 3], [0, 1, 3], [0, 1, 3], [0, 1, 3], [0, 1, 3], [0, 1, 3], [0, 1, 3], [], [], [0, 1, 3], [0, 1, 2, 3], [], [], [0, 1, 2, 3], [], [], [2], []]
noncomputable def pm_lt155 : List (List Nat) := [[0, 1], [0, 1], [0, 1, 2], [0, 1, 2], [0, 1, 2, 3], [0, 1, 2, 3], [], [0, 1, 2, 3], [], [], [0, 1, 2, 3], [0, 1, 2, 3], [0, 1, 2, 3], [], [], [0, 1, 2, 3], [0, 1, 2, 3], [0, 1, 2, 3], [], [], [0, 1, 2, 3], [0, 1, 2, 3], [0, 1, 2, 3], [0, 1, 2, 3], [0, 1, 2, 3], [], [], [0, 1, 2, 3], [], [0, 1, 2, 3], [0, 1, 2, 3], [0, 1, 2, 3], [0, 1, 2, 3], [0, 1, 2, 3], [0, 1, 2, 3], [], [], [0, 1, 2, 3], [0, 1, 2, 3], [], [], [0, 1, 2, 3], [0, 1, 2, 3], [], [0, 1, 2, 3, 4], [0, 1, 2, 3, 4], [], [], [0, 1, 2, 3, 4], [], [0, 1, 2, 3, 4], [0, 1, 2, 3, 4], [0, 1, 2, 3, 4], [0, 1, 2, 3, 4], [0, 1, 2, 3, 4], [0, 1, 2, 3, 4], [], [0, 1, 2, 3, 4, 5], [0, 1, 3, 4, 5], [], [], [0, 1, 3, 4, 5], [], [0, 1, 3, 5], [], [], [0, 1, 3, 5], [], [0, 1, 3, 5], [], [], [0, 1, 3, 5], [], [], [0, 1, 3, 5], [0, 1, 3, 5], [], [0, 1, 3], [], [0, 1, 3], [0, 1, 3], [], [], [0, 1, 3], [], [], [0, 1, 3], [0, 1, 3], [], [], [0, 1, 3], [0, 1, 3], [0, 1, 2, 3], [], [], [0, 1, 2, 3], [], [], [2], []]
noncomputable def pm_lt156 : List (List Nat) := [[0, 1, 2], [0, 1, 2], [0, 1, 2], [], [], [0, 1, 2], [0, 1, 2, 3], [0, 1, 2, 3], [0, 1, 2, 3], [], [], [0, 1, 2, 3], [], [], [0, 1, 3], [0, 1, 3], [0, 1, 3], [], [], [0, 1, 3], [], [], [0, 1, 2, 3], [0, 1, 2, 3], [], [], [0, 1, 2, 3], [0, 1, 2, 3], [0, 1, 2, 3], [], [], [0, 1, 3], [0, 1, 3], [0, 1, 3], [], [], [0, 1, 3], [], [], [0, 1, 2, 3], [0, 1, 3], [], [], [0, 1, 3], [0, 1, 3], [0, 1, 3], [], [], [0, 1, 3], [0, 1, 3], [0, 1, 3], [], [], [0, 1, 3], [], [], [0, 1, 3], [0, 1, 3], [0, 1, 3], [], [], [0, 1, 3], [], [], [0, 1, 3], [0, 1, 3], [0, 1, 3], [], [], [0, 1, 3], [0, 1, 3], [0, 1, 3], [], [], [0, 1, 3], [], [], [0, 1, 3], [0, 1, 3], [0, 1, 3], [], [], [0, 1, 3], [0, 1, 3], [], [], [0, 1, 3], [], [], [], [0, 1, 3], [0, 1, 3], [], [0, 1, 3, 4], [], [0, 1, 3, 4], [], [0, 1, 3, 4], [], [], [0, 1, 3, 4], [0, 1, 3, 4], [0, 1, 3, 4], [], [], [0, 1, 3, 4], [0, 1, 3, 4], [], [], [0, 1, 3, 4], [], [0, 1, 3, 4], [0, 1, 3, 4], [], [], [0, 1, 3, 4], [], [0, 1, 3, 4], [0, 1, 3, 4], [0, 1, 3, 4], [], [0, 1, 3, 4], [0, 1, 3, 4], [0, 1, 3, 4], [0, 1, 3, 4], [], [], [0, 1, 3, 4], [], [], [0, 1], [0, 1], [0], [], [], [0], [0], [], [], [0], [], [], [0], [0], [], [], [0], [], [], [0], [], [], [0], [0], [0], [], [], [0], [], [], [0], [], [0, 4], [0, 4], [], [0, 4], [0, 4], [], [], [], [], [], [], [], [0, 4], [4], [], [], [], [], [], [], [], [], [], [], [], [], [], [], [], [], []]
noncomputable def pm_lt157 : List (List Nat) := [[0], [0], [0], [], [], [0], [], [], [0], [0], [], [], [0], [0], [], [], [0], [0], [], [], [0], [], [], [], [], [0], [0], [], [], [0], [0], [], [], [0], [0], [0], [], [], [0], [0], [0, 1], [0, 1], [0, 1, 2], [0, 1, 2], [0, 1, 2], [], [], [0, 1, 2], [], [], [0, 1, 2], [0, 1, 2], [0, 1, 2], [0, 2], [], [], [0, 2], [0, 2], [], [], [0, 2], [], [], [0, 2], [], [0, 2], [2], [], [], [2], [2], [], [], [0, 2], [0, 2], [], [], [0, 2], [0, 1, 2], [0, 1, 2], [0, 1, 2], [], [], [0, 1, 2], [0, 1], [0, 1], [], [], [0, 1], [], [], [0, 1], [0, 1], [], [], [0, 1], [0, 1], [0, 1], [0, 1, 2], [], [], [0, 1], [0], [], [], [0], [], [0], [], [], [], [], [], [0], [0], [0, 3], [0, 3], [0, 3], [], [], [0, 3], [], [], [0, 3], [0, 3], [], [], [0, 3], [0, 3], [0, 3], [0, 3], [], [], [0, 3], [], [], [0, 3], [0, 3], [], [], [0, 3], [0, 3], [], [], [0, 3], [0, 3], [0, 3], [0, 3], [], [], [0, 3], [], [], [0, 3], [3], [], [], [3], [], [], [], [0, 3], [], [], [0, 3], [], [], [], []]
noncomputable def pm_lt158 : List (List Nat) := [[0, 1], [0, 1], [], [], [0, 1], [0, 1], [0, 1], [], [], [0, 1], [0, 1], [], [], [0, 1], [0, 1], [0, 1], [0, 1], [0, 1], [], [], [0, 1], [0, 1], [0, 1], [0, 1], [0, 1], [0, 1, 2], [0, 1, 2], [], [0, 1, 2], [], [], [0, 1, 2], [0, 1, 2], [], [], [0, 1, 2], [], [0, 1, 2], [0, 1, 2], [0, 1, 2], [0, 1, 2], [0, 1, 2], [0, 1, 2], [], [], [0, 1, 2], [0, 1, 2], [0, 1, 2], [0, 1, 2], [], [], [0, 1, 2], [], [], [], [], [0, 1], [0, 1], [], [], [0, 1], [], [0, 1], [0, 1], [0, 1], [0, 1], [0, 1], [0, 1], [0, 1], [], [], [0, 1], [0, 1], [0, 1], [], [], [], [], [0, 1], [0, 1], [0, 1, 2], [0, 1, 2], [0, 1, 2], [0, 1, 2], [], [], [0, 1, 2], [0, 1, 2], [0, 1, 2], [0, 1, 2], [], [], [0, 1, 2], [0, 1, 2], [0, 1, 2], [], [], [0, 1, 2], [0, 1, 2], [0, 1, 2], [], [], [0, 1, 2], [], [0, 1, 2], [0, 1, 2], [0, 1, 2], [0, 1, 2], [0, 1, 2], [0, 1, 2], [0, 1, 2], [], [], [0, 1, 2], [0, 1, 2], [0, 1, 2], [], [], [0, 1, 2], [0, 1, 2, 3], [0, 1, 2, 3], [], [], [0, 1, 2, 3], [0, 1, 2, 3], [0, 1, 2, 3], [], [], [0, 1, 2, 3], [0, 1, 2, 3], [0, 1, 2, 3], [], [], [0, 1, 2, 3], [0, 1, 2, 3], [0, 1, 2, 3], [], [], [0, 1, 2, 3], [], [0, 1, 2, 3], [0, 1, 2, 3], [0, 1, 2, 3], [0, 1, 2, 3], [0, 1, 2, 3], [0, 1, 2, 3], [], [], [0, 1, 2, 3], [0, 1, 2, 3], [], [], [0, 1, 2, 3], [0, 1, 2, 3], [0, 1, 2, 3], [0, 1, 2, 3], [], [], [0, 1, 2, 3], [], [0, 1, 2, 3], [0, 1, 2, 3], [0, 1, 2, 3], [0, 1, 2, 3], [0, 1, 2, 3], [0, 1, 2], [0, 1, 2], [], [], [0, 1, 2], [], [], [], []]
noncomputable def pm_lt159 : List (List Nat) := [[0], [0], [0, 1], [0, 1], [0, 1], [], [], [0, 1], [], [], [0, 1], [0, 1], [], [], [0, 1], [0, 1], [0, 1], [], [], [0, 1], [], [], [0, 1], [], [], [1], []]
noncomputable def pm_lt160 : List (List Nat) := [[0, 1], [0, 1], [], [], [0, 1], [0, 1], [0, 1], [0, 1], [0, 1], [0, 1], [], [], [0, 1], [], [], [0, 1], [0, 1], [0, 1], [], [], [0, 1], [], [], [1], [], [1], [], [], [0, 1], [0, 1], [0, 1, 2], [0, 1, 2], [], [0, 1, 2], [], [], [0, 1, 2], [0, 1, 2], [], [], [0, 1, 2], [0, 1, 2], [0, 1, 2], [], [], [0, 1, 2], [], [0, 1, 2], [0, 1, 2], [0, 1, 2], [0, 1, 2], [0, 1, 2], [0, 1, 2], [0, 1, 2], [], [], [0, 1, 2], [], [], [0, 1], [0, 1], [0, 1], [], [], [0, 1], [0, 1], [], [], [0, 1], [], [], [0, 1], [0, 1], [], [], [0, 1], [], [], [0, 1], [], [], [0, 1], [0, 1], [], [], [0, 1], [0, 1], [0, 1, 2], [0, 1, 2], [], [], [0, 1, 2], [0, 1, 2], [], [], [0, 1, 2], [], [], [0, 1, 2], [0, 1, 2], [], [], [0, 1, 2], [0, 1, 2], [], [], [0, 1, 2], [], [], [0, 1, 2], [0, 1, 2], [], [], [0, 1, 2], [0, 1, 2], [], [], [0, 1, 2], [0, 1, 2], [], [], [0, 1, 2], [0, 1, 2], [], [0, 1, 2], [], [], [0, 1, 2], [0, 1, 2], [], [], [0, 1, 2], [], [], [0, 1], [], [0, 1], [1], [], [], [1], [1], [], [], [0, 1, 2], [0, 1, 2], [0, 1, 2], [], [], [0, 1, 2], [0, 2], [0, 2], [], [], [0, 2], [], [], [0, 2], [0, 2], [], [], [0, 2], [0, 2], [0, 2], [0, 2, 3], [0, 2, 3], [], [], [0, 2, 3], [], [], [0, 2, 3], [0, 2, 3], [], [], [0, 2, 3], [0, 2], [0, 2], [0, 2], [], [], [0, 2, 3], [0, 2, 3], [0, 2, 3], [], [], [0, 2, 3], [], [], [3], [], [], [3], [], [], [0, 2], [0], [], [], [0], [0], [], [], [0], [0], [], [], [0], [0], [0], [0], [0], [], [], [0], [], [], [0], [], [], [0], [], [], [0], [], [], [], [], [], [], []]
noncomputable def pm_lt161 : List (List Nat) := [[0], [0], [], [], [0], [0], [0, 1], [0, 1], [], [0, 1], [], [], [0, 1], [0, 1], [], [], [0, 1], [0, 1], [0, 1], [0, 1], [0, 1], [], [], [0, 1], [0, 1], [0, 1], [0, 1], [0, 1], [], [], [0, 1], [0, 1], [0, 1], [0, 1], [], [], [0, 1], [], [], [0], [0], [], [], [0], [0], [0], [], [], [0], [0], [0], [], [], [0], [0], [0], [0, 2], [0, 2], [], [], [0, 2], [0, 2, 3], [0, 2, 3], [0, 2, 3], [], [], [0, 2, 3], [], [], [0, 2, 3], [0, 2, 3], [], [], [0, 3], [0, 3], [0], [], [], [0], [0, 2], [0, 2], [], [], [0, 2], [0, 2, 3], [], [], [0, 2], [0, 2], [], [0, 2, 4], [], [0, 2, 4], [0, 2, 4], [], [], [0, 2, 4], [], [], [0, 2, 4], [0, 2, 4], [], [], [0, 4], [0, 4], [], [], [0, 4], [], [0, 4], [0, 4], [], [], [0, 4], [0, 4], [], [], [0, 4], [], [0, 4], [0, 4], [], [], [0, 4], [], [], [0, 4], [], [0, 4], [0, 4], [], [], [0, 4], [0, 4], [0, 2, 4], [], [], [0, 2, 4], [], [], [2], []]
noncomputable def pm_lt162 : List (List Nat) := [[0, 1], [0, 1], [], [], [0, 1], [0, 1], [], [], [0, 1], [0], [0], [], [], [], [], [], [], [], [], [], []]
noncomputable def pm_lt163 : List (List Nat) := [[0, 1], [0, 1], [], [], [0, 1], [], [], [0, 1], [0, 1], [], [0, 1], [], [], [0, 1], [1], [], [], [], [], [], [], [], [], [], [0, 1], [0, 1], [], [], [0, 1], [], [], [0, 1], [0, 1], [], [0, 1], [], [], [0, 1], [1], [], [], [], [], [], [], [], [], [], [0, 1], [1], [], [], [], []]
noncomputable def pm_lt164 : List (List Nat) := [[0, 1], [0, 1], [0, 1, 2], [0, 1, 2], [], [], [0, 1, 2], [0, 1, 2], [], [], [0, 1, 2], [], [0, 1, 2], [0, 1, 2], [0, 1, 2], [0, 1, 2], [0, 1, 2], [0, 1, 2], [0, 1, 2], [0, 1, 2], [], [], [0, 1, 2], [], [], [0, 1, 2], [], [], [2], []]
noncomputable def pm_lt165 : List (List Nat) := [[0, 1, 2, 3], [0, 1, 2, 3], [0, 1, 2, 3], [], [], [0, 1, 2, 3], [], [0, 1, 2, 3, 4], [0, 1, 2, 3, 4], [], [], [0, 1, 2, 3, 4], [], [0, 1, 2, 3, 4], [0, 1, 2, 3, 4], [0, 1, 2, 3, 4], [0, 1, 2, 3, 4], [0, 1, 2, 3, 4], [0, 1, 2, 3, 4], [], [0, 1, 2, 3, 4, 5], [0, 1, 2, 3, 4, 5], [], [0, 1, 2, 3, 4, 5, 6], [], [0, 1, 2, 3, 4, 5, 6], [], [0, 1, 2, 3, 4, 5, 6], [], [], [0, 1, 2, 3, 4, 5, 6], [], [0, 1, 2, 3, 4, 5, 6], [0, 1, 2, 3, 4, 5, 6], [], [], [0, 1, 2, 3, 4, 5, 6], [0, 1, 2, 3, 4, 5, 6], [], [], [0, 1, 2, 3, 4, 5, 6], [], [0, 1, 2, 3, 4, 5, 6], [0, 1, 2, 3, 4, 5, 6], [0, 1, 2, 3, 4, 5, 6], [], [], [0, 1, 2, 3, 4, 5, 6], [], [0, 1, 2, 3, 4, 5, 6], [0, 1, 2, 3, 4, 5, 6], [0, 1, 2, 3, 4, 5, 6], [], [0, 1, 2, 3, 4, 5, 6], [0, 1, 2, 3, 4, 5, 6], [0, 1, 2, 3, 4, 5, 6], [], [], [0, 1, 2, 3, 4, 5, 6], [], [], [0, 1, 2, 3, 4, 5, 6], [], [], [0, 1, 2, 3, 4, 5, 6], [], [0, 1, 2, 3, 4, 5, 6], [], [0, 1, 2, 3, 4, 5, 6], [], [], [0, 1, 2, 3, 4, 5, 6], [], [0, 1, 2, 3, 4, 5, 6], [0, 1, 2, 3, 4, 5, 6], [], [], [0, 1, 2, 3, 4, 5, 6], [0, 1, 2, 3, 4, 5, 6], [], [], [0, 1, 2, 3, 4, 5, 6], [0, 1, 2, 3, 4, 5, 6], [], [0, 1, 2, 3, 4, 5, 6, 7], [], [0, 1, 2, 3, 4, 5, 6, 7], [], [], [0, 1, 2, 3, 4, 5, 6, 7], [], [0, 1, 2, 3, 4, 5, 6, 7], [], [], [0, 2], [2], [], [], [], [], [], [], [0, 1, 2, 3, 4, 5, 6, 7], [], [0, 1, 2, 3, 4, 5, 6], [], [], [0, 1, 2, 3, 4, 5, 6], [], [0, 1, 2, 3, 4, 5, 6], [0, 1, 2, 3, 4, 5, 6], [], [], [0, 1, 2], [0, 1, 2], [], [0, 1, 2], [0, 1], [0, 1], [], [], [0, 1], [0, 1], [1], [], [], [1], [], [1], [], [], [], [], [], [], [], [], [], [], [0, 1, 2, 3, 4, 5, 6], [], [0, 1, 2, 3, 4, 5, 6], [], [], [0, 1, 2, 3, 4, 5, 6], [], [0, 1, 2, 3, 4, 5, 6], [], [0, 1, 2, 3, 4, 5, 6], [], [], [0, 1, 2, 3, 4, 5, 6], [0, 1, 2, 3, 4, 5, 6], [], [0, 1, 2, 3, 4, 5, 6], [0, 1, 2, 3, 4, 5, 6], [0, 1, 2, 3, 4, 5, 6], [], [], [0, 1, 2, 3, 4, 5, 6], [0, 1, 2, 3, 4, 5, 6], [], [0, 1, 2, 3, 4, 5, 6], [0, 1, 2, 3, 4, 5, 6], [0, 1, 2, 3, 4, 5, 6], [], [], [0, 2, 3, 4], [0, 2, 3, 4], [], [], [0, 2, 3, 4], [0, 2, 4], [], [0, 2], [0, 2], [0, 2], [], [], [0, 2], [2], [], [], [], [], [], [], [0, 1, 2, 3, 4, 5, 6], [], [0, 1, 2, 3, 4, 5, 6], [], [], [0, 1, 2, 3, 4, 5, 6], [], [0, 1, 2, 3, 4, 5], [0, 1, 2, 3, 4, 5], [], [], [0, 1, 2, 3, 4, 5], [], [0, 1, 2, 3, 4, 5], [0, 1, 2, 3, 4, 5], [0, 1, 2, 3, 4, 5], [0, 1, 2, 3, 4, 5], [], [], [0, 1, 2, 3, 4, 5], [], [0, 1, 2, 3, 4, 5], [0, 1, 2, 3, 4, 5], [0, 1, 2, 3, 4, 5], [0, 1, 2, 3, 4, 5], [], [], [0, 1, 2, 3, 4], [0, 1, 2, 3, 4], [], [], [0, 1, 2, 3, 4], [], [0, 1, 2, 3, 4], [0, 1, 2, 3, 4], [0, 1, 2, 3, 4], [0, 1, 2, 3, 4], [], [], [0, 1, 2, 3, 4], [0, 1, 2, 3, 4], [0, 1, 3, 4], [], [], [0, 1, 3, 4], [0, 1, 4], [], [0, 1, 4, 8], [], [0, 1, 4, 8], [], [0, 1, 4, 8], [], [], [0, 1, 4, 8], [0, 1, 4, 8], [0, 1, 4, 8], [], [], [0, 1, 4, 8], [], [0, 1, 4, 8], [0, 1, 4, 8], [0, 1, 4, 8], [], [0, 1, 4, 8], [0, 1, 4, 8], [0, 1, 4, 8], [], [], [0, 1, 4, 8], [], [], [0, 1, 4, 8], [], [], [], [], [], [0, 1, 2, 4, 5], [0, 1, 2, 4, 5], [], [], [0, 1, 2, 4, 5], [], [], [0, 1, 2, 4, 5], [0, 1, 2, 4, 5], [0, 1, 4, 5], [], [], [0, 1, 4, 5], [0, 1, 4, 5], [], [0, 1, 4, 5], [], [], [0, 1, 4, 5], [0, 1, 4, 5], [], [0, 1, 4, 5, 8], [], [0, 1, 4, 5, 8], [], [0, 1, 4, 5, 8], [], [], [0, 1, 4, 5, 8], [0, 1, 4, 5, 8], [0, 1, 4, 5, 8], [], [], [0, 1, 4, 5, 8], [], [0, 1, 4, 5, 8], [0, 1, 4, 5, 8], [0, 1, 4, 5, 8], [], [0, 1, 4, 5, 8], [0, 1, 4, 5, 8], [0, 1, 4, 5, 8], [], [], [0, 1, 4, 5, 8], [], [], [0, 1, 4, 5, 8], [], [], [0, 1, 5], [0, 1, 5], [], [0, 1, 5], [], [], [0, 1, 5], [0, 1, 5], [], [0, 1, 5, 8], [], [0, 1, 5, 8], [], [0, 1, 5, 8], [], [], [0, 1, 5, 8], [0, 1, 5, 8], [0, 1, 5, 8], [], [], [0, 1, 5, 8], [], [0, 1, 5, 8], [0, 1, 5, 8], [0, 1, 5, 8], [0, 1, 5, 8], [0, 1, 5, 8], [], [0, 1, 5, 8], [0, 1, 5, 8], [0, 1, 5, 8], [], [], [0, 1, 5, 8], [], [], [0, 1, 5, 8], [], [], []]
noncomputable def pm_lt166 : List (List Nat) := [[0], [0], [0], [], [], [0], [0], [], [], [0], [0, 1], [0, 1], [], [], [1], [], [], [0], [0], [0], [], [], [0], [0], [0, 2], [0, 2], [], [], [0, 2], [0, 2, 3], [0, 2, 3], [], [0, 2, 3, 4], [], [0, 2, 3, 4], [0, 2, 3, 4], [], [], [0, 2, 3, 4], [], [], [0, 2, 3, 4], [0, 2, 3, 4], [], [], [0, 2, 3, 4], [], [0, 2, 3, 4], [0, 2, 3, 4], [], [], [0, 2, 3, 4], [], [0, 2, 3, 4], [0, 2, 3, 4], [0, 2, 3, 4], [], [], [0, 2, 3, 4], [], [], [0, 2, 3], [0, 2, 3], [], [0, 2, 3, 4], [0, 2, 3, 4], [], [0, 2, 3, 4, 5], [], [0, 2, 3, 4, 5], [0, 2, 3, 4, 5], [], [], [0, 2, 3, 4, 5], [], [], [0, 2, 3, 4, 5], [0, 2, 3, 4, 5], [], [], [0, 2, 3, 4, 5], [], [0, 2, 3, 4, 5], [0, 2, 3, 4, 5], [], [], [0, 2, 3, 4, 5], [0, 2, 3, 4, 5], [], [0, 2, 3, 4, 5], [], [0, 2, 3, 4, 5], [], [0, 2, 3, 5], [0, 2, 3, 5], [0, 2, 3, 5], [0, 2, 3, 5], [0, 2, 5], [], [], [0, 2, 5], [0, 2, 5], [], [0, 2, 5], [], [], [0, 2, 5], [0, 2, 3, 5], [0, 2, 3, 5], [], [0, 2, 3, 5, 6], [], [0, 2, 3, 5, 6], [0, 2, 3, 5, 6], [], [], [0, 2, 3, 5, 6], [0, 2, 3, 5, 6], [], [], [0, 2, 3, 5, 6], [], [0, 2, 3, 5, 6], [0, 2, 3, 5, 6], [], [], [0, 2, 3, 5, 6], [], [0, 2, 3, 5, 6], [], [0, 2, 3, 5, 6], [0, 2, 3, 5, 6], [], [0, 2, 3, 5, 6], [0, 2, 3, 5, 6], [0, 2, 3, 5, 6], [0, 2, 3, 5, 6], [], [], [0, 2, 3, 5, 6], [], [], [0, 2, 3, 5], [], [0, 2, 3, 5], [], [0, 2, 3, 4, 5], [], [], [0, 2, 3, 4, 5], [], [], [0, 2, 3, 4, 5], [], [], [0, 2], [0, 2], [], [], [0, 2], [0, 2], [0], [0], [0], [0], [], [], [0], [], [0], [], [], [0], [0], [], [], [0], [0], [], [], [0], [0], [], [], [0], [], [], [], [], [0], [0], [], [0, 5], [], [0, 5], [0, 5], [], [], [0, 5], [], [], [0, 5], [0, 5], [], [], [0, 5], [], [0, 5], [0, 5], [], [], [0, 5], [], [0, 5], [0, 5], [0, 5], [], [], [0, 5], [], [], [0], [0], [0], [], [], [0], [], [], [0], [], [], [], []]
noncomputable def pm_lt167 : List (List Nat) := [[0, 1], [0, 1], [0, 1, 2], [0, 1, 2], [0, 1, 2], [0, 1, 2, 3], [0, 1, 2, 3], [0, 1, 2, 3], [], [], [0, 1, 2, 3], [0, 1, 2, 3], [0, 1, 2, 3], [0, 1, 2, 3], [0, 1, 2, 3], [], [], [0, 1, 2, 3], [], [], []]
noncomputable def pm_lt168 : List (List Nat) := [[0], [], [], [0], [0], [], [], [0], [0, 1], [], [], [0, 1], [0, 1], [], [], [0, 1], [0, 1, 2], [0, 1, 2], [], [0, 1, 2], [0, 1, 2, 3], [0, 1, 2, 3], [], [0, 1, 2, 3, 4], [], [0, 1, 2, 3, 4], [0, 1, 2, 3, 4], [0, 1, 2, 3, 4], [], [0, 1, 2, 3, 4], [0, 1, 2, 3, 4], [], [], [0, 1, 2, 3, 4], [0, 1, 2, 3, 4], [], [0, 1, 2, 3, 4], [0, 1, 2, 3, 4], [], [0, 1, 2, 3, 4], [0, 1, 2, 3, 4], [], [], [], [], [], [], [], [], [], [], [], [], [], [], [], [], [], [], [], [], [], [], [], [], [], [], [], [], [], [], [], [], [], [], [], [], [], [], [], [], [], [], [], [], [], [], [], [], [], [], [], [], [], [], [], [], [], [], [], [], [], [], [], [0, 1, 2, 3, 4], [0, 1, 2, 3, 4], [0, 1, 2, 3, 4], [], [0, 1, 2, 3, 4], [0, 1, 2, 3, 4], [0, 1, 2, 3, 4], [0, 1, 2, 3, 4], [0, 1, 2, 3, 4], [], [0, 1, 2, 3, 4], [0, 1, 2, 3, 4], [0, 1, 2, 3, 4], [0, 1, 2, 3, 4], [], [], [0, 1, 2, 3, 4], [0, 1, 2, 3, 4], [0, 1, 2, 3, 4], [], [0, 1, 2, 3, 4], [0, 1, 2, 3, 4], [0, 1, 2, 3, 4], [0, 1, 2, 3, 4], [0, 1, 2, 3, 4], [], [0, 1, 2, 3, 4], [0, 1, 2, 3, 4], [0, 1, 2, 3, 4], [0, 1, 2, 3, 4], [], [], [0, 1, 2, 3, 4], [], [], [], [], [0, 1, 2, 3, 4], [0, 1, 2, 3, 4], [0, 1, 2, 3, 4], [], [0, 1, 2, 3, 4], [0, 1, 2, 3, 4], [0, 1, 2, 3, 4], [0, 1, 2, 3, 4], [0, 1, 2, 3, 4], [], [0, 1, 2, 3, 4], [0, 1, 2, 3, 4], [0, 1, 2, 3, 4], [0, 1, 2, 3, 4], [0, 1, 2, 3, 4], [], [0, 1, 2, 3, 4], [0, 1, 2, 3, 4], [0, 1, 2, 3, 4], [0, 1, 2, 3, 4], [], [], [0, 1, 2, 3, 4], [0, 1, 2, 3, 4], [0, 1, 2, 3, 4], [], [0, 1, 2, 3, 4], [0, 1, 2, 3, 4], [0, 1, 2, 3, 4], [0, 1, 2, 3, 4], [0, 1, 2, 3, 4], [], [0, 1, 2, 3, 4], [0, 1, 2, 3, 4], [0, 1, 2, 3, 4], [0, 1, 2, 3, 4], [0, 1, 2, 3, 4], [], [0, 1, 2, 3, 4], [0, 1, 2, 3, 4], [0, 1, 2, 3, 4], [0, 1, 2, 3, 4], [], [], [0, 1, 2, 3, 4], [], [], [], [], [0, 1, 2, 3, 4], [0, 1, 2, 3, 4], [0, 1, 2, 3, 4], [], [0, 1, 2, 3, 4], [0, 1, 2, 3, 4], [0, 1, 2, 3, 4], [0, 1, 2, 3, 4], [0, 1, 2, 3, 4], [], [0, 1, 2, 3, 4], [0, 1, 2, 3, 4], [0, 1, 2, 3, 4], [0, 1, 2, 3, 4], [0, 1, 2, 3, 4], [], [0, 1, 2, 3, 4], [0, 1, 2, 3, 4], [0, 1, 2, 3, 4], [0, 1, 2, 3, 4], [0, 1, 2, 3, 4], [], [0, 1, 2, 3, 4], [0, 1, 2, 3, 4], [0, 1, 2, 3, 4], [0, 1, 2, 3, 4], [0, 1, 2, 3, 4], [], [0, 1, 2, 3, 4], [0, 1, 2, 3, 4], [0, 1, 2, 3, 4], [0, 1, 2, 3, 4], [], [], [0, 1, 2, 3, 4], [0, 1, 2, 3, 4], [0, 1, 2, 3, 4], [], [0, 1, 2, 3, 4], [0, 1, 2, 3, 4], [0, 1, 2, 3, 4], [0, 1, 2, 3, 4], [0, 1, 2, 3, 4], [], [0, 1, 2, 3, 4], [0, 1, 2, 3, 4], [0, 1, 2, 3, 4], [0, 1, 2, 3, 4], [0, 1, 2, 3, 4], [], [0, 1, 2, 3, 4], [0, 1, 2, 3, 4], [0, 1, 2, 3, 4], [0, 1, 2, 3, 4], [0, 1, 2, 3, 4], [], [0, 1, 2, 3, 4], [0, 1, 2, 3, 4], [0, 1, 2, 3, 4], [0, 1, 2, 3, 4], [0, 1, 2, 3, 4], [], [0, 1, 2, 3, 4], [0, 1, 2, 3, 4], [0, 1, 2, 3, 4], [0, 1, 2, 3, 4], [], [], [0, 1, 2, 3, 4], [], [], [], [], [0, 1, 2, 3, 4], [0, 1, 2, 3, 4], [0, 1, 2, 3, 4], [], [0, 1, 2, 3, 4], [0, 1, 2, 3, 4], [0, 1, 2, 3, 4], [0, 1, 2, 3, 4], [0, 1, 2, 3, 4], [], [0, 1, 2, 3, 4], [0, 1, 2, 3, 4], [0, 1, 2, 3, 4], [0, 1, 2, 3, 4], [0, 1, 2, 3, 4], [], [0, 1, 2, 3, 4], [0, 1, 2, 3, 4], [0, 1, 2, 3, 4], [0, 1, 2, 3, 4], [0, 1, 2, 3, 4], [], [0, 1, 2, 3, 4], [0, 1, 2, 3, 4], [0, 1, 2, 3, 4], [0, 1, 2, 3, 4], [0, 1, 2, 3, 4], [], [0, 1, 2, 3, 4], [0, 1, 2, 3, 4], [0, 1, 2, 3, 4], [0, 1, 2, 3, 4], [], [], [0, 1, 2, 3, 4], [0, 1, 2, 3, 4], [0, 1, 2, 3, 4], [], [0, 1, 2, 3, 4], [0, 1, 2, 3, 4], [0, 1, 2, 3, 4], [0, 1, 2, 3, 4], [0, 1, 2, 3, 4], [], [0, 1, 2, 3, 4], [0, 1, 2, 3, 4], [0, 1, 2, 3, 4], [0, 1, 2, 3, 4], [0, 1, 2, 3, 4], [], [0, 1, 2, 3, 4], [0, 1, 2, 3, 4], [0, 1, 2, 3, 4], [0, 1, 2, 3, 4], [0, 1, 2, 3, 4], [], [0, 1, 2, 3, 4], [0, 1, 2, 3, 4], [0, 1, 2, 3, 4], [0, 1, 2, 3, 4], [0, 1, 2, 3, 4], [], [0, 1, 2, 3, 4], [0, 1, 2, 3, 4], [0, 1, 2, 3, 4], [0, 1, 2, 3, 4], [], [], [0, 1, 2, 3, 4], [], [], [], [], [0, 1, 2, 3, 4], [0, 1, 2, 3, 4], [0, 1, 2, 3, 4], [], [0, 1, 2, 3, 4], [0, 1, 2, 3, 4], [0, 1, 2, 3, 4], [0, 1, 2, 3, 4], [0, 1, 2, 3, 4], [], [0, 1, 2, 3, 4], [0, 1, 2, 3, 4], [0, 1, 2, 3, 4], [], [0, 1, 2, 3, 4], [0, 1, 2, 3, 4], [0, 1, 2, 3, 4], [0, 1, 2, 3, 4], [0, 1, 2, 3, 4], [], [], [0, 1, 2, 3, 4], [0, 1, 2, 3, 4], [0, 1, 2, 3, 4], [0, 1, 2, 3, 4], [], [0, 1, 2, 3, 4], [0, 1, 2, 3, 4], [0, 1, 2, 3, 4], [0, 1, 2, 3, 4], [], [], [0, 1, 2, 3, 4], [0, 1, 2, 3, 4], [0, 1, 2, 3, 4], [], [0, 1, 2, 3, 4], [0, 1, 2, 3, 4], [0, 1, 2, 3, 4], [0, 1, 2, 3, 4], [0, 1, 2, 3, 4], [], [0, 1, 2, 3, 4], [0, 1, 2, 3, 4], [0, 1, 2, 3, 4], [], [0, 1, 2, 3, 4], [0, 1, 2, 3, 4], [0, 1, 2, 3, 4], [0, 1, 2, 3, 4], [0, 1, 2, 3, 4], [], [], [0, 1, 2, 3, 4], [0, 1, 2, 3, 4], [0, 1, 2, 3, 4], [0, 1, 2, 3, 4], [], [0, 1, 2, 3, 4], [0, 1, 2, 3, 4], [0, 1, 2, 3, 4], [0, 1, 2, 3, 4], [], [], [0, 1, 2, 3, 4], [], [], [], [], [0, 1, 2, 3, 4], [0, 1, 2, 3, 4], [], [], [0, 1, 2, 3, 4], [0, 1, 2, 3, 4], [], [], [0, 1, 2, 3, 4], [], [], [], [], [0, 1, 2, 3, 4], [0, 1, 2, 3, 4], [0, 1, 2, 3, 4], [], [0, 1, 2, 3, 4], [0, 1, 2, 3, 4], [0, 1, 2, 3, 4], [0, 1, 2, 3, 4], [0, 1, 2, 3, 4], [], [0, 1, 2, 3, 4], [0, 1, 2, 3, 4], [0, 1, 2, 3, 4], [], [0, 1, 2, 3, 4], [0, 1, 2, 3, 4], [0, 1, 2, 3, 4], [0, 1, 2, 3, 4], [0, 1, 2, 3, 4], [], [], [0, 1, 2, 3, 4], [0, 1, 2, 3, 4], [0, 1, 2, 3, 4], [0, 1, 2, 3, 4], [], [0, 1, 2, 3, 4], [0, 1, 2, 3, 4], [0, 1, 2, 3, 4], [0, 1, 2, 3, 4], [], [], [0, 1, 2, 3, 4], [0, 1, 2, 3, 4], [0, 1, 2, 3, 4], [], [0, 1, 2, 3, 4], [0, 1, 2, 3, 4], [0, 1, 2, 3, 4], [0, 1, 2, 3, 4], [0, 1, 2, 3, 4], [], [0, 1, 2, 3, 4], [0, 1, 2, 3, 4], [0, 1, 2, 3, 4], [], [0, 1, 2, 3, 4], [0, 1, 2, 3, 4], [0, 1, 2, 3, 4], [0, 1, 2, 3, 4], [0, 1, 2, 3, 4], [], [], [0, 1, 2, 3, 4], [0, 1, 2, 3, 4], [0, 1, 2, 3, 4], [0, 1, 2, 3, 4], [], [0, 1, 2, 3, 4], [0, 1, 2, 3, 4], [0, 1, 2, 3, 4], [0, 1, 2, 3, 4], [], [], [0, 1, 2, 3, 4], [], [], [], [], [0, 1, 2, 3, 4], [0, 1, 2, 3, 4], [0, 1, 2, 3, 4], [], [0, 1, 2, 3, 4], [0, 1, 2, 3, 4], [0, 1, 2, 3, 4], [0, 1, 2, 3, 4], [], [], [0, 1, 2, 3, 4], [0, 1, 2, 3, 4], [0, 1, 2, 3, 4], [], [0, 1, 2, 3, 4], [0, 1, 2, 3, 4], [0, 1, 2, 3, 4], [0, 1, 2, 3, 4], [], [], [0, 1, 2, 3, 4], [], [], [], [], [0, 1, 2, 3, 4], [0, 1, 2, 3, 4], [0, 1, 2, 3, 4], [], [], [0, 1, 2, 3, 4], [], [0, 1, 2, 3, 4, 5], [0, 1, 2, 3, 4, 5], [], [], [0, 1, 2, 3, 4, 5], [], [0, 1, 2, 3, 4, 5, 6], [0, 1, 2, 3, 4, 5, 6], [], [], [0, 1, 2, 3, 4, 5, 6], [], [0, 1, 2, 3, 4, 5, 6], [], [], [], [], [0, 1, 2, 3, 4, 5, 6], [], [0, 1, 2, 3, 4, 6], [], [], [0, 1, 2, 3, 4, 6], [0, 1, 2, 3, 4, 6], [0, 1, 2, 3, 4, 6], [0, 1, 2, 3, 4, 6], [], [0, 1, 2, 3, 4], [0, 1, 2, 3, 4], [0, 1, 2, 3, 4], [], [], [], [], [0, 1, 2, 3, 4], [], [], [0, 1, 2, 3, 4], [0, 1, 2, 3, 4], [0, 1, 2, 3, 4], [], [0, 1, 2, 3, 4], [0, 1, 2, 3, 4], [0, 1, 2, 3, 4], [0, 1, 2, 3, 4], [0, 1, 2, 3, 4], [], [0, 1, 2, 3, 4], [0, 1, 2, 3, 4], [0, 1, 2, 3, 4], [0, 1, 2, 3, 4], [0, 1, 2, 3, 4], [], [], [0, 1, 2, 3, 4], [], [0, 1, 2, 3, 4, 5], [0, 1, 2, 3, 4, 5], [0, 1, 2, 3, 4, 5], [], [0, 1, 2, 3, 4, 5], [0, 1, 2, 3, 4, 5], [0, 1, 2, 3, 4, 5], [0, 1, 2, 3, 4, 5], [0, 1, 2, 3, 4, 5], [], [0, 1, 2, 3, 4, 5], [0, 1, 2, 3, 4, 5], [0, 1, 2, 3, 4, 5], [0, 1, 2, 3, 4, 5], [], [], [0, 1, 2, 3, 4, 5], [], [0, 1, 2, 3, 4, 5, 6], [0, 1, 2, 3, 4, 5, 6], [], [], [0, 1, 2, 3, 4, 5, 6], [], [0, 1, 2, 3, 4, 5, 6], [], [], [], [], [0, 1, 2, 3, 4, 5, 6], [], [0, 1, 2, 3, 4, 6], [], [], [0, 1, 2, 3, 4, 6], [0, 1, 2, 3, 4, 6], [0, 1, 2, 3, 4, 6], [0, 1, 2, 3, 4, 6], [], [0, 1, 2, 3, 4], [0, 1, 2, 3, 4], [0, 1, 2, 3, 4], [], [], [], [], [0, 1, 2, 3, 4], [], [], [0, 1, 2, 3, 4], [0, 1, 2, 3, 4], [0, 1, 2, 3, 4], [], [], [0, 1, 2, 3, 4], [], [0, 1, 2, 3, 4, 5], [0, 1, 2, 3, 4, 5], [], [], [0, 1, 2, 3, 4, 5], [], [0, 1, 2, 3, 4, 5, 6], [0, 1, 2, 3, 4, 5, 6], [], [], [0, 1, 2, 3, 4, 5, 6], [], [0, 1, 2, 3, 4, 5, 6], [], [], [], [], [0, 1, 2, 3, 4, 5, 6], [], [0, 1, 2, 3, 4, 6], [], [], [0, 1, 2, 3, 4, 6], [0, 1, 2, 3, 4, 6], [0, 1, 2, 3, 4, 6], [0, 1, 2, 3, 4, 6], [], [0, 1, 2, 3, 4], [0, 1, 2, 3, 4], [0, 1, 2, 3, 4], [], [], [], [], [0, 1, 2, 3, 4], [], [], [0, 1, 2, 3, 4], [0, 1, 2, 3, 4], [0, 1, 2, 3, 4], [], [], [0, 1, 2, 3, 4], [], [0, 1, 2, 3, 4, 5], [0, 1, 2, 3, 4, 5], [], [], [0, 1, 2, 3, 4, 5], [], [0, 1, 2, 3, 4, 5, 6], [0, 1, 2, 3, 4, 5, 6], [], [], [0, 1, 2, 3, 4, 5, 6], [], [0, 1, 2, 3, 4, 5, 6], [], [], [], [], [0, 1, 2, 3, 4, 5, 6], [], [0, 1, 2, 3, 4, 6], [], [], [0, 1, 2, 3, 4, 6], [0, 1, 2, 3, 4, 6], [0, 1, 2, 3, 4, 6], [0, 1, 2, 3, 4, 6], [], [0, 1, 2, 3, 4], [0, 1, 2, 3, 4], [0, 1, 2, 3, 4], [], [], [], [], [0, 1, 2, 3, 4], [], [], [0, 1, 2, 3, 4], [], [], [0, 1, 2, 3, 4], [], [], [], []]
noncomputable def pm_lvs : List (List (List Nat)) := [pm_lt0, pm_lt1, pm_lt2, pm_lt3, pm_lt4, pm_lt5, pm_lt6, pm_lt7, pm_lt8, pm_lt9, pm_lt10, pm_lt11, pm_lt12, pm_lt13, pm_lt14, pm_lt15, pm_lt16, pm_lt17, pm_lt18, pm_lt19, pm_lt20, pm_lt21, pm_lt22, pm_lt23, pm_lt24, pm_lt25, pm_lt26, pm_lt27, pm_lt28, pm_lt29, pm_lt30, pm_lt31, pm_lt32, pm_lt33, pm_lt34, pm_lt35, pm_lt36, pm_lt37, pm_lt38, pm_lt39, pm_lt40, pm_lt41, pm_lt42, pm_lt43, pm_lt44, pm_lt45, pm_lt46, pm_lt47, pm_lt48, pm_lt49, pm_lt50, pm_lt51, pm_lt52, pm_lt53, pm_lt54, pm_lt55, pm_lt56, pm_lt57, pm_lt58, pm_lt59, pm_lt60, pm_lt61, pm_lt62, pm_lt63, pm_lt64, pm_lt65, pm_lt66, pm_lt67, pm_lt68, pm_lt69, pm_lt70, pm_lt71, pm_lt72, pm_lt73, pm_lt74, pm_lt75, pm_lt76, pm_lt77, pm_lt78, pm_lt79, pm_lt80, pm_lt81, pm_lt82, pm_lt83, pm_lt84, pm_lt85, pm_lt86, pm_lt87, pm_lt88, pm_lt89, pm_lt90, pm_lt91, pm_lt92, pm_lt93, pm_lt94, pm_lt95, pm_lt96, pm_lt97, pm_lt98, pm_lt99, pm_lt100, pm_lt101, pm_lt102, pm_lt103, pm_lt104, pm_lt105, pm_lt106, pm_lt107, pm_lt108, pm_lt109, pm_lt110, pm_lt111, pm_lt112, pm_lt113, pm_lt114, pm_lt115, pm_lt116, pm_lt117, pm_lt118, pm_lt119, pm_lt120, pm_lt121, pm_lt122, pm_lt123, pm_lt124, pm_lt125, pm_lt126, pm_lt127, pm_lt128, pm_lt129, pm_lt130, pm_lt131, pm_lt132, pm_lt133, pm_lt134, pm_lt135, pm_lt136, pm_lt137, pm_lt138, pm_lt139, pm_lt140, pm_lt141, pm_lt142, pm_lt143, pm_lt144, pm_lt145, pm_lt146, pm_lt147, pm_lt148, pm_lt149, pm_lt150, pm_lt151, pm_lt152, pm_lt153, pm_lt154, pm_lt155, pm_lt156, pm_lt157, pm_lt158, pm_lt159, pm_lt160, pm_lt161, pm_lt162, pm_lt163, pm_lt164, pm_lt165, pm_lt166, pm_lt167, pm_lt168]
noncomputable def pm_liv (k pc : Nat) : List Nat := (pm_lvs.getD k []).getD pc []
end
section
/-! THE PURE MACHINE: the methods' code over a heap that is a list of cells; a reference is a place in that list (from 1000 on: an array that was there before, 'ol') -/
abbrev pm_C : Type := (Nat × vp_A) ⊕ (Nat × List Value)
abbrev pm_H : Type := List pm_C
abbrev pm_L : Type := List (Nat × Value)
abbrev pm_O : Type := List (Nat × (Nat → Int32))
abbrev pm_R : Type := Option ((Nat × pm_L × List Value × pm_H) ⊕ (Option Value ⊕ (Nat × List Value × List Value)))
/-- how many cells the law makes before it begins; none is made later but exceptions -/
def pm_M : Nat := 70
def pm_nx (pc : Nat) (lo : pm_L) (st : List Value) (h : pm_H) : pm_R := some (.inl (pc, lo, st, h))
def pm_lg (lo : pm_L) (i : Nat) : Option Value := match lo with
  | [] => none
  | (j, v) :: r => if j = i then some v else pm_lg r i
def pm_ls (lo : pm_L) (i : Nat) (v : Value) : pm_L := (i, v) :: lo.filter (fun q => !(q.1 == i) && !(q.1 + 1 == i && q.2.category == 2))
def pm_gi (h : pm_H) (t a : Nat) : Option (Nat × (Nat → Int32)) := if a < pm_M then (match h[a]? with
  | some (.inl (t', n, .inl f)) => if t' = t then some (n, f) else none
  | _ => none) else none
def pm_gl (h : pm_H) (a : Nat) : Option (Nat × (Nat → Int64)) := if a < pm_M then (match h[a]? with
  | some (.inl (t', n, .inr (.inl f))) => if t' = 2 then some (n, f) else none
  | _ => none) else none
def pm_gq (h : pm_H) (a : Nat) : Option (Nat × (Nat → Option Nat)) := if a < pm_M then (match h[a]? with
  | some (.inl (t', n, .inr (.inr (.inr (.inr f))))) => if t' = 3 then some (n, f) else none
  | _ => none) else none
def pm_go (h : pm_H) (a : Nat) : Option (Nat × List Value) := if a < pm_M then (match h[a]? with
  | some (.inr o) => some o
  | _ => none) else none
def pm_ia (ol : pm_O) (h : pm_H) (a : Nat) : Option (Nat × (Nat → Int32)) := if a < 1000 then pm_gi h 0 a else ol[a - 1000]?
def pm_al (h : pm_H) (a : Nat) : Option Nat := if a < pm_M then (match h[a]? with
  | some (.inl (t, x)) => if t < 4 then some x.1 else none
  | _ => none) else none
def pm_len (ol : pm_O) (h : pm_H) (a : Nat) : Option Nat := if a < 1000 then pm_al h a else (ol[a - 1000]?).map (fun q => q.1)
def pm_pop : Nat → List Value → List Value → Option (List Value × List Value)
  | 0, st, acc => some (acc, st)
  | n + 1, v :: st, acc => pm_pop n st (v :: acc)
  | _ + 1, [], _ => none
def pm_b1 (c : ClassFile.Cond) (x : Int32) : Bool := match c with
  | .eq => decide (x = 0)
  | .ne => decide (¬ x = 0)
  | .lt => decide (x < 0)
  | .ge => decide (0 ≤ x)
  | .gt => decide (0 < x)
  | .le => decide (x ≤ 0)
def pm_b2 (c : ClassFile.Cond) (x y : Int32) : Bool := match c with
  | .eq => decide (x = y)
  | .ne => decide (¬ x = y)
  | .lt => decide (x < y)
  | .ge => decide (y ≤ x)
  | .gt => decide (y < x)
  | .le => decide (x ≤ y)
def pm_cat (r : List Value) : Nat := (r.map fun v => v.category).sum
def pm_ts (d lo hi : Int) (offs : Array Int) (x : Int32) : Option Int := if x.toInt < lo ∨ hi < x.toInt then some d else offs[(x.toInt - lo).toNat]?
def pm_i2 (f : Int32 → Int32 → Int32) (pc : Nat) (lo : pm_L) (st : List Value) (h : pm_H) : pm_R := match st with
  | .int y :: .int x :: r => pm_nx pc lo (.int (f x y) :: r) h
  | _ => none
def pm_l2 (f : Int64 → Int64 → Int64) (pc : Nat) (lo : pm_L) (st : List Value) (h : pm_H) : pm_R := match st with
  | .long y :: .long x :: r => pm_nx pc lo (.long (f x y) :: r) h
  | _ => none
def pm_sh (f : Int64 → Int32 → Int64) (pc : Nat) (lo : pm_L) (st : List Value) (h : pm_H) : pm_R := match st with
  | .int y :: .long x :: r => pm_nx pc lo (.long (f x y) :: r) h
  | _ => none
def pm_jmp (t : Int) (lo : pm_L) (st : List Value) (h : pm_H) : pm_R := pm_nx t.toNat lo st h
noncomputable def pm_call (k : Nat) (as rest : List Value) : pm_R := if pm_cat rest ≤ 8 ∧ (500 ≤ k ∨ pm_cat as ≤ pm_mL k) then some (.inr (.inr (k, as, rest))) else none
def pm_mk (c : pm_C) (pc : Nat) (lo : pm_L) (st : List Value) (h : pm_H) : pm_R := if h.length < pm_M then pm_nx pc lo (.ref h.length :: st) (h ++ [c]) else none
noncomputable def pm_one (ol : pm_O) (i : Instr) (len pc : Nat) (lo : pm_L) (st : List Value) (h : pm_H) : pm_R := match i with
  | .iconst v => pm_nx (pc + len) lo (.int (Int32.ofInt v) :: st) h
  | .ldc2_w v => pm_nx (pc + len) lo (.long (Int64.ofNat v) :: st) h
  | .iload j => match pm_lg lo j with
    | some (.int x) => pm_nx (pc + len) lo (.int x :: st) h
    | _ => none
  | .aload j => match pm_lg lo j with
    | some (.ref x) => pm_nx (pc + len) lo (.ref x :: st) h
    | _ => none
  | .lload j => match pm_lg lo j with
    | some (.long x) => pm_nx (pc + len) lo (.long x :: st) h
    | _ => none
  | .istore j => match st with
    | .int x :: r => pm_nx (pc + len) (pm_ls lo j (.int x)) r h
    | _ => none
  | .astore j => match st with
    | .ref x :: r => pm_nx (pc + len) (pm_ls lo j (.ref x)) r h
    | _ => none
  | .iinc j n => match pm_lg lo j with
    | some (.int x) => pm_nx (pc + len) (pm_ls lo j (.int (x + Int32.ofInt n))) st h
    | _ => none
  | .iadd => pm_i2 (fun x y => x + y) (pc + len) lo st h
  | .isub => pm_i2 (fun x y => x - y) (pc + len) lo st h
  | .imul => pm_i2 (fun x y => x * y) (pc + len) lo st h
  | .iand => pm_i2 (fun x y => x &&& y) (pc + len) lo st h
  | .irem => match st with
    | .int y :: .int x :: r => if y = 0 then none else pm_nx (pc + len) lo (.int (x - x / y * y) :: r) h
    | _ => none
  | .ineg => match st with
    | .int x :: r => pm_nx (pc + len) lo (.int (-x) :: r) h
    | _ => none
  | .i2l => match st with
    | .int x :: r => pm_nx (pc + len) lo (.long x.toInt64 :: r) h
    | _ => none
  | .l2i => match st with
    | .long x :: r => pm_nx (pc + len) lo (.int x.toInt32 :: r) h
    | _ => none
  | .i2b => match st with
    | .int x :: r => pm_nx (pc + len) lo (.int x.toInt8.toInt32 :: r) h
    | _ => none
  | .land => pm_l2 (fun x y => x &&& y) (pc + len) lo st h
  | .lor => pm_l2 (fun x y => x ||| y) (pc + len) lo st h
  | .lshl => pm_sh (fun x y => x <<< (y.toInt64 &&& 63)) (pc + len) lo st h
  | .lshr => pm_sh (fun x y => x >>> (y.toInt64 &&& 63)) (pc + len) lo st h
  | .lushr => pm_sh (fun x y => (x.toUInt64 >>> (y.toInt64.toUInt64 &&& Int64.toUInt64 63)).toInt64) (pc + len) lo st h
  | .lcmp => match st with
    | .long y :: .long x :: r => pm_nx (pc + len) lo (.int (lg_cmp x y) :: r) h
    | _ => none
  | .dup => match st with
    | v :: r => if v.category = 1 then pm_nx (pc + len) lo (v :: v :: r) h else none
    | _ => none
  | .dup2 => match st with
    | v :: w :: r => if v.category = 1 ∧ w.category = 1 then pm_nx (pc + len) lo (v :: w :: v :: w :: r) h else none
    | _ => none
  | .pop => match st with
    | v :: r => if v.category = 1 then pm_nx (pc + len) lo r h else none
    | _ => none
  | .goto t => pm_jmp t lo st h
  | .ifCond c t => match st with
    | .int x :: r => if pm_b1 c x = true then pm_jmp t lo r h else pm_nx (pc + len) lo r h
    | _ => none
  | .if_icmp c t => match st with
    | .int y :: .int x :: r => if pm_b2 c x y = true then pm_jmp t lo r h else pm_nx (pc + len) lo r h
    | _ => none
  | .tableswitch d a b offs => match st with
    | .int x :: r => match pm_ts d a b offs x with
      | some t => pm_jmp t lo r h
      | none => none
    | _ => none
  | .lookupswitch d ps => match st with
    | .int x :: r => pm_jmp (Op.lookupswitch.offset ps.toList d x.toInt) lo r h
    | _ => none
  | .iaload => match st with
    | .int j :: .ref a :: r => match pm_ia ol h a with
      | some (n, f) => if ¬ (j < 0 ∨ n ≤ j.toNatClampNeg) then pm_nx (pc + len) lo (.int (f j.toNatClampNeg) :: r) h else none
      | none => none
    | _ => none
  | .baload => match st with
    | .int j :: .ref a :: r => match pm_gi h 1 a with
      | some (n, f) => if ¬ (j < 0 ∨ n ≤ j.toNatClampNeg) then pm_nx (pc + len) lo (.int (f j.toNatClampNeg) :: r) h else none
      | none => none
    | _ => none
  | .laload => match st with
    | .int j :: .ref a :: r => match pm_gl h a with
      | some (n, f) => if ¬ (j < 0 ∨ n ≤ j.toNatClampNeg) then pm_nx (pc + len) lo (.long (f j.toNatClampNeg) :: r) h else none
      | none => none
    | _ => none
  | .aaload => match st with
    | .int j :: .ref a :: r => match pm_gq h a with
      | some (n, f) => if ¬ (j < 0 ∨ n ≤ j.toNatClampNeg) then pm_nx (pc + len) lo (va_rf (f j.toNatClampNeg) :: r) h else none
      | none => none
    | _ => none
  | .iastore => match st with
    | .int x :: .int j :: .ref a :: r => match pm_gi h 0 a with
      | some (n, f) => if ¬ (j < 0 ∨ n ≤ j.toNatClampNeg) then pm_nx (pc + len) lo r (h.set a (.inl (0, n, .inl (upd f j.toNatClampNeg x)))) else none
      | none => none
    | _ => none
  | .bastore => match st with
    | .int x :: .int j :: .ref a :: r => match pm_gi h 1 a with
      | some (n, f) => if ¬ (j < 0 ∨ n ≤ j.toNatClampNeg) then pm_nx (pc + len) lo r (h.set a (.inl (1, n, .inl (upd f j.toNatClampNeg (vp_nar .boolean x))))) else none
      | none => none
    | _ => none
  | .lastore => match st with
    | .long x :: .int j :: .ref a :: r => match pm_gl h a with
      | some (n, f) => if ¬ (j < 0 ∨ n ≤ j.toNatClampNeg) then pm_nx (pc + len) lo r (h.set a (.inl (2, n, .inr (.inl (vp_updL f j.toNatClampNeg x))))) else none
      | none => none
    | _ => none
  | .aastore => match st with
    | .ref v :: .int j :: .ref a :: r => match pm_gq h a with
      | some (n, f) => match pm_go h v with
        | some (ci, _) => if ci = 4 ∧ ¬ (j < 0 ∨ n ≤ j.toNatClampNeg) then pm_nx (pc + len) lo r (h.set a (.inl (3, n, .inr (.inr (.inr (.inr (va_up f j.toNatClampNeg (some v)))))))) else none
        | none => none
      | none => none
    | _ => none
  | .arraylength => match st with
    | .ref a :: r => match pm_len ol h a with
      | some n => pm_nx (pc + len) lo (.int (Int32.ofNat n) :: r) h
      | none => none
    | _ => none
  | .getfield x => match st with
    | .ref a :: r => match pm_go h a with
      | some (ci, fs) => if ci = x / 64 then (match fs[x % 64]? with
        | some v => pm_nx (pc + len) lo (v :: r) h
        | none => none) else none
      | none => none
    | _ => none
  | .putfield x => match st with
    | .int v :: .ref a :: r => match pm_go h a with
      | some (ci, fs) => if ci = x / 64 ∧ x % 64 < fs.length then pm_nx (pc + len) lo r (h.set a (.inr (ci, fs.set (x % 64) (.int v)))) else none
      | none => none
    | _ => none
  | .putstatic x => match st with
    | .int v :: .ref a :: r => match pm_go h a with
      | some (ci, fs) => if ci = x / 64 ∧ x % 64 < fs.length ∧ (v = 0 ∨ v = 1) then pm_nx (pc + len) lo r (h.set a (.inr (ci, fs.set (x % 64) (.int v)))) else none
      | none => none
    | _ => none
  | .checkcast x => match st with
    | .ref v :: .ref a :: r => match pm_go h a with
      | some (ci, fs) => if ci = x / 64 ∧ x % 64 < fs.length then pm_nx (pc + len) lo r (h.set a (.inr (ci, fs.set (x % 64) (.ref v)))) else none
      | none => none
    | _ => none
  | .getstatic a => pm_nx (pc + len) lo (.ref a :: st) h
  | .new ci => match pm_dfs[ci]? with
    | some fs => pm_mk (.inr (ci, fs)) (pc + len) lo st h
    | none => none
  | .newarray t => match st with
    | .int n :: r => if ¬ n < 0 ∧ n.toNatClampNeg ≤ 1000 then (match t with
      | .int => pm_mk (.inl (0, n.toNatClampNeg, .inl (fun _ => 0))) (pc + len) lo r h
      | .boolean => pm_mk (.inl (1, n.toNatClampNeg, .inl (fun _ => 0))) (pc + len) lo r h
      | .long => pm_mk (.inl (2, n.toNatClampNeg, .inr (.inl (fun _ => 0)))) (pc + len) lo r h
      | _ => none) else none
    | _ => none
  | .anewarray _ => match st with
    | .int n :: r => if ¬ n < 0 ∧ n.toNatClampNeg ≤ 1000 then pm_mk (.inl (3, n.toNatClampNeg, .inr (.inr (.inr (.inr (fun _ => none)))))) (pc + len) lo r h else none
    | _ => none
  | .invokespecial _ => match st with
    | .ref _ :: r => if pm_cat r ≤ 8 then pm_nx (pc + len) lo r h else none
    | _ => none
  | .invokedynamic _ => match st with
    | .int n :: .int dp :: .ref a :: .int sp :: .ref a0 :: r => match pm_gi h 0 a0 with
      | some (n0, f) => match pm_gi h 0 a with
        | some (n1, g) => if (¬ sp < 0 ∧ ¬ dp < 0 ∧ ¬ n < 0) ∧ sp.toNatClampNeg + n.toNatClampNeg ≤ n0 ∧ dp.toNatClampNeg + n.toNatClampNeg ≤ n1 ∧ pm_cat r ≤ 8 then pm_nx (pc + len) lo r (h.set a (.inl (0, n1, .inl (va_cpy f g sp.toNatClampNeg dp.toNatClampNeg n.toNatClampNeg)))) else none
        | none => none
      | none => none
    | _ => none
  | .dadd => match st with
    | .int y :: .int x :: r => if pm_cat r ≤ 8 then pm_nx (pc + len) lo (.int (if x < y then y else x) :: r) h else none
    | _ => none
  | .dsub => match st with
    | .int y :: .int x :: r => if pm_cat r ≤ 8 then pm_nx (pc + len) lo (.int (if y < x then y else x) :: r) h else none
    | _ => none
  | .dneg => match st with
    | .int x :: r => if pm_cat r ≤ 8 then pm_nx (pc + len) lo (.int (if 0 ≤ x then x else 0 - x) :: r) h else none
    | _ => none
  | .invokeinterface x n => match pm_pop n st [] with
    | some (.ref b :: as, rest) => match pm_go h b with
      | some (ci, _) => if ci = x / 1000 then pm_call (x % 1000) (.ref b :: as) rest else none
      | none => none
    | _ => none
  | .multianewarray k n => match pm_pop n st [] with
    | some (as, rest) => pm_call k as rest
    | _ => none
  | .ireturn => match st with
    | [.int v] => some (.inr (.inl (some (.int v))))
    | _ => none
  | .freturn => match st with
    | [.int v] => if v = 0 ∨ v = 1 then some (.inr (.inl (some (.int v)))) else none
    | _ => none
  | .areturn => match st with
    | [.ref v] => some (.inr (.inl (some (.ref v))))
    | _ => none
  | .return_ => match st with
    | [] => some (.inr (.inl none))
    | _ => none
  | _ => none
def pm_lv : List Nat → pm_L → pm_L
  | [], _ => []
  | j :: r, lo => match pm_lg lo j with
    | some v => (j, v) :: pm_lv r lo
    | none => pm_lv r lo
abbrev pm_Q : Type := Nat → List Value → pm_H → Option (Option Value × pm_H)
/-- a run of the pure machine: n: fuel; orc: what the methods from 500 on do -/
noncomputable def pm_X (ol : pm_O) (orc : pm_Q) : Nat → Nat → Nat → pm_L → List Value → pm_H → Option (Option Value × pm_H)
  | 0, _, _, _, _, _ => none
  | n + 1, k, pc, lo, st, h => match pm_ins k pc with
    | none => none
    | some (i, len, _) => match pm_one ol i len pc (pm_lv (pm_liv k pc) lo) st h with
      | none => none
      | some (.inl (pc', lo', st', h')) => pm_X ol orc n k pc' lo' st' h'
      | some (.inr (.inl v)) => some (v, h)
      | some (.inr (.inr (k', as, rest))) =>
        match (if k' < 500 then pm_X ol orc n k' 0 (lv_args 0 as) [] h else orc k' as h) with
        | none => none
        | some (v, h') => pm_X ol orc n k (pc + len) (pm_lv (pm_liv k pc) lo) (v.toList ++ rest) h'
theorem pm_X_mono (ol : pm_O) (orc : pm_Q) : ∀ (n k pc : Nat) (lo : pm_L) (st : List Value) (h : pm_H) (r : Option Value × pm_H), pm_X ol orc n k pc lo st h = some r → pm_X ol orc (n + 1) k pc lo st h = some r := by
  intro n
  induction n with
  | zero => intro k pc lo st h r hr; cases hr
  | succ n ih =>
    intro k pc lo st h r hr
    rw [pm_X] at hr ⊢
    cases hi : pm_ins k pc with
    | none => rw [hi] at hr; cases hr
    | some x =>
      obtain ⟨i, len, q⟩ := x
      rw [hi] at hr
      dsimp only at hr ⊢
      cases ho : pm_one ol i len pc (pm_lv (pm_liv k pc) lo) st h with
      | none => rw [ho] at hr; cases hr
      | some y =>
        rw [ho] at hr
        rcases y with ⟨pc', lo', st', h'⟩ | v | ⟨k', as, rest⟩
        · exact ih _ _ _ _ _ _ hr
        · exact hr
        · dsimp only at hr ⊢
          by_cases hk : k' < 500
          · simp only [if_pos hk] at hr ⊢
            cases hc : pm_X ol orc n k' 0 (lv_args 0 as) [] h with
            | none => rw [hc] at hr; cases hr
            | some z =>
              rw [hc] at hr
              rw [ih _ _ _ _ _ _ hc]
              exact ih _ _ _ _ _ _ hr
          · simp only [if_neg hk] at hr ⊢
            cases hc : orc k' as h with
            | none => rw [hc] at hr; cases hr
            | some z =>
              rw [hc] at hr
              exact ih _ _ _ _ _ _ hr
theorem pm_X_le (ol : pm_O) (orc : pm_Q) {n m k pc : Nat} {lo : pm_L} {st : List Value} {h : pm_H} {r : Option Value × pm_H} (hnm : n ≤ m) (hr : pm_X ol orc n k pc lo st h = some r) : pm_X ol orc m k pc lo st h = some r := by
  induction hnm with
  | refl => exact hr
  | step _ ih => exact pm_X_mono _ _ _ _ _ _ _ _ _ ih
end
section
/-! THE REAL HEAP HOLDS THE PURE ONE: translations, and what they keep -/
def pm_ta (ad : Nat → Nat) (a : vp_A) : vp_A := match a with
  | (n, .inr (.inr (.inr (.inr f)))) => (n, .inr (.inr (.inr (.inr (fun j => (f j).map ad)))))
  | x => x
theorem pm_ta_1 (ad : Nat → Nat) (a : vp_A) : (pm_ta ad a).1 = a.1 := by
  obtain ⟨n, f | f | f | f | f⟩ := a <;> rfl
def pm_tc (ad : Nat → Nat) (cA : Nat → ClassId) (x : pm_C) : va_E := match x with
  | .inl (t, a) => .inl (cA t, pm_ta ad a)
  | .inr (ci, fs) => .inr (ci, fs.map (pm_tv ad))
def pm_w (ad : Nat → Nat) (cA : Nat → ClassId) : Nat → pm_H → va_W
  | _, [] => []
  | i, x :: r => (ad i, pm_tc ad cA x) :: pm_w ad cA (i + 1) r
theorem pm_w_get (ad : Nat → Nat) (cA : Nat → ClassId) : ∀ (h : pm_H) (i j : Nat), (pm_w ad cA i h)[j]? = (h[j]?).map (fun x => (ad (i + j), pm_tc ad cA x)) := by
  intro h
  induction h with
  | nil => intro i j; rfl
  | cons x r ih =>
    intro i j
    cases j with
    | zero => rfl
    | succ j =>
      show (pm_w ad cA (i + 1) r)[j]? = (r[j]?).map _
      rw [ih (i + 1) j, show i + 1 + j = i + (j + 1) by omega]
theorem pm_w_set (ad : Nat → Nat) (cA : Nat → ClassId) : ∀ (h : pm_H) (i j : Nat) (x : pm_C), (pm_w ad cA i h).set j (ad (i + j), pm_tc ad cA x) = pm_w ad cA i (h.set j x) := by
  intro h
  induction h with
  | nil => intro i j x; rfl
  | cons y r ih =>
    intro i j x
    cases j with
    | zero => rfl
    | succ j =>
      show (ad i, pm_tc ad cA y) :: (pm_w ad cA (i + 1) r).set j _ = (ad i, pm_tc ad cA y) :: pm_w ad cA (i + 1) (r.set j x)
      rw [← ih (i + 1) j x, show i + 1 + j = i + (j + 1) by omega]
theorem pm_w_app (ad : Nat → Nat) (cA : Nat → ClassId) : ∀ (h : pm_H) (i : Nat) (x : pm_C), pm_w ad cA i (h ++ [x]) = pm_w ad cA i h ++ [(ad (i + h.length), pm_tc ad cA x)] := by
  intro h
  induction h with
  | nil => intro i x; rfl
  | cons y r ih =>
    intro i x
    show (ad i, pm_tc ad cA y) :: pm_w ad cA (i + 1) (r ++ [x]) = (ad i, pm_tc ad cA y) :: (pm_w ad cA (i + 1) r ++ _)
    rw [ih (i + 1) x, List.length_cons, show i + 1 + r.length = i + (r.length + 1) by omega]
theorem pm_w_len (ad : Nat → Nat) (cA : Nat → ClassId) : ∀ (h : pm_H) (i : Nat), (pm_w ad cA i h).length = h.length := by
  intro h
  induction h with
  | nil => intro i; rfl
  | cons y r ih => intro i; simp [pm_w, ih]
theorem pm_w_at {ad : Nat → Nat} {cA : Nat → ClassId} {h : pm_H} {j : Nat} {x : pm_C} (hj : h[j]? = some x) : (pm_w ad cA 0 h)[j]? = some (ad j, pm_tc ad cA x) := by
  rw [pm_w_get, hj, Nat.zero_add]; rfl
theorem pm_w_s0 {ad : Nat → Nat} {cA : Nat → ClassId} {h : pm_H} {j : Nat} {x : pm_C} : (pm_w ad cA 0 h).set j (ad j, pm_tc ad cA x) = pm_w ad cA 0 (h.set j x) := by
  have := pm_w_set ad cA h 0 j x
  rwa [Nat.zero_add] at this
def pm_csz (x : pm_C) : Nat := match x with
  | .inl (_, a) => a.1
  | .inr (_, fs) => fs.length
def pm_sz (h : pm_H) : Nat := (h.map pm_csz).sum
theorem pm_sz_set : ∀ {h : pm_H} {j : Nat} {x y : pm_C}, h[j]? = some x → pm_csz y = pm_csz x → pm_sz (h.set j y) = pm_sz h := by
  intro h
  induction h with
  | nil => intro j x y hj; simp at hj
  | cons z r ih =>
    intro j x y hj he
    cases j with
    | zero =>
      simp at hj
      subst hj
      simp [pm_sz, he]
    | succ j =>
      simp at hj
      have := ih (j := j) hj he
      simp [pm_sz] at this ⊢
      omega
theorem pm_sz_app (h : pm_H) (x : pm_C) : pm_sz (h ++ [x]) = pm_sz h + pm_csz x := by simp [pm_sz]
end
section
/-! ONE STEP of the pure machine is one of the real one -/
def pm_ad (base : Nat) (od : Nat → Nat) (i : Nat) : Nat := if i < 1000 then base + i else od (i - 1000)
def pm_tys (cA : Nat → ClassId) : List (ClassId × FieldType) := [(cA 0, .int), (cA 1, .boolean), (cA 2, .long), (cA 3, .object RX4)]
def pm_A (base : Nat) : Nat → Prop := fun q => base ≤ q
/-- what is known of the start and stays: the classes, the arrays that were there -/
def pm_cx (D : va_G) (cA : Nat → ClassId) (ad : Nat → Nat) (base : Nat) (ol : pm_O) (s : State) : Prop :=
  va_K D vwCl (pm_tys cA) s ∧ va_AO RX4 s ∧ base ≤ s.heap.size ∧ (∀ (j N : Nat) (f : Nat → Int32), ol[j]? = some (N, f) → va_T .int (ad (1000 + j)) N (fun i => .int (f i)) (pm_A base) s s.heap) ∧ va_Z RX2 "X_BOUNDS" "[I" (.ref (ad 1001)) (pm_A base) s s.heap ∧ va_Z RX7 "GIVEN" "[I" (.ref (ad 1002)) (pm_A base) s s.heap
theorem pm_cx.moved {D : va_G} {cA : Nat → ClassId} {ad : Nat → Nat} {base : Nat} {ol : pm_O} {s U : State} {H : Heap} {locs : List Loc} (h : pm_cx D cA ad base ol s) (hW : s.WarmedH U.vm) (hU : U.heap = H) (hS : va_S (pm_A base) s.heap H locs) : pm_cx D cA ad base ol U := by
  obtain ⟨h1, h2, h3, h4, h5, h6⟩ := h
  have hk : ∀ a : Nat, a < s.heap.size → ¬ pm_A base a → U.heap[a]? = s.heap[a]? := fun a g1 g2 => by rw [hU]; exact hS.2.1 a g1 g2
  exact ⟨va_K.moved hW.alike h1, va_AO.moved hW.alike h2, by rw [hU]; exact Nat.le_trans h3 hS.1, fun j N f hj => (va_T.moved hW.alike (h4 j N f hj)).kept hk, (va_Z.moved hW.alike h5).kept hk, (va_Z.moved hW.alike h6).kept hk⟩
/-- what is known of the frame of method k -/
def pm_fx (k : Nat) (p : Program) (R : Room) (s : State) (m : MethodId) (args : Array Value) (meth : Method) (c : Code) : Prop :=
  p.tables.exec = Jvm.exec ∧ c.code = pm_b k ∧ c.maxLocals = pm_mL k ∧ meth.sig.returnType = pm_rt k ∧ meth.locks = false ∧ meth.name = (pm_y k).name ∧ s.vm.findClass (pm_y k).cls = some m.cls ∧ (∀ w ∈ pm_ws, w.before args s = true) ∧ pm_rf k ≤ R.frames ∧ pm_rl k ≤ R.locals
def pm_hr (D : va_G) (cA : Nat → ClassId) (ad : Nat → Nat) (base : Nat) (s : State) (h : pm_H) (H : Heap) (locs : List Loc) : Prop :=
  va_P D vwCl (pm_w ad cA 0 (h.take pm_M)) H ∧ va_D (pm_A base) (pm_w ad cA 0 (h.take pm_M)) ∧ va_S (pm_A base) s.heap H locs
def pm_tl (ad : Nat → Nat) (lo : pm_L) : List (Nat × Value) := lo.map (fun q => (q.1, pm_tv ad q.2))
/-- the real machine, at pc of method k with the pure state translated, comes to Q -/
def pm_U (p : Program) (l : Launch) (e : Env) (R : Room) (s : State) (m : MethodId) (args : Array Value) (below : List Frame) (meth : Method) (c : Code) (Q : State → Prop) (D : va_G) (cA : Nat → ClassId) (ad : Nat → Nat) (base k l0 z0 pc : Nat) (lo : pm_L) (st : List Value) (h : pm_H) : Prop :=
  ∀ (H : Heap) (locs : List Loc) (ls : Array Slot), pm_hr D cA ad base s h H locs → lv_has ls (pm_mL k) (pm_tl ad lo) → W p l e R s m args below meth c H locs (h.length - l0) (pm_sz h - z0) Q (F0 m pc ls (st.map (pm_tv ad)))
theorem pm_lg_mem : ∀ {lo : pm_L} {i : Nat} {v : Value}, pm_lg lo i = some v → (i, v) ∈ lo := by
  intro lo
  induction lo with
  | nil => intro i v h; cases h
  | cons q r ih =>
    obtain ⟨j, w⟩ := q
    intro i v h
    unfold pm_lg at h
    by_cases hj : j = i
    · rw [if_pos hj] at h; cases h; subst hj; exact List.mem_cons_self
    · rw [if_neg hj] at h; exact List.mem_cons_of_mem _ (ih h)
theorem pm_lg_at {ad : Nat → Nat} {lo : pm_L} {i nL : Nat} {v : Value} {ls : Array Slot} (hl : lv_has ls nL (pm_tl ad lo)) (h : pm_lg lo i = some v) : ls[i]? = some (.val (pm_tv ad v)) :=
  hl.2.2 (i, pm_tv ad v) (List.mem_map.mpr ⟨(i, v), pm_lg_mem h, rfl⟩)
theorem pm_ls_tl (ad : Nat → Nat) (lo : pm_L) (i : Nat) (v : Value) : (i, pm_tv ad v) :: (pm_tl ad lo).filter (fun q => !(q.1 == i) && !(q.1 + 1 == i && q.2.category == 2)) = pm_tl ad (pm_ls lo i v) := by
  unfold pm_tl pm_ls
  rw [List.map_cons, List.filter_map]
  congr 2
  apply List.filter_congr
  intro q _
  simp only [Function.comp, pm_tv_cat]
theorem pm_gi_at {h : pm_H} {t a n : Nat} {f : Nat → Int32} (hg : pm_gi h t a = some (n, f)) : a < pm_M ∧ h[a]? = some (.inl (t, n, .inl f)) := by
  unfold pm_gi at hg
  split at hg
  · rename_i hm
    split at hg
    · rename_i t' n' f' hh
      by_cases ht : t' = t
      · rw [if_pos ht] at hg; cases hg; subst ht; exact ⟨hm, hh⟩
      · rw [if_neg ht] at hg; cases hg
    · cases hg
  · cases hg
theorem pm_gl_at {h : pm_H} {a n : Nat} {f : Nat → Int64} (hg : pm_gl h a = some (n, f)) : a < pm_M ∧ h[a]? = some (.inl (2, n, .inr (.inl f))) := by
  unfold pm_gl at hg
  split at hg
  · rename_i hm
    split at hg
    · rename_i t' n' f' hh
      by_cases ht : t' = 2
      · rw [if_pos ht] at hg; cases hg; subst ht; exact ⟨hm, hh⟩
      · rw [if_neg ht] at hg; cases hg
    · cases hg
  · cases hg
theorem pm_gq_at {h : pm_H} {a n : Nat} {f : Nat → Option Nat} (hg : pm_gq h a = some (n, f)) : a < pm_M ∧ h[a]? = some (.inl (3, n, .inr (.inr (.inr (.inr f))))) := by
  unfold pm_gq at hg
  split at hg
  · rename_i hm
    split at hg
    · rename_i t' n' f' hh
      by_cases ht : t' = 3
      · rw [if_pos ht] at hg; cases hg; subst ht; exact ⟨hm, hh⟩
      · rw [if_neg ht] at hg; cases hg
    · cases hg
  · cases hg
theorem pm_go_at {h : pm_H} {a : Nat} {o : Nat × List Value} (hg : pm_go h a = some o) : a < pm_M ∧ h[a]? = some (.inr o) := by
  unfold pm_go at hg
  split at hg
  · rename_i hm
    split at hg
    · rename_i o' hh; cases hg; exact ⟨hm, hh⟩
    · cases hg
  · cases hg
theorem pm_al_at {h : pm_H} {a n : Nat} (hg : pm_al h a = some n) : a < pm_M ∧ ∃ (t : Nat) (x : vp_A), h[a]? = some (.inl (t, x)) ∧ t < 4 ∧ x.1 = n := by
  unfold pm_al at hg
  split at hg
  · rename_i hm
    split at hg
    · rename_i t' x' hh
      by_cases ht : t' < 4
      · rw [if_pos ht] at hg; cases hg; exact ⟨hm, t', x', hh, ht, rfl⟩
      · rw [if_neg ht] at hg; cases hg
    · cases hg
  · cases hg
theorem pm_t_at {ad : Nat → Nat} {cA : Nat → ClassId} {h : pm_H} {a : Nat} {x : pm_C} (ha : a < pm_M) (hx : h[a]? = some x) : (pm_w ad cA 0 (h.take pm_M))[a]? = some (ad a, pm_tc ad cA x) :=
  pm_w_at (by rw [List.getElem?_take_of_lt ha]; exact hx)
theorem pm_tv_rf (ad : Nat → Nat) (r : Option Nat) : pm_tv ad (va_rf r) = va_rf (r.map ad) := by cases r <;> rfl
theorem pm_cat_tv (ad : Nat → Nat) (r : List Value) : ((r.map (pm_tv ad)).map fun v => v.category).sum = pm_cat r := by
  unfold pm_cat
  rw [List.map_map]
  congr 2
  funext v
  exact pm_tv_cat ad v
theorem pm_lsw (a d v : Int) : ∀ l : List (Int × Int), Op.lookupswitch.offset (l.map (fun q => (q.1, a + q.2))) (a + d) v = a + Op.lookupswitch.offset l d v := by
  intro l
  induction l with
  | nil => rfl
  | cons q r ih =>
    obtain ⟨x, y⟩ := q
    rw [List.map_cons, Op.lookupswitch.offset_cons, Op.lookupswitch.offset_cons, ih]
    split <;> rfl
theorem pm_lswn {a d v : Int} (hd : 0 ≤ a + d) : ∀ l : List (Int × Int), (∀ q ∈ l, 0 ≤ a + q.2) → 0 ≤ a + Op.lookupswitch.offset l d v := by
  intro l
  induction l with
  | nil => intro _; exact hd
  | cons q r ih =>
    intro hl
    obtain ⟨x, y⟩ := q
    rw [Op.lookupswitch.offset_cons]
    split
    · exact hl (x, y) List.mem_cons_self
    · exact ih (fun q hq => hl q (List.mem_cons_of_mem _ hq))
theorem pm_okf_spec {k idx x pos : Nat} (h : pm_okf k idx x pos = true) : ∃ (C : String) (T : u_T) (N : Nat), vwCl[x / 64]? = some (C, T, N) ∧ x % 64 < N ∧ Jvm.Cond.fieldLink (pm_y k).cls idx (T (x % 64)).1 (T (x % 64)).2.1 (T (x % 64)).2.2.1 ∈ pm_ws := by
  unfold pm_okf at h
  split at h
  · rename_i C T N hv
    simp only [Bool.and_eq_true, decide_eq_true_eq] at h
    exact ⟨C, T, N, hv, h.1, pm_wd_in h.2 rfl⟩
  · cases h
theorem pm_okw_spec {k x : Nat} {f : FieldType → Bool} (h : pm_okw k x f = true) : ∃ (C : String) (T : u_T) (N : Nat) (ty : FieldType), vwCl[x / 64]? = some (C, T, N) ∧ parseFieldDescriptor (T (x % 64)).2.2.1 = some ty ∧ f ty = true ∧ ((T (x % 64)).2.2.2 = false ∨ ((pm_y k).name = "<init>" ∧ (T (x % 64)).1 = (pm_y k).cls)) := by
  unfold pm_okw at h
  split at h
  · rename_i C T N hv
    simp only [Bool.and_eq_true, Bool.or_eq_true, decide_eq_true_eq] at h
    obtain ⟨h1, h2⟩ := h
    split at h1
    · rename_i ty ht
      exact ⟨C, T, N, ty, hv, ht, h1, h2⟩
    · cases h1
  · cases h
section PMS
variable {p : Program} {l : Launch} {e : Env} {R : Room} {s : State} {m : MethodId} {args : Array Value} {below : List Frame} {meth : Method} {c : Code} {Q : State → Prop}
variable {D : va_G} {cA : Nat → ClassId} {ad : Nat → Nat} {base : Nat} {ol : pm_O} {k l0 z0 pc : Nat} {lo : pm_L} {st : List Value} {h : pm_H}
/-- a write into a cell of the same size -/
theorem pm_put {a : Nat} {y : pm_C} {H1 : Heap} {locs1 : List Loc} (ha : a < pm_M) (hP : va_P D vwCl ((pm_w ad cA 0 (h.take pm_M)).set a (ad a, pm_tc ad cA y)) H1) (hD : va_D (pm_A base) ((pm_w ad cA 0 (h.take pm_M)).set a (ad a, pm_tc ad cA y))) (hS : va_S (pm_A base) s.heap H1 locs1) : pm_hr D cA ad base s (h.set a y) H1 locs1 := by
  rw [pm_w_s0] at hP hD
  have e : (h.set a y).take pm_M = (h.take pm_M).set a y := by rw [List.take_set]
  exact ⟨by rw [e]; exact hP, by rw [e]; exact hD, hS⟩
theorem pm_Uset {a : Nat} {x y : pm_C} {st' : List Value} {lo' : pm_L} {pc' : Nat} {H1 : Heap} {locs1 : List Loc} {ls : Array Slot} (K : pm_U p l e R s m args below meth c Q D cA ad base k l0 z0 pc' lo' st' (h.set a y)) (hx : h[a]? = some x) (he : pm_csz y = pm_csz x) (hr : pm_hr D cA ad base s (h.set a y) H1 locs1) (hl : lv_has ls (pm_mL k) (pm_tl ad lo')) :
    W p l e R s m args below meth c H1 locs1 (h.length - l0) (pm_sz h - z0) Q (F0 m pc' ls (st'.map (pm_tv ad))) := by
  have := K H1 locs1 ls hr hl
  rw [List.length_set, pm_sz_set hx he] at this
  exact this
/-- how large the heap is while the law still makes its cells -/
theorem pm_size {H : Heap} {locs : List Loc} {slots : Nat} {T : State} (hE : l0 < pm_M → s.heap.size = base + l0) (hAd : ∀ i, i < 1000 → ad i = base + i) (hlt : h.length < pm_M) (hl0 : l0 ≤ h.length) (hr : pm_hr D cA ad base s h H locs) (hT : T.heap = H) (X : Stand p l e R s m args below meth c T locs (h.length - l0) slots) : H.size = base + h.length := by
  have h1 := X.heapSize
  have h2 := hE (Nat.lt_of_le_of_lt hl0 hlt)
  rw [hT] at h1
  have h3 : base + h.length ≤ H.size := by
    by_cases h0 : h.length = 0
    · have := hr.2.2.1
      omega
    · have hx : h[h.length - 1]? = some (h[h.length - 1]'(by omega)) := List.getElem?_eq_getElem (by omega)
      have h4 := (hr.1 _ _ (pm_t_at (ad := ad) (cA := cA) (by omega) hx)).lt
      have h5 := hAd (h.length - 1) (by have : pm_M = 70 := rfl; omega)
      have h6 : ad (h.length - 1) < H.size := h4
      omega
  omega
theorem pm_grow {x : pm_C} {H H1 : Heap} {locs : List Loc} (hlt : h.length < pm_M) (hr : pm_hr D cA ad base s h H locs) (hX : base ≤ s.heap.size) (hA : ad h.length = H.size) (hat : va_at D vwCl (H.size, pm_tc ad cA x) H1) (z1 : H1.size = H.size + 1) (o1 : ∀ q, q < H.size → H1[q]? = H[q]?) : pm_hr D cA ad base s (h ++ [x]) H1 locs := by
  have e1 : (h ++ [x]).take pm_M = h ++ [x] := List.take_of_length_le (by rw [List.length_append]; exact hlt)
  have e2 : h.take pm_M = h := List.take_of_length_le (Nat.le_of_lt hlt)
  obtain ⟨hP, hD, hS⟩ := hr
  rw [e2] at hP hD
  have ew : pm_w ad cA 0 (h ++ [x]) = pm_w ad cA 0 h ++ [(H.size, pm_tc ad cA x)] := by rw [pm_w_app, Nat.zero_add, hA]
  have hk : ∀ (k : Nat) (y : Nat × va_E), (pm_w ad cA 0 h)[k]? = some y → H1[y.1]? = H[y.1]? := fun k y hy => o1 y.1 ((hP k y hy).lt)
  refine ⟨?_, ?_, Nat.le_trans hS.1 (by omega), fun q g1 g2 => (o1 q (Nat.lt_of_lt_of_le g1 hS.1)).trans (hS.2.1 q g1 g2), hS.2.2⟩
  · rw [e1, ew]
    refine (hP.kept hk).app (fun k y hy => ?_)
    have hz : k < 1 := (List.getElem?_eq_some_iff.mp hy).1
    rw [show k = 0 by omega] at hy
    cases hy
    exact hat
  · rw [e1, ew]
    exact hD.push hP rfl (Nat.le_trans hX hS.1)
theorem pm_Uapp {x : pm_C} {st' : List Value} {lo' : pm_L} {pc' : Nat} {H1 : Heap} {locs1 : List Loc} {ls : Array Slot} (K : pm_U p l e R s m args below meth c Q D cA ad base k l0 z0 pc' lo' st' (h ++ [x])) (hl0 : l0 ≤ h.length) (hz0 : z0 ≤ pm_sz h) (hr : pm_hr D cA ad base s (h ++ [x]) H1 locs1) (hl : lv_has ls (pm_mL k) (pm_tl ad lo')) :
    W p l e R s m args below meth c H1 locs1 (h.length - l0 + 1) (pm_sz h - z0 + pm_csz x) Q (F0 m pc' ls (st'.map (pm_tv ad))) := by
  have := K H1 locs1 ls hr hl
  rw [List.length_append, pm_sz_app, show h.length + [x].length - l0 = h.length - l0 + 1 by simp; omega, show pm_sz h + pm_csz x - z0 = pm_sz h - z0 + pm_csz x by omega] at this
  exact this
/-- a field is written -/
theorem pm_pf {idx x pos a : Nat} {fs : List Value} {f : FieldType → Bool} {v : Value} {r : List Value} (F : pm_fx k p R s m args meth c) (X : pm_cx D cA ad base ol s) (hf : pm_okf k idx x pos = true) (hw : pm_okw k x f = true) (hd : decode (pm_b k) pc = .ok (.putfield idx, 3)) (ha : a < pm_M) (hat : h[a]? = some (.inr (x / 64, fs))) (hlen : x % 64 < fs.length) (hnf : ∀ ty, f ty = true → narrow ty (pm_tv ad v) = pm_tv ad v ∧ fits ty (pm_tv ad v) = true)
    (K : pm_U p l e R s m args below meth c Q D cA ad base k l0 z0 (pc + 3) lo r (h.set a (.inr (x / 64, fs.set (x % 64) v)))) : pm_U p l e R s m args below meth c Q D cA ad base k l0 z0 pc lo (v :: .ref a :: r) h := by
  obtain ⟨hx, hb, hml, hrt, hlk, hnm, hown, hts, hrf, hrl⟩ := F
  obtain ⟨C, T, N, hv, hN, hw1⟩ := pm_okf_spec hf
  obtain ⟨C', T', N', ty, hv', hty, hft, hfin⟩ := pm_okw_spec hw
  cases hv.symm.trans hv'
  obtain ⟨g1, ⟨ty0, g2, -⟩, g3, -⟩ := pm_cls _ _ _ _ hv
  obtain ⟨n1, n2⟩ := hnf ty hft
  have em : (fs.map (pm_tv ad)).set (x % 64) (pm_tv ad v) = (fs.set (x % 64) v).map (pm_tv ad) := by rw [List.map_set]
  have hlen' : x % 64 < (fs.map (pm_tv ad)).length := by rw [List.length_map]; exact hlen
  intro H locs ls hr hl
  have fin : ∀ (H1 : Heap) (locs1 : List Loc), va_P D vwCl ((pm_w ad cA 0 (h.take pm_M)).set a (ad a, .inr (x / 64, (fs.map (pm_tv ad)).set (x % 64) (pm_tv ad v)))) H1 → va_D (pm_A base) ((pm_w ad cA 0 (h.take pm_M)).set a (ad a, .inr (x / 64, (fs.map (pm_tv ad)).set (x % 64) (pm_tv ad v)))) → va_S (pm_A base) s.heap H1 locs1 → W p l e R s m args below meth c H1 locs1 (h.length - l0) (pm_sz h - z0) Q (F0 m (pc + 3) ls (r.map (pm_tv ad))) := by
    intro H1 locs1 hP1 hD1 hS1
    rw [em] at hP1 hD1
    exact pm_Uset K hat (by simp [pm_csz]) (pm_put ha hP1 hD1 hS1) hl
  cases hfl : (T (x % 64)).2.2.2 with
  | false => exact va_put (C := C) (T := T) (N := N) hx hb hts g1 ty0 g2 g3 hown X.1 hr.1 hr.2.1 hr.2.2 a (pm_t_at ha hat) hv (x % 64) hN (hts _ hw1) (fun _ z => z) hfl hty n1 n2 hlen' hd fin
  | true =>
    rcases hfin with q | ⟨q1, q2⟩
    · rw [hfl] at q; cases q
    · exact va_putF (C := C) (T := T) (N := N) hx hb hts g1 ty0 g2 g3 hown X.1 hr.1 hr.2.1 hr.2.2 a (pm_t_at ha hat) hv (x % 64) hN (hts _ hw1) (fun _ z => z) hfl (hnm.trans q1) q2 hty n1 n2 hlen' hd fin
set_option maxHeartbeats 2000000 in
theorem pm_st_iadd (F : pm_fx k p R s m args meth c) (X : pm_cx D cA ad base ol s) (hE : l0 < pm_M → s.heap.size = base + l0) (hAd : ∀ i, i < 1000 → ad i = base + i) {i : Instr} {len pos pc' : Nat} {lo' : pm_L} {st' : List Value} {h' : pm_H} (hd : decode (pm_b k) pc = .ok (.iadd, len)) (hj : pm_okJ k pc (.iadd) i len pos = true) (ho : pm_one ol i len pc lo st h = some (.inl (pc', lo', st', h'))) (hl0 : l0 ≤ h.length) (hz0 : z0 ≤ pm_sz h) (hc : h'.length - l0 ≤ R.cells) (hz : pm_sz h' - z0 ≤ R.slots)
    (K : pm_U p l e R s m args below meth c Q D cA ad base k l0 z0 pc' lo' st' h') : pm_U p l e R s m args below meth c Q D cA ad base k l0 z0 pc lo st h := by
  obtain ⟨hx, hb, hml, hrt, hlk, hnm, hown, hts, hrf, hrl⟩ := id F
  simp only [pm_okJ, pm_plain, Bool.and_eq_true, decide_eq_true_eq, true_and] at hj
  obtain ⟨rfl, rfl⟩ := hj
  simp only [pm_one, pm_i2] at ho
  split at ho
  · simp only [pm_nx, Option.some.injEq, Sum.inl.injEq, Prod.mk.injEq] at ho
    obtain ⟨rfl, rfl, rfl, rfl⟩ := ho
    intro H locs ls hr hl
    exact lv_iadd hx hb hd (K H locs ls hr hl)
  · cases ho
set_option maxHeartbeats 2000000 in
theorem pm_st_isub (F : pm_fx k p R s m args meth c) (X : pm_cx D cA ad base ol s) (hE : l0 < pm_M → s.heap.size = base + l0) (hAd : ∀ i, i < 1000 → ad i = base + i) {i : Instr} {len pos pc' : Nat} {lo' : pm_L} {st' : List Value} {h' : pm_H} (hd : decode (pm_b k) pc = .ok (.isub, len)) (hj : pm_okJ k pc (.isub) i len pos = true) (ho : pm_one ol i len pc lo st h = some (.inl (pc', lo', st', h'))) (hl0 : l0 ≤ h.length) (hz0 : z0 ≤ pm_sz h) (hc : h'.length - l0 ≤ R.cells) (hz : pm_sz h' - z0 ≤ R.slots)
    (K : pm_U p l e R s m args below meth c Q D cA ad base k l0 z0 pc' lo' st' h') : pm_U p l e R s m args below meth c Q D cA ad base k l0 z0 pc lo st h := by
  obtain ⟨hx, hb, hml, hrt, hlk, hnm, hown, hts, hrf, hrl⟩ := id F
  simp only [pm_okJ, pm_plain, Bool.and_eq_true, decide_eq_true_eq, true_and] at hj
  obtain ⟨rfl, rfl⟩ := hj
  simp only [pm_one, pm_i2] at ho
  split at ho
  · simp only [pm_nx, Option.some.injEq, Sum.inl.injEq, Prod.mk.injEq] at ho
    obtain ⟨rfl, rfl, rfl, rfl⟩ := ho
    intro H locs ls hr hl
    exact lv_isub hx hb hd (K H locs ls hr hl)
  · cases ho
set_option maxHeartbeats 2000000 in
theorem pm_st_imul (F : pm_fx k p R s m args meth c) (X : pm_cx D cA ad base ol s) (hE : l0 < pm_M → s.heap.size = base + l0) (hAd : ∀ i, i < 1000 → ad i = base + i) {i : Instr} {len pos pc' : Nat} {lo' : pm_L} {st' : List Value} {h' : pm_H} (hd : decode (pm_b k) pc = .ok (.imul, len)) (hj : pm_okJ k pc (.imul) i len pos = true) (ho : pm_one ol i len pc lo st h = some (.inl (pc', lo', st', h'))) (hl0 : l0 ≤ h.length) (hz0 : z0 ≤ pm_sz h) (hc : h'.length - l0 ≤ R.cells) (hz : pm_sz h' - z0 ≤ R.slots)
    (K : pm_U p l e R s m args below meth c Q D cA ad base k l0 z0 pc' lo' st' h') : pm_U p l e R s m args below meth c Q D cA ad base k l0 z0 pc lo st h := by
  obtain ⟨hx, hb, hml, hrt, hlk, hnm, hown, hts, hrf, hrl⟩ := id F
  simp only [pm_okJ, pm_plain, Bool.and_eq_true, decide_eq_true_eq, true_and] at hj
  obtain ⟨rfl, rfl⟩ := hj
  simp only [pm_one, pm_i2] at ho
  split at ho
  · simp only [pm_nx, Option.some.injEq, Sum.inl.injEq, Prod.mk.injEq] at ho
    obtain ⟨rfl, rfl, rfl, rfl⟩ := ho
    intro H locs ls hr hl
    exact lv_imul hx hb hd (K H locs ls hr hl)
  · cases ho
set_option maxHeartbeats 2000000 in
theorem pm_st_iand (F : pm_fx k p R s m args meth c) (X : pm_cx D cA ad base ol s) (hE : l0 < pm_M → s.heap.size = base + l0) (hAd : ∀ i, i < 1000 → ad i = base + i) {i : Instr} {len pos pc' : Nat} {lo' : pm_L} {st' : List Value} {h' : pm_H} (hd : decode (pm_b k) pc = .ok (.iand, len)) (hj : pm_okJ k pc (.iand) i len pos = true) (ho : pm_one ol i len pc lo st h = some (.inl (pc', lo', st', h'))) (hl0 : l0 ≤ h.length) (hz0 : z0 ≤ pm_sz h) (hc : h'.length - l0 ≤ R.cells) (hz : pm_sz h' - z0 ≤ R.slots)
    (K : pm_U p l e R s m args below meth c Q D cA ad base k l0 z0 pc' lo' st' h') : pm_U p l e R s m args below meth c Q D cA ad base k l0 z0 pc lo st h := by
  obtain ⟨hx, hb, hml, hrt, hlk, hnm, hown, hts, hrf, hrl⟩ := id F
  simp only [pm_okJ, pm_plain, Bool.and_eq_true, decide_eq_true_eq, true_and] at hj
  obtain ⟨rfl, rfl⟩ := hj
  simp only [pm_one, pm_i2] at ho
  split at ho
  · simp only [pm_nx, Option.some.injEq, Sum.inl.injEq, Prod.mk.injEq] at ho
    obtain ⟨rfl, rfl, rfl, rfl⟩ := ho
    intro H locs ls hr hl
    exact lv_iand hx hb hd (K H locs ls hr hl)
  · cases ho
set_option maxHeartbeats 2000000 in
theorem pm_st_land (F : pm_fx k p R s m args meth c) (X : pm_cx D cA ad base ol s) (hE : l0 < pm_M → s.heap.size = base + l0) (hAd : ∀ i, i < 1000 → ad i = base + i) {i : Instr} {len pos pc' : Nat} {lo' : pm_L} {st' : List Value} {h' : pm_H} (hd : decode (pm_b k) pc = .ok (.land, len)) (hj : pm_okJ k pc (.land) i len pos = true) (ho : pm_one ol i len pc lo st h = some (.inl (pc', lo', st', h'))) (hl0 : l0 ≤ h.length) (hz0 : z0 ≤ pm_sz h) (hc : h'.length - l0 ≤ R.cells) (hz : pm_sz h' - z0 ≤ R.slots)
    (K : pm_U p l e R s m args below meth c Q D cA ad base k l0 z0 pc' lo' st' h') : pm_U p l e R s m args below meth c Q D cA ad base k l0 z0 pc lo st h := by
  obtain ⟨hx, hb, hml, hrt, hlk, hnm, hown, hts, hrf, hrl⟩ := id F
  simp only [pm_okJ, pm_plain, Bool.and_eq_true, decide_eq_true_eq, true_and] at hj
  obtain ⟨rfl, rfl⟩ := hj
  simp only [pm_one, pm_l2] at ho
  split at ho
  · simp only [pm_nx, Option.some.injEq, Sum.inl.injEq, Prod.mk.injEq] at ho
    obtain ⟨rfl, rfl, rfl, rfl⟩ := ho
    intro H locs ls hr hl
    exact lv_land hx hb hd (K H locs ls hr hl)
  · cases ho
set_option maxHeartbeats 2000000 in
theorem pm_st_lor (F : pm_fx k p R s m args meth c) (X : pm_cx D cA ad base ol s) (hE : l0 < pm_M → s.heap.size = base + l0) (hAd : ∀ i, i < 1000 → ad i = base + i) {i : Instr} {len pos pc' : Nat} {lo' : pm_L} {st' : List Value} {h' : pm_H} (hd : decode (pm_b k) pc = .ok (.lor, len)) (hj : pm_okJ k pc (.lor) i len pos = true) (ho : pm_one ol i len pc lo st h = some (.inl (pc', lo', st', h'))) (hl0 : l0 ≤ h.length) (hz0 : z0 ≤ pm_sz h) (hc : h'.length - l0 ≤ R.cells) (hz : pm_sz h' - z0 ≤ R.slots)
    (K : pm_U p l e R s m args below meth c Q D cA ad base k l0 z0 pc' lo' st' h') : pm_U p l e R s m args below meth c Q D cA ad base k l0 z0 pc lo st h := by
  obtain ⟨hx, hb, hml, hrt, hlk, hnm, hown, hts, hrf, hrl⟩ := id F
  simp only [pm_okJ, pm_plain, Bool.and_eq_true, decide_eq_true_eq, true_and] at hj
  obtain ⟨rfl, rfl⟩ := hj
  simp only [pm_one, pm_l2] at ho
  split at ho
  · simp only [pm_nx, Option.some.injEq, Sum.inl.injEq, Prod.mk.injEq] at ho
    obtain ⟨rfl, rfl, rfl, rfl⟩ := ho
    intro H locs ls hr hl
    exact lv_lor hx hb hd (K H locs ls hr hl)
  · cases ho
set_option maxHeartbeats 2000000 in
theorem pm_st_lshl (F : pm_fx k p R s m args meth c) (X : pm_cx D cA ad base ol s) (hE : l0 < pm_M → s.heap.size = base + l0) (hAd : ∀ i, i < 1000 → ad i = base + i) {i : Instr} {len pos pc' : Nat} {lo' : pm_L} {st' : List Value} {h' : pm_H} (hd : decode (pm_b k) pc = .ok (.lshl, len)) (hj : pm_okJ k pc (.lshl) i len pos = true) (ho : pm_one ol i len pc lo st h = some (.inl (pc', lo', st', h'))) (hl0 : l0 ≤ h.length) (hz0 : z0 ≤ pm_sz h) (hc : h'.length - l0 ≤ R.cells) (hz : pm_sz h' - z0 ≤ R.slots)
    (K : pm_U p l e R s m args below meth c Q D cA ad base k l0 z0 pc' lo' st' h') : pm_U p l e R s m args below meth c Q D cA ad base k l0 z0 pc lo st h := by
  obtain ⟨hx, hb, hml, hrt, hlk, hnm, hown, hts, hrf, hrl⟩ := id F
  simp only [pm_okJ, pm_plain, Bool.and_eq_true, decide_eq_true_eq, true_and] at hj
  obtain ⟨rfl, rfl⟩ := hj
  simp only [pm_one, pm_sh] at ho
  split at ho
  · simp only [pm_nx, Option.some.injEq, Sum.inl.injEq, Prod.mk.injEq] at ho
    obtain ⟨rfl, rfl, rfl, rfl⟩ := ho
    intro H locs ls hr hl
    exact lv_lshl hx hb hd rfl (K H locs ls hr hl)
  · cases ho
set_option maxHeartbeats 2000000 in
theorem pm_st_lshr (F : pm_fx k p R s m args meth c) (X : pm_cx D cA ad base ol s) (hE : l0 < pm_M → s.heap.size = base + l0) (hAd : ∀ i, i < 1000 → ad i = base + i) {i : Instr} {len pos pc' : Nat} {lo' : pm_L} {st' : List Value} {h' : pm_H} (hd : decode (pm_b k) pc = .ok (.lshr, len)) (hj : pm_okJ k pc (.lshr) i len pos = true) (ho : pm_one ol i len pc lo st h = some (.inl (pc', lo', st', h'))) (hl0 : l0 ≤ h.length) (hz0 : z0 ≤ pm_sz h) (hc : h'.length - l0 ≤ R.cells) (hz : pm_sz h' - z0 ≤ R.slots)
    (K : pm_U p l e R s m args below meth c Q D cA ad base k l0 z0 pc' lo' st' h') : pm_U p l e R s m args below meth c Q D cA ad base k l0 z0 pc lo st h := by
  obtain ⟨hx, hb, hml, hrt, hlk, hnm, hown, hts, hrf, hrl⟩ := id F
  simp only [pm_okJ, pm_plain, Bool.and_eq_true, decide_eq_true_eq, true_and] at hj
  obtain ⟨rfl, rfl⟩ := hj
  simp only [pm_one, pm_sh] at ho
  split at ho
  · simp only [pm_nx, Option.some.injEq, Sum.inl.injEq, Prod.mk.injEq] at ho
    obtain ⟨rfl, rfl, rfl, rfl⟩ := ho
    intro H locs ls hr hl
    exact lv_lshr hx hb hd rfl (K H locs ls hr hl)
  · cases ho
set_option maxHeartbeats 2000000 in
theorem pm_st_lushr (F : pm_fx k p R s m args meth c) (X : pm_cx D cA ad base ol s) (hE : l0 < pm_M → s.heap.size = base + l0) (hAd : ∀ i, i < 1000 → ad i = base + i) {i : Instr} {len pos pc' : Nat} {lo' : pm_L} {st' : List Value} {h' : pm_H} (hd : decode (pm_b k) pc = .ok (.lushr, len)) (hj : pm_okJ k pc (.lushr) i len pos = true) (ho : pm_one ol i len pc lo st h = some (.inl (pc', lo', st', h'))) (hl0 : l0 ≤ h.length) (hz0 : z0 ≤ pm_sz h) (hc : h'.length - l0 ≤ R.cells) (hz : pm_sz h' - z0 ≤ R.slots)
    (K : pm_U p l e R s m args below meth c Q D cA ad base k l0 z0 pc' lo' st' h') : pm_U p l e R s m args below meth c Q D cA ad base k l0 z0 pc lo st h := by
  obtain ⟨hx, hb, hml, hrt, hlk, hnm, hown, hts, hrf, hrl⟩ := id F
  simp only [pm_okJ, pm_plain, Bool.and_eq_true, decide_eq_true_eq, true_and] at hj
  obtain ⟨rfl, rfl⟩ := hj
  simp only [pm_one, pm_sh] at ho
  split at ho
  · simp only [pm_nx, Option.some.injEq, Sum.inl.injEq, Prod.mk.injEq] at ho
    obtain ⟨rfl, rfl, rfl, rfl⟩ := ho
    intro H locs ls hr hl
    exact lv_lushr hx hb hd rfl (K H locs ls hr hl)
  · cases ho
set_option maxHeartbeats 2000000 in
theorem pm_st_ineg (F : pm_fx k p R s m args meth c) (X : pm_cx D cA ad base ol s) (hE : l0 < pm_M → s.heap.size = base + l0) (hAd : ∀ i, i < 1000 → ad i = base + i) {i : Instr} {len pos pc' : Nat} {lo' : pm_L} {st' : List Value} {h' : pm_H} (hd : decode (pm_b k) pc = .ok (.ineg, len)) (hj : pm_okJ k pc (.ineg) i len pos = true) (ho : pm_one ol i len pc lo st h = some (.inl (pc', lo', st', h'))) (hl0 : l0 ≤ h.length) (hz0 : z0 ≤ pm_sz h) (hc : h'.length - l0 ≤ R.cells) (hz : pm_sz h' - z0 ≤ R.slots)
    (K : pm_U p l e R s m args below meth c Q D cA ad base k l0 z0 pc' lo' st' h') : pm_U p l e R s m args below meth c Q D cA ad base k l0 z0 pc lo st h := by
  obtain ⟨hx, hb, hml, hrt, hlk, hnm, hown, hts, hrf, hrl⟩ := id F
  simp only [pm_okJ, pm_plain, Bool.and_eq_true, decide_eq_true_eq, true_and] at hj
  obtain ⟨rfl, rfl⟩ := hj
  simp only [pm_one] at ho
  split at ho
  · simp only [pm_nx, Option.some.injEq, Sum.inl.injEq, Prod.mk.injEq] at ho
    obtain ⟨rfl, rfl, rfl, rfl⟩ := ho
    intro H locs ls hr hl
    exact lv_ineg hx hb hd (K H locs ls hr hl)
  · cases ho
set_option maxHeartbeats 2000000 in
theorem pm_st_i2l (F : pm_fx k p R s m args meth c) (X : pm_cx D cA ad base ol s) (hE : l0 < pm_M → s.heap.size = base + l0) (hAd : ∀ i, i < 1000 → ad i = base + i) {i : Instr} {len pos pc' : Nat} {lo' : pm_L} {st' : List Value} {h' : pm_H} (hd : decode (pm_b k) pc = .ok (.i2l, len)) (hj : pm_okJ k pc (.i2l) i len pos = true) (ho : pm_one ol i len pc lo st h = some (.inl (pc', lo', st', h'))) (hl0 : l0 ≤ h.length) (hz0 : z0 ≤ pm_sz h) (hc : h'.length - l0 ≤ R.cells) (hz : pm_sz h' - z0 ≤ R.slots)
    (K : pm_U p l e R s m args below meth c Q D cA ad base k l0 z0 pc' lo' st' h') : pm_U p l e R s m args below meth c Q D cA ad base k l0 z0 pc lo st h := by
  obtain ⟨hx, hb, hml, hrt, hlk, hnm, hown, hts, hrf, hrl⟩ := id F
  simp only [pm_okJ, pm_plain, Bool.and_eq_true, decide_eq_true_eq, true_and] at hj
  obtain ⟨rfl, rfl⟩ := hj
  simp only [pm_one] at ho
  split at ho
  · simp only [pm_nx, Option.some.injEq, Sum.inl.injEq, Prod.mk.injEq] at ho
    obtain ⟨rfl, rfl, rfl, rfl⟩ := ho
    intro H locs ls hr hl
    exact lv_i2l hx hb hd rfl (K H locs ls hr hl)
  · cases ho
set_option maxHeartbeats 2000000 in
theorem pm_st_l2i (F : pm_fx k p R s m args meth c) (X : pm_cx D cA ad base ol s) (hE : l0 < pm_M → s.heap.size = base + l0) (hAd : ∀ i, i < 1000 → ad i = base + i) {i : Instr} {len pos pc' : Nat} {lo' : pm_L} {st' : List Value} {h' : pm_H} (hd : decode (pm_b k) pc = .ok (.l2i, len)) (hj : pm_okJ k pc (.l2i) i len pos = true) (ho : pm_one ol i len pc lo st h = some (.inl (pc', lo', st', h'))) (hl0 : l0 ≤ h.length) (hz0 : z0 ≤ pm_sz h) (hc : h'.length - l0 ≤ R.cells) (hz : pm_sz h' - z0 ≤ R.slots)
    (K : pm_U p l e R s m args below meth c Q D cA ad base k l0 z0 pc' lo' st' h') : pm_U p l e R s m args below meth c Q D cA ad base k l0 z0 pc lo st h := by
  obtain ⟨hx, hb, hml, hrt, hlk, hnm, hown, hts, hrf, hrl⟩ := id F
  simp only [pm_okJ, pm_plain, Bool.and_eq_true, decide_eq_true_eq, true_and] at hj
  obtain ⟨rfl, rfl⟩ := hj
  simp only [pm_one] at ho
  split at ho
  · simp only [pm_nx, Option.some.injEq, Sum.inl.injEq, Prod.mk.injEq] at ho
    obtain ⟨rfl, rfl, rfl, rfl⟩ := ho
    intro H locs ls hr hl
    exact lv_l2i hx hb hd rfl (K H locs ls hr hl)
  · cases ho
set_option maxHeartbeats 2000000 in
theorem pm_st_i2b (F : pm_fx k p R s m args meth c) (X : pm_cx D cA ad base ol s) (hE : l0 < pm_M → s.heap.size = base + l0) (hAd : ∀ i, i < 1000 → ad i = base + i) {i : Instr} {len pos pc' : Nat} {lo' : pm_L} {st' : List Value} {h' : pm_H} (hd : decode (pm_b k) pc = .ok (.i2b, len)) (hj : pm_okJ k pc (.i2b) i len pos = true) (ho : pm_one ol i len pc lo st h = some (.inl (pc', lo', st', h'))) (hl0 : l0 ≤ h.length) (hz0 : z0 ≤ pm_sz h) (hc : h'.length - l0 ≤ R.cells) (hz : pm_sz h' - z0 ≤ R.slots)
    (K : pm_U p l e R s m args below meth c Q D cA ad base k l0 z0 pc' lo' st' h') : pm_U p l e R s m args below meth c Q D cA ad base k l0 z0 pc lo st h := by
  obtain ⟨hx, hb, hml, hrt, hlk, hnm, hown, hts, hrf, hrl⟩ := id F
  simp only [pm_okJ, pm_plain, Bool.and_eq_true, decide_eq_true_eq, true_and] at hj
  obtain ⟨rfl, rfl⟩ := hj
  simp only [pm_one] at ho
  split at ho
  · simp only [pm_nx, Option.some.injEq, Sum.inl.injEq, Prod.mk.injEq] at ho
    obtain ⟨rfl, rfl, rfl, rfl⟩ := ho
    intro H locs ls hr hl
    exact lv_i2b hx hb hd rfl (K H locs ls hr hl)
  · cases ho
set_option maxHeartbeats 2000000 in
theorem pm_st_lcmp (F : pm_fx k p R s m args meth c) (X : pm_cx D cA ad base ol s) (hE : l0 < pm_M → s.heap.size = base + l0) (hAd : ∀ i, i < 1000 → ad i = base + i) {i : Instr} {len pos pc' : Nat} {lo' : pm_L} {st' : List Value} {h' : pm_H} (hd : decode (pm_b k) pc = .ok (.lcmp, len)) (hj : pm_okJ k pc (.lcmp) i len pos = true) (ho : pm_one ol i len pc lo st h = some (.inl (pc', lo', st', h'))) (hl0 : l0 ≤ h.length) (hz0 : z0 ≤ pm_sz h) (hc : h'.length - l0 ≤ R.cells) (hz : pm_sz h' - z0 ≤ R.slots)
    (K : pm_U p l e R s m args below meth c Q D cA ad base k l0 z0 pc' lo' st' h') : pm_U p l e R s m args below meth c Q D cA ad base k l0 z0 pc lo st h := by
  obtain ⟨hx, hb, hml, hrt, hlk, hnm, hown, hts, hrf, hrl⟩ := id F
  simp only [pm_okJ, pm_plain, Bool.and_eq_true, decide_eq_true_eq, true_and] at hj
  obtain ⟨rfl, rfl⟩ := hj
  simp only [pm_one] at ho
  split at ho
  · simp only [pm_nx, Option.some.injEq, Sum.inl.injEq, Prod.mk.injEq] at ho
    obtain ⟨rfl, rfl, rfl, rfl⟩ := ho
    intro H locs ls hr hl
    exact W.lcmp hx hb hd (K H locs ls hr hl)
  · cases ho
set_option maxHeartbeats 2000000 in
theorem pm_st_irem (F : pm_fx k p R s m args meth c) (X : pm_cx D cA ad base ol s) (hE : l0 < pm_M → s.heap.size = base + l0) (hAd : ∀ i, i < 1000 → ad i = base + i) {i : Instr} {len pos pc' : Nat} {lo' : pm_L} {st' : List Value} {h' : pm_H} (hd : decode (pm_b k) pc = .ok (.irem, len)) (hj : pm_okJ k pc (.irem) i len pos = true) (ho : pm_one ol i len pc lo st h = some (.inl (pc', lo', st', h'))) (hl0 : l0 ≤ h.length) (hz0 : z0 ≤ pm_sz h) (hc : h'.length - l0 ≤ R.cells) (hz : pm_sz h' - z0 ≤ R.slots)
    (K : pm_U p l e R s m args below meth c Q D cA ad base k l0 z0 pc' lo' st' h') : pm_U p l e R s m args below meth c Q D cA ad base k l0 z0 pc lo st h := by
  obtain ⟨hx, hb, hml, hrt, hlk, hnm, hown, hts, hrf, hrl⟩ := id F
  simp only [pm_okJ, pm_plain, Bool.and_eq_true, decide_eq_true_eq, true_and] at hj
  obtain ⟨rfl, rfl⟩ := hj
  simp only [pm_one] at ho
  split at ho
  · split at ho
    · cases ho
    · rename_i hcd
      simp only [pm_nx, Option.some.injEq, Sum.inl.injEq, Prod.mk.injEq] at ho
      obtain ⟨rfl, rfl, rfl, rfl⟩ := ho
      intro H locs ls hr hl
      exact lv_irem hx hb hd hcd (K H locs ls hr hl)
  · cases ho
set_option maxHeartbeats 2000000 in
theorem pm_st_dup (F : pm_fx k p R s m args meth c) (X : pm_cx D cA ad base ol s) (hE : l0 < pm_M → s.heap.size = base + l0) (hAd : ∀ i, i < 1000 → ad i = base + i) {i : Instr} {len pos pc' : Nat} {lo' : pm_L} {st' : List Value} {h' : pm_H} (hd : decode (pm_b k) pc = .ok (.dup, len)) (hj : pm_okJ k pc (.dup) i len pos = true) (ho : pm_one ol i len pc lo st h = some (.inl (pc', lo', st', h'))) (hl0 : l0 ≤ h.length) (hz0 : z0 ≤ pm_sz h) (hc : h'.length - l0 ≤ R.cells) (hz : pm_sz h' - z0 ≤ R.slots)
    (K : pm_U p l e R s m args below meth c Q D cA ad base k l0 z0 pc' lo' st' h') : pm_U p l e R s m args below meth c Q D cA ad base k l0 z0 pc lo st h := by
  obtain ⟨hx, hb, hml, hrt, hlk, hnm, hown, hts, hrf, hrl⟩ := id F
  simp only [pm_okJ, pm_plain, Bool.and_eq_true, decide_eq_true_eq, true_and] at hj
  obtain ⟨rfl, rfl⟩ := hj
  simp only [pm_one] at ho
  split at ho
  · split at ho
    · rename_i hcd
      simp only [pm_nx, Option.some.injEq, Sum.inl.injEq, Prod.mk.injEq] at ho
      obtain ⟨rfl, rfl, rfl, rfl⟩ := ho
      intro H locs ls hr hl
      exact lv_dup hx hb hd (by rw [pm_tv_cat]; exact hcd) (K H locs ls hr hl)
    · cases ho
  · cases ho
set_option maxHeartbeats 2000000 in
theorem pm_st_dup2 (F : pm_fx k p R s m args meth c) (X : pm_cx D cA ad base ol s) (hE : l0 < pm_M → s.heap.size = base + l0) (hAd : ∀ i, i < 1000 → ad i = base + i) {i : Instr} {len pos pc' : Nat} {lo' : pm_L} {st' : List Value} {h' : pm_H} (hd : decode (pm_b k) pc = .ok (.dup2, len)) (hj : pm_okJ k pc (.dup2) i len pos = true) (ho : pm_one ol i len pc lo st h = some (.inl (pc', lo', st', h'))) (hl0 : l0 ≤ h.length) (hz0 : z0 ≤ pm_sz h) (hc : h'.length - l0 ≤ R.cells) (hz : pm_sz h' - z0 ≤ R.slots)
    (K : pm_U p l e R s m args below meth c Q D cA ad base k l0 z0 pc' lo' st' h') : pm_U p l e R s m args below meth c Q D cA ad base k l0 z0 pc lo st h := by
  obtain ⟨hx, hb, hml, hrt, hlk, hnm, hown, hts, hrf, hrl⟩ := id F
  simp only [pm_okJ, pm_plain, Bool.and_eq_true, decide_eq_true_eq, true_and] at hj
  obtain ⟨rfl, rfl⟩ := hj
  simp only [pm_one] at ho
  split at ho
  · split at ho
    · rename_i hcd
      simp only [pm_nx, Option.some.injEq, Sum.inl.injEq, Prod.mk.injEq] at ho
      obtain ⟨rfl, rfl, rfl, rfl⟩ := ho
      intro H locs ls hr hl
      exact lv_dup2_11 hx hb hd (by rw [pm_tv_cat]; exact hcd.1) (by rw [pm_tv_cat]; exact hcd.2) (K H locs ls hr hl)
    · cases ho
  · cases ho
set_option maxHeartbeats 2000000 in
theorem pm_st_pop (F : pm_fx k p R s m args meth c) (X : pm_cx D cA ad base ol s) (hE : l0 < pm_M → s.heap.size = base + l0) (hAd : ∀ i, i < 1000 → ad i = base + i) {i : Instr} {len pos pc' : Nat} {lo' : pm_L} {st' : List Value} {h' : pm_H} (hd : decode (pm_b k) pc = .ok (.pop, len)) (hj : pm_okJ k pc (.pop) i len pos = true) (ho : pm_one ol i len pc lo st h = some (.inl (pc', lo', st', h'))) (hl0 : l0 ≤ h.length) (hz0 : z0 ≤ pm_sz h) (hc : h'.length - l0 ≤ R.cells) (hz : pm_sz h' - z0 ≤ R.slots)
    (K : pm_U p l e R s m args below meth c Q D cA ad base k l0 z0 pc' lo' st' h') : pm_U p l e R s m args below meth c Q D cA ad base k l0 z0 pc lo st h := by
  obtain ⟨hx, hb, hml, hrt, hlk, hnm, hown, hts, hrf, hrl⟩ := id F
  simp only [pm_okJ, pm_plain, Bool.and_eq_true, decide_eq_true_eq, true_and] at hj
  obtain ⟨rfl, rfl⟩ := hj
  simp only [pm_one] at ho
  split at ho
  · split at ho
    · rename_i hcd
      simp only [pm_nx, Option.some.injEq, Sum.inl.injEq, Prod.mk.injEq] at ho
      obtain ⟨rfl, rfl, rfl, rfl⟩ := ho
      intro H locs ls hr hl
      exact lv_pop hx hb hd (by rw [pm_tv_cat]; exact hcd) (K H locs ls hr hl)
    · cases ho
  · cases ho
set_option maxHeartbeats 2000000 in
theorem pm_st_iconst (F : pm_fx k p R s m args meth c) (X : pm_cx D cA ad base ol s) (hE : l0 < pm_M → s.heap.size = base + l0) (hAd : ∀ i, i < 1000 → ad i = base + i) {i : Instr} {len pos pc' : Nat} {lo' : pm_L} {st' : List Value} {h' : pm_H} {v : _} (hd : decode (pm_b k) pc = .ok (.iconst v, len)) (hj : pm_okJ k pc (.iconst v) i len pos = true) (ho : pm_one ol i len pc lo st h = some (.inl (pc', lo', st', h'))) (hl0 : l0 ≤ h.length) (hz0 : z0 ≤ pm_sz h) (hc : h'.length - l0 ≤ R.cells) (hz : pm_sz h' - z0 ≤ R.slots)
    (K : pm_U p l e R s m args below meth c Q D cA ad base k l0 z0 pc' lo' st' h') : pm_U p l e R s m args below meth c Q D cA ad base k l0 z0 pc lo st h := by
  obtain ⟨hx, hb, hml, hrt, hlk, hnm, hown, hts, hrf, hrl⟩ := id F
  simp only [pm_okJ, pm_plain, Bool.and_eq_true, decide_eq_true_eq, true_and] at hj
  obtain ⟨rfl, rfl⟩ := hj
  simp only [pm_one] at ho
  simp only [pm_nx, Option.some.injEq, Sum.inl.injEq, Prod.mk.injEq] at ho
  obtain ⟨rfl, rfl, rfl, rfl⟩ := ho
  intro H locs ls hr hl
  exact lv_iconst hx hb hd rfl (K H locs ls hr hl)
set_option maxHeartbeats 2000000 in
theorem pm_st_bipush (F : pm_fx k p R s m args meth c) (X : pm_cx D cA ad base ol s) (hE : l0 < pm_M → s.heap.size = base + l0) (hAd : ∀ i, i < 1000 → ad i = base + i) {i : Instr} {len pos pc' : Nat} {lo' : pm_L} {st' : List Value} {h' : pm_H} {v : _} (hd : decode (pm_b k) pc = .ok (.bipush v, len)) (hj : pm_okJ k pc (.bipush v) i len pos = true) (ho : pm_one ol i len pc lo st h = some (.inl (pc', lo', st', h'))) (hl0 : l0 ≤ h.length) (hz0 : z0 ≤ pm_sz h) (hc : h'.length - l0 ≤ R.cells) (hz : pm_sz h' - z0 ≤ R.slots)
    (K : pm_U p l e R s m args below meth c Q D cA ad base k l0 z0 pc' lo' st' h') : pm_U p l e R s m args below meth c Q D cA ad base k l0 z0 pc lo st h := by
  obtain ⟨hx, hb, hml, hrt, hlk, hnm, hown, hts, hrf, hrl⟩ := id F
  simp only [pm_okJ, pm_plain, Bool.and_eq_true, decide_eq_true_eq, true_and] at hj
  obtain ⟨⟨rfl, rfl⟩, hv⟩ := hj
  simp only [pm_one] at ho
  simp only [pm_nx, Option.some.injEq, Sum.inl.injEq, Prod.mk.injEq] at ho
  obtain ⟨rfl, rfl, rfl, rfl⟩ := ho
  intro H locs ls hr hl
  exact lv_bipush hx hb hd hv (K H locs ls hr hl)
set_option maxHeartbeats 2000000 in
theorem pm_st_sipush (F : pm_fx k p R s m args meth c) (X : pm_cx D cA ad base ol s) (hE : l0 < pm_M → s.heap.size = base + l0) (hAd : ∀ i, i < 1000 → ad i = base + i) {i : Instr} {len pos pc' : Nat} {lo' : pm_L} {st' : List Value} {h' : pm_H} {v : _} (hd : decode (pm_b k) pc = .ok (.sipush v, len)) (hj : pm_okJ k pc (.sipush v) i len pos = true) (ho : pm_one ol i len pc lo st h = some (.inl (pc', lo', st', h'))) (hl0 : l0 ≤ h.length) (hz0 : z0 ≤ pm_sz h) (hc : h'.length - l0 ≤ R.cells) (hz : pm_sz h' - z0 ≤ R.slots)
    (K : pm_U p l e R s m args below meth c Q D cA ad base k l0 z0 pc' lo' st' h') : pm_U p l e R s m args below meth c Q D cA ad base k l0 z0 pc lo st h := by
  obtain ⟨hx, hb, hml, hrt, hlk, hnm, hown, hts, hrf, hrl⟩ := id F
  simp only [pm_okJ, pm_plain, Bool.and_eq_true, decide_eq_true_eq, true_and] at hj
  obtain ⟨⟨rfl, rfl⟩, hv⟩ := hj
  simp only [pm_one] at ho
  simp only [pm_nx, Option.some.injEq, Sum.inl.injEq, Prod.mk.injEq] at ho
  obtain ⟨rfl, rfl, rfl, rfl⟩ := ho
  intro H locs ls hr hl
  exact lv_sipush hx hb hd hv (K H locs ls hr hl)
set_option maxHeartbeats 2000000 in
theorem pm_st_iload_n (F : pm_fx k p R s m args meth c) (X : pm_cx D cA ad base ol s) (hE : l0 < pm_M → s.heap.size = base + l0) (hAd : ∀ i, i < 1000 → ad i = base + i) {i : Instr} {len pos pc' : Nat} {lo' : pm_L} {st' : List Value} {h' : pm_H} {n : _} (hd : decode (pm_b k) pc = .ok (.iload_n n, len)) (hj : pm_okJ k pc (.iload_n n) i len pos = true) (ho : pm_one ol i len pc lo st h = some (.inl (pc', lo', st', h'))) (hl0 : l0 ≤ h.length) (hz0 : z0 ≤ pm_sz h) (hc : h'.length - l0 ≤ R.cells) (hz : pm_sz h' - z0 ≤ R.slots)
    (K : pm_U p l e R s m args below meth c Q D cA ad base k l0 z0 pc' lo' st' h') : pm_U p l e R s m args below meth c Q D cA ad base k l0 z0 pc lo st h := by
  obtain ⟨hx, hb, hml, hrt, hlk, hnm, hown, hts, hrf, hrl⟩ := id F
  simp only [pm_okJ, pm_plain, Bool.and_eq_true, decide_eq_true_eq, true_and] at hj
  obtain ⟨rfl, rfl⟩ := hj
  simp only [pm_one] at ho
  split at ho
  · rename_i hg
    simp only [pm_nx, Option.some.injEq, Sum.inl.injEq, Prod.mk.injEq] at ho
    obtain ⟨rfl, rfl, rfl, rfl⟩ := ho
    intro H locs ls hr hl
    exact lv_iload_n hx hb hd rfl (pm_lg_at hl hg) (K H locs ls hr hl)
  · cases ho
set_option maxHeartbeats 2000000 in
theorem pm_st_iload (F : pm_fx k p R s m args meth c) (X : pm_cx D cA ad base ol s) (hE : l0 < pm_M → s.heap.size = base + l0) (hAd : ∀ i, i < 1000 → ad i = base + i) {i : Instr} {len pos pc' : Nat} {lo' : pm_L} {st' : List Value} {h' : pm_H} {n : _} (hd : decode (pm_b k) pc = .ok (.iload n, len)) (hj : pm_okJ k pc (.iload n) i len pos = true) (ho : pm_one ol i len pc lo st h = some (.inl (pc', lo', st', h'))) (hl0 : l0 ≤ h.length) (hz0 : z0 ≤ pm_sz h) (hc : h'.length - l0 ≤ R.cells) (hz : pm_sz h' - z0 ≤ R.slots)
    (K : pm_U p l e R s m args below meth c Q D cA ad base k l0 z0 pc' lo' st' h') : pm_U p l e R s m args below meth c Q D cA ad base k l0 z0 pc lo st h := by
  obtain ⟨hx, hb, hml, hrt, hlk, hnm, hown, hts, hrf, hrl⟩ := id F
  simp only [pm_okJ, pm_plain, Bool.and_eq_true, decide_eq_true_eq, true_and] at hj
  obtain ⟨rfl, rfl⟩ := hj
  simp only [pm_one] at ho
  split at ho
  · rename_i hg
    simp only [pm_nx, Option.some.injEq, Sum.inl.injEq, Prod.mk.injEq] at ho
    obtain ⟨rfl, rfl, rfl, rfl⟩ := ho
    intro H locs ls hr hl
    exact lv_iload hx hb hd (pm_lg_at hl hg) (K H locs ls hr hl)
  · cases ho
set_option maxHeartbeats 2000000 in
theorem pm_st_aload_n (F : pm_fx k p R s m args meth c) (X : pm_cx D cA ad base ol s) (hE : l0 < pm_M → s.heap.size = base + l0) (hAd : ∀ i, i < 1000 → ad i = base + i) {i : Instr} {len pos pc' : Nat} {lo' : pm_L} {st' : List Value} {h' : pm_H} {n : _} (hd : decode (pm_b k) pc = .ok (.aload_n n, len)) (hj : pm_okJ k pc (.aload_n n) i len pos = true) (ho : pm_one ol i len pc lo st h = some (.inl (pc', lo', st', h'))) (hl0 : l0 ≤ h.length) (hz0 : z0 ≤ pm_sz h) (hc : h'.length - l0 ≤ R.cells) (hz : pm_sz h' - z0 ≤ R.slots)
    (K : pm_U p l e R s m args below meth c Q D cA ad base k l0 z0 pc' lo' st' h') : pm_U p l e R s m args below meth c Q D cA ad base k l0 z0 pc lo st h := by
  obtain ⟨hx, hb, hml, hrt, hlk, hnm, hown, hts, hrf, hrl⟩ := id F
  simp only [pm_okJ, pm_plain, Bool.and_eq_true, decide_eq_true_eq, true_and] at hj
  obtain ⟨rfl, rfl⟩ := hj
  simp only [pm_one] at ho
  split at ho
  · rename_i hg
    simp only [pm_nx, Option.some.injEq, Sum.inl.injEq, Prod.mk.injEq] at ho
    obtain ⟨rfl, rfl, rfl, rfl⟩ := ho
    intro H locs ls hr hl
    exact lv_aload_n hx hb hd rfl (pm_lg_at hl hg) (K H locs ls hr hl)
  · cases ho
set_option maxHeartbeats 2000000 in
theorem pm_st_aload (F : pm_fx k p R s m args meth c) (X : pm_cx D cA ad base ol s) (hE : l0 < pm_M → s.heap.size = base + l0) (hAd : ∀ i, i < 1000 → ad i = base + i) {i : Instr} {len pos pc' : Nat} {lo' : pm_L} {st' : List Value} {h' : pm_H} {n : _} (hd : decode (pm_b k) pc = .ok (.aload n, len)) (hj : pm_okJ k pc (.aload n) i len pos = true) (ho : pm_one ol i len pc lo st h = some (.inl (pc', lo', st', h'))) (hl0 : l0 ≤ h.length) (hz0 : z0 ≤ pm_sz h) (hc : h'.length - l0 ≤ R.cells) (hz : pm_sz h' - z0 ≤ R.slots)
    (K : pm_U p l e R s m args below meth c Q D cA ad base k l0 z0 pc' lo' st' h') : pm_U p l e R s m args below meth c Q D cA ad base k l0 z0 pc lo st h := by
  obtain ⟨hx, hb, hml, hrt, hlk, hnm, hown, hts, hrf, hrl⟩ := id F
  simp only [pm_okJ, pm_plain, Bool.and_eq_true, decide_eq_true_eq, true_and] at hj
  obtain ⟨rfl, rfl⟩ := hj
  simp only [pm_one] at ho
  split at ho
  · rename_i hg
    simp only [pm_nx, Option.some.injEq, Sum.inl.injEq, Prod.mk.injEq] at ho
    obtain ⟨rfl, rfl, rfl, rfl⟩ := ho
    intro H locs ls hr hl
    exact lv_aload hx hb hd (pm_lg_at hl hg) (K H locs ls hr hl)
  · cases ho
set_option maxHeartbeats 2000000 in
theorem pm_st_lload_n (F : pm_fx k p R s m args meth c) (X : pm_cx D cA ad base ol s) (hE : l0 < pm_M → s.heap.size = base + l0) (hAd : ∀ i, i < 1000 → ad i = base + i) {i : Instr} {len pos pc' : Nat} {lo' : pm_L} {st' : List Value} {h' : pm_H} {n : _} (hd : decode (pm_b k) pc = .ok (.lload_n n, len)) (hj : pm_okJ k pc (.lload_n n) i len pos = true) (ho : pm_one ol i len pc lo st h = some (.inl (pc', lo', st', h'))) (hl0 : l0 ≤ h.length) (hz0 : z0 ≤ pm_sz h) (hc : h'.length - l0 ≤ R.cells) (hz : pm_sz h' - z0 ≤ R.slots)
    (K : pm_U p l e R s m args below meth c Q D cA ad base k l0 z0 pc' lo' st' h') : pm_U p l e R s m args below meth c Q D cA ad base k l0 z0 pc lo st h := by
  obtain ⟨hx, hb, hml, hrt, hlk, hnm, hown, hts, hrf, hrl⟩ := id F
  simp only [pm_okJ, pm_plain, Bool.and_eq_true, decide_eq_true_eq, true_and] at hj
  obtain ⟨rfl, rfl⟩ := hj
  simp only [pm_one] at ho
  split at ho
  · rename_i hg
    simp only [pm_nx, Option.some.injEq, Sum.inl.injEq, Prod.mk.injEq] at ho
    obtain ⟨rfl, rfl, rfl, rfl⟩ := ho
    intro H locs ls hr hl
    exact lv_lload_n hx hb hd rfl (pm_lg_at hl hg) (K H locs ls hr hl)
  · cases ho
set_option maxHeartbeats 2000000 in
theorem pm_st_istore_n (F : pm_fx k p R s m args meth c) (X : pm_cx D cA ad base ol s) (hE : l0 < pm_M → s.heap.size = base + l0) (hAd : ∀ i, i < 1000 → ad i = base + i) {i : Instr} {len pos pc' : Nat} {lo' : pm_L} {st' : List Value} {h' : pm_H} {n : _} (hd : decode (pm_b k) pc = .ok (.istore_n n, len)) (hj : pm_okJ k pc (.istore_n n) i len pos = true) (ho : pm_one ol i len pc lo st h = some (.inl (pc', lo', st', h'))) (hl0 : l0 ≤ h.length) (hz0 : z0 ≤ pm_sz h) (hc : h'.length - l0 ≤ R.cells) (hz : pm_sz h' - z0 ≤ R.slots)
    (K : pm_U p l e R s m args below meth c Q D cA ad base k l0 z0 pc' lo' st' h') : pm_U p l e R s m args below meth c Q D cA ad base k l0 z0 pc lo st h := by
  obtain ⟨hx, hb, hml, hrt, hlk, hnm, hown, hts, hrf, hrl⟩ := id F
  simp only [pm_okJ, pm_plain, Bool.and_eq_true, decide_eq_true_eq, true_and] at hj
  obtain ⟨⟨rfl, rfl⟩, hn⟩ := hj
  simp only [pm_one] at ho
  split at ho
  · rename_i x r
    simp only [pm_nx, Option.some.injEq, Sum.inl.injEq, Prod.mk.injEq] at ho
    obtain ⟨rfl, rfl, rfl, rfl⟩ := ho
    intro H locs ls hr hl
    exact lv_istore_n hx hb hd rfl hl hn (pm_ls_tl ad lo _ (.int x)) (fun ls1 hl1 => K H locs ls1 hr hl1)
  · cases ho
set_option maxHeartbeats 2000000 in
theorem pm_st_istore (F : pm_fx k p R s m args meth c) (X : pm_cx D cA ad base ol s) (hE : l0 < pm_M → s.heap.size = base + l0) (hAd : ∀ i, i < 1000 → ad i = base + i) {i : Instr} {len pos pc' : Nat} {lo' : pm_L} {st' : List Value} {h' : pm_H} {n : _} (hd : decode (pm_b k) pc = .ok (.istore n, len)) (hj : pm_okJ k pc (.istore n) i len pos = true) (ho : pm_one ol i len pc lo st h = some (.inl (pc', lo', st', h'))) (hl0 : l0 ≤ h.length) (hz0 : z0 ≤ pm_sz h) (hc : h'.length - l0 ≤ R.cells) (hz : pm_sz h' - z0 ≤ R.slots)
    (K : pm_U p l e R s m args below meth c Q D cA ad base k l0 z0 pc' lo' st' h') : pm_U p l e R s m args below meth c Q D cA ad base k l0 z0 pc lo st h := by
  obtain ⟨hx, hb, hml, hrt, hlk, hnm, hown, hts, hrf, hrl⟩ := id F
  simp only [pm_okJ, pm_plain, Bool.and_eq_true, decide_eq_true_eq, true_and] at hj
  obtain ⟨⟨rfl, rfl⟩, hn⟩ := hj
  simp only [pm_one] at ho
  split at ho
  · rename_i x r
    simp only [pm_nx, Option.some.injEq, Sum.inl.injEq, Prod.mk.injEq] at ho
    obtain ⟨rfl, rfl, rfl, rfl⟩ := ho
    intro H locs ls hr hl
    exact lv_istore hx hb hd hl hn (pm_ls_tl ad lo _ (.int x)) (fun ls1 hl1 => K H locs ls1 hr hl1)
  · cases ho
set_option maxHeartbeats 2000000 in
theorem pm_st_astore_n (F : pm_fx k p R s m args meth c) (X : pm_cx D cA ad base ol s) (hE : l0 < pm_M → s.heap.size = base + l0) (hAd : ∀ i, i < 1000 → ad i = base + i) {i : Instr} {len pos pc' : Nat} {lo' : pm_L} {st' : List Value} {h' : pm_H} {n : _} (hd : decode (pm_b k) pc = .ok (.astore_n n, len)) (hj : pm_okJ k pc (.astore_n n) i len pos = true) (ho : pm_one ol i len pc lo st h = some (.inl (pc', lo', st', h'))) (hl0 : l0 ≤ h.length) (hz0 : z0 ≤ pm_sz h) (hc : h'.length - l0 ≤ R.cells) (hz : pm_sz h' - z0 ≤ R.slots)
    (K : pm_U p l e R s m args below meth c Q D cA ad base k l0 z0 pc' lo' st' h') : pm_U p l e R s m args below meth c Q D cA ad base k l0 z0 pc lo st h := by
  obtain ⟨hx, hb, hml, hrt, hlk, hnm, hown, hts, hrf, hrl⟩ := id F
  simp only [pm_okJ, pm_plain, Bool.and_eq_true, decide_eq_true_eq, true_and] at hj
  obtain ⟨⟨rfl, rfl⟩, hn⟩ := hj
  simp only [pm_one] at ho
  split at ho
  · rename_i x r
    simp only [pm_nx, Option.some.injEq, Sum.inl.injEq, Prod.mk.injEq] at ho
    obtain ⟨rfl, rfl, rfl, rfl⟩ := ho
    intro H locs ls hr hl
    exact lv_astore_n hx hb hd rfl hl hn (pm_ls_tl ad lo _ (.ref x)) (fun ls1 hl1 => K H locs ls1 hr hl1)
  · cases ho
set_option maxHeartbeats 2000000 in
theorem pm_st_astore (F : pm_fx k p R s m args meth c) (X : pm_cx D cA ad base ol s) (hE : l0 < pm_M → s.heap.size = base + l0) (hAd : ∀ i, i < 1000 → ad i = base + i) {i : Instr} {len pos pc' : Nat} {lo' : pm_L} {st' : List Value} {h' : pm_H} {n : _} (hd : decode (pm_b k) pc = .ok (.astore n, len)) (hj : pm_okJ k pc (.astore n) i len pos = true) (ho : pm_one ol i len pc lo st h = some (.inl (pc', lo', st', h'))) (hl0 : l0 ≤ h.length) (hz0 : z0 ≤ pm_sz h) (hc : h'.length - l0 ≤ R.cells) (hz : pm_sz h' - z0 ≤ R.slots)
    (K : pm_U p l e R s m args below meth c Q D cA ad base k l0 z0 pc' lo' st' h') : pm_U p l e R s m args below meth c Q D cA ad base k l0 z0 pc lo st h := by
  obtain ⟨hx, hb, hml, hrt, hlk, hnm, hown, hts, hrf, hrl⟩ := id F
  simp only [pm_okJ, pm_plain, Bool.and_eq_true, decide_eq_true_eq, true_and] at hj
  obtain ⟨⟨rfl, rfl⟩, hn⟩ := hj
  simp only [pm_one] at ho
  split at ho
  · rename_i x r
    simp only [pm_nx, Option.some.injEq, Sum.inl.injEq, Prod.mk.injEq] at ho
    obtain ⟨rfl, rfl, rfl, rfl⟩ := ho
    intro H locs ls hr hl
    exact lv_astore hx hb hd hl hn (pm_ls_tl ad lo _ (.ref x)) (fun ls1 hl1 => K H locs ls1 hr hl1)
  · cases ho
set_option maxHeartbeats 2000000 in
theorem pm_st_iinc (F : pm_fx k p R s m args meth c) (X : pm_cx D cA ad base ol s) (hE : l0 < pm_M → s.heap.size = base + l0) (hAd : ∀ i, i < 1000 → ad i = base + i) {i : Instr} {len pos pc' : Nat} {lo' : pm_L} {st' : List Value} {h' : pm_H} {n : _} {z : _} (hd : decode (pm_b k) pc = .ok (.iinc n z, len)) (hj : pm_okJ k pc (.iinc n z) i len pos = true) (ho : pm_one ol i len pc lo st h = some (.inl (pc', lo', st', h'))) (hl0 : l0 ≤ h.length) (hz0 : z0 ≤ pm_sz h) (hc : h'.length - l0 ≤ R.cells) (hz : pm_sz h' - z0 ≤ R.slots)
    (K : pm_U p l e R s m args below meth c Q D cA ad base k l0 z0 pc' lo' st' h') : pm_U p l e R s m args below meth c Q D cA ad base k l0 z0 pc lo st h := by
  obtain ⟨hx, hb, hml, hrt, hlk, hnm, hown, hts, hrf, hrl⟩ := id F
  simp only [pm_okJ, pm_plain, Bool.and_eq_true, decide_eq_true_eq, true_and] at hj
  obtain ⟨⟨rfl, rfl⟩, hn⟩ := hj
  simp only [pm_one] at ho
  split at ho
  · rename_i x hg
    simp only [pm_nx, Option.some.injEq, Sum.inl.injEq, Prod.mk.injEq] at ho
    obtain ⟨rfl, rfl, rfl, rfl⟩ := ho
    intro H locs ls hr hl
    obtain ⟨j, hj⟩ := List.getElem?_of_mem (show (n, Value.int x) ∈ pm_tl ad lo from List.mem_map.mpr ⟨(n, .int x), pm_lg_mem hg, rfl⟩)
    exact lv_iinc hx hb hd hl hj rfl hn (pm_ls_tl ad lo _ (.int (x + Int32.ofInt z))) (fun ls1 hl1 => K H locs ls1 hr hl1)
  · cases ho
set_option maxHeartbeats 2000000 in
theorem pm_st_goto (F : pm_fx k p R s m args meth c) (X : pm_cx D cA ad base ol s) (hE : l0 < pm_M → s.heap.size = base + l0) (hAd : ∀ i, i < 1000 → ad i = base + i) {i : Instr} {len pos pc' : Nat} {lo' : pm_L} {st' : List Value} {h' : pm_H} {o : _} (hd : decode (pm_b k) pc = .ok (.goto o, len)) (hj : pm_okJ k pc (.goto o) i len pos = true) (ho : pm_one ol i len pc lo st h = some (.inl (pc', lo', st', h'))) (hl0 : l0 ≤ h.length) (hz0 : z0 ≤ pm_sz h) (hc : h'.length - l0 ≤ R.cells) (hz : pm_sz h' - z0 ≤ R.slots)
    (K : pm_U p l e R s m args below meth c Q D cA ad base k l0 z0 pc' lo' st' h') : pm_U p l e R s m args below meth c Q D cA ad base k l0 z0 pc lo st h := by
  obtain ⟨hx, hb, hml, hrt, hlk, hnm, hown, hts, hrf, hrl⟩ := id F
  simp only [pm_okJ, pm_plain, Bool.and_eq_true, decide_eq_true_eq, true_and] at hj
  obtain ⟨⟨rfl, rfl⟩, hnn⟩ := hj
  simp only [pm_one, pm_jmp] at ho
  simp only [pm_nx, Option.some.injEq, Sum.inl.injEq, Prod.mk.injEq] at ho
  obtain ⟨rfl, rfl, rfl, rfl⟩ := ho
  intro H locs ls hr hl
  exact lv_goto hx hb hd (Int.toNat_of_nonneg hnn).symm (K H locs ls hr hl)
set_option maxHeartbeats 2000000 in
theorem pm_st_ifCond (F : pm_fx k p R s m args meth c) (X : pm_cx D cA ad base ol s) (hE : l0 < pm_M → s.heap.size = base + l0) (hAd : ∀ i, i < 1000 → ad i = base + i) {i : Instr} {len pos pc' : Nat} {lo' : pm_L} {st' : List Value} {h' : pm_H} {cnd : _} {o : _} (hd : decode (pm_b k) pc = .ok (.ifCond cnd o, len)) (hj : pm_okJ k pc (.ifCond cnd o) i len pos = true) (ho : pm_one ol i len pc lo st h = some (.inl (pc', lo', st', h'))) (hl0 : l0 ≤ h.length) (hz0 : z0 ≤ pm_sz h) (hc : h'.length - l0 ≤ R.cells) (hz : pm_sz h' - z0 ≤ R.slots)
    (K : pm_U p l e R s m args below meth c Q D cA ad base k l0 z0 pc' lo' st' h') : pm_U p l e R s m args below meth c Q D cA ad base k l0 z0 pc lo st h := by
  obtain ⟨hx, hb, hml, hrt, hlk, hnm, hown, hts, hrf, hrl⟩ := id F
  simp only [pm_okJ, pm_plain, Bool.and_eq_true, decide_eq_true_eq, true_and] at hj
  obtain ⟨⟨rfl, rfl⟩, hnn⟩ := hj
  have ht : (pc : Int) + o = ((((pc : Int) + o).toNat : Nat) : Int) := (Int.toNat_of_nonneg hnn).symm
  simp only [pm_one, pm_jmp] at ho
  split at ho
  · split at ho
    · rename_i hcd
      simp only [pm_nx, Option.some.injEq, Sum.inl.injEq, Prod.mk.injEq] at ho
      obtain ⟨rfl, rfl, rfl, rfl⟩ := ho
      intro H locs ls hr hl
      cases cnd
      · have hq := of_decide_eq_true hcd
        exact lv_if_eq hx hb hd ht (fun _ => K H locs ls hr hl) (fun g => absurd hq g)
      · have hq := of_decide_eq_true hcd
        exact lv_if_ne hx hb hd ht (fun _ => K H locs ls hr hl) (fun g => absurd g hq)
      · have hq := of_decide_eq_true hcd
        exact lv_if_lt hx hb hd ht (fun _ => K H locs ls hr hl) (fun g => absurd hq g)
      · have hq := of_decide_eq_true hcd
        exact lv_if_ge hx hb hd ht (fun _ => K H locs ls hr hl) (fun g => absurd hq g)
      · have hq := of_decide_eq_true hcd
        exact lv_if_gt hx hb hd ht (fun _ => K H locs ls hr hl) (fun g => absurd hq g)
      · have hq := of_decide_eq_true hcd
        exact lv_if_le hx hb hd ht (fun _ => K H locs ls hr hl) (fun g => absurd hq g)
    · rename_i hcd
      simp only [pm_nx, Option.some.injEq, Sum.inl.injEq, Prod.mk.injEq] at ho
      obtain ⟨rfl, rfl, rfl, rfl⟩ := ho
      intro H locs ls hr hl
      cases cnd
      · have hq := fun g => hcd (decide_eq_true g)
        exact lv_if_eq hx hb hd ht (fun g => absurd g hq) (fun _ => K H locs ls hr hl)
      · have hq := Decidable.not_not.mp (fun g => hcd (decide_eq_true g))
        exact lv_if_ne hx hb hd ht (fun g => absurd hq g) (fun _ => K H locs ls hr hl)
      · have hq := fun g => hcd (decide_eq_true g)
        exact lv_if_lt hx hb hd ht (fun g => absurd g hq) (fun _ => K H locs ls hr hl)
      · have hq := fun g => hcd (decide_eq_true g)
        exact lv_if_ge hx hb hd ht (fun g => absurd g hq) (fun _ => K H locs ls hr hl)
      · have hq := fun g => hcd (decide_eq_true g)
        exact lv_if_gt hx hb hd ht (fun g => absurd g hq) (fun _ => K H locs ls hr hl)
      · have hq := fun g => hcd (decide_eq_true g)
        exact lv_if_le hx hb hd ht (fun g => absurd g hq) (fun _ => K H locs ls hr hl)
  · cases ho
set_option maxHeartbeats 2000000 in
theorem pm_st_if_icmp (F : pm_fx k p R s m args meth c) (X : pm_cx D cA ad base ol s) (hE : l0 < pm_M → s.heap.size = base + l0) (hAd : ∀ i, i < 1000 → ad i = base + i) {i : Instr} {len pos pc' : Nat} {lo' : pm_L} {st' : List Value} {h' : pm_H} {cnd : _} {o : _} (hd : decode (pm_b k) pc = .ok (.if_icmp cnd o, len)) (hj : pm_okJ k pc (.if_icmp cnd o) i len pos = true) (ho : pm_one ol i len pc lo st h = some (.inl (pc', lo', st', h'))) (hl0 : l0 ≤ h.length) (hz0 : z0 ≤ pm_sz h) (hc : h'.length - l0 ≤ R.cells) (hz : pm_sz h' - z0 ≤ R.slots)
    (K : pm_U p l e R s m args below meth c Q D cA ad base k l0 z0 pc' lo' st' h') : pm_U p l e R s m args below meth c Q D cA ad base k l0 z0 pc lo st h := by
  obtain ⟨hx, hb, hml, hrt, hlk, hnm, hown, hts, hrf, hrl⟩ := id F
  simp only [pm_okJ, pm_plain, Bool.and_eq_true, decide_eq_true_eq, true_and] at hj
  obtain ⟨⟨rfl, rfl⟩, hnn⟩ := hj
  have ht : (pc : Int) + o = ((((pc : Int) + o).toNat : Nat) : Int) := (Int.toNat_of_nonneg hnn).symm
  simp only [pm_one, pm_jmp] at ho
  split at ho
  · split at ho
    · rename_i hcd
      simp only [pm_nx, Option.some.injEq, Sum.inl.injEq, Prod.mk.injEq] at ho
      obtain ⟨rfl, rfl, rfl, rfl⟩ := ho
      intro H locs ls hr hl
      cases cnd
      · have hq := of_decide_eq_true hcd
        exact lv_icmp_eq hx hb hd ht (fun _ => K H locs ls hr hl) (fun g => absurd hq g)
      · have hq := of_decide_eq_true hcd
        exact lv_icmp_ne hx hb hd ht (fun _ => K H locs ls hr hl) (fun g => absurd g hq)
      · have hq := of_decide_eq_true hcd
        exact lv_icmp_lt hx hb hd ht (fun _ => K H locs ls hr hl) (fun g => absurd hq g)
      · have hq := of_decide_eq_true hcd
        exact lv_icmp_ge hx hb hd ht (fun _ => K H locs ls hr hl) (fun g => absurd hq g)
      · have hq := of_decide_eq_true hcd
        exact lv_icmp_gt hx hb hd ht (fun _ => K H locs ls hr hl) (fun g => absurd hq g)
      · have hq := of_decide_eq_true hcd
        exact lv_icmp_le hx hb hd ht (fun _ => K H locs ls hr hl) (fun g => absurd hq g)
    · rename_i hcd
      simp only [pm_nx, Option.some.injEq, Sum.inl.injEq, Prod.mk.injEq] at ho
      obtain ⟨rfl, rfl, rfl, rfl⟩ := ho
      intro H locs ls hr hl
      cases cnd
      · have hq := fun g => hcd (decide_eq_true g)
        exact lv_icmp_eq hx hb hd ht (fun g => absurd g hq) (fun _ => K H locs ls hr hl)
      · have hq := Decidable.not_not.mp (fun g => hcd (decide_eq_true g))
        exact lv_icmp_ne hx hb hd ht (fun g => absurd hq g) (fun _ => K H locs ls hr hl)
      · have hq := fun g => hcd (decide_eq_true g)
        exact lv_icmp_lt hx hb hd ht (fun g => absurd g hq) (fun _ => K H locs ls hr hl)
      · have hq := fun g => hcd (decide_eq_true g)
        exact lv_icmp_ge hx hb hd ht (fun g => absurd g hq) (fun _ => K H locs ls hr hl)
      · have hq := fun g => hcd (decide_eq_true g)
        exact lv_icmp_gt hx hb hd ht (fun g => absurd g hq) (fun _ => K H locs ls hr hl)
      · have hq := fun g => hcd (decide_eq_true g)
        exact lv_icmp_le hx hb hd ht (fun g => absurd g hq) (fun _ => K H locs ls hr hl)
  · cases ho
set_option maxHeartbeats 2000000 in
theorem pm_st_tableswitch (F : pm_fx k p R s m args meth c) (X : pm_cx D cA ad base ol s) (hE : l0 < pm_M → s.heap.size = base + l0) (hAd : ∀ i, i < 1000 → ad i = base + i) {i : Instr} {len pos pc' : Nat} {lo' : pm_L} {st' : List Value} {h' : pm_H} {d : _} {a : _} {b : _} {offs : _} (hd : decode (pm_b k) pc = .ok (.tableswitch d a b offs, len)) (hj : pm_okJ k pc (.tableswitch d a b offs) i len pos = true) (ho : pm_one ol i len pc lo st h = some (.inl (pc', lo', st', h'))) (hl0 : l0 ≤ h.length) (hz0 : z0 ≤ pm_sz h) (hc : h'.length - l0 ≤ R.cells) (hz : pm_sz h' - z0 ≤ R.slots)
    (K : pm_U p l e R s m args below meth c Q D cA ad base k l0 z0 pc' lo' st' h') : pm_U p l e R s m args below meth c Q D cA ad base k l0 z0 pc lo st h := by
  obtain ⟨hx, hb, hml, hrt, hlk, hnm, hown, hts, hrf, hrl⟩ := id F
  simp only [pm_okJ, pm_plain, Bool.and_eq_true, decide_eq_true_eq, true_and] at hj
  obtain ⟨⟨rfl, hnd⟩, hno⟩ := hj
  simp only [pm_one, pm_jmp] at ho
  split at ho
  · rename_i x r
    split at ho
    · rename_i t hts
      simp only [pm_nx, Option.some.injEq, Sum.inl.injEq, Prod.mk.injEq] at ho
      obtain ⟨rfl, rfl, rfl, rfl⟩ := ho
      intro H locs ls hr hl
      unfold pm_ts at hts
      split at hts
      · rename_i hout
        cases hts
        exact lv_tableOut hx hb hd hout (Int.toNat_of_nonneg hnd).symm (K H locs ls hr hl)
      · rename_i hin
        rw [Array.getElem?_map] at hts
        cases hof : offs[(x.toInt - a).toNat]? with
        | none => rw [hof] at hts; cases hts
        | some off =>
          rw [hof] at hts
          cases hts
          have hnn : 0 ≤ (pc : Int) + off := of_decide_eq_true (List.all_eq_true.mp hno off (Array.mem_toList_iff.mpr (Array.mem_of_getElem? hof)))
          exact lv_tableIn hx hb hd (fun g => hin (Or.inl g)) (fun g => hin (Or.inr g)) hof (Int.toNat_of_nonneg hnn).symm (K H locs ls hr hl)
    · cases ho
  · cases ho
set_option maxHeartbeats 2000000 in
theorem pm_st_lookupswitch (F : pm_fx k p R s m args meth c) (X : pm_cx D cA ad base ol s) (hE : l0 < pm_M → s.heap.size = base + l0) (hAd : ∀ i, i < 1000 → ad i = base + i) {i : Instr} {len pos pc' : Nat} {lo' : pm_L} {st' : List Value} {h' : pm_H} {d : _} {ps : _} (hd : decode (pm_b k) pc = .ok (.lookupswitch d ps, len)) (hj : pm_okJ k pc (.lookupswitch d ps) i len pos = true) (ho : pm_one ol i len pc lo st h = some (.inl (pc', lo', st', h'))) (hl0 : l0 ≤ h.length) (hz0 : z0 ≤ pm_sz h) (hc : h'.length - l0 ≤ R.cells) (hz : pm_sz h' - z0 ≤ R.slots)
    (K : pm_U p l e R s m args below meth c Q D cA ad base k l0 z0 pc' lo' st' h') : pm_U p l e R s m args below meth c Q D cA ad base k l0 z0 pc lo st h := by
  obtain ⟨hx, hb, hml, hrt, hlk, hnm, hown, hts, hrf, hrl⟩ := id F
  simp only [pm_okJ, pm_plain, Bool.and_eq_true, decide_eq_true_eq, true_and] at hj
  obtain ⟨⟨⟨rfl, hnd⟩, hno⟩, hso⟩ := hj
  simp only [pm_one, pm_jmp] at ho
  split at ho
  · rename_i x r
    simp only [pm_nx, Option.some.injEq, Sum.inl.injEq, Prod.mk.injEq] at ho
    obtain ⟨rfl, rfl, rfl, rfl⟩ := ho
    intro H locs ls hr hl
    have hof : Op.lookupswitch.offset (ps.map (fun q => (q.1, (pc : Int) + q.2))).toList ((pc : Int) + d) x.toInt = (pc : Int) + Op.lookupswitch.offset ps.toList d x.toInt := by rw [Array.toList_map]; exact pm_lsw _ _ _ _
    have hK := K H locs ls hr hl
    rw [hof] at hK
    exact lv_lookup hx hb hd hso rfl (Int.toNat_of_nonneg (pm_lswn hnd ps.toList (fun q hq => of_decide_eq_true (List.all_eq_true.mp hno q hq)))).symm hK
  · cases ho
set_option maxHeartbeats 2000000 in
theorem pm_st_baload (F : pm_fx k p R s m args meth c) (X : pm_cx D cA ad base ol s) (hE : l0 < pm_M → s.heap.size = base + l0) (hAd : ∀ i, i < 1000 → ad i = base + i) {i : Instr} {len pos pc' : Nat} {lo' : pm_L} {st' : List Value} {h' : pm_H} (hd : decode (pm_b k) pc = .ok (.baload, len)) (hj : pm_okJ k pc (.baload) i len pos = true) (ho : pm_one ol i len pc lo st h = some (.inl (pc', lo', st', h'))) (hl0 : l0 ≤ h.length) (hz0 : z0 ≤ pm_sz h) (hc : h'.length - l0 ≤ R.cells) (hz : pm_sz h' - z0 ≤ R.slots)
    (K : pm_U p l e R s m args below meth c Q D cA ad base k l0 z0 pc' lo' st' h') : pm_U p l e R s m args below meth c Q D cA ad base k l0 z0 pc lo st h := by
  obtain ⟨hx, hb, hml, hrt, hlk, hnm, hown, hts, hrf, hrl⟩ := id F
  simp only [pm_okJ, pm_plain, Bool.and_eq_true, decide_eq_true_eq, true_and] at hj
  obtain ⟨rfl, rfl⟩ := hj
  simp only [pm_one] at ho
  split at ho
  · rename_i j a r
    split at ho
    · rename_i n f hg
      split at ho
      · rename_i hin
        simp only [pm_nx, Option.some.injEq, Sum.inl.injEq, Prod.mk.injEq] at ho
        obtain ⟨rfl, rfl, rfl, rfl⟩ := ho
        intro H locs ls hr hl
        obtain ⟨ha, hat⟩ := pm_gi_at hg
        exact va_zald hx hb X.1 hr.1 a 1 (pm_t_at ha hat) rfl hin hd (K H locs ls hr hl)
      · cases ho
    · cases ho
  · cases ho
set_option maxHeartbeats 2000000 in
theorem pm_st_laload (F : pm_fx k p R s m args meth c) (X : pm_cx D cA ad base ol s) (hE : l0 < pm_M → s.heap.size = base + l0) (hAd : ∀ i, i < 1000 → ad i = base + i) {i : Instr} {len pos pc' : Nat} {lo' : pm_L} {st' : List Value} {h' : pm_H} (hd : decode (pm_b k) pc = .ok (.laload, len)) (hj : pm_okJ k pc (.laload) i len pos = true) (ho : pm_one ol i len pc lo st h = some (.inl (pc', lo', st', h'))) (hl0 : l0 ≤ h.length) (hz0 : z0 ≤ pm_sz h) (hc : h'.length - l0 ≤ R.cells) (hz : pm_sz h' - z0 ≤ R.slots)
    (K : pm_U p l e R s m args below meth c Q D cA ad base k l0 z0 pc' lo' st' h') : pm_U p l e R s m args below meth c Q D cA ad base k l0 z0 pc lo st h := by
  obtain ⟨hx, hb, hml, hrt, hlk, hnm, hown, hts, hrf, hrl⟩ := id F
  simp only [pm_okJ, pm_plain, Bool.and_eq_true, decide_eq_true_eq, true_and] at hj
  obtain ⟨rfl, rfl⟩ := hj
  simp only [pm_one] at ho
  split at ho
  · rename_i j a r
    split at ho
    · rename_i n f hg
      split at ho
      · rename_i hin
        simp only [pm_nx, Option.some.injEq, Sum.inl.injEq, Prod.mk.injEq] at ho
        obtain ⟨rfl, rfl, rfl, rfl⟩ := ho
        intro H locs ls hr hl
        obtain ⟨ha, hat⟩ := pm_gl_at hg
        exact va_lald hx hb X.1 hr.1 a 2 (pm_t_at ha hat) rfl hin hd (K H locs ls hr hl)
      · cases ho
    · cases ho
  · cases ho
set_option maxHeartbeats 2000000 in
theorem pm_st_aaload (F : pm_fx k p R s m args meth c) (X : pm_cx D cA ad base ol s) (hE : l0 < pm_M → s.heap.size = base + l0) (hAd : ∀ i, i < 1000 → ad i = base + i) {i : Instr} {len pos pc' : Nat} {lo' : pm_L} {st' : List Value} {h' : pm_H} (hd : decode (pm_b k) pc = .ok (.aaload, len)) (hj : pm_okJ k pc (.aaload) i len pos = true) (ho : pm_one ol i len pc lo st h = some (.inl (pc', lo', st', h'))) (hl0 : l0 ≤ h.length) (hz0 : z0 ≤ pm_sz h) (hc : h'.length - l0 ≤ R.cells) (hz : pm_sz h' - z0 ≤ R.slots)
    (K : pm_U p l e R s m args below meth c Q D cA ad base k l0 z0 pc' lo' st' h') : pm_U p l e R s m args below meth c Q D cA ad base k l0 z0 pc lo st h := by
  obtain ⟨hx, hb, hml, hrt, hlk, hnm, hown, hts, hrf, hrl⟩ := id F
  simp only [pm_okJ, pm_plain, Bool.and_eq_true, decide_eq_true_eq, true_and] at hj
  obtain ⟨rfl, rfl⟩ := hj
  simp only [pm_one] at ho
  split at ho
  · rename_i j a r
    split at ho
    · rename_i n f hg
      split at ho
      · rename_i hin
        simp only [pm_nx, Option.some.injEq, Sum.inl.injEq, Prod.mk.injEq] at ho
        obtain ⟨rfl, rfl, rfl, rfl⟩ := ho
        intro H locs ls hr hl
        obtain ⟨ha, hat⟩ := pm_gq_at hg
        have hK := K H locs ls hr hl
        rw [List.map_cons, pm_tv_rf] at hK
        exact va_aldq hx hb X.1 hr.1 a 3 (pm_t_at ha hat) rfl hin hd hK
      · cases ho
    · cases ho
  · cases ho
set_option maxHeartbeats 2000000 in
theorem pm_st_iaload (F : pm_fx k p R s m args meth c) (X : pm_cx D cA ad base ol s) (hE : l0 < pm_M → s.heap.size = base + l0) (hAd : ∀ i, i < 1000 → ad i = base + i) {i : Instr} {len pos pc' : Nat} {lo' : pm_L} {st' : List Value} {h' : pm_H} (hd : decode (pm_b k) pc = .ok (.iaload, len)) (hj : pm_okJ k pc (.iaload) i len pos = true) (ho : pm_one ol i len pc lo st h = some (.inl (pc', lo', st', h'))) (hl0 : l0 ≤ h.length) (hz0 : z0 ≤ pm_sz h) (hc : h'.length - l0 ≤ R.cells) (hz : pm_sz h' - z0 ≤ R.slots)
    (K : pm_U p l e R s m args below meth c Q D cA ad base k l0 z0 pc' lo' st' h') : pm_U p l e R s m args below meth c Q D cA ad base k l0 z0 pc lo st h := by
  obtain ⟨hx, hb, hml, hrt, hlk, hnm, hown, hts, hrf, hrl⟩ := id F
  simp only [pm_okJ, pm_plain, Bool.and_eq_true, decide_eq_true_eq, true_and] at hj
  obtain ⟨rfl, rfl⟩ := hj
  simp only [pm_one] at ho
  split at ho
  · rename_i j a r
    split at ho
    · rename_i n f hg
      split at ho
      · rename_i hin
        simp only [pm_nx, Option.some.injEq, Sum.inl.injEq, Prod.mk.injEq] at ho
        obtain ⟨rfl, rfl, rfl, rfl⟩ := ho
        intro H locs ls hr hl
        unfold pm_ia at hg
        split at hg
        · obtain ⟨ha, hat⟩ := pm_gi_at hg
          exact va_iald hx hb X.1 hr.1 a 0 (pm_t_at ha hat) rfl hin hd (K H locs ls hr hl)
        · rename_i hlt
          have hT := X.2.2.2.1 _ _ _ hg
          have ea : 1000 + (a - 1000) = a := Nat.add_sub_of_le (Nat.le_of_not_lt hlt)
          rw [ea] at hT
          exact va_ti hx hb hT hr.2.2 hin rfl hd (K H locs ls hr hl)
      · cases ho
    · cases ho
  · cases ho
set_option maxHeartbeats 2000000 in
theorem pm_st_iastore (F : pm_fx k p R s m args meth c) (X : pm_cx D cA ad base ol s) (hE : l0 < pm_M → s.heap.size = base + l0) (hAd : ∀ i, i < 1000 → ad i = base + i) {i : Instr} {len pos pc' : Nat} {lo' : pm_L} {st' : List Value} {h' : pm_H} (hd : decode (pm_b k) pc = .ok (.iastore, len)) (hj : pm_okJ k pc (.iastore) i len pos = true) (ho : pm_one ol i len pc lo st h = some (.inl (pc', lo', st', h'))) (hl0 : l0 ≤ h.length) (hz0 : z0 ≤ pm_sz h) (hc : h'.length - l0 ≤ R.cells) (hz : pm_sz h' - z0 ≤ R.slots)
    (K : pm_U p l e R s m args below meth c Q D cA ad base k l0 z0 pc' lo' st' h') : pm_U p l e R s m args below meth c Q D cA ad base k l0 z0 pc lo st h := by
  obtain ⟨hx, hb, hml, hrt, hlk, hnm, hown, hts, hrf, hrl⟩ := id F
  simp only [pm_okJ, pm_plain, Bool.and_eq_true, decide_eq_true_eq, true_and] at hj
  obtain ⟨rfl, rfl⟩ := hj
  simp only [pm_one] at ho
  split at ho
  · rename_i x j a r
    split at ho
    · rename_i n f hg
      split at ho
      · rename_i hin
        simp only [pm_nx, Option.some.injEq, Sum.inl.injEq, Prod.mk.injEq] at ho
        obtain ⟨rfl, rfl, rfl, rfl⟩ := ho
        intro H locs ls hr hl
        obtain ⟨ha, hat⟩ := pm_gi_at hg
        refine va_iast hx hb X.1 hr.1 hr.2.1 hr.2.2 a 0 (pm_t_at ha hat) rfl hin hd (fun H1 locs1 hP1 hD1 hS1 => ?_)
        exact pm_Uset K hat rfl (pm_put ha hP1 hD1 hS1) hl
      · cases ho
    · cases ho
  · cases ho
set_option maxHeartbeats 2000000 in
theorem pm_st_bastore (F : pm_fx k p R s m args meth c) (X : pm_cx D cA ad base ol s) (hE : l0 < pm_M → s.heap.size = base + l0) (hAd : ∀ i, i < 1000 → ad i = base + i) {i : Instr} {len pos pc' : Nat} {lo' : pm_L} {st' : List Value} {h' : pm_H} (hd : decode (pm_b k) pc = .ok (.bastore, len)) (hj : pm_okJ k pc (.bastore) i len pos = true) (ho : pm_one ol i len pc lo st h = some (.inl (pc', lo', st', h'))) (hl0 : l0 ≤ h.length) (hz0 : z0 ≤ pm_sz h) (hc : h'.length - l0 ≤ R.cells) (hz : pm_sz h' - z0 ≤ R.slots)
    (K : pm_U p l e R s m args below meth c Q D cA ad base k l0 z0 pc' lo' st' h') : pm_U p l e R s m args below meth c Q D cA ad base k l0 z0 pc lo st h := by
  obtain ⟨hx, hb, hml, hrt, hlk, hnm, hown, hts, hrf, hrl⟩ := id F
  simp only [pm_okJ, pm_plain, Bool.and_eq_true, decide_eq_true_eq, true_and] at hj
  obtain ⟨rfl, rfl⟩ := hj
  simp only [pm_one] at ho
  split at ho
  · rename_i x j a r
    split at ho
    · rename_i n f hg
      split at ho
      · rename_i hin
        simp only [pm_nx, Option.some.injEq, Sum.inl.injEq, Prod.mk.injEq] at ho
        obtain ⟨rfl, rfl, rfl, rfl⟩ := ho
        intro H locs ls hr hl
        obtain ⟨ha, hat⟩ := pm_gi_at hg
        refine va_zast hx hb X.1 hr.1 hr.2.1 hr.2.2 a 1 (pm_t_at ha hat) rfl hin hd (fun H1 locs1 hP1 hD1 hS1 => ?_)
        exact pm_Uset K hat rfl (pm_put ha hP1 hD1 hS1) hl
      · cases ho
    · cases ho
  · cases ho
set_option maxHeartbeats 2000000 in
theorem pm_st_lastore (F : pm_fx k p R s m args meth c) (X : pm_cx D cA ad base ol s) (hE : l0 < pm_M → s.heap.size = base + l0) (hAd : ∀ i, i < 1000 → ad i = base + i) {i : Instr} {len pos pc' : Nat} {lo' : pm_L} {st' : List Value} {h' : pm_H} (hd : decode (pm_b k) pc = .ok (.lastore, len)) (hj : pm_okJ k pc (.lastore) i len pos = true) (ho : pm_one ol i len pc lo st h = some (.inl (pc', lo', st', h'))) (hl0 : l0 ≤ h.length) (hz0 : z0 ≤ pm_sz h) (hc : h'.length - l0 ≤ R.cells) (hz : pm_sz h' - z0 ≤ R.slots)
    (K : pm_U p l e R s m args below meth c Q D cA ad base k l0 z0 pc' lo' st' h') : pm_U p l e R s m args below meth c Q D cA ad base k l0 z0 pc lo st h := by
  obtain ⟨hx, hb, hml, hrt, hlk, hnm, hown, hts, hrf, hrl⟩ := id F
  simp only [pm_okJ, pm_plain, Bool.and_eq_true, decide_eq_true_eq, true_and] at hj
  obtain ⟨rfl, rfl⟩ := hj
  simp only [pm_one] at ho
  split at ho
  · rename_i x j a r
    split at ho
    · rename_i n f hg
      split at ho
      · rename_i hin
        simp only [pm_nx, Option.some.injEq, Sum.inl.injEq, Prod.mk.injEq] at ho
        obtain ⟨rfl, rfl, rfl, rfl⟩ := ho
        intro H locs ls hr hl
        obtain ⟨ha, hat⟩ := pm_gl_at hg
        refine va_last hx hb X.1 hr.1 hr.2.1 hr.2.2 a 2 (pm_t_at ha hat) rfl hin hd (fun H1 locs1 hP1 hD1 hS1 => ?_)
        exact pm_Uset K hat rfl (pm_put ha hP1 hD1 hS1) hl
      · cases ho
    · cases ho
  · cases ho
set_option maxHeartbeats 2000000 in
theorem pm_st_aastore (F : pm_fx k p R s m args meth c) (X : pm_cx D cA ad base ol s) (hE : l0 < pm_M → s.heap.size = base + l0) (hAd : ∀ i, i < 1000 → ad i = base + i) {i : Instr} {len pos pc' : Nat} {lo' : pm_L} {st' : List Value} {h' : pm_H} (hd : decode (pm_b k) pc = .ok (.aastore, len)) (hj : pm_okJ k pc (.aastore) i len pos = true) (ho : pm_one ol i len pc lo st h = some (.inl (pc', lo', st', h'))) (hl0 : l0 ≤ h.length) (hz0 : z0 ≤ pm_sz h) (hc : h'.length - l0 ≤ R.cells) (hz : pm_sz h' - z0 ≤ R.slots)
    (K : pm_U p l e R s m args below meth c Q D cA ad base k l0 z0 pc' lo' st' h') : pm_U p l e R s m args below meth c Q D cA ad base k l0 z0 pc lo st h := by
  obtain ⟨hx, hb, hml, hrt, hlk, hnm, hown, hts, hrf, hrl⟩ := id F
  simp only [pm_okJ, pm_plain, Bool.and_eq_true, decide_eq_true_eq, true_and] at hj
  obtain ⟨rfl, rfl⟩ := hj
  simp only [pm_one] at ho
  split at ho
  · rename_i v j a r
    split at ho
    · rename_i n f hg
      split at ho
      · rename_i ci vs hv
        split at ho
        · rename_i hin
          simp only [pm_nx, Option.some.injEq, Sum.inl.injEq, Prod.mk.injEq] at ho
          obtain ⟨rfl, rfl, rfl, rfl⟩ := ho
          intro H locs ls hr hl
          obtain ⟨ha, hat⟩ := pm_gq_at hg
          obtain ⟨hb2, hbt⟩ := pm_go_at hv
          obtain ⟨rfl, hin⟩ := hin
          refine va_astq (r := (RX4, TX4, 3)) hx hb X.1 hr.1 hr.2.1 hr.2.2 a 3 v 4 (pm_t_at ha hat) rfl (pm_t_at hb2 hbt) rfl hin hd (fun H1 locs1 hP1 hD1 hS1 => ?_)
          have ee : (fun q => (va_up f j.toNatClampNeg (some v) q).map ad) = va_up (fun q => (f q).map ad) j.toNatClampNeg (some (ad v)) := by
            funext q
            unfold va_up
            split <;> rfl
          refine pm_Uset K hat rfl (pm_put ha ?_ ?_ hS1) hl
          · show va_P D vwCl (List.set _ a (ad a, .inl (cA 3, n, .inr (.inr (.inr (.inr (fun q => (va_up f j.toNatClampNeg (some v) q).map ad))))))) H1
            rw [ee]; exact hP1
          · show va_D _ (List.set _ a (ad a, .inl (cA 3, n, .inr (.inr (.inr (.inr (fun q => (va_up f j.toNatClampNeg (some v) q).map ad)))))))
            rw [ee]; exact hD1
        · cases ho
      · cases ho
    · cases ho
  · cases ho
set_option maxHeartbeats 2000000 in
theorem pm_st_arraylength (F : pm_fx k p R s m args meth c) (X : pm_cx D cA ad base ol s) (hE : l0 < pm_M → s.heap.size = base + l0) (hAd : ∀ i, i < 1000 → ad i = base + i) {i : Instr} {len pos pc' : Nat} {lo' : pm_L} {st' : List Value} {h' : pm_H} (hd : decode (pm_b k) pc = .ok (.arraylength, len)) (hj : pm_okJ k pc (.arraylength) i len pos = true) (ho : pm_one ol i len pc lo st h = some (.inl (pc', lo', st', h'))) (hl0 : l0 ≤ h.length) (hz0 : z0 ≤ pm_sz h) (hc : h'.length - l0 ≤ R.cells) (hz : pm_sz h' - z0 ≤ R.slots)
    (K : pm_U p l e R s m args below meth c Q D cA ad base k l0 z0 pc' lo' st' h') : pm_U p l e R s m args below meth c Q D cA ad base k l0 z0 pc lo st h := by
  obtain ⟨hx, hb, hml, hrt, hlk, hnm, hown, hts, hrf, hrl⟩ := id F
  simp only [pm_okJ, pm_plain, Bool.and_eq_true, decide_eq_true_eq, true_and] at hj
  obtain ⟨rfl, rfl⟩ := hj
  simp only [pm_one] at ho
  split at ho
  · rename_i a r
    split at ho
    · rename_i n hg
      simp only [pm_nx, Option.some.injEq, Sum.inl.injEq, Prod.mk.injEq] at ho
      obtain ⟨rfl, rfl, rfl, rfl⟩ := ho
      intro H locs ls hr hl
      unfold pm_len at hg
      split at hg
      · obtain ⟨ha, t, x, hat, ht, rfl⟩ := pm_al_at hg
        obtain ⟨ty, hty⟩ : ∃ ty, (pm_tys cA)[t]? = some (cA t, ty) := by
          rcases (show t = 0 ∨ t = 1 ∨ t = 2 ∨ t = 3 by omega) with rfl | rfl | rfl | rfl <;> exact ⟨_, rfl⟩
        exact va_alen hx hb X.1 hr.1 a t (pm_t_at ha hat) hty (by rw [pm_ta_1]) hd (K H locs ls hr hl)
      · rename_i hlt
        cases hoj : ol[a - 1000]? with
        | none => rw [hoj] at hg; cases hg
        | some q =>
          obtain ⟨N, f⟩ := q
          rw [hoj] at hg
          cases hg
          have hT := X.2.2.2.1 _ _ _ hoj
          have ea : 1000 + (a - 1000) = a := Nat.add_sub_of_le (Nat.le_of_not_lt hlt)
          rw [ea] at hT
          exact va_tlen hx hb hT hr.2.2 rfl hd (K H locs ls hr hl)
    · cases ho
  · cases ho
set_option maxHeartbeats 2000000 in
theorem pm_st_getfield (F : pm_fx k p R s m args meth c) (X : pm_cx D cA ad base ol s) (hE : l0 < pm_M → s.heap.size = base + l0) (hAd : ∀ i, i < 1000 → ad i = base + i) {i : Instr} {len pos pc' : Nat} {lo' : pm_L} {st' : List Value} {h' : pm_H} {idx : _} (hd : decode (pm_b k) pc = .ok (.getfield idx, len)) (hj : pm_okJ k pc (.getfield idx) i len pos = true) (ho : pm_one ol i len pc lo st h = some (.inl (pc', lo', st', h'))) (hl0 : l0 ≤ h.length) (hz0 : z0 ≤ pm_sz h) (hc : h'.length - l0 ≤ R.cells) (hz : pm_sz h' - z0 ≤ R.slots)
    (K : pm_U p l e R s m args below meth c Q D cA ad base k l0 z0 pc' lo' st' h') : pm_U p l e R s m args below meth c Q D cA ad base k l0 z0 pc lo st h := by
  obtain ⟨hx, hb, hml, hrt, hlk, hnm, hown, hts, hrf, hrl⟩ := id F
  simp only [pm_okJ] at hj
  split at hj
  · rename_i x
    simp only [Bool.and_eq_true, decide_eq_true_eq] at hj
    obtain ⟨rfl, hf⟩ := hj
    obtain ⟨C, T, N, hv, hN, hw⟩ := pm_okf_spec hf
    simp only [pm_one] at ho
    split at ho
    · rename_i a r
      split at ho
      · rename_i ci fs hg
        split at ho
        · rename_i hci
          split at ho
          · rename_i v hfv
            simp only [pm_nx, Option.some.injEq, Sum.inl.injEq, Prod.mk.injEq] at ho
            obtain ⟨rfl, rfl, rfl, rfl⟩ := ho
            intro H locs ls hr hl
            obtain ⟨ha, hat⟩ := pm_go_at hg
            subst hci
            exact va_get (C := C) (T := T) (N := N) hx hb hts (pm_cls _ _ _ _ hv).1 hown X.1 hr.1 a (pm_t_at ha hat) hv (x % 64) hN (hts _ hw) (fun _ z => z) (by rw [List.getElem?_map, hfv]; rfl) hd (K H locs ls hr hl)
          · cases ho
        · cases ho
      · cases ho
    · cases ho
  · cases hj
set_option maxHeartbeats 2000000 in
theorem pm_st_putfield (F : pm_fx k p R s m args meth c) (X : pm_cx D cA ad base ol s) (hE : l0 < pm_M → s.heap.size = base + l0) (hAd : ∀ i, i < 1000 → ad i = base + i) {i : Instr} {len pos pc' : Nat} {lo' : pm_L} {st' : List Value} {h' : pm_H} {idx : _} (hd : decode (pm_b k) pc = .ok (.putfield idx, len)) (hj : pm_okJ k pc (.putfield idx) i len pos = true) (ho : pm_one ol i len pc lo st h = some (.inl (pc', lo', st', h'))) (hl0 : l0 ≤ h.length) (hz0 : z0 ≤ pm_sz h) (hc : h'.length - l0 ≤ R.cells) (hz : pm_sz h' - z0 ≤ R.slots)
    (K : pm_U p l e R s m args below meth c Q D cA ad base k l0 z0 pc' lo' st' h') : pm_U p l e R s m args below meth c Q D cA ad base k l0 z0 pc lo st h := by
  obtain ⟨hx, hb, hml, hrt, hlk, hnm, hown, hts, hrf, hrl⟩ := id F
  simp only [pm_okJ] at hj
  split at hj
  · rename_i x
    simp only [Bool.and_eq_true, decide_eq_true_eq] at hj
    obtain ⟨⟨rfl, hf⟩, hw⟩ := hj
    simp only [pm_one] at ho
    split at ho
    · rename_i v a r
      split at ho
      · rename_i ci fs hg
        split at ho
        · rename_i hcd
          simp only [pm_nx, Option.some.injEq, Sum.inl.injEq, Prod.mk.injEq] at ho
          obtain ⟨rfl, rfl, rfl, rfl⟩ := ho
          obtain ⟨ha, hat⟩ := pm_go_at hg
          obtain ⟨rfl, hln⟩ := hcd
          exact pm_pf (v := .int v) F X hf hw hd ha hat hln (fun ty hty => by have := of_decide_eq_true hty; subst this; exact ⟨rfl, rfl⟩) K
        · cases ho
      · cases ho
    · cases ho
  · rename_i x
    simp only [Bool.and_eq_true, decide_eq_true_eq] at hj
    obtain ⟨⟨rfl, hf⟩, hw⟩ := hj
    simp only [pm_one] at ho
    split at ho
    · rename_i v a r
      split at ho
      · rename_i ci fs hg
        split at ho
        · rename_i hcd
          simp only [pm_nx, Option.some.injEq, Sum.inl.injEq, Prod.mk.injEq] at ho
          obtain ⟨rfl, rfl, rfl, rfl⟩ := ho
          obtain ⟨ha, hat⟩ := pm_go_at hg
          obtain ⟨rfl, hln, h01⟩ := hcd
          exact pm_pf (v := .int v) F X hf hw hd ha hat hln (fun ty hty => by have := of_decide_eq_true hty; subst this; rcases h01 with rfl | rfl <;> exact ⟨rfl, rfl⟩) K
        · cases ho
      · cases ho
    · cases ho
  · rename_i x
    simp only [Bool.and_eq_true, decide_eq_true_eq] at hj
    obtain ⟨⟨rfl, hf⟩, hw⟩ := hj
    simp only [pm_one] at ho
    split at ho
    · rename_i v a r
      split at ho
      · rename_i ci fs hg
        split at ho
        · rename_i hcd
          simp only [pm_nx, Option.some.injEq, Sum.inl.injEq, Prod.mk.injEq] at ho
          obtain ⟨rfl, rfl, rfl, rfl⟩ := ho
          obtain ⟨ha, hat⟩ := pm_go_at hg
          obtain ⟨rfl, hln⟩ := hcd
          exact pm_pf (v := .ref v) F X hf hw hd ha hat hln (fun ty hty => by cases ty <;> first | (exact ⟨rfl, rfl⟩) | (cases hty; done)) K
        · cases ho
      · cases ho
    · cases ho
  · cases hj
set_option maxHeartbeats 2000000 in
theorem pm_st_getstatic (F : pm_fx k p R s m args meth c) (X : pm_cx D cA ad base ol s) (hE : l0 < pm_M → s.heap.size = base + l0) (hAd : ∀ i, i < 1000 → ad i = base + i) {i : Instr} {len pos pc' : Nat} {lo' : pm_L} {st' : List Value} {h' : pm_H} {idx : _} (hd : decode (pm_b k) pc = .ok (.getstatic idx, len)) (hj : pm_okJ k pc (.getstatic idx) i len pos = true) (ho : pm_one ol i len pc lo st h = some (.inl (pc', lo', st', h'))) (hl0 : l0 ≤ h.length) (hz0 : z0 ≤ pm_sz h) (hc : h'.length - l0 ≤ R.cells) (hz : pm_sz h' - z0 ≤ R.slots)
    (K : pm_U p l e R s m args below meth c Q D cA ad base k l0 z0 pc' lo' st' h') : pm_U p l e R s m args below meth c Q D cA ad base k l0 z0 pc lo st h := by
  obtain ⟨hx, hb, hml, hrt, hlk, hnm, hown, hts, hrf, hrl⟩ := id F
  simp only [pm_okJ] at hj
  split at hj
  · rename_i a
    simp only [Bool.and_eq_true, Bool.or_eq_true, decide_eq_true_eq] at hj
    obtain ⟨rfl, hj⟩ := hj
    simp only [pm_one] at ho
    simp only [pm_nx, Option.some.injEq, Sum.inl.injEq, Prod.mk.injEq] at ho
    obtain ⟨rfl, rfl, rfl, rfl⟩ := ho
    intro H locs ls hr hl
    rcases hj with ⟨rfl, hw⟩ | ⟨rfl, hw⟩
    · exact va_gets hx hb X.2.2.2.2.1 hr.2.2 hown (hts _ (pm_wd_in hw rfl)) (fun _ z => z) hd (K H locs ls hr hl)
    · exact va_gets hx hb X.2.2.2.2.2 hr.2.2 hown (hts _ (pm_wd_in hw rfl)) (fun _ z => z) hd (K H locs ls hr hl)
  · cases hj
set_option maxHeartbeats 2000000 in
theorem pm_st_ldc (F : pm_fx k p R s m args meth c) (X : pm_cx D cA ad base ol s) (hE : l0 < pm_M → s.heap.size = base + l0) (hAd : ∀ i, i < 1000 → ad i = base + i) {i : Instr} {len pos pc' : Nat} {lo' : pm_L} {st' : List Value} {h' : pm_H} {idx : _} (hd : decode (pm_b k) pc = .ok (.ldc idx, len)) (hj : pm_okJ k pc (.ldc idx) i len pos = true) (ho : pm_one ol i len pc lo st h = some (.inl (pc', lo', st', h'))) (hl0 : l0 ≤ h.length) (hz0 : z0 ≤ pm_sz h) (hc : h'.length - l0 ≤ R.cells) (hz : pm_sz h' - z0 ≤ R.slots)
    (K : pm_U p l e R s m args below meth c Q D cA ad base k l0 z0 pc' lo' st' h') : pm_U p l e R s m args below meth c Q D cA ad base k l0 z0 pc lo st h := by
  obtain ⟨hx, hb, hml, hrt, hlk, hnm, hown, hts, hrf, hrl⟩ := id F
  simp only [pm_okJ] at hj
  split at hj
  · rename_i v
    simp only [Bool.and_eq_true, decide_eq_true_eq] at hj
    obtain ⟨rfl, hw⟩ := hj
    simp only [pm_one] at ho
    simp only [pm_nx, Option.some.injEq, Sum.inl.injEq, Prod.mk.injEq] at ho
    obtain ⟨rfl, rfl, rfl, rfl⟩ := ho
    intro H locs ls hr hl
    exact lv_ldc hx hb hown (hts _ (pm_wd_in hw rfl)) hd (K H locs ls hr hl)
  · simp only [pm_one] at ho
    cases ho
  · cases hj
set_option maxHeartbeats 2000000 in
theorem pm_st_ldc2_w (F : pm_fx k p R s m args meth c) (X : pm_cx D cA ad base ol s) (hE : l0 < pm_M → s.heap.size = base + l0) (hAd : ∀ i, i < 1000 → ad i = base + i) {i : Instr} {len pos pc' : Nat} {lo' : pm_L} {st' : List Value} {h' : pm_H} {idx : _} (hd : decode (pm_b k) pc = .ok (.ldc2_w idx, len)) (hj : pm_okJ k pc (.ldc2_w idx) i len pos = true) (ho : pm_one ol i len pc lo st h = some (.inl (pc', lo', st', h'))) (hl0 : l0 ≤ h.length) (hz0 : z0 ≤ pm_sz h) (hc : h'.length - l0 ≤ R.cells) (hz : pm_sz h' - z0 ≤ R.slots)
    (K : pm_U p l e R s m args below meth c Q D cA ad base k l0 z0 pc' lo' st' h') : pm_U p l e R s m args below meth c Q D cA ad base k l0 z0 pc lo st h := by
  obtain ⟨hx, hb, hml, hrt, hlk, hnm, hown, hts, hrf, hrl⟩ := id F
  simp only [pm_okJ] at hj
  split at hj
  · rename_i v
    simp only [Bool.and_eq_true, decide_eq_true_eq] at hj
    obtain ⟨rfl, hw⟩ := hj
    simp only [pm_one] at ho
    simp only [pm_nx, Option.some.injEq, Sum.inl.injEq, Prod.mk.injEq] at ho
    obtain ⟨rfl, rfl, rfl, rfl⟩ := ho
    intro H locs ls hr hl
    exact lv_ldc2 hx hb hown (hts _ (pm_wd_in hw rfl)) hd (K H locs ls hr hl)
  · cases hj
set_option maxHeartbeats 2000000 in
theorem pm_st_athrow (F : pm_fx k p R s m args meth c) (X : pm_cx D cA ad base ol s) (hE : l0 < pm_M → s.heap.size = base + l0) (hAd : ∀ i, i < 1000 → ad i = base + i) {i : Instr} {len pos pc' : Nat} {lo' : pm_L} {st' : List Value} {h' : pm_H} (hd : decode (pm_b k) pc = .ok (.athrow, len)) (hj : pm_okJ k pc (.athrow) i len pos = true) (ho : pm_one ol i len pc lo st h = some (.inl (pc', lo', st', h'))) (hl0 : l0 ≤ h.length) (hz0 : z0 ≤ pm_sz h) (hc : h'.length - l0 ≤ R.cells) (hz : pm_sz h' - z0 ≤ R.slots)
    (K : pm_U p l e R s m args below meth c Q D cA ad base k l0 z0 pc' lo' st' h') : pm_U p l e R s m args below meth c Q D cA ad base k l0 z0 pc lo st h := by
  obtain ⟨hx, hb, hml, hrt, hlk, hnm, hown, hts, hrf, hrl⟩ := id F
  simp only [pm_okJ, decide_eq_true_eq] at hj
  subst hj
  simp only [pm_one] at ho
  cases ho
set_option maxHeartbeats 2000000 in
theorem pm_st_invokespecial (F : pm_fx k p R s m args meth c) (X : pm_cx D cA ad base ol s) (hE : l0 < pm_M → s.heap.size = base + l0) (hAd : ∀ i, i < 1000 → ad i = base + i) {i : Instr} {len pos pc' : Nat} {lo' : pm_L} {st' : List Value} {h' : pm_H} {idx : _} (hd : decode (pm_b k) pc = .ok (.invokespecial idx, len)) (hj : pm_okJ k pc (.invokespecial idx) i len pos = true) (ho : pm_one ol i len pc lo st h = some (.inl (pc', lo', st', h'))) (hl0 : l0 ≤ h.length) (hz0 : z0 ≤ pm_sz h) (hc : h'.length - l0 ≤ R.cells) (hz : pm_sz h' - z0 ≤ R.slots)
    (K : pm_U p l e R s m args below meth c Q D cA ad base k l0 z0 pc' lo' st' h') : pm_U p l e R s m args below meth c Q D cA ad base k l0 z0 pc lo st h := by
  obtain ⟨hx, hb, hml, hrt, hlk, hnm, hown, hts, hrf, hrl⟩ := id F
  simp only [pm_okJ] at hj
  split at hj
  · rename_i z
    simp only [Bool.and_eq_true, decide_eq_true_eq] at hj
    obtain ⟨⟨⟨rfl, hw⟩, h1f⟩, h20⟩ := hj
    simp only [pm_one] at ho
    split at ho
    · rename_i a r
      split at ho
      · rename_i hcd
        simp only [pm_nx, Option.some.injEq, Sum.inl.injEq, Prod.mk.injEq] at ho
        obtain ⟨rfl, rfl, rfl, rfl⟩ := ho
        intro H locs ls hr hl
        exact W.objInit hx hb hown (hts _ (pm_wd_in hw rfl)) (hts _ pm_oi1) (hts _ pm_oi2) rfl (by rw [hml]; exact hl.1) rfl hd (by omega) (by show 2 * 0 + ((r.map (pm_tv ad)).map fun v => v.category).sum + 12 ≤ R.locals; rw [pm_cat_tv]; omega) (K H locs ls hr hl)
      · cases ho
    · cases ho
  · simp only [pm_one] at ho
    split at ho
    · split at ho
      · split at ho
        · unfold pm_call at ho
          split at ho <;> cases ho
        · cases ho
      · cases ho
    · cases ho
  · simp only [pm_one] at ho
    cases ho
  · cases hj
set_option maxHeartbeats 2000000 in
theorem pm_st_invokevirtual (F : pm_fx k p R s m args meth c) (X : pm_cx D cA ad base ol s) (hE : l0 < pm_M → s.heap.size = base + l0) (hAd : ∀ i, i < 1000 → ad i = base + i) {i : Instr} {len pos pc' : Nat} {lo' : pm_L} {st' : List Value} {h' : pm_H} {idx : _} (hd : decode (pm_b k) pc = .ok (.invokevirtual idx, len)) (hj : pm_okJ k pc (.invokevirtual idx) i len pos = true) (ho : pm_one ol i len pc lo st h = some (.inl (pc', lo', st', h'))) (hl0 : l0 ≤ h.length) (hz0 : z0 ≤ pm_sz h) (hc : h'.length - l0 ≤ R.cells) (hz : pm_sz h' - z0 ≤ R.slots)
    (K : pm_U p l e R s m args below meth c Q D cA ad base k l0 z0 pc' lo' st' h') : pm_U p l e R s m args below meth c Q D cA ad base k l0 z0 pc lo st h := by
  obtain ⟨hx, hb, hml, hrt, hlk, hnm, hown, hts, hrf, hrl⟩ := id F
  simp only [pm_okJ] at hj
  split at hj
  · simp only [pm_one] at ho
    split at ho
    · split at ho
      · split at ho
        · unfold pm_call at ho
          split at ho <;> cases ho
        · cases ho
      · cases ho
    · cases ho
  · cases hj
set_option maxHeartbeats 2000000 in
theorem pm_st_invokestatic (F : pm_fx k p R s m args meth c) (X : pm_cx D cA ad base ol s) (hE : l0 < pm_M → s.heap.size = base + l0) (hAd : ∀ i, i < 1000 → ad i = base + i) {i : Instr} {len pos pc' : Nat} {lo' : pm_L} {st' : List Value} {h' : pm_H} {idx : _} (hd : decode (pm_b k) pc = .ok (.invokestatic idx, len)) (hj : pm_okJ k pc (.invokestatic idx) i len pos = true) (ho : pm_one ol i len pc lo st h = some (.inl (pc', lo', st', h'))) (hl0 : l0 ≤ h.length) (hz0 : z0 ≤ pm_sz h) (hc : h'.length - l0 ≤ R.cells) (hz : pm_sz h' - z0 ≤ R.slots)
    (K : pm_U p l e R s m args below meth c Q D cA ad base k l0 z0 pc' lo' st' h') : pm_U p l e R s m args below meth c Q D cA ad base k l0 z0 pc lo st h := by
  obtain ⟨hx, hb, hml, hrt, hlk, hnm, hown, hts, hrf, hrl⟩ := id F
  simp only [pm_okJ] at hj
  split at hj
  · simp only [pm_one] at ho
    split at ho
    · unfold pm_call at ho
      split at ho <;> cases ho
    · cases ho
  · simp only [Bool.and_eq_true, decide_eq_true_eq] at hj
    obtain ⟨⟨⟨rfl, hw⟩, h1f⟩, h26⟩ := hj
    simp only [pm_one] at ho
    split at ho
    · rename_i n dp a sp a0 r
      split at ho
      · rename_i n0 f hg0
        split at ho
        · rename_i n1 g hg1
          split at ho
          · rename_i hcd
            simp only [pm_nx, Option.some.injEq, Sum.inl.injEq, Prod.mk.injEq] at ho
            obtain ⟨rfl, rfl, rfl, rfl⟩ := ho
            intro H locs ls hr hl
            obtain ⟨ha0, hat0⟩ := pm_gi_at hg0
            obtain ⟨ha, hat⟩ := pm_gi_at hg1
            obtain ⟨⟨c1, c2, c3⟩, c4, c5, c6⟩ := hcd
            refine va_copyi hx hb (by rw [hml]; exact hl.1.symm) hown (hts _ (pm_wd_in hw rfl)) (hts _ pm_ay1) (hts _ pm_ay2) (hts _ pm_ay3) X.1 hr.1 hr.2.1 hr.2.2 a0 a 0 0 (pm_t_at ha0 hat0) (pm_t_at ha hat) rfl rfl rfl c1 c2 c3 c4 c5 (fun _ _ => rfl) (by omega) (by rw [pm_cat_tv, show nativeFrameWords "java/lang/System" "arraycopy" 5 = 7 by decide +kernel]; omega) hd (fun H1 locs1 hP1 hD1 hS1 => ?_)
            exact pm_Uset K hat rfl (pm_put ha hP1 hD1 hS1) hl
          · cases ho
        · cases ho
      · cases ho
    · cases ho
  · simp only [Bool.and_eq_true, decide_eq_true_eq] at hj
    obtain ⟨⟨⟨rfl, hw⟩, h1f⟩, h21⟩ := hj
    simp only [pm_one] at ho
    split at ho
    · rename_i y x r
      split at ho
      · rename_i hcd
        simp only [pm_nx, Option.some.injEq, Sum.inl.injEq, Prod.mk.injEq] at ho
        obtain ⟨rfl, rfl, rfl, rfl⟩ := ho
        intro H locs ls hr hl
        exact va_mmax hx hb (by rw [hml]; exact hl.1.symm) hown (hts _ (pm_wd_in hw rfl)) (hts _ pm_mx1) (hts _ pm_mi0) (hts _ pm_mx2) (by omega) (by rw [pm_cat_tv]; omega) hc hz hd (K H locs ls hr hl)
      · cases ho
    · cases ho
  · simp only [Bool.and_eq_true, decide_eq_true_eq] at hj
    obtain ⟨⟨⟨rfl, hw⟩, h1f⟩, h21⟩ := hj
    simp only [pm_one] at ho
    split at ho
    · rename_i y x r
      split at ho
      · rename_i hcd
        simp only [pm_nx, Option.some.injEq, Sum.inl.injEq, Prod.mk.injEq] at ho
        obtain ⟨rfl, rfl, rfl, rfl⟩ := ho
        intro H locs ls hr hl
        exact va_mmin hx hb (by rw [hml]; exact hl.1.symm) hown (hts _ (pm_wd_in hw rfl)) (hts _ pm_mn1) (hts _ pm_mi0) (hts _ pm_mn2) (by omega) (by rw [pm_cat_tv]; omega) hc hz hd (K H locs ls hr hl)
      · cases ho
    · cases ho
  · simp only [Bool.and_eq_true, decide_eq_true_eq] at hj
    obtain ⟨⟨⟨rfl, hw⟩, h1f⟩, h21⟩ := hj
    simp only [pm_one] at ho
    split at ho
    · rename_i x r
      split at ho
      · rename_i hcd
        simp only [pm_nx, Option.some.injEq, Sum.inl.injEq, Prod.mk.injEq] at ho
        obtain ⟨rfl, rfl, rfl, rfl⟩ := ho
        intro H locs ls hr hl
        exact va_mabs hx hb (by rw [hml]; exact hl.1.symm) hown (hts _ (pm_wd_in hw rfl)) (hts _ pm_mb1) (hts _ pm_mi0) (hts _ pm_mb2) (by omega) (by rw [pm_cat_tv]; omega) hc hz hd (K H locs ls hr hl)
      · cases ho
    · cases ho
  · cases hj
set_option maxHeartbeats 2000000 in
theorem pm_st_ireturn (F : pm_fx k p R s m args meth c) (X : pm_cx D cA ad base ol s) (hE : l0 < pm_M → s.heap.size = base + l0) (hAd : ∀ i, i < 1000 → ad i = base + i) {i : Instr} {len pos pc' : Nat} {lo' : pm_L} {st' : List Value} {h' : pm_H} (hd : decode (pm_b k) pc = .ok (.ireturn, len)) (hj : pm_okJ k pc (.ireturn) i len pos = true) (ho : pm_one ol i len pc lo st h = some (.inl (pc', lo', st', h'))) (hl0 : l0 ≤ h.length) (hz0 : z0 ≤ pm_sz h) (hc : h'.length - l0 ≤ R.cells) (hz : pm_sz h' - z0 ≤ R.slots)
    (K : pm_U p l e R s m args below meth c Q D cA ad base k l0 z0 pc' lo' st' h') : pm_U p l e R s m args below meth c Q D cA ad base k l0 z0 pc lo st h := by
  obtain ⟨hx, hb, hml, hrt, hlk, hnm, hown, hts, hrf, hrl⟩ := id F
  simp only [pm_okJ, Bool.and_eq_true, Bool.or_eq_true, decide_eq_true_eq] at hj
  obtain ⟨⟨rfl, -⟩ | ⟨rfl, -⟩, rfl⟩ := hj
  · simp only [pm_one] at ho
    split at ho <;> cases ho
  · simp only [pm_one] at ho
    split at ho
    · split at ho <;> cases ho
    · cases ho
set_option maxHeartbeats 2000000 in
theorem pm_st_areturn (F : pm_fx k p R s m args meth c) (X : pm_cx D cA ad base ol s) (hE : l0 < pm_M → s.heap.size = base + l0) (hAd : ∀ i, i < 1000 → ad i = base + i) {i : Instr} {len pos pc' : Nat} {lo' : pm_L} {st' : List Value} {h' : pm_H} (hd : decode (pm_b k) pc = .ok (.areturn, len)) (hj : pm_okJ k pc (.areturn) i len pos = true) (ho : pm_one ol i len pc lo st h = some (.inl (pc', lo', st', h'))) (hl0 : l0 ≤ h.length) (hz0 : z0 ≤ pm_sz h) (hc : h'.length - l0 ≤ R.cells) (hz : pm_sz h' - z0 ≤ R.slots)
    (K : pm_U p l e R s m args below meth c Q D cA ad base k l0 z0 pc' lo' st' h') : pm_U p l e R s m args below meth c Q D cA ad base k l0 z0 pc lo st h := by
  obtain ⟨hx, hb, hml, hrt, hlk, hnm, hown, hts, hrf, hrl⟩ := id F
  simp only [pm_okJ, Bool.and_eq_true, Bool.or_eq_true, decide_eq_true_eq] at hj
  obtain ⟨⟨rfl, rfl⟩, -⟩ := hj
  simp only [pm_one] at ho
  split at ho <;> cases ho
set_option maxHeartbeats 2000000 in
theorem pm_st_return_ (F : pm_fx k p R s m args meth c) (X : pm_cx D cA ad base ol s) (hE : l0 < pm_M → s.heap.size = base + l0) (hAd : ∀ i, i < 1000 → ad i = base + i) {i : Instr} {len pos pc' : Nat} {lo' : pm_L} {st' : List Value} {h' : pm_H} (hd : decode (pm_b k) pc = .ok (.return_, len)) (hj : pm_okJ k pc (.return_) i len pos = true) (ho : pm_one ol i len pc lo st h = some (.inl (pc', lo', st', h'))) (hl0 : l0 ≤ h.length) (hz0 : z0 ≤ pm_sz h) (hc : h'.length - l0 ≤ R.cells) (hz : pm_sz h' - z0 ≤ R.slots)
    (K : pm_U p l e R s m args below meth c Q D cA ad base k l0 z0 pc' lo' st' h') : pm_U p l e R s m args below meth c Q D cA ad base k l0 z0 pc lo st h := by
  obtain ⟨hx, hb, hml, hrt, hlk, hnm, hown, hts, hrf, hrl⟩ := id F
  simp only [pm_okJ, Bool.and_eq_true, Bool.or_eq_true, decide_eq_true_eq] at hj
  obtain ⟨⟨rfl, rfl⟩, -⟩ := hj
  simp only [pm_one] at ho
  split at ho <;> cases ho
end PMS
end
section
section PMS
variable {p : Program} {l : Launch} {e : Env} {R : Room} {s : State} {m : MethodId} {args : Array Value} {below : List Frame} {meth : Method} {c : Code} {Q : State → Prop}
variable {D : va_G} {cA : Nat → ClassId} {ad : Nat → Nat} {base : Nat} {ol : pm_O} {k l0 z0 pc : Nat} {lo : pm_L} {st : List Value} {h : pm_H}
set_option maxHeartbeats 2000000 in
theorem pm_st_new (F : pm_fx k p R s m args meth c) (X : pm_cx D cA ad base ol s) (hE : l0 < pm_M → s.heap.size = base + l0) (hAd : ∀ i, i < 1000 → ad i = base + i) {i : Instr} {len pos pc' : Nat} {lo' : pm_L} {st' : List Value} {h' : pm_H} {idx : _} (hd : decode (pm_b k) pc = .ok (.new idx, len)) (hj : pm_okJ k pc (.new idx) i len pos = true) (ho : pm_one ol i len pc lo st h = some (.inl (pc', lo', st', h'))) (hl0 : l0 ≤ h.length) (hz0 : z0 ≤ pm_sz h) (hc : h'.length - l0 ≤ R.cells) (hz : pm_sz h' - z0 ≤ R.slots)
    (K : pm_U p l e R s m args below meth c Q D cA ad base k l0 z0 pc' lo' st' h') : pm_U p l e R s m args below meth c Q D cA ad base k l0 z0 pc lo st h := by
  obtain ⟨hx, hb, hml, hrt, hlk, hnm, hown, hts, hrf, hrl⟩ := id F
  simp only [pm_okJ] at hj
  split at hj
  · rename_i ci
    split at hj
    · rename_i C T N hv
      simp only [Bool.and_eq_true, decide_eq_true_eq] at hj
      obtain ⟨rfl, hw⟩ := hj
      obtain ⟨g1, ⟨ty0, g2, fs0, g4, g5, -, g6, g7⟩, g3, g8, g9⟩ := pm_cls _ _ _ _ hv
      simp only [pm_one, pm_mk, g4] at ho
      split at ho
      · rename_i hlt
        simp only [pm_nx, Option.some.injEq, Sum.inl.injEq, Prod.mk.injEq] at ho
        obtain ⟨rfl, rfl, rfl, rfl⟩ := ho
        intro H locs ls hr hl T0 hT0 X0
        have hsz := pm_size hE hAd hlt hl0 hr hT0 X0
        have hA : ad h.length = H.size := by rw [hsz]; exact hAd _ (by have : pm_M = 70 := rfl; omega)
        have hKn := X.1.1 ci _ hv
        rw [List.length_append] at hc
        rw [pm_sz_app] at hz
        have hcs : pm_csz (.inr (ci, fs0)) = N := g5
        have hc1 : h.length - l0 + 1 ≤ R.cells := by simp at hc; omega
        have hz1 : pm_sz h - z0 + N ≤ R.slots := by rw [hcs] at hz; omega
        suffices key : W p l e R s m args below meth c H locs (h.length - l0) (pm_sz h - z0) Q (F0 m pc ls (st.map (pm_tv ad))) from key T0 hT0 X0
        refine W.newcK (g := F0 m pc ls (st.map (pm_tv ad))) hx hb hown (hts _ (pm_wd_in hw rfl)) (hts _ g8) (hts _ g9) rfl hd hc1 hz1 hKn.2.1 rfl (fun H1 kC hkC e1 z1 o1 => ?_)
        have hat : va_at D vwCl (H.size, pm_tc ad cA (.inr (ci, fs0))) H1 := by
          show va_at D vwCl (H.size, .inr (ci, fs0.map (pm_tv ad))) H1
          rw [g6 ad]
          exact ⟨_, hv, (u_born ty0 hts g1 hKn hkC e1 g2).to g7⟩
        have hW := pm_Uapp K hl0 hz0 (pm_grow hlt hr X.2.2.1 hA hat z1 o1) hl
        rw [hcs, List.map_cons] at hW
        have hA2 : pm_tv ad (.ref h.length) = .ref H.size := by show Value.ref (ad h.length) = _; rw [hA]
        rw [hA2] at hW
        exact hW
      · cases ho
    · cases hj
  · simp only [pm_one] at ho
    cases ho
  · cases hj
set_option maxHeartbeats 2000000 in
theorem pm_st_newarray (F : pm_fx k p R s m args meth c) (X : pm_cx D cA ad base ol s) (hE : l0 < pm_M → s.heap.size = base + l0) (hAd : ∀ i, i < 1000 → ad i = base + i) {i : Instr} {len pos pc' : Nat} {lo' : pm_L} {st' : List Value} {h' : pm_H} {t : _} (hd : decode (pm_b k) pc = .ok (.newarray t, len)) (hj : pm_okJ k pc (.newarray t) i len pos = true) (ho : pm_one ol i len pc lo st h = some (.inl (pc', lo', st', h'))) (hl0 : l0 ≤ h.length) (hz0 : z0 ≤ pm_sz h) (hc : h'.length - l0 ≤ R.cells) (hz : pm_sz h' - z0 ≤ R.slots)
    (K : pm_U p l e R s m args below meth c Q D cA ad base k l0 z0 pc' lo' st' h') : pm_U p l e R s m args below meth c Q D cA ad base k l0 z0 pc lo st h := by
  obtain ⟨hx, hb, hml, hrt, hlk, hnm, hown, hts, hrf, hrl⟩ := id F
  simp only [pm_okJ, Bool.and_eq_true, decide_eq_true_eq] at hj
  obtain ⟨rfl, rfl⟩ := hj
  simp only [pm_one, pm_mk] at ho
  split at ho
  · rename_i n r
    split at ho
    · rename_i hcd
      split at ho
      · split at ho
        · rename_i hlt
          simp only [pm_nx, Option.some.injEq, Sum.inl.injEq, Prod.mk.injEq] at ho
          obtain ⟨rfl, rfl, rfl, rfl⟩ := ho
          intro H locs ls hr hl T0 hT0 X0
          have hsz := pm_size hE hAd hlt hl0 hr hT0 X0
          have hA : ad h.length = H.size := by rw [hsz]; exact hAd _ (by have : pm_M = 70 := rfl; omega)
          rw [List.length_append] at hc
          rw [pm_sz_app] at hz
          have hcs : pm_csz (.inl (0, n.toNatClampNeg, .inl (fun _ => 0))) = n.toNatClampNeg := rfl
          have hc1 : h.length - l0 + 1 ≤ R.cells := by simp at hc; omega
          have hz1 : pm_sz h - z0 + n.toNatClampNeg ≤ R.slots := by rw [hcs] at hz; omega
          have hbt : n.toNatClampNeg * 4 ≤ 536870912 := by omega
          suffices key : W p l e R s m args below meth c H locs (h.length - l0) (pm_sz h - z0) Q (F0 m pc ls (.int n :: r.map (pm_tv ad))) from key T0 hT0 X0
          refine va_newaK (atype := .int) (g := F0 m pc ls (.int n :: r.map (pm_tv ad))) (N := n.toNatClampNeg) (n := n) (rest := r.map (pm_tv ad)) (h := H.size) hx hb (hts (.arrayClass .int) pm_ac0) rfl hd rfl hcd.1 rfl hbt hc1 hz1 rfl (fun H1 cA1 e1 z1 o1 hAr hNm => ?_)
          have hcA : cA1 = cA 0 := Option.some.inj (hNm.symm.trans (X.1.2 0 _ rfl).2)
          subst hcA
          have hat : va_at D vwCl (H.size, pm_tc ad cA (.inl (0, n.toNatClampNeg, .inl (fun _ => 0)))) H1 := e1
          have hW := pm_Uapp K hl0 hz0 (pm_grow hlt hr X.2.2.1 hA hat z1 o1) hl
          rw [hcs, List.map_cons] at hW
          have hA2 : pm_tv ad (.ref h.length) = .ref H.size := by show Value.ref (ad h.length) = _; rw [hA]
          rw [hA2] at hW
          exact hW
        · cases ho
      · split at ho
        · rename_i hlt
          simp only [pm_nx, Option.some.injEq, Sum.inl.injEq, Prod.mk.injEq] at ho
          obtain ⟨rfl, rfl, rfl, rfl⟩ := ho
          intro H locs ls hr hl T0 hT0 X0
          have hsz := pm_size hE hAd hlt hl0 hr hT0 X0
          have hA : ad h.length = H.size := by rw [hsz]; exact hAd _ (by have : pm_M = 70 := rfl; omega)
          rw [List.length_append] at hc
          rw [pm_sz_app] at hz
          have hcs : pm_csz (.inl (1, n.toNatClampNeg, .inl (fun _ => 0))) = n.toNatClampNeg := rfl
          have hc1 : h.length - l0 + 1 ≤ R.cells := by simp at hc; omega
          have hz1 : pm_sz h - z0 + n.toNatClampNeg ≤ R.slots := by rw [hcs] at hz; omega
          have hbt : n.toNatClampNeg * 1 ≤ 536870912 := by omega
          suffices key : W p l e R s m args below meth c H locs (h.length - l0) (pm_sz h - z0) Q (F0 m pc ls (.int n :: r.map (pm_tv ad))) from key T0 hT0 X0
          refine va_newaK (atype := .boolean) (g := F0 m pc ls (.int n :: r.map (pm_tv ad))) (N := n.toNatClampNeg) (n := n) (rest := r.map (pm_tv ad)) (h := H.size) hx hb (hts (.arrayClass .boolean) pm_ac1) rfl hd rfl hcd.1 rfl hbt hc1 hz1 rfl (fun H1 cA1 e1 z1 o1 hAr hNm => ?_)
          have hcA : cA1 = cA 1 := Option.some.inj (hNm.symm.trans (X.1.2 1 _ rfl).2)
          subst hcA
          have hat : va_at D vwCl (H.size, pm_tc ad cA (.inl (1, n.toNatClampNeg, .inl (fun _ => 0)))) H1 := e1
          have hW := pm_Uapp K hl0 hz0 (pm_grow hlt hr X.2.2.1 hA hat z1 o1) hl
          rw [hcs, List.map_cons] at hW
          have hA2 : pm_tv ad (.ref h.length) = .ref H.size := by show Value.ref (ad h.length) = _; rw [hA]
          rw [hA2] at hW
          exact hW
        · cases ho
      · split at ho
        · rename_i hlt
          simp only [pm_nx, Option.some.injEq, Sum.inl.injEq, Prod.mk.injEq] at ho
          obtain ⟨rfl, rfl, rfl, rfl⟩ := ho
          intro H locs ls hr hl T0 hT0 X0
          have hsz := pm_size hE hAd hlt hl0 hr hT0 X0
          have hA : ad h.length = H.size := by rw [hsz]; exact hAd _ (by have : pm_M = 70 := rfl; omega)
          rw [List.length_append] at hc
          rw [pm_sz_app] at hz
          have hcs : pm_csz (.inl (2, n.toNatClampNeg, .inr (.inl (fun _ => 0)))) = n.toNatClampNeg := rfl
          have hc1 : h.length - l0 + 1 ≤ R.cells := by simp at hc; omega
          have hz1 : pm_sz h - z0 + n.toNatClampNeg ≤ R.slots := by rw [hcs] at hz; omega
          have hbt : n.toNatClampNeg * 8 ≤ 536870912 := by omega
          suffices key : W p l e R s m args below meth c H locs (h.length - l0) (pm_sz h - z0) Q (F0 m pc ls (.int n :: r.map (pm_tv ad))) from key T0 hT0 X0
          refine va_newaK (atype := .long) (g := F0 m pc ls (.int n :: r.map (pm_tv ad))) (N := n.toNatClampNeg) (n := n) (rest := r.map (pm_tv ad)) (h := H.size) hx hb (hts (.arrayClass .long) pm_ac2) rfl hd rfl hcd.1 rfl hbt hc1 hz1 rfl (fun H1 cA1 e1 z1 o1 hAr hNm => ?_)
          have hcA : cA1 = cA 2 := Option.some.inj (hNm.symm.trans (X.1.2 2 _ rfl).2)
          subst hcA
          have hat : va_at D vwCl (H.size, pm_tc ad cA (.inl (2, n.toNatClampNeg, .inr (.inl (fun _ => 0))))) H1 := e1
          have hW := pm_Uapp K hl0 hz0 (pm_grow hlt hr X.2.2.1 hA hat z1 o1) hl
          rw [hcs, List.map_cons] at hW
          have hA2 : pm_tv ad (.ref h.length) = .ref H.size := by show Value.ref (ad h.length) = _; rw [hA]
          rw [hA2] at hW
          exact hW
        · cases ho
      · cases ho
    · cases ho
  · cases ho
set_option maxHeartbeats 2000000 in
theorem pm_st_anewarray (F : pm_fx k p R s m args meth c) (X : pm_cx D cA ad base ol s) (hE : l0 < pm_M → s.heap.size = base + l0) (hAd : ∀ i, i < 1000 → ad i = base + i) {i : Instr} {len pos pc' : Nat} {lo' : pm_L} {st' : List Value} {h' : pm_H} {idx : _} (hd : decode (pm_b k) pc = .ok (.anewarray idx, len)) (hj : pm_okJ k pc (.anewarray idx) i len pos = true) (ho : pm_one ol i len pc lo st h = some (.inl (pc', lo', st', h'))) (hl0 : l0 ≤ h.length) (hz0 : z0 ≤ pm_sz h) (hc : h'.length - l0 ≤ R.cells) (hz : pm_sz h' - z0 ≤ R.slots)
    (K : pm_U p l e R s m args below meth c Q D cA ad base k l0 z0 pc' lo' st' h') : pm_U p l e R s m args below meth c Q D cA ad base k l0 z0 pc lo st h := by
  obtain ⟨hx, hb, hml, hrt, hlk, hnm, hown, hts, hrf, hrl⟩ := id F
  simp only [pm_okJ, Bool.and_eq_true, decide_eq_true_eq] at hj
  obtain ⟨⟨rfl, rfl⟩, hw⟩ := hj
  simp only [pm_one, pm_mk] at ho
  split at ho
  · rename_i n r
    split at ho
    · rename_i hcd
      split at ho
      · rename_i hlt
        simp only [pm_nx, Option.some.injEq, Sum.inl.injEq, Prod.mk.injEq] at ho
        obtain ⟨rfl, rfl, rfl, rfl⟩ := ho
        intro H locs ls hr hl T0 hT0 X0
        have hsz := pm_size hE hAd hlt hl0 hr hT0 X0
        have hA : ad h.length = H.size := by rw [hsz]; exact hAd _ (by have : pm_M = 70 := rfl; omega)
        rw [List.length_append] at hc
        rw [pm_sz_app] at hz
        have hcs : pm_csz (.inl (3, n.toNatClampNeg, .inr (.inr (.inr (.inr (fun _ => none)))))) = n.toNatClampNeg := rfl
        have hc1 : h.length - l0 + 1 ≤ R.cells := by simp at hc; omega
        have hz1 : pm_sz h - z0 + n.toNatClampNeg ≤ R.slots := by rw [hcs] at hz; omega
        have hbt : n.toNatClampNeg * 4 ≤ 536870912 := by omega
        suffices key : W p l e R s m args below meth c H locs (h.length - l0) (pm_sz h - z0) Q (F0 m pc ls (.int n :: r.map (pm_tv ad))) from key T0 hT0 X0
        refine W.anew (g := F0 m pc ls (.int n :: r.map (pm_tv ad))) hx hb hown (hts _ (pm_wd_in hw rfl)) (va_AO.use X.2.1) rfl hd rfl hcd.1 hbt hc1 hz1 (fun cA1 kA comp f1 f2 f3 f4 => ?_)
        obtain ⟨kA2, comp2, e1, e2, e3, e4⟩ := (X.1.2 3 _ rfl).2
        have hcA : cA1 = cA 3 := Option.some.inj (f1.symm.trans e4)
        subst hcA
        have hat : va_at D vwCl (H.size, pm_tc ad cA (.inl (3, n.toNatClampNeg, .inr (.inr (.inr (.inr (fun _ => none))))))) (H.push ({ cls := cA 3, slots := Array.replicate n.toNatClampNeg .null, vm := .none } : Cell)) := by
          show (H.push _)[H.size]? = some (vp_cell _ _)
          rw [Array.getElem?_push_size]
          exact congrArg some (arrV_new (cA 3) n.toNatClampNeg .null)
        have hW := pm_Uapp K hl0 hz0 (pm_grow hlt hr X.2.2.1 hA hat (by rw [Array.size_push]) (fun q hq => by rw [Array.getElem?_push, if_neg (Nat.ne_of_lt hq)])) hl
        rw [hcs, List.map_cons] at hW
        have hA2 : pm_tv ad (.ref h.length) = .ref H.size := by show Value.ref (ad h.length) = _; rw [hA]
        rw [hA2] at hW
        exact hW
      · cases ho
    · cases ho
  · cases ho
set_option maxHeartbeats 4000000 in
theorem pm_step (F : pm_fx k p R s m args meth c) (X : pm_cx D cA ad base ol s) (hE : l0 < pm_M → s.heap.size = base + l0) (hAd : ∀ i, i < 1000 → ad i = base + i) (hk : k < 169) {i : Instr} {len pos pc' : Nat} {lo' : pm_L} {st' : List Value} {h' : pm_H} (hi : pm_ins k pc = some (i, len, pos)) (ho : pm_one ol i len pc lo st h = some (.inl (pc', lo', st', h'))) (hl0 : l0 ≤ h.length) (hz0 : z0 ≤ pm_sz h) (hc : h'.length - l0 ≤ R.cells) (hz : pm_sz h' - z0 ≤ R.slots)
    (K : pm_U p l e R s m args below meth c Q D cA ad base k l0 z0 pc' lo' st' h') : pm_U p l e R s m args below meth c Q D cA ad base k l0 z0 pc lo st h := by
  have hok := pm_okk_spec (pm_okr k hk) hi
  unfold pm_okI at hok
  split at hok
  · rename_i i0 len0 hd
    simp only [Bool.and_eq_true, decide_eq_true_eq] at hok
    obtain ⟨hlen, hj⟩ := hok
    subst hlen
    cases i0 with
    | iadd => exact pm_st_iadd F X hE hAd hd hj ho hl0 hz0 hc hz K
    | isub => exact pm_st_isub F X hE hAd hd hj ho hl0 hz0 hc hz K
    | imul => exact pm_st_imul F X hE hAd hd hj ho hl0 hz0 hc hz K
    | iand => exact pm_st_iand F X hE hAd hd hj ho hl0 hz0 hc hz K
    | land => exact pm_st_land F X hE hAd hd hj ho hl0 hz0 hc hz K
    | lor => exact pm_st_lor F X hE hAd hd hj ho hl0 hz0 hc hz K
    | lshl => exact pm_st_lshl F X hE hAd hd hj ho hl0 hz0 hc hz K
    | lshr => exact pm_st_lshr F X hE hAd hd hj ho hl0 hz0 hc hz K
    | lushr => exact pm_st_lushr F X hE hAd hd hj ho hl0 hz0 hc hz K
    | ineg => exact pm_st_ineg F X hE hAd hd hj ho hl0 hz0 hc hz K
    | i2l => exact pm_st_i2l F X hE hAd hd hj ho hl0 hz0 hc hz K
    | l2i => exact pm_st_l2i F X hE hAd hd hj ho hl0 hz0 hc hz K
    | i2b => exact pm_st_i2b F X hE hAd hd hj ho hl0 hz0 hc hz K
    | lcmp => exact pm_st_lcmp F X hE hAd hd hj ho hl0 hz0 hc hz K
    | irem => exact pm_st_irem F X hE hAd hd hj ho hl0 hz0 hc hz K
    | dup => exact pm_st_dup F X hE hAd hd hj ho hl0 hz0 hc hz K
    | dup2 => exact pm_st_dup2 F X hE hAd hd hj ho hl0 hz0 hc hz K
    | pop => exact pm_st_pop F X hE hAd hd hj ho hl0 hz0 hc hz K
    | iconst v => exact pm_st_iconst F X hE hAd hd hj ho hl0 hz0 hc hz K
    | bipush v => exact pm_st_bipush F X hE hAd hd hj ho hl0 hz0 hc hz K
    | sipush v => exact pm_st_sipush F X hE hAd hd hj ho hl0 hz0 hc hz K
    | iload_n n => exact pm_st_iload_n F X hE hAd hd hj ho hl0 hz0 hc hz K
    | iload n => exact pm_st_iload F X hE hAd hd hj ho hl0 hz0 hc hz K
    | aload_n n => exact pm_st_aload_n F X hE hAd hd hj ho hl0 hz0 hc hz K
    | aload n => exact pm_st_aload F X hE hAd hd hj ho hl0 hz0 hc hz K
    | lload_n n => exact pm_st_lload_n F X hE hAd hd hj ho hl0 hz0 hc hz K
    | istore_n n => exact pm_st_istore_n F X hE hAd hd hj ho hl0 hz0 hc hz K
    | istore n => exact pm_st_istore F X hE hAd hd hj ho hl0 hz0 hc hz K
    | astore_n n => exact pm_st_astore_n F X hE hAd hd hj ho hl0 hz0 hc hz K
    | astore n => exact pm_st_astore F X hE hAd hd hj ho hl0 hz0 hc hz K
    | iinc n z => exact pm_st_iinc F X hE hAd hd hj ho hl0 hz0 hc hz K
    | goto o => exact pm_st_goto F X hE hAd hd hj ho hl0 hz0 hc hz K
    | ifCond cnd o => exact pm_st_ifCond F X hE hAd hd hj ho hl0 hz0 hc hz K
    | if_icmp cnd o => exact pm_st_if_icmp F X hE hAd hd hj ho hl0 hz0 hc hz K
    | tableswitch d a b offs => exact pm_st_tableswitch F X hE hAd hd hj ho hl0 hz0 hc hz K
    | lookupswitch d ps => exact pm_st_lookupswitch F X hE hAd hd hj ho hl0 hz0 hc hz K
    | baload => exact pm_st_baload F X hE hAd hd hj ho hl0 hz0 hc hz K
    | laload => exact pm_st_laload F X hE hAd hd hj ho hl0 hz0 hc hz K
    | aaload => exact pm_st_aaload F X hE hAd hd hj ho hl0 hz0 hc hz K
    | iaload => exact pm_st_iaload F X hE hAd hd hj ho hl0 hz0 hc hz K
    | iastore => exact pm_st_iastore F X hE hAd hd hj ho hl0 hz0 hc hz K
    | bastore => exact pm_st_bastore F X hE hAd hd hj ho hl0 hz0 hc hz K
    | lastore => exact pm_st_lastore F X hE hAd hd hj ho hl0 hz0 hc hz K
    | aastore => exact pm_st_aastore F X hE hAd hd hj ho hl0 hz0 hc hz K
    | arraylength => exact pm_st_arraylength F X hE hAd hd hj ho hl0 hz0 hc hz K
    | getfield idx => exact pm_st_getfield F X hE hAd hd hj ho hl0 hz0 hc hz K
    | putfield idx => exact pm_st_putfield F X hE hAd hd hj ho hl0 hz0 hc hz K
    | getstatic idx => exact pm_st_getstatic F X hE hAd hd hj ho hl0 hz0 hc hz K
    | ldc idx => exact pm_st_ldc F X hE hAd hd hj ho hl0 hz0 hc hz K
    | ldc2_w idx => exact pm_st_ldc2_w F X hE hAd hd hj ho hl0 hz0 hc hz K
    | athrow => exact pm_st_athrow F X hE hAd hd hj ho hl0 hz0 hc hz K
    | new idx => exact pm_st_new F X hE hAd hd hj ho hl0 hz0 hc hz K
    | newarray t => exact pm_st_newarray F X hE hAd hd hj ho hl0 hz0 hc hz K
    | anewarray idx => exact pm_st_anewarray F X hE hAd hd hj ho hl0 hz0 hc hz K
    | invokespecial idx => exact pm_st_invokespecial F X hE hAd hd hj ho hl0 hz0 hc hz K
    | invokevirtual idx => exact pm_st_invokevirtual F X hE hAd hd hj ho hl0 hz0 hc hz K
    | invokestatic idx => exact pm_st_invokestatic F X hE hAd hd hj ho hl0 hz0 hc hz K
    | ireturn => exact pm_st_ireturn F X hE hAd hd hj ho hl0 hz0 hc hz K
    | areturn => exact pm_st_areturn F X hE hAd hd hj ho hl0 hz0 hc hz K
    | return_ => exact pm_st_return_ F X hE hAd hd hj ho hl0 hz0 hc hz K
    | _ => exfalso; exact Bool.false_ne_true hj
  · cases hok
end PMS
end
section
/-! A RUN of the pure machine is a run of the real one: what the steps do -/
theorem pm_mk_grow {x : pm_C} {pc pc' : Nat} {lo lo' : pm_L} {st st' : List Value} {h h' : pm_H} (ho : pm_mk x pc lo st h = some (.inl (pc', lo', st', h'))) : h.length ≤ h'.length ∧ pm_sz h ≤ pm_sz h' := by
  unfold pm_mk at ho
  split at ho
  · simp only [pm_nx, Option.some.injEq, Sum.inl.injEq, Prod.mk.injEq] at ho
    obtain ⟨-, -, -, rfl⟩ := ho
    rw [List.length_append, pm_sz_app]
    omega
  · cases ho
theorem pm_nx_grow {pc pc' : Nat} {lo lo' : pm_L} {st st' : List Value} {h h' : pm_H} (ho : pm_nx pc lo st h = some (.inl (pc', lo', st', h'))) : h.length ≤ h'.length ∧ pm_sz h ≤ pm_sz h' := by
  simp only [pm_nx, Option.some.injEq, Sum.inl.injEq, Prod.mk.injEq] at ho
  obtain ⟨-, -, -, rfl⟩ := ho
  exact ⟨Nat.le_refl _, Nat.le_refl _⟩
theorem pm_st_grow {a : Nat} {x y : pm_C} {pc pc' : Nat} {lo lo' : pm_L} {st st' : List Value} {h h' : pm_H} (hx : h[a]? = some x) (he : pm_csz y = pm_csz x) (ho : pm_nx pc lo st (h.set a y) = some (.inl (pc', lo', st', h'))) : h.length ≤ h'.length ∧ pm_sz h ≤ pm_sz h' := by
  simp only [pm_nx, Option.some.injEq, Sum.inl.injEq, Prod.mk.injEq] at ho
  obtain ⟨-, -, -, rfl⟩ := ho
  rw [List.length_set, pm_sz_set hx he]
  exact ⟨Nat.le_refl _, Nat.le_refl _⟩
set_option maxHeartbeats 4000000 in
theorem pm_one_grow {ol : pm_O} {i : Instr} {len pc pc' : Nat} {lo lo' : pm_L} {st st' : List Value} {h h' : pm_H} (ho : pm_one ol i len pc lo st h = some (.inl (pc', lo', st', h'))) : h.length ≤ h'.length ∧ pm_sz h ≤ pm_sz h' := by
  cases i with
  | iastore =>
    simp only [pm_one] at ho
    split at ho
    · split at ho
      · rename_i n f hg
        split at ho
        · exact pm_st_grow (pm_gi_at hg).2 (by rfl) ho
        · cases ho
      · cases ho
    · cases ho
  | bastore =>
    simp only [pm_one] at ho
    split at ho
    · split at ho
      · rename_i n f hg
        split at ho
        · exact pm_st_grow (pm_gi_at hg).2 (by rfl) ho
        · cases ho
      · cases ho
    · cases ho
  | lastore =>
    simp only [pm_one] at ho
    split at ho
    · split at ho
      · rename_i n f hg
        split at ho
        · exact pm_st_grow (pm_gl_at hg).2 (by rfl) ho
        · cases ho
      · cases ho
    · cases ho
  | aastore =>
    simp only [pm_one] at ho
    split at ho
    · split at ho
      · rename_i n f hg
        split at ho
        · split at ho
          · exact pm_st_grow (pm_gq_at hg).2 (by rfl) ho
          · cases ho
        · cases ho
      · cases ho
    · cases ho
  | putfield x =>
    simp only [pm_one] at ho
    split at ho
    · split at ho
      · rename_i ci fs hg
        split at ho
        · exact pm_st_grow (pm_go_at hg).2 (by simp [pm_csz]) ho
        · cases ho
      · cases ho
    · cases ho
  | putstatic x =>
    simp only [pm_one] at ho
    split at ho
    · split at ho
      · rename_i ci fs hg
        split at ho
        · exact pm_st_grow (pm_go_at hg).2 (by simp [pm_csz]) ho
        · cases ho
      · cases ho
    · cases ho
  | checkcast x =>
    simp only [pm_one] at ho
    split at ho
    · split at ho
      · rename_i ci fs hg
        split at ho
        · exact pm_st_grow (pm_go_at hg).2 (by simp [pm_csz]) ho
        · cases ho
      · cases ho
    · cases ho
  | invokedynamic x =>
    simp only [pm_one] at ho
    split at ho
    · split at ho
      · split at ho
        · rename_i n1 g hg
          split at ho
          · exact pm_st_grow (pm_gi_at hg).2 (by rfl) ho
          · cases ho
        · cases ho
      · cases ho
    · cases ho
  | _ => first
    | (cases ho; done)
    | exact pm_nx_grow ho
    | (simp only [pm_one, pm_i2, pm_l2, pm_sh, pm_jmp, pm_call] at ho
       repeat' (split at ho)
       all_goals first
         | (cases ho; done)
         | exact pm_nx_grow ho
         | exact pm_mk_grow ho)
/-- where a step is a call -/
theorem pm_one_call {ol : pm_O} {i : Instr} {len pc k' : Nat} {lo : pm_L} {st as rest : List Value} {h : pm_H} (ho : pm_one ol i len pc lo st h = some (.inr (.inr (k', as, rest)))) :
    pm_cat rest ≤ 8 ∧ (500 ≤ k' ∨ pm_cat as ≤ pm_mL k') ∧ ((∃ (x n b : Nat) (a1 fs : List Value), i = .invokeinterface x n ∧ k' = x % 1000 ∧ as = .ref b :: a1 ∧ pm_pop n st [] = some (as, rest) ∧ pm_go h b = some (x / 1000, fs)) ∨ ∃ n : Nat, i = .multianewarray k' n ∧ pm_pop n st [] = some (as, rest)) := by
  cases i with
  | invokeinterface x n =>
    simp only [pm_one] at ho
    split at ho
    · rename_i b a1 r1 hp
      split at ho
      · rename_i ci fs hg
        split at ho
        · rename_i hci
          unfold pm_call at ho
          split at ho
          · rename_i hcd
            simp only [Option.some.injEq, Sum.inr.injEq, Prod.mk.injEq] at ho
            obtain ⟨rfl, rfl, rfl⟩ := ho
            subst hci
            exact ⟨hcd.1, hcd.2, Or.inl ⟨x, n, b, a1, fs, rfl, rfl, rfl, hp, hg⟩⟩
          · cases ho
        · cases ho
      · cases ho
    · cases ho
  | multianewarray k2 n =>
    simp only [pm_one] at ho
    split at ho
    · rename_i a1 r1 hp
      unfold pm_call at ho
      split at ho
      · rename_i hcd
        simp only [Option.some.injEq, Sum.inr.injEq, Prod.mk.injEq] at ho
        obtain ⟨rfl, rfl, rfl⟩ := ho
        exact ⟨hcd.1, hcd.2, Or.inr ⟨n, rfl, hp⟩⟩
      · cases ho
    · cases ho
  | _ => exfalso; first
    | (cases ho; done)
    | (simp only [pm_one, pm_i2, pm_l2, pm_sh, pm_jmp, pm_mk, pm_nx] at ho
       repeat' (split at ho)
       all_goals (cases ho; done))
/-- where a step is the end -/
theorem pm_one_ret {ol : pm_O} {i : Instr} {len pc : Nat} {lo : pm_L} {st : List Value} {h : pm_H} {v : Option Value} (ho : pm_one ol i len pc lo st h = some (.inr (.inl v))) :
    (∃ x : Int32, i = .ireturn ∧ st = [.int x] ∧ v = some (.int x)) ∨ (∃ x : Int32, i = .freturn ∧ st = [.int x] ∧ v = some (.int x) ∧ (x = 0 ∨ x = 1)) ∨ (∃ x : Nat, i = .areturn ∧ st = [.ref x] ∧ v = some (.ref x)) ∨ (i = .return_ ∧ st = [] ∧ v = none) := by
  cases i with
  | ireturn =>
    simp only [pm_one] at ho
    split at ho
    · rename_i x
      cases ho
      exact Or.inl ⟨x, rfl, rfl, rfl⟩
    · cases ho
  | freturn =>
    simp only [pm_one] at ho
    split at ho
    · rename_i x
      split at ho
      · rename_i hx
        cases ho
        exact Or.inr (Or.inl ⟨x, rfl, rfl, rfl, hx⟩)
      · cases ho
    · cases ho
  | areturn =>
    simp only [pm_one] at ho
    split at ho
    · rename_i x
      cases ho
      exact Or.inr (Or.inr (Or.inl ⟨x, rfl, rfl, rfl⟩))
    · cases ho
  | return_ =>
    simp only [pm_one] at ho
    split at ho
    · cases ho
      exact Or.inr (Or.inr (Or.inr ⟨rfl, rfl, rfl⟩))
    · cases ho
  | _ => exfalso; first
    | (cases ho; done)
    | (simp only [pm_one, pm_i2, pm_l2, pm_sh, pm_jmp, pm_mk, pm_nx, pm_call] at ho
       repeat' (split at ho)
       all_goals (cases ho; done))
theorem pm_pop_spec : ∀ (n : Nat) (st acc as rest : List Value), pm_pop n st acc = some (as, rest) → ∃ a1 : List Value, as = a1 ++ acc ∧ st = a1.reverse ++ rest ∧ a1.length = n := by
  intro n
  induction n with
  | zero => intro st acc as rest h; cases h; exact ⟨[], rfl, rfl, rfl⟩
  | succ n ih =>
    intro st acc as rest h
    cases st with
    | nil => cases h
    | cons v st =>
      obtain ⟨a1, h1, h2, h3⟩ := ih st (v :: acc) as rest h
      refine ⟨a1 ++ [v], by rw [h1]; simp, by rw [h2]; simp, by simp [h3]⟩
theorem pm_lv_mem {L : List Nat} {lo : pm_L} {q : Nat × Value} : q ∈ pm_lv L lo → pm_lg lo q.1 = some q.2 := by
  induction L with
  | nil => intro h; cases h
  | cons j r ih =>
    intro h
    unfold pm_lv at h
    split at h
    · rename_i v hv
      rcases List.mem_cons.mp h with rfl | h
      · exact hv
      · exact ih h
    · exact ih h
theorem pm_lv_has {ad : Nat → Nat} {L : List Nat} {lo : pm_L} {nL : Nat} {ls : Array Slot} (hl : lv_has ls nL (pm_tl ad lo)) : lv_has ls nL (pm_tl ad (pm_lv L lo)) := by
  refine ⟨hl.1, hl.2.1, fun q hq => ?_⟩
  obtain ⟨z, hz, rfl⟩ := List.mem_map.mp hq
  exact pm_lg_at hl (pm_lv_mem hz)
theorem pm_X_grow {ol : pm_O} {orc : pm_Q} (horc : ∀ k as h v h', orc k as h = some (v, h') → h.length ≤ h'.length ∧ pm_sz h ≤ pm_sz h') : ∀ (n k pc : Nat) (lo : pm_L) (st : List Value) (h : pm_H) (v : Option Value) (h' : pm_H), pm_X ol orc n k pc lo st h = some (v, h') → h.length ≤ h'.length ∧ pm_sz h ≤ pm_sz h' := by
  intro n
  induction n with
  | zero => intro k pc lo st h v h' hr; cases hr
  | succ n ih =>
    intro k pc lo st h v h' hr
    rw [pm_X] at hr
    cases hi : pm_ins k pc with
    | none => rw [hi] at hr; cases hr
    | some x =>
      obtain ⟨i, len, q⟩ := x
      rw [hi] at hr
      dsimp only at hr
      cases ho : pm_one ol i len pc (pm_lv (pm_liv k pc) lo) st h with
      | none => rw [ho] at hr; cases hr
      | some y =>
        rw [ho] at hr
        rcases y with ⟨pc', lo', st', h2⟩ | v2 | ⟨k', as, rest⟩
        · have h1 := pm_one_grow ho
          have h3 := ih _ _ _ _ _ _ _ hr
          omega
        · cases hr; exact ⟨Nat.le_refl _, Nat.le_refl _⟩
        · dsimp only at hr
          by_cases hk : k' < 500
          · simp only [if_pos hk] at hr
            cases hc : pm_X ol orc n k' 0 (lv_args 0 as) [] h with
            | none => rw [hc] at hr; cases hr
            | some z =>
              obtain ⟨v3, h3⟩ := z
              rw [hc] at hr
              have g1 := ih _ _ _ _ _ _ _ hc
              have g2 := ih _ _ _ _ _ _ _ hr
              omega
          · simp only [if_neg hk] at hr
            cases hc : orc k' as h with
            | none => rw [hc] at hr; cases hr
            | some z =>
              obtain ⟨v3, h3⟩ := z
              rw [hc] at hr
              have g1 := horc _ _ _ _ _ hc
              have g2 := ih _ _ _ _ _ _ _ hr
              omega
theorem pm_lgsl (ad : Nat → Nat) : ∀ as : List Value, (lg_sl (as.map (pm_tv ad))).length = pm_cat as := by
  intro as
  induction as with
  | nil => rfl
  | cons v r ih =>
    show (lg_sl (pm_tv ad v :: r.map (pm_tv ad))).length = pm_cat (v :: r)
    unfold lg_sl at ih ⊢
    rw [List.flatMap_cons, List.length_append, ih, pm_tv_cat]
    unfold pm_cat
    rw [List.map_cons, List.sum_cons]
    rcases lv_cat v with q | q <;> rw [q] <;> rfl
theorem pm_largs (ad : Nat → Nat) : ∀ (as : List Value) (i : Nat), lv_args i (as.map (pm_tv ad)) = pm_tl ad (lv_args i as) := by
  intro as
  induction as with
  | nil => intro i; rfl
  | cons v r ih =>
    intro i
    show (i, pm_tv ad v) :: lv_args (if (pm_tv ad v).category = 2 then i + 2 else i + 1) (r.map (pm_tv ad)) = (i, pm_tv ad v) :: pm_tl ad (lv_args (if v.category = 2 then i + 2 else i + 1) r)
    rw [pm_tv_cat, ih]
theorem pm_good {ws : List Jvm.Cond} (h : ∀ w ∈ ws, w ∈ pm_ws) : GoodIn pm_ws ws := fun w hw => ⟨h w hw, good_of_word (List.mem_filter.mp (h w hw)).2⟩
set_option maxHeartbeats 4000000 in
/-- the instruction under a pure call -/
theorem pm_okcall {k pc x n len pos : Nat} {i0 : Instr} (hj : pm_okJ k pc i0 (.invokeinterface x n) len pos = true) : len = 3 ∧ ((∃ idx, i0 = .invokevirtual idx ∧ pm_okc k idx pos (x % 1000) n 0 (x / 1000) = true) ∨ ∃ idx, i0 = .invokespecial idx ∧ pm_okc k idx pos (x % 1000) n 2 (x / 1000) = true) := by
  cases i0 with
  | invokevirtual idx =>
    simp only [pm_okJ, Bool.and_eq_true, decide_eq_true_eq] at hj
    exact ⟨hj.1, Or.inl ⟨idx, rfl, hj.2⟩⟩
  | invokespecial idx =>
    simp only [pm_okJ, Bool.and_eq_true, decide_eq_true_eq] at hj
    exact ⟨hj.1, Or.inr ⟨idx, rfl, hj.2⟩⟩
  | _ => exfalso; simp [pm_okJ, pm_plain] at hj
set_option maxHeartbeats 4000000 in
theorem pm_okcalls {k pc k' n len pos : Nat} {i0 : Instr} (hj : pm_okJ k pc i0 (.multianewarray k' n) len pos = true) : len = 3 ∧ ∃ idx, i0 = .invokestatic idx ∧ ((500 ≤ k' ∧ k = 168) ∨ pm_okc k idx pos k' n 1 (pm_mi k').2.2.1 = true) := by
  cases i0 with
  | invokestatic idx =>
    simp only [pm_okJ, Bool.and_eq_true, Bool.or_eq_true, decide_eq_true_eq] at hj
    exact ⟨hj.1, idx, rfl, hj.2⟩
  | _ => exfalso; simp [pm_okJ, pm_plain] at hj
theorem pm_okc_spec {k idx pos k' n kind ci : Nat} (h : pm_okc k idx pos k' n kind ci = true) : k' < 168 ∧ Jvm.Cond.methodLink (pm_y k).cls idx (pm_y k') ∈ pm_ws ∧ (pm_mi k').1 = kind ∧ (pm_mi k').2.2.1 = ci ∧ n = (pm_mi k').2.1 + (if kind = 1 then 0 else 1) ∧ pm_rf k' + 1 ≤ pm_rf k ∧ 8 + (pm_mL k' + 11) + pm_rl k' ≤ pm_rl k := by
  simp only [pm_okc, Bool.and_eq_true, decide_eq_true_eq] at h
  obtain ⟨⟨⟨⟨⟨⟨h1, h2⟩, h3⟩, h4⟩, h5⟩, h6⟩, h7⟩ := h
  exact ⟨h1, pm_wd_in h2 rfl, h3, h4, h5, h6, h7⟩
set_option maxHeartbeats 4000000 in
theorem pm_okret {k pc len pos : Nat} {i0 pi : Instr} (hj : pm_okJ k pc i0 pi len pos = true) : (pi = .ireturn → i0 = .ireturn ∧ len = 1 ∧ pm_rt k = some .int) ∧ (pi = .freturn → i0 = .ireturn ∧ len = 1 ∧ pm_rt k = some .boolean) ∧ (pi = .areturn → i0 = .areturn ∧ len = 1 ∧ ∃ C, pm_rt k = some (.object C)) ∧ (pi = .return_ → i0 = .return_ ∧ len = 1 ∧ pm_rt k = none) := by
  refine ⟨?_, ?_, ?_, ?_⟩ <;> (intro hp; subst hp)
  · cases i0 with
    | ireturn => simp [pm_okJ] at hj; exact ⟨rfl, hj.2, hj.1⟩
    | _ => exfalso; simp [pm_okJ, pm_plain] at hj
  · cases i0 with
    | ireturn => simp [pm_okJ] at hj; exact ⟨rfl, hj.2, hj.1⟩
    | _ => exfalso; simp [pm_okJ, pm_plain] at hj
  · cases i0 with
    | areturn =>
      simp only [pm_okJ, Bool.and_eq_true, decide_eq_true_eq] at hj
      obtain ⟨⟨-, h1⟩, h2⟩ := hj
      split at h2
      · rename_i C hC
        exact ⟨rfl, h1, C, hC⟩
      · cases h2
    | _ => exfalso; simp [pm_okJ, pm_plain] at hj
  · cases i0 with
    | return_ => simp [pm_okJ] at hj; exact ⟨rfl, hj.1, hj.2⟩
    | _ => exfalso; simp [pm_okJ, pm_plain] at hj
end
section
/-! THE SOUNDNESS of the pure machine -/
def pm_Pc (D : va_G) (cA : Nat → ClassId) (ad : Nat → Nat) (base : Nat) (ol : pm_O) (as : List Value) (h : pm_H) : Array Value → State → Prop := fun a U =>
  a = (as.map (pm_tv ad)).toArray ∧ pm_cx D cA ad base ol U ∧ va_P D vwCl (pm_w ad cA 0 (h.take pm_M)) U.heap ∧ va_D (pm_A base) (pm_w ad cA 0 (h.take pm_M)) ∧ (h.length < pm_M → U.heap.size = base + h.length)
def pm_Qc (D : va_G) (cA : Nat → ClassId) (ad : Nat → Nat) (base : Nat) (v : Option Value) (h : pm_H) : Array Value → State → Outcome → State → Prop := fun _ st o t =>
  o = .returned (v.map (pm_tv ad)) ∧ va_P D vwCl (pm_w ad cA 0 (h.take pm_M)) t.heap ∧ va_D (pm_A base) (pm_w ad cA 0 (h.take pm_M)) ∧ va_F (pm_A base) st t
theorem pm_blind {D : va_G} {cA : Nat → ClassId} {ad : Nat → Nat} {base : Nat} {ol : pm_O} {as : List Value} {h : pm_H} : FrameBlind (pm_Pc D cA ad base ol as h) := by
  intro a U g mk hh
  obtain ⟨h1, h2, h3, h4, h5⟩ := hh
  exact ⟨h1, pm_cx.moved (locs := []) h2 (State.WarmedH.refl U) rfl va_S.rf, h3, h4, h5⟩
section PMT
variable {p : Program} {l : Launch} {e : Env} {R : Room} {s : State} {m : MethodId} {args : Array Value} {below : List Frame} {meth : Method} {c : Code} {Q : State → Prop}
variable {D : va_G} {cA : Nat → ClassId} {ad : Nat → Nat} {base : Nat} {ol : pm_O} {k l0 z0 pc : Nat} {lo : pm_L} {st : List Value} {h : pm_H}
/-- behind a call -/
theorem pm_after {rest : List Value} {As : Array Value} {v : Option Value} {h1 : pm_H} {H : Heap} {locs : List Loc} {ls : Array Slot} (hrun : va_Run p l e R s m args below meth c H locs (h.length - l0) (pm_sz h - z0) (h1.length - h.length) (pm_sz h1 - pm_sz h) (F0 m pc ls (st.map (pm_tv ad))) (rest.map (pm_tv ad)) (pm_Qc D cA ad base v h1 As) (pm_A base)) (hl0 : l0 ≤ h.length) (hz0 : z0 ≤ pm_sz h) (hg : h.length ≤ h1.length) (hgz : pm_sz h ≤ pm_sz h1) (hr : pm_hr D cA ad base s h H locs) (hl : lv_has ls (pm_mL k) (pm_tl ad lo))
    (K : pm_U p l e R s m args below meth c Q D cA ad base k l0 z0 (pc + 3) lo (v.toList ++ rest) h1) : W p l e R s m args below meth c H locs (h.length - l0) (pm_sz h - z0) Q (F0 m pc ls (st.map (pm_tv ad))) := by
  intro T hT X
  obtain ⟨v', st₀, t, T', L, h0, X', hL, e1, e2, ⟨hv, hP1, hD1, hF⟩, go⟩ := hrun T hT X
  cases hv
  obtain ⟨hF1, hF2⟩ := hF
  rw [h0] at hF1 hF2
  have hS := hr.2.2
  have hS1 : va_S (pm_A base) s.heap T'.heap (locs ++ L) := by
    refine ⟨Nat.le_trans hS.1 (by rw [e1]; exact hF1), fun q g1 g2 => ?_, fun q hq => ?_⟩
    · rw [e1, hF2 q (Nat.lt_of_lt_of_le g1 hS.1) g2]
      exact hS.2.1 q g1 g2
    · rcases List.mem_append.mp hq with g | g
      · exact hS.2.2 q g
      · exact hL q g
  have hK := K T'.heap (locs ++ L) ls ⟨by rw [e1]; exact hP1, hD1, hS1⟩ hl
  have ec : h1.length - l0 = h.length - l0 + (h1.length - h.length) := by omega
  have ez : pm_sz h1 - z0 = pm_sz h - z0 + (pm_sz h1 - pm_sz h) := by omega
  have es : (v.toList ++ rest).map (pm_tv ad) = (v.map (pm_tv ad)).toList ++ rest.map (pm_tv ad) := by
    rw [List.map_append]
    cases v <;> rfl
  rw [ec, ez, es] at hK
  obtain ⟨t2, a1, b1⟩ := hK T' rfl X'
  exact ⟨t2, go t2 a1, b1⟩
/-- the contract of a method out of its body -/
theorem pm_metOf {k' : Nat} (hk : k' < 168) {as : List Value} {h1 : pm_H} {v : Option Value} (hcat : pm_cat as ≤ pm_mL k')
    (body : ∀ (p : Program) (e : Env) (R : Room) (s : State) (m : MethodId) (args : Array Value) (below : List Frame) (meth : Method) (c : Code), pm_fx k' p R s m args meth c → pm_cx D cA ad base ol s → (h.length < pm_M → s.heap.size = base + h.length) → h1.length - h.length ≤ R.cells → pm_sz h1 - pm_sz h ≤ R.slots → pm_U p l e R s m args below meth c (MQ below (pm_Qc D cA ad base v h1) args s (h1.length - h.length) (pm_sz h1 - pm_sz h) (pm_A base)) D cA ad base k' h.length (pm_sz h) 0 (lv_args 0 as) [] h) :
    Met l (pm_y k') (Jvm.Cond.code (pm_y k') (pm_b k') (pm_mL k') (pm_rt k') :: pm_ws) { frames := pm_rf k', cells := h1.length - h.length, slots := pm_sz h1 - pm_sz h, locals := pm_rl k' } (pm_Pc D cA ad base ol as h) (pm_Qc D cA ad base v h1) (h1.length - h.length) (pm_sz h1 - pm_sz h) (pm_A base) := by
  obtain ⟨m1, m2, m3, m4, m5, m6⟩ := pm_mok k' hk
  refine Met.ofW (cc := pm_b k') (maxL := pm_mL k') (ret := pm_rt k') m3 rfl ?_
  intro p e s m args below meth c s₁ B hml hv
  obtain ⟨rfl, hcx, hP, hD, hsz⟩ := hv
  have hts := atoms_spec (ws := Jvm.Cond.code (pm_y k') (pm_b k') (pm_mL k') (pm_rt k') :: pm_ws) B.pre
  have hF : pm_fx k' p { frames := pm_rf k', cells := h1.length - h.length, slots := pm_sz h1 - pm_sz h, locals := pm_rl k' } s m (as.map (pm_tv ad)).toArray meth c := ⟨B.exec, B.bytes, hml, B.returns, B.notSynchronized, (name_of_methodNamed B.named B.method).1, findClass_of_methodNamed B.named, fun w hw => hts w (List.mem_cons_of_mem _ hw), Nat.le_refl _, Nat.le_refl _⟩
  have hU := body p e _ s m _ below meth c hF hcx hsz (Nat.le_refl _) (Nat.le_refl _)
  have hl := lv_entry (as.map (pm_tv ad)) (n := pm_mL k') (by rw [pm_lgsl]; exact hcat)
  rw [pm_largs] at hl
  have hW := hU s.heap [] _ ⟨hP, hD, va_S.rf⟩ hl
  rw [Nat.sub_self, Nat.sub_self] at hW
  rw [lg_entry_eq]
  exact hW
/-- the call of a method whose contract is known -/
theorem pm_callRun {i0 : Instr} {k' idx pos n : Nat} {as a0 rest : List Value} {v : Option Value} {h1 : pm_H} {H : Heap} {locs : List Loc} {ls : Array Slot} {kind ci : Nat} (F : pm_fx k p R s m args meth c) (X : pm_cx D cA ad base ol s) (hE : l0 < pm_M → s.heap.size = base + l0) (hAd : ∀ i, i < 1000 → ad i = base + i) (hl0 : l0 ≤ h.length)
    (hM : Met l (pm_y k') (Jvm.Cond.code (pm_y k') (pm_b k') (pm_mL k') (pm_rt k') :: pm_ws) { frames := pm_rf k', cells := h1.length - h.length, slots := pm_sz h1 - pm_sz h, locals := pm_rl k' } (pm_Pc D cA ad base ol as h) (pm_Qc D cA ad base v h1) (h1.length - h.length) (pm_sz h1 - pm_sz h) (pm_A base))
    (hok : pm_okc k idx pos k' n kind ci = true) (hpop : pm_pop n st [] = some (as, rest)) (hcat : pm_cat rest ≤ 8) (hd : decode (pm_b k) pc = .ok (i0, 3))
    (hkd : (kind = 0 ∧ i0 = .invokevirtual idx) ∨ (kind = 1 ∧ i0 = .invokestatic idx) ∨ (kind = 2 ∧ i0 = .invokespecial idx))
    (hrec : kind ≠ 1 → ∃ (b : Nat) (a1 fs : List Value), as = .ref b :: a1 ∧ pm_go h b = some (ci, fs))
    (hr : pm_hr D cA ad base s h H locs) (hl : lv_has ls (pm_mL k) (pm_tl ad lo)) (hf1 : h.length - l0 + (h1.length - h.length) ≤ R.cells) (hf2 : pm_sz h - z0 + (pm_sz h1 - pm_sz h) ≤ R.slots)
    (K : va_Run p l e R s m args below meth c H locs (h.length - l0) (pm_sz h - z0) (h1.length - h.length) (pm_sz h1 - pm_sz h) (F0 m pc ls (st.map (pm_tv ad))) (rest.map (pm_tv ad)) (pm_Qc D cA ad base v h1 (as.map (pm_tv ad)).toArray) (pm_A base) → W p l e R s m args below meth c H locs (h.length - l0) (pm_sz h - z0) Q (F0 m pc ls (st.map (pm_tv ad)))) : W p l e R s m args below meth c H locs (h.length - l0) (pm_sz h - z0) Q (F0 m pc ls (st.map (pm_tv ad))) := by
  obtain ⟨hx, hb, hml, hrt, hlk, hnm, hown, hts, hrf, hrl⟩ := id F
  obtain ⟨c1, c2, c3, c4, c5, c6, c7⟩ := pm_okc_spec hok
  obtain ⟨m1, m2, m3, m4, m5, m6⟩ := pm_mok k' c1
  obtain ⟨a1, rfl, hst, hln⟩ := pm_pop_spec _ _ _ _ _ hpop
  rw [List.append_nil] at hrec hM K
  rw [List.append_nil] at hpop
  intro T hT X0
  have hpre : ∀ U : State, U.heap = H → s.WarmedH U.vm → pm_Pc D cA ad base ol a1 h (a1.map (pm_tv ad)).toArray U := fun U hU hW =>
    ⟨rfl, pm_cx.moved X hW hU hr.2.2, by rw [hU]; exact hr.1, hr.2.1, fun g => by rw [hU]; exact pm_size hE hAd g hl0 hr hT X0⟩
  have hbm : ∀ w ∈ (Jvm.Cond.code (pm_y k') (pm_b k') (pm_mL k') (pm_rt k') :: pm_ws), w ∈ pm_ws := fun w hw => by
    rcases List.mem_cons.mp hw with rfl | hw
    · exact m1
    · exact hw
  have hwr : 2 * (F0 m pc ls (st.map (pm_tv ad))).monitorRoom + ((rest.map (pm_tv ad)).map fun v => v.category).sum ≤ 8 := by
    rw [pm_cat_tv]
    show 2 * 0 + pm_cat rest ≤ 8
    omega
  have hR2 : pm_rf k' + 1 ≤ R.frames ∧ 8 + (pm_mL k' + 11) + pm_rl k' ≤ R.locals := ⟨by omega, by omega⟩
  have hCF : CallFix p m c (pm_b k) (pm_mL k) s args pm_ws (pm_y k).cls := ⟨hx, hb, hml, hown, hts⟩
  rcases hkd with ⟨rfl, rfl⟩ | ⟨rfl, rfl⟩ | ⟨rfl, rfl⟩
  · -- virtual
    obtain ⟨b, a2, fs, rfl, hgo⟩ := hrec (by decide)
    obtain ⟨hb1, hb2⟩ := pm_go_at hgo
    rcases m6 with ⟨-, q1, q2, q3⟩ | ⟨q, -⟩ | ⟨q, -⟩
    · rw [c4] at q3
      cases hvc : vwCl[ci]? with
      | none => rw [hvc] at q3; cases q3
      | some r =>
        rw [hvc] at q3
        have hC : r.1 = (pm_y k').cls := Option.some.inj q3
        have hrv := va_recv X.1 hr.1 hvc (pm_t_at hb1 hb2)
        rw [hC] at hrv
        refine K ?_ T hT X0
        refine va_runV (As := a2.map (pm_tv ad)) (b := ad b) (n := (pm_mi k').2.1) (C := (pm_y k').cls) (own := (pm_y k).cls) (index := idx) (y := pm_y k') (Ts := pm_ws) hCF hM (cwV (pm_mi k').2.1 hts (pm_good (fun w hw => ?_)) rfl rfl rfl ⟨rfl, m4.1, m4.2, m5⟩ hR2) ⟨pm_blind, hrv, fun U hU hW => hpre U hU hW⟩ rfl ?_ (by rw [hl.1]) ?_ hwr hd ⟨hf1, hf2⟩
        · unfold wsV at hw
          rcases List.mem_append.mp hw with hw | hw
          · simp only [List.mem_cons, List.not_mem_nil, or_false] at hw
            rcases hw with rfl | rfl | rfl | rfl
            · exact c2
            · exact q1
            · exact q2
            · exact m2
          · exact hbm w hw
        · rw [List.length_map]
          simp at hln c5
          omega
        · show st.map (pm_tv ad) = _
          rw [hst]
          simp [pm_tv]
    · rw [c3] at q; cases q
    · rw [c3] at q; cases q
  · -- static
    rcases m6 with ⟨q, -⟩ | ⟨-, q1⟩ | ⟨q, -⟩
    · rw [c3] at q; cases q
    · refine K ?_ T hT X0
      refine va_runS (As := a1.map (pm_tv ad)) (n := (pm_mi k').2.1) (own := (pm_y k).cls) (index := idx) (y := pm_y k') (Ts := pm_ws) hCF hM ⟨callB_of (pm_mi k').2.1 hts (pm_good hbm) rfl rfl rfl (hts _ m2) (hts _ c2) ⟨m4.1, m4.2, m5⟩ hR2, hts _ q1⟩ ⟨pm_blind, fun U hU hW => hpre U hU hW⟩ rfl ?_ (by rw [hl.1]) ?_ hwr hd ⟨hf1, hf2⟩
      · rw [List.length_map]
        simp at c5
        omega
      · show st.map (pm_tv ad) = _
        rw [hst]
        simp
    · rw [c3] at q; cases q
  · -- a constructor
    obtain ⟨b, a2, fs, rfl, hgo⟩ := hrec (by decide)
    rcases m6 with ⟨q, -⟩ | ⟨q, -⟩ | ⟨-, q1, q2, q3⟩
    · rw [c3] at q; cases q
    · rw [c3] at q; cases q
    · refine K ?_ T hT X0
      rw [q3] at hM hbm m1
      refine va_runI (As := a2.map (pm_tv ad)) (b := ad b) (n := (pm_mi k').2.1) (own := (pm_y k).cls) (index := idx) (y := pm_y k') (Ts := pm_ws) hCF hM ⟨callB_of (pm_mi k').2.1 hts (pm_good hbm) rfl rfl rfl (hts _ m2) (hts _ c2) ⟨m4.1, m4.2, m5⟩ hR2, q2, hts _ q1⟩ ⟨pm_blind, fun U hU hW => hpre U hU hW⟩ rfl ?_ (by rw [hl.1]) ?_ hwr hd ⟨hf1, hf2⟩
      · rw [List.length_map]
        simp at hln c5
        omega
      · show st.map (pm_tv ad) = _
        rw [hst]
        simp [pm_tv]
end PMT
end
section
/-! THE SOUNDNESS of the pure machine: every run -/
def pm_orcG (orc : pm_Q) : Prop := ∀ (k : Nat) (as : List Value) (h : pm_H) (v : Option Value) (h' : pm_H), orc k as h = some (v, h') → h.length ≤ h'.length ∧ pm_sz h ≤ pm_sz h'
/-- what the machine does where the law calls a method from 500 on -/
def pm_orcOK (l : Launch) (D : va_G) (cA : Nat → ClassId) (ad : Nat → Nat) (base : Nat) (ol : pm_O) (orc : pm_Q) : Prop :=
  ∀ (k' n idx pos pc l0 z0 : Nat) (as rest st : List Value) (lo : pm_L) (h h1 : pm_H) (v : Option Value) (p : Program) (e : Env) (R : Room) (s : State) (m : MethodId) (args : Array Value) (below : List Frame) (meth : Method) (c : Code) (H : Heap) (locs : List Loc) (ls : Array Slot),
    orc k' as h = some (v, h1) → 500 ≤ k' → pm_fx 168 p R s m args meth c → pm_cx D cA ad base ol s → (l0 < pm_M → s.heap.size = base + l0) → l0 ≤ h.length → z0 ≤ pm_sz h → pm_ins 168 pc = some (.multianewarray k' n, 3, pos) → decode (pm_b 168) pc = .ok (.invokestatic idx, 3) → pm_pop n st [] = some (as, rest) → pm_cat rest ≤ 8 →
    pm_hr D cA ad base s h H locs → lv_has ls (pm_mL 168) (pm_tl ad lo) → h.length - l0 + (h1.length - h.length) ≤ R.cells → pm_sz h - z0 + (pm_sz h1 - pm_sz h) ≤ R.slots →
    va_Run p l e R s m args below meth c H locs (h.length - l0) (pm_sz h - z0) (h1.length - h.length) (pm_sz h1 - pm_sz h) (F0 m pc ls (st.map (pm_tv ad))) (rest.map (pm_tv ad)) (pm_Qc D cA ad base v h1 (as.map (pm_tv ad)).toArray) (pm_A base)
set_option maxHeartbeats 4000000 in
theorem pm_sound {l : Launch} {D : va_G} {cA : Nat → ClassId} {ad : Nat → Nat} {base : Nat} {ol : pm_O} {orc : pm_Q} (hAd : ∀ i, i < 1000 → ad i = base + i) (hG : pm_orcG orc) (hO : pm_orcOK l D cA ad base ol orc) :
    ∀ (n k pc : Nat) (lo : pm_L) (st : List Value) (h : pm_H) (v : Option Value) (h' : pm_H), pm_X ol orc n k pc lo st h = some (v, h') → k < 169 →
    ∀ (p : Program) (e : Env) (R : Room) (s : State) (m : MethodId) (args : Array Value) (below : List Frame) (meth : Method) (c : Code) (l0 z0 : Nat), pm_fx k p R s m args meth c → pm_cx D cA ad base ol s → (l0 < pm_M → s.heap.size = base + l0) → l0 ≤ h.length → z0 ≤ pm_sz h → h'.length - l0 ≤ R.cells → pm_sz h' - z0 ≤ R.slots →
    pm_U p l e R s m args below meth c (MQ below (pm_Qc D cA ad base v h') args s (h'.length - l0) (pm_sz h' - z0) (pm_A base)) D cA ad base k l0 z0 pc lo st h := by
  intro n
  induction n with
  | zero => intro k pc lo st h v h' hr; cases hr
  | succ n ih =>
    intro k pc lo st h v h' hr hk p e R s m args below meth c l0 z0 F X hE hl0 hz0 hc hz
    rw [pm_X] at hr
    cases hi : pm_ins k pc with
    | none => rw [hi] at hr; cases hr
    | some x =>
      obtain ⟨i, len, pos⟩ := x
      rw [hi] at hr
      dsimp only at hr
      suffices hU : pm_U p l e R s m args below meth c (MQ below (pm_Qc D cA ad base v h') args s (h'.length - l0) (pm_sz h' - z0) (pm_A base)) D cA ad base k l0 z0 pc (pm_lv (pm_liv k pc) lo) st h from fun H locs ls hR hl => hU H locs ls hR (pm_lv_has hl)
      generalize pm_lv (pm_liv k pc) lo = lo at hr ⊢
      cases ho : pm_one ol i len pc lo st h with
      | none => rw [ho] at hr; cases hr
      | some y =>
        rw [ho] at hr
        rcases y with ⟨pc', lo', st', h2⟩ | v2 | ⟨k', as, rest⟩
        · have g1 := pm_one_grow ho
          have g2 := pm_X_grow hG _ _ _ _ _ _ _ _ hr
          exact pm_step F X hE hAd hk hi ho hl0 hz0 (by omega) (by omega) (ih _ _ _ _ _ _ _ hr hk p e R s m args below meth c l0 z0 F X hE (by omega) (by omega) hc hz)
        · cases hr
          have hok := pm_okk_spec (pm_okr k hk) hi
          unfold pm_okI at hok
          split at hok
          · rename_i i0 len0 hd
            simp only [Bool.and_eq_true, decide_eq_true_eq] at hok
            obtain ⟨hlen, hj⟩ := hok
            subst hlen
            obtain ⟨o1, o2, o3, o4⟩ := pm_okret hj
            obtain ⟨hx, hb, hml, hrt, hlk, hnm, hown, hts, hrf, hrl⟩ := id F
            intro H locs ls hR hl
            have hq : ∀ (w : Option Value) (t : State), t.heap = H → s.WarmedH t.vm → pm_Qc D cA ad base w h args s (.returned (w.map (pm_tv ad))) t := fun w t ht _ => ⟨rfl, by rw [ht]; exact hR.1, hR.2.1, va_S.F hR.2.2 ht⟩
            rcases pm_one_ret ho with ⟨x, rfl, rfl, rfl⟩ | ⟨x, rfl, rfl, rfl, h01⟩ | ⟨x, rfl, rfl, rfl⟩ | ⟨rfl, rfl, rfl⟩
            · obtain ⟨rfl, rfl, q⟩ := o1 rfl
              exact W.iret hx hb (hrt.trans q) (hq (some (.int x))) hR.2.2.2.2 hd
            · obtain ⟨rfl, rfl, q⟩ := o2 rfl
              exact W.zret hx hb (hrt.trans q) (by rcases h01 with rfl | rfl <;> rfl) (hq (some (.int x))) hR.2.2.2.2 hd
            · obtain ⟨rfl, rfl, C, q⟩ := o3 rfl
              exact W.aret hx hb (hrt.trans q) (Or.inl ⟨C, rfl⟩) (Or.inr ⟨_, rfl⟩) (hq (some (.ref x))) hR.2.2.2.2 hd
            · obtain ⟨rfl, rfl, q⟩ := o4 rfl
              exact W.vret hx hb (hrt.trans q) (hq none) hR.2.2.2.2 hd
          · cases hok
        · dsimp only at hr
          obtain ⟨q1, q2, q3⟩ := pm_one_call ho
          have hok := pm_okk_spec (pm_okr k hk) hi
          unfold pm_okI at hok
          split at hok
          · rename_i i0 len0 hd
            simp only [Bool.and_eq_true, decide_eq_true_eq] at hok
            obtain ⟨hlen, hj⟩ := hok
            subst hlen
            by_cases hk5 : k' < 500
            · simp only [if_pos hk5] at hr
              cases hcl : pm_X ol orc n k' 0 (lv_args 0 as) [] h with
              | none => rw [hcl] at hr; cases hr
              | some z =>
                obtain ⟨v3, h3⟩ := z
                rw [hcl] at hr
                dsimp only at hr
                have g1 := pm_X_grow hG _ _ _ _ _ _ _ _ hcl
                have g2 := pm_X_grow hG _ _ _ _ _ _ _ _ hr
                have hcat : pm_cat as ≤ pm_mL k' := by
                  rcases q2 with q | q
                  · omega
                  · exact q
                have K := ih _ _ _ _ _ _ _ hr hk p e R s m args below meth c l0 z0 F X hE (by omega) (by omega) hc hz
                have hMet := fun hk1 : k' < 168 => pm_metOf (l := l) (h := h) (as := as) (h1 := h3) (v := v3) (D := D) (cA := cA) (ad := ad) (base := base) (ol := ol) hk1 hcat (fun p e R s m args below meth c F1 X1 hE1 b1 b2 => ih _ _ _ _ _ _ _ hcl (by omega) p e R s m args below meth c h.length (pm_sz h) F1 X1 hE1 (Nat.le_refl _) (Nat.le_refl _) b1 b2)
                rcases q3 with ⟨x, n1, b, a1, fs, rfl, hk', has, hpop, hgo⟩ | ⟨n1, rfl, hpop⟩
                · obtain ⟨rfl, hcase⟩ := pm_okcall hj
                  rw [← hk'] at hcase
                  intro H locs ls hR hl
                  rcases hcase with ⟨idx, rfl, hokc⟩ | ⟨idx, rfl, hokc⟩
                  · exact pm_callRun (a0 := []) F X hE hAd hl0 (hMet (pm_okc_spec hokc).1) hokc hpop q1 hd (Or.inl ⟨rfl, rfl⟩) (fun _ => ⟨b, a1, fs, has, hgo⟩) hR hl (by omega) (by omega) (fun hrun => pm_after hrun hl0 hz0 g1.1 g1.2 hR hl K)
                  · exact pm_callRun (a0 := []) F X hE hAd hl0 (hMet (pm_okc_spec hokc).1) hokc hpop q1 hd (Or.inr (Or.inr ⟨rfl, rfl⟩)) (fun _ => ⟨b, a1, fs, has, hgo⟩) hR hl (by omega) (by omega) (fun hrun => pm_after hrun hl0 hz0 g1.1 g1.2 hR hl K)
                · obtain ⟨rfl, idx, rfl, hcase⟩ := pm_okcalls hj
                  rcases hcase with ⟨hbad, -⟩ | hokc
                  · omega
                  · intro H locs ls hR hl
                    exact pm_callRun (a0 := []) F X hE hAd hl0 (hMet (pm_okc_spec hokc).1) hokc hpop q1 hd (Or.inr (Or.inl ⟨rfl, rfl⟩)) (fun g => absurd rfl g) hR hl (by omega) (by omega) (fun hrun => pm_after hrun hl0 hz0 g1.1 g1.2 hR hl K)
            · simp only [if_neg hk5] at hr
              cases hcl : orc k' as h with
              | none => rw [hcl] at hr; cases hr
              | some z =>
                obtain ⟨v3, h3⟩ := z
                rw [hcl] at hr
                dsimp only at hr
                have g1 := hG _ _ _ _ _ hcl
                have g2 := pm_X_grow hG _ _ _ _ _ _ _ _ hr
                have K := ih _ _ _ _ _ _ _ hr hk p e R s m args below meth c l0 z0 F X hE (by omega) (by omega) hc hz
                rcases q3 with ⟨x, n1, b, a1, fs, rfl, hk', has, hpop, hgo⟩ | ⟨n1, rfl, hpop⟩
                · obtain ⟨rfl, hcase⟩ := pm_okcall hj
                  rw [← hk'] at hcase
                  rcases hcase with ⟨idx, rfl, hokc⟩ | ⟨idx, rfl, hokc⟩
                  · have := (pm_okc_spec hokc).1
                    omega
                  · have := (pm_okc_spec hokc).1
                    omega
                · obtain ⟨rfl, idx, rfl, hcase⟩ := pm_okcalls hj
                  rcases hcase with ⟨-, rfl⟩ | hokc
                  · intro H locs ls hR hl
                    exact pm_after (hO k' n1 idx pos pc l0 z0 as rest st lo h h3 v3 p e R s m args below meth c H locs ls hcl (by omega) F X hE hl0 hz0 hi hd hpop q1 hR hl (by omega) (by omega)) hl0 hz0 g1.1 g1.2 hR hl K
                  · have := (pm_okc_spec hokc).1
                    omega
          · cases hok
/-- a method's contract out of a pure run of it that asks no oracle -/
theorem pm_met {l : Launch} {D : va_G} {cA : Nat → ClassId} {ad : Nat → Nat} {base : Nat} {ol : pm_O} (hAd : ∀ i, i < 1000 → ad i = base + i) {n k : Nat} {as : List Value} {h h1 : pm_H} {v : Option Value} (hk : k < 168) (hcat : pm_cat as ≤ pm_mL k) (hx : pm_X ol (fun _ _ _ => none) n k 0 (lv_args 0 as) [] h = some (v, h1)) :
    Met l (pm_y k) (Jvm.Cond.code (pm_y k) (pm_b k) (pm_mL k) (pm_rt k) :: pm_ws) { frames := pm_rf k, cells := h1.length - h.length, slots := pm_sz h1 - pm_sz h, locals := pm_rl k } (pm_Pc D cA ad base ol as h) (pm_Qc D cA ad base v h1) (h1.length - h.length) (pm_sz h1 - pm_sz h) (pm_A base) :=
  pm_metOf hk hcat (fun p e R s m args below meth c F X hE b1 b2 => pm_sound (orc := fun _ _ _ => none) hAd (by intro _ _ _ _ _ g; simp at g) (by intro _ _ _ _ _ _ _ _ _ _ _ _ _ _ _ _ _ _ _ _ _ _ _ _ _ _ g; simp at g) _ _ _ _ _ _ _ _ hx (by omega) p e R s m args below meth c _ _ F X hE (Nat.le_refl _) (Nat.le_refl _) b1 b2)
end
section
/-! THE PURE MACHINE AS A FUNCTION: what a method, or the rest of one, comes to -/
noncomputable def pm_F (ol : pm_O) (orc : pm_Q) (k pc : Nat) (lo : pm_L) (st : List Value) (h : pm_H) : Option (Option Value × pm_H) :=
  @dite _ (∃ r, ∃ n, pm_X ol orc n k pc lo st h = some r) (Classical.propDecidable _) (fun H => some (Classical.choose H)) (fun _ => none)
theorem pm_F_of {ol : pm_O} {orc : pm_Q} {n k pc : Nat} {lo : pm_L} {st : List Value} {h : pm_H} {r : Option Value × pm_H} (hx : pm_X ol orc n k pc lo st h = some r) : pm_F ol orc k pc lo st h = some r := by
  have H : ∃ r, ∃ n, pm_X ol orc n k pc lo st h = some r := ⟨r, n, hx⟩
  unfold pm_F
  rw [dif_pos H]
  obtain ⟨m, hm⟩ := Classical.choose_spec H
  have h1 := pm_X_le ol orc (Nat.le_max_left n m) hx
  have h2 := pm_X_le ol orc (Nat.le_max_right n m) hm
  exact h2.symm.trans h1
theorem pm_F_to {ol : pm_O} {orc : pm_Q} {k pc : Nat} {lo : pm_L} {st : List Value} {h : pm_H} {r : Option Value × pm_H} (hx : pm_F ol orc k pc lo st h = some r) : ∃ n, pm_X ol orc n k pc lo st h = some r := by
  by_cases H : ∃ r, ∃ n, pm_X ol orc n k pc lo st h = some r
  · obtain ⟨r2, n, hn⟩ := H
    have := pm_F_of hn
    rw [hx] at this
    cases this
    exact ⟨n, hn⟩
  · unfold pm_F at hx
    rw [dif_neg H] at hx
    cases hx
theorem pm_F_ext {ol : pm_O} {orc : pm_Q} {k pc k2 pc2 : Nat} {lo lo2 : pm_L} {st st2 : List Value} {h h2 : pm_H} (h1 : ∀ r n, pm_X ol orc n k pc lo st h = some r → ∃ m, pm_X ol orc m k2 pc2 lo2 st2 h2 = some r) (h3 : ∀ r n, pm_X ol orc n k2 pc2 lo2 st2 h2 = some r → ∃ m, pm_X ol orc m k pc lo st h = some r) : pm_F ol orc k pc lo st h = pm_F ol orc k2 pc2 lo2 st2 h2 := by
  cases hx : pm_F ol orc k pc lo st h with
  | some r =>
    obtain ⟨n, hn⟩ := pm_F_to hx
    obtain ⟨m, hm⟩ := h1 r n hn
    exact (pm_F_of hm).symm
  | none =>
    cases hy : pm_F ol orc k2 pc2 lo2 st2 h2 with
    | none => rfl
    | some r =>
      obtain ⟨n, hn⟩ := pm_F_to hy
      obtain ⟨m, hm⟩ := h3 r n hn
      rw [pm_F_of hm] at hx
      cases hx
/-- a call -/
noncomputable def pm_V (ol : pm_O) (orc : pm_Q) (k : Nat) (as : List Value) (h : pm_H) : Option (Option Value × pm_H) := if k < 500 then pm_F ol orc k 0 (lv_args 0 as) [] h else orc k as h
/-- what is behind a call -/
noncomputable def pm_B (ol : pm_O) (orc : pm_Q) (k pc : Nat) (lo : pm_L) (rest : List Value) (r : Option (Option Value × pm_H)) : Option (Option Value × pm_H) := match r with
  | none => none
  | some (v, h) => pm_F ol orc k pc lo (v.toList ++ rest) h
noncomputable def pm_S (ol : pm_O) (orc : pm_Q) (k pn : Nat) (lo : pm_L) (h : pm_H) (r : pm_R) : Option (Option Value × pm_H) := match r with
  | none => none
  | some (.inl (pc', lo', st', h')) => pm_F ol orc k pc' lo' st' h'
  | some (.inr (.inl v)) => some (v, h)
  | some (.inr (.inr (k', as, rest))) => pm_B ol orc k pn lo rest (pm_V ol orc k' as h)
theorem pm_F_unf {ol : pm_O} {orc : pm_Q} {k pc : Nat} {lo lo1 : pm_L} {st : List Value} {h : pm_H} {i : Instr} {len q : Nat} (hi : pm_ins k pc = some (i, len, q)) (hl : pm_lv (pm_liv k pc) lo = lo1) : pm_F ol orc k pc lo st h = pm_S ol orc k (pc + len) lo1 h (pm_one ol i len pc lo1 st h) := by
  subst hl
  cases ho : pm_one ol i len pc (pm_lv (pm_liv k pc) lo) st h with
  | none =>
    show pm_F ol orc k pc lo st h = none
    cases hx : pm_F ol orc k pc lo st h with
    | none => rfl
    | some r =>
      obtain ⟨n, hn⟩ := pm_F_to hx
      cases n with
      | zero => cases hn
      | succ n =>
        rw [pm_X, hi] at hn
        dsimp only at hn
        rw [ho] at hn
        cases hn
  | some y =>
    rcases y with ⟨pc', lo', st', h2⟩ | v2 | ⟨k', as, rest⟩
    · show pm_F ol orc k pc lo st h = pm_F ol orc k pc' lo' st' h2
      refine pm_F_ext (fun r n hn => ?_) (fun r n hn => ⟨n + 1, ?_⟩)
      · cases n with
        | zero => cases hn
        | succ n =>
          rw [pm_X, hi] at hn
          dsimp only at hn
          rw [ho] at hn
          exact ⟨n, hn⟩
      · rw [pm_X, hi]
        dsimp only
        rw [ho]
        exact hn
    · show pm_F ol orc k pc lo st h = some (v2, h)
      refine pm_F_of (n := 1) ?_
      rw [pm_X, hi]
      dsimp only
      rw [ho]
    · show pm_F ol orc k pc lo st h = pm_B ol orc k (pc + len) (pm_lv (pm_liv k pc) lo) rest (pm_V ol orc k' as h)
      by_cases hk : k' < 500
      · have hV : pm_V ol orc k' as h = pm_F ol orc k' 0 (lv_args 0 as) [] h := by unfold pm_V; rw [if_pos hk]
        cases hx : pm_F ol orc k pc lo st h with
        | some r =>
          obtain ⟨n, hn⟩ := pm_F_to hx
          cases n with
          | zero => cases hn
          | succ n =>
            rw [pm_X, hi] at hn
            dsimp only at hn
            rw [ho] at hn
            dsimp only at hn
            rw [if_pos hk] at hn
            cases hc : pm_X ol orc n k' 0 (lv_args 0 as) [] h with
            | none => rw [hc] at hn; cases hn
            | some z =>
              obtain ⟨v3, h3⟩ := z
              rw [hc] at hn
              rw [hV, pm_F_of hc]
              exact (pm_F_of hn).symm
        | none =>
          cases hy : pm_B ol orc k (pc + len) (pm_lv (pm_liv k pc) lo) rest (pm_V ol orc k' as h) with
          | none => rfl
          | some r =>
            rw [hV] at hy
            cases hc : pm_F ol orc k' 0 (lv_args 0 as) [] h with
            | none => rw [hc] at hy; cases hy
            | some z =>
              obtain ⟨v3, h3⟩ := z
              rw [hc] at hy
              obtain ⟨n1, h1⟩ := pm_F_to hc
              obtain ⟨n2, h2⟩ := pm_F_to (show pm_F ol orc k (pc + len) (pm_lv (pm_liv k pc) lo) (v3.toList ++ rest) h3 = some r from hy)
              have hz : pm_X ol orc (max n1 n2 + 1) k pc lo st h = some r := by
                rw [pm_X, hi]
                dsimp only
                rw [ho]
                dsimp only
                rw [if_pos hk, pm_X_le ol orc (Nat.le_max_left n1 n2) h1]
                exact pm_X_le ol orc (Nat.le_max_right n1 n2) h2
              rw [pm_F_of hz] at hx
              cases hx
      · have hV : pm_V ol orc k' as h = orc k' as h := by unfold pm_V; rw [if_neg hk]
        cases hx : pm_F ol orc k pc lo st h with
        | some r =>
          obtain ⟨n, hn⟩ := pm_F_to hx
          cases n with
          | zero => cases hn
          | succ n =>
            rw [pm_X, hi] at hn
            dsimp only at hn
            rw [ho] at hn
            dsimp only at hn
            rw [if_neg hk] at hn
            cases hc : orc k' as h with
            | none => rw [hc] at hn; cases hn
            | some z =>
              obtain ⟨v3, h3⟩ := z
              rw [hc] at hn
              rw [hV, hc]
              exact (pm_F_of hn).symm
        | none =>
          cases hy : pm_B ol orc k (pc + len) (pm_lv (pm_liv k pc) lo) rest (pm_V ol orc k' as h) with
          | none => rfl
          | some r =>
            rw [hV] at hy
            cases hc : orc k' as h with
            | none => rw [hc] at hy; cases hy
            | some z =>
              obtain ⟨v3, h3⟩ := z
              rw [hc] at hy
              obtain ⟨n2, h2⟩ := pm_F_to (show pm_F ol orc k (pc + len) (pm_lv (pm_liv k pc) lo) (v3.toList ++ rest) h3 = some r from hy)
              have hz : pm_X ol orc (n2 + 1) k pc lo st h = some r := by
                rw [pm_X, hi]
                dsimp only
                rw [ho]
                dsimp only
                rw [if_neg hk, hc]
                exact h2
              rw [pm_F_of hz] at hx
              cases hx
theorem pm_S_next (ol : pm_O) (orc : pm_Q) (k pn : Nat) (lo : pm_L) (h : pm_H) (pc' : Nat) (lo' : pm_L) (st' : List Value) (h' : pm_H) : pm_S ol orc k pn lo h (pm_nx pc' lo' st' h') = pm_F ol orc k pc' lo' st' h' := rfl
theorem pm_S_jmp (ol : pm_O) (orc : pm_Q) (k pn : Nat) (lo : pm_L) (h : pm_H) (t : Int) (lo' : pm_L) (st' : List Value) (h' : pm_H) : pm_S ol orc k pn lo h (pm_jmp t lo' st' h') = pm_F ol orc k t.toNat lo' st' h' := rfl
theorem pm_S_ret (ol : pm_O) (orc : pm_Q) (k pn : Nat) (lo : pm_L) (h : pm_H) (v : Option Value) : pm_S ol orc k pn lo h (some (.inr (.inl v))) = some (v, h) := rfl
theorem pm_S_call (ol : pm_O) (orc : pm_Q) (k pn : Nat) (lo : pm_L) (h : pm_H) (k' : Nat) (as rest : List Value) (hc : pm_cat rest ≤ 8 ∧ (500 ≤ k' ∨ pm_cat as ≤ pm_mL k')) : pm_S ol orc k pn lo h (pm_call k' as rest) = pm_B ol orc k pn lo rest (pm_V ol orc k' as h) := by
  unfold pm_call
  rw [if_pos hc]
  rfl
theorem pm_S_ite (ol : pm_O) (orc : pm_Q) (k pn : Nat) (lo : pm_L) (h : pm_H) (c : Prop) [Decidable c] (a b : pm_R) : pm_S ol orc k pn lo h (if c then a else b) = if c then pm_S ol orc k pn lo h a else pm_S ol orc k pn lo h b := by
  split <;> rfl
theorem pm_B_some (ol : pm_O) (orc : pm_Q) (k pc : Nat) (lo : pm_L) (rest : List Value) (v : Value) (h : pm_H) : pm_B ol orc k pc lo rest (some (some v, h)) = pm_F ol orc k pc lo (v :: rest) h := rfl
theorem pm_B_none (ol : pm_O) (orc : pm_Q) (k pc : Nat) (lo : pm_L) (rest : List Value) (h : pm_H) : pm_B ol orc k pc lo rest (some (none, h)) = pm_F ol orc k pc lo rest h := rfl
theorem pm_B_ite (ol : pm_O) (orc : pm_Q) (k pc : Nat) (lo : pm_L) (rest : List Value) (c : Prop) [Decidable c] (a b : Option (Option Value × pm_H)) : pm_B ol orc k pc lo rest (if c then a else b) = if c then pm_B ol orc k pc lo rest a else pm_B ol orc k pc lo rest b := by
  split <;> rfl
end
section
/-! RULES of the pure machine as equations -/
theorem pm_lg_lv {lo : pm_L} : ∀ (L : List Nat) (j : Nat), j ∈ L → pm_lg (pm_lv L lo) j = pm_lg lo j := by
  intro L
  induction L with
  | nil => intro j h; cases h
  | cons i r ih =>
    intro j hj
    unfold pm_lv
    by_cases hij : i = j
    · subst hij
      split
      · rename_i v hv
        rw [hv]
        show (if i = i then some v else _) = some v
        rw [if_pos rfl]
      · rename_i hv
        rw [hv]
        cases hx : pm_lg (pm_lv r lo) i with
        | none => rfl
        | some w => rw [pm_lv_mem (pm_lg_mem hx)] at hv; cases hv
    · have hr : j ∈ r := by
        rcases List.mem_cons.mp hj with h | h
        · exact absurd h.symm hij
        · exact h
      split
      · rename_i v hv
        show (if i = j then some v else pm_lg (pm_lv r lo) j) = _
        rw [if_neg hij]
        exact ih j hr
      · exact ih j hr
theorem pm_lv_lv {lo : pm_L} (L : List Nat) : ∀ r : List Nat, (∀ j ∈ r, j ∈ L) → pm_lv r (pm_lv L lo) = pm_lv r lo := by
  intro r
  induction r with
  | nil => intro _; rfl
  | cons j r ih =>
    intro h
    have e := pm_lg_lv (lo := lo) L j (h j List.mem_cons_self)
    have e2 := ih (fun i hi => h i (List.mem_cons_of_mem _ hi))
    show (match pm_lg (pm_lv L lo) j with
      | some v => (j, v) :: pm_lv r (pm_lv L lo)
      | none => pm_lv r (pm_lv L lo)) = _
    rw [e, e2]
    rfl
section RUL
variable {ol : pm_O} {orc : pm_Q} {k pc : Nat} {lo : pm_L} {st : List Value} {h : pm_H}
theorem pm_F_live {lo1 : pm_L} (hl : pm_lv (pm_liv k pc) lo = lo1) : pm_F ol orc k pc lo st h = pm_F ol orc k pc lo1 st h := by
  subst hl
  have key : ∀ n, pm_X ol orc n k pc (pm_lv (pm_liv k pc) lo) st h = pm_X ol orc n k pc lo st h := by
    intro n
    cases n with
    | zero => rfl
    | succ n => rw [pm_X, pm_X, pm_lv_lv _ _ (fun _ h => h)]
  exact pm_F_ext (fun r n hn => ⟨n, by rw [key]; exact hn⟩) (fun r n hn => ⟨n, by rw [← key]; exact hn⟩)
theorem pm_F_nx {i : Instr} {len q pc' : Nat} {lo1 lo2 lo3 : pm_L} {st' : List Value} {h' : pm_H} (hi : pm_ins k pc = some (i, len, q)) (hl : pm_lv (pm_liv k pc) lo = lo1) (ho : pm_one ol i len pc lo1 st h = some (.inl (pc', lo2, st', h'))) (h2 : pm_lv (pm_liv k pc') lo2 = lo3) : pm_F ol orc k pc lo st h = pm_F ol orc k pc' lo3 st' h' := by
  rw [pm_F_unf hi hl, ho]
  exact pm_F_live h2
theorem pm_F_rt {i : Instr} {len q : Nat} {lo1 : pm_L} {v : Option Value} (hi : pm_ins k pc = some (i, len, q)) (hl : pm_lv (pm_liv k pc) lo = lo1) (ho : pm_one ol i len pc lo1 st h = some (.inr (.inl v))) : pm_F ol orc k pc lo st h = some (v, h) := by
  rw [pm_F_unf hi hl, ho]
  rfl
theorem pm_F_zr {len q : Nat} {lo1 : pm_L} {x : Int32} (hi : pm_ins k pc = some (.freturn, len, q)) (hl : pm_lv (pm_liv k pc) lo = lo1) : pm_F ol orc k pc lo [.int x] h = if x = 0 ∨ x = 1 then some (some (.int x), h) else none := by
  rw [pm_F_unf hi hl]
  show pm_S ol orc k (pc + len) lo1 h (if x = 0 ∨ x = 1 then some (.inr (.inl (some (.int x)))) else none) = _
  split <;> rfl
theorem pm_F_i1 {cc : ClassFile.Cond} {t : Int} {len q : Nat} {x : Int32} {lo1 lo2 lo3 : pm_L} {c : Prop} [Decidable c] (hi : pm_ins k pc = some (.ifCond cc t, len, q)) (hl : pm_lv (pm_liv k pc) lo = lo1) (hc : pm_b1 cc x = decide c) (h2 : pm_lv (pm_liv k t.toNat) lo1 = lo2) (h3 : pm_lv (pm_liv k (pc + len)) lo1 = lo3) : pm_F ol orc k pc lo (.int x :: st) h = if c then pm_F ol orc k t.toNat lo2 st h else pm_F ol orc k (pc + len) lo3 st h := by
  rw [pm_F_unf hi hl]
  show pm_S ol orc k (pc + len) lo1 h (if pm_b1 cc x = true then pm_jmp t lo1 st h else pm_nx (pc + len) lo1 st h) = _
  rw [hc]
  by_cases g : c
  · rw [if_pos g, if_pos (decide_eq_true g)]; exact pm_F_live h2
  · rw [if_neg g, if_neg (fun z => g (of_decide_eq_true z))]; exact pm_F_live h3
theorem pm_F_i2 {cc : ClassFile.Cond} {t : Int} {len q : Nat} {x y : Int32} {lo1 lo2 lo3 : pm_L} {c : Prop} [Decidable c] (hi : pm_ins k pc = some (.if_icmp cc t, len, q)) (hl : pm_lv (pm_liv k pc) lo = lo1) (hc : pm_b2 cc x y = decide c) (h2 : pm_lv (pm_liv k t.toNat) lo1 = lo2) (h3 : pm_lv (pm_liv k (pc + len)) lo1 = lo3) : pm_F ol orc k pc lo (.int y :: .int x :: st) h = if c then pm_F ol orc k t.toNat lo2 st h else pm_F ol orc k (pc + len) lo3 st h := by
  rw [pm_F_unf hi hl]
  show pm_S ol orc k (pc + len) lo1 h (if pm_b2 cc x y = true then pm_jmp t lo1 st h else pm_nx (pc + len) lo1 st h) = _
  rw [hc]
  by_cases g : c
  · rw [if_pos g, if_pos (decide_eq_true g)]; exact pm_F_live h2
  · rw [if_neg g, if_neg (fun z => g (of_decide_eq_true z))]; exact pm_F_live h3
/-- the value is pushed, if there is one -/
noncomputable def pm_Pv (ol : pm_O) (orc : pm_Q) (k pc : Nat) (lo : pm_L) (st : List Value) (h : pm_H) (r : Option Value) : Option (Option Value × pm_H) := match r with
  | some v => pm_F ol orc k pc lo (v :: st) h
  | none => none
/-- the heap becomes another, if there is one -/
noncomputable def pm_Ph (ol : pm_O) (orc : pm_Q) (k pc : Nat) (lo : pm_L) (st : List Value) (r : Option pm_H) : Option (Option Value × pm_H) := match r with
  | some h => pm_F ol orc k pc lo st h
  | none => none
noncomputable def pm_Pt (ol : pm_O) (orc : pm_Q) (k : Nat) (lo : pm_L) (st : List Value) (h : pm_H) (r : Option Int) : Option (Option Value × pm_H) := match r with
  | some t => pm_F ol orc k t.toNat lo st h
  | none => none
theorem pm_Pv_some (v : Value) : pm_Pv ol orc k pc lo st h (some v) = pm_F ol orc k pc lo (v :: st) h := rfl
theorem pm_Ph_some : pm_Ph ol orc k pc lo st (some h) = pm_F ol orc k pc lo st h := rfl
theorem pm_Pt_some (t : Int) : pm_Pt ol orc k lo st h (some t) = pm_F ol orc k t.toNat lo st h := rfl
def pm_fd (h : pm_H) (a ci j : Nat) : Option Value := match pm_go h a with
  | some (c, fs) => if c = ci then fs[j]? else none
  | none => none
def pm_fs (h : pm_H) (a ci j : Nat) (v : Value) : Option pm_H := match pm_go h a with
  | some (c, fs) => if c = ci ∧ j < fs.length then some (h.set a (.inr (c, fs.set j v))) else none
  | none => none
def pm_ai (ol : pm_O) (h : pm_H) (a : Nat) (j : Int32) : Option Value := match pm_ia ol h a with
  | some (n, f) => if ¬ (j < 0 ∨ n ≤ j.toNatClampNeg) then some (.int (f j.toNatClampNeg)) else none
  | none => none
def pm_az (h : pm_H) (a : Nat) (j : Int32) : Option Value := match pm_gi h 1 a with
  | some (n, f) => if ¬ (j < 0 ∨ n ≤ j.toNatClampNeg) then some (.int (f j.toNatClampNeg)) else none
  | none => none
def pm_aj (h : pm_H) (a : Nat) (j : Int32) : Option Value := match pm_gl h a with
  | some (n, f) => if ¬ (j < 0 ∨ n ≤ j.toNatClampNeg) then some (.long (f j.toNatClampNeg)) else none
  | none => none
def pm_aq (h : pm_H) (a : Nat) (j : Int32) : Option Value := match pm_gq h a with
  | some (n, f) => if ¬ (j < 0 ∨ n ≤ j.toNatClampNeg) then some (va_rf (f j.toNatClampNeg)) else none
  | none => none
def pm_si (h : pm_H) (a : Nat) (j x : Int32) : Option pm_H := match pm_gi h 0 a with
  | some (n, f) => if ¬ (j < 0 ∨ n ≤ j.toNatClampNeg) then some (h.set a (.inl (0, n, .inl (upd f j.toNatClampNeg x)))) else none
  | none => none
def pm_sb (h : pm_H) (a : Nat) (j x : Int32) : Option pm_H := match pm_gi h 1 a with
  | some (n, f) => if ¬ (j < 0 ∨ n ≤ j.toNatClampNeg) then some (h.set a (.inl (1, n, .inl (upd f j.toNatClampNeg (vp_nar .boolean x))))) else none
  | none => none
def pm_sj (h : pm_H) (a : Nat) (j : Int32) (x : Int64) : Option pm_H := match pm_gl h a with
  | some (n, f) => if ¬ (j < 0 ∨ n ≤ j.toNatClampNeg) then some (h.set a (.inl (2, n, .inr (.inl (vp_updL f j.toNatClampNeg x))))) else none
  | none => none
def pm_ln (ol : pm_O) (h : pm_H) (a : Nat) : Option Value := (pm_len ol h a).map (fun n => .int (Int32.ofNat n))
def pm_cp (h : pm_H) (a0 : Nat) (sp : Int32) (a : Nat) (dp n : Int32) : Option pm_H := match pm_gi h 0 a0 with
  | some (n0, f) => match pm_gi h 0 a with
    | some (n1, g) => if (¬ sp < 0 ∧ ¬ dp < 0 ∧ ¬ n < 0) ∧ sp.toNatClampNeg + n.toNatClampNeg ≤ n0 ∧ dp.toNatClampNeg + n.toNatClampNeg ≤ n1 then some (h.set a (.inl (0, n1, .inl (va_cpy f g sp.toNatClampNeg dp.toNatClampNeg n.toNatClampNeg)))) else none
    | none => none
  | none => none
variable {len q : Nat} {lo1 lo2 : pm_L}
theorem pm_F_gf {x a : Nat} (hi : pm_ins k pc = some (.getfield x, len, q)) (hl : pm_lv (pm_liv k pc) lo = lo1) (h2 : pm_lv (pm_liv k (pc + len)) lo1 = lo2) : pm_F ol orc k pc lo (.ref a :: st) h = pm_Pv ol orc k (pc + len) lo2 st h (pm_fd h a (x / 64) (x % 64)) := by
  rw [pm_F_unf hi hl]
  simp only [pm_one]
  unfold pm_fd
  cases pm_go h a with
  | none => rfl
  | some o =>
    obtain ⟨c, fs⟩ := o
    dsimp only
    by_cases g : c = x / 64
    · rw [if_pos g, if_pos g]
      cases fs[x % 64]? with
      | none => rfl
      | some v => exact pm_F_live h2
    · rw [if_neg g, if_neg g]; rfl
theorem pm_F_pf {x a : Nat} {v : Int32} (hi : pm_ins k pc = some (.putfield x, len, q)) (hl : pm_lv (pm_liv k pc) lo = lo1) (h2 : pm_lv (pm_liv k (pc + len)) lo1 = lo2) : pm_F ol orc k pc lo (.int v :: .ref a :: st) h = pm_Ph ol orc k (pc + len) lo2 st (pm_fs h a (x / 64) (x % 64) (.int v)) := by
  rw [pm_F_unf hi hl]
  simp only [pm_one]
  unfold pm_fs
  cases pm_go h a with
  | none => rfl
  | some o =>
    obtain ⟨c, fs⟩ := o
    dsimp only
    by_cases g : c = x / 64 ∧ x % 64 < fs.length
    · rw [if_pos g, if_pos g]; exact pm_F_live h2
    · rw [if_neg g, if_neg g]; rfl
theorem pm_F_pb {x a : Nat} {v : Int32} (hi : pm_ins k pc = some (.putstatic x, len, q)) (hl : pm_lv (pm_liv k pc) lo = lo1) (h2 : pm_lv (pm_liv k (pc + len)) lo1 = lo2) : pm_F ol orc k pc lo (.int v :: .ref a :: st) h = if v = 0 ∨ v = 1 then pm_Ph ol orc k (pc + len) lo2 st (pm_fs h a (x / 64) (x % 64) (.int v)) else none := by
  rw [pm_F_unf hi hl]
  simp only [pm_one]
  unfold pm_fs
  cases pm_go h a with
  | none => by_cases g2 : v = 0 ∨ v = 1
            · rw [if_pos g2]; rfl
            · rw [if_neg g2]; rfl
  | some o =>
    obtain ⟨c, fs⟩ := o
    dsimp only
    by_cases g : c = x / 64 ∧ x % 64 < fs.length
    · by_cases g2 : v = 0 ∨ v = 1
      · rw [if_pos ⟨g.1, g.2, g2⟩, if_pos g2, if_pos g]; exact pm_F_live h2
      · rw [if_neg (fun z => g2 z.2.2), if_neg g2]; rfl
    · rw [if_neg (fun z => g ⟨z.1, z.2.1⟩), if_neg g]
      split <;> rfl
theorem pm_F_ia {a : Nat} {j : Int32} (hi : pm_ins k pc = some (.iaload, len, q)) (hl : pm_lv (pm_liv k pc) lo = lo1) (h2 : pm_lv (pm_liv k (pc + len)) lo1 = lo2) : pm_F ol orc k pc lo (.int j :: .ref a :: st) h = pm_Pv ol orc k (pc + len) lo2 st h (pm_ai ol h a j) := by
  rw [pm_F_unf hi hl]
  simp only [pm_one]
  unfold pm_ai
  cases pm_ia ol h a with
  | none => rfl
  | some o =>
    obtain ⟨n, f⟩ := o
    dsimp only
    by_cases g : ¬ (j < 0 ∨ n ≤ j.toNatClampNeg)
    · rw [if_pos g, if_pos g]; exact pm_F_live h2
    · rw [if_neg g, if_neg g]; rfl
theorem pm_F_za {a : Nat} {j : Int32} (hi : pm_ins k pc = some (.baload, len, q)) (hl : pm_lv (pm_liv k pc) lo = lo1) (h2 : pm_lv (pm_liv k (pc + len)) lo1 = lo2) : pm_F ol orc k pc lo (.int j :: .ref a :: st) h = pm_Pv ol orc k (pc + len) lo2 st h (pm_az h a j) := by
  rw [pm_F_unf hi hl]
  simp only [pm_one]
  unfold pm_az
  cases pm_gi h 1 a with
  | none => rfl
  | some o =>
    obtain ⟨n, f⟩ := o
    dsimp only
    by_cases g : ¬ (j < 0 ∨ n ≤ j.toNatClampNeg)
    · rw [if_pos g, if_pos g]; exact pm_F_live h2
    · rw [if_neg g, if_neg g]; rfl
theorem pm_F_ja {a : Nat} {j : Int32} (hi : pm_ins k pc = some (.laload, len, q)) (hl : pm_lv (pm_liv k pc) lo = lo1) (h2 : pm_lv (pm_liv k (pc + len)) lo1 = lo2) : pm_F ol orc k pc lo (.int j :: .ref a :: st) h = pm_Pv ol orc k (pc + len) lo2 st h (pm_aj h a j) := by
  rw [pm_F_unf hi hl]
  simp only [pm_one]
  unfold pm_aj
  cases pm_gl h a with
  | none => rfl
  | some o =>
    obtain ⟨n, f⟩ := o
    dsimp only
    by_cases g : ¬ (j < 0 ∨ n ≤ j.toNatClampNeg)
    · rw [if_pos g, if_pos g]; exact pm_F_live h2
    · rw [if_neg g, if_neg g]; rfl
theorem pm_F_qa {a : Nat} {j : Int32} (hi : pm_ins k pc = some (.aaload, len, q)) (hl : pm_lv (pm_liv k pc) lo = lo1) (h2 : pm_lv (pm_liv k (pc + len)) lo1 = lo2) : pm_F ol orc k pc lo (.int j :: .ref a :: st) h = pm_Pv ol orc k (pc + len) lo2 st h (pm_aq h a j) := by
  rw [pm_F_unf hi hl]
  simp only [pm_one]
  unfold pm_aq
  cases pm_gq h a with
  | none => rfl
  | some o =>
    obtain ⟨n, f⟩ := o
    dsimp only
    by_cases g : ¬ (j < 0 ∨ n ≤ j.toNatClampNeg)
    · rw [if_pos g, if_pos g]; exact pm_F_live h2
    · rw [if_neg g, if_neg g]; rfl
theorem pm_F_is {a : Nat} {j x : Int32} (hi : pm_ins k pc = some (.iastore, len, q)) (hl : pm_lv (pm_liv k pc) lo = lo1) (h2 : pm_lv (pm_liv k (pc + len)) lo1 = lo2) : pm_F ol orc k pc lo (.int x :: .int j :: .ref a :: st) h = pm_Ph ol orc k (pc + len) lo2 st (pm_si h a j x) := by
  rw [pm_F_unf hi hl]
  simp only [pm_one]
  unfold pm_si
  cases pm_gi h 0 a with
  | none => rfl
  | some o =>
    obtain ⟨n, f⟩ := o
    dsimp only
    by_cases g : ¬ (j < 0 ∨ n ≤ j.toNatClampNeg)
    · rw [if_pos g, if_pos g]; exact pm_F_live h2
    · rw [if_neg g, if_neg g]; rfl
theorem pm_F_zs {a : Nat} {j x : Int32} (hi : pm_ins k pc = some (.bastore, len, q)) (hl : pm_lv (pm_liv k pc) lo = lo1) (h2 : pm_lv (pm_liv k (pc + len)) lo1 = lo2) : pm_F ol orc k pc lo (.int x :: .int j :: .ref a :: st) h = pm_Ph ol orc k (pc + len) lo2 st (pm_sb h a j x) := by
  rw [pm_F_unf hi hl]
  simp only [pm_one]
  unfold pm_sb
  cases pm_gi h 1 a with
  | none => rfl
  | some o =>
    obtain ⟨n, f⟩ := o
    dsimp only
    by_cases g : ¬ (j < 0 ∨ n ≤ j.toNatClampNeg)
    · rw [if_pos g, if_pos g]; exact pm_F_live h2
    · rw [if_neg g, if_neg g]; rfl
theorem pm_F_js {a : Nat} {j : Int32} {x : Int64} (hi : pm_ins k pc = some (.lastore, len, q)) (hl : pm_lv (pm_liv k pc) lo = lo1) (h2 : pm_lv (pm_liv k (pc + len)) lo1 = lo2) : pm_F ol orc k pc lo (.long x :: .int j :: .ref a :: st) h = pm_Ph ol orc k (pc + len) lo2 st (pm_sj h a j x) := by
  rw [pm_F_unf hi hl]
  simp only [pm_one]
  unfold pm_sj
  cases pm_gl h a with
  | none => rfl
  | some o =>
    obtain ⟨n, f⟩ := o
    dsimp only
    by_cases g : ¬ (j < 0 ∨ n ≤ j.toNatClampNeg)
    · rw [if_pos g, if_pos g]; exact pm_F_live h2
    · rw [if_neg g, if_neg g]; rfl
theorem pm_F_ln {a : Nat} (hi : pm_ins k pc = some (.arraylength, len, q)) (hl : pm_lv (pm_liv k pc) lo = lo1) (h2 : pm_lv (pm_liv k (pc + len)) lo1 = lo2) : pm_F ol orc k pc lo (.ref a :: st) h = pm_Pv ol orc k (pc + len) lo2 st h (pm_ln ol h a) := by
  rw [pm_F_unf hi hl]
  simp only [pm_one]
  unfold pm_ln
  cases pm_len ol h a with
  | none => rfl
  | some n => exact pm_F_live h2
theorem pm_F_cp {z a0 a : Nat} {sp dp n : Int32} (hi : pm_ins k pc = some (.invokedynamic z, len, q)) (hl : pm_lv (pm_liv k pc) lo = lo1) (hc : pm_cat st ≤ 8) (h2 : pm_lv (pm_liv k (pc + len)) lo1 = lo2) : pm_F ol orc k pc lo (.int n :: .int dp :: .ref a :: .int sp :: .ref a0 :: st) h = pm_Ph ol orc k (pc + len) lo2 st (pm_cp h a0 sp a dp n) := by
  rw [pm_F_unf hi hl]
  simp only [pm_one]
  unfold pm_cp
  cases pm_gi h 0 a0 with
  | none => rfl
  | some o =>
    obtain ⟨n0, f⟩ := o
    dsimp only
    cases pm_gi h 0 a with
    | none => rfl
    | some o2 =>
      obtain ⟨n1, f1⟩ := o2
      dsimp only
      by_cases g : (¬ sp < 0 ∧ ¬ dp < 0 ∧ ¬ n < 0) ∧ sp.toNatClampNeg + n.toNatClampNeg ≤ n0 ∧ dp.toNatClampNeg + n.toNatClampNeg ≤ n1
      · rw [if_pos ⟨g.1, g.2.1, g.2.2, hc⟩, if_pos g]; exact pm_F_live h2
      · rw [if_neg (fun z => g ⟨z.1, z.2.1, z.2.2.1⟩), if_neg g]; rfl
theorem pm_B_live {pc' : Nat} {rest : List Value} {r : Option (Option Value × pm_H)} (h2 : pm_lv (pm_liv k pc') lo1 = lo2) : pm_B ol orc k pc' lo1 rest r = pm_B ol orc k pc' lo2 rest r := by
  cases r with
  | none => rfl
  | some z =>
    obtain ⟨v, h⟩ := z
    exact pm_F_live h2
theorem pm_F_sc {k' n : Nat} {as rest : List Value} (hi : pm_ins k pc = some (.multianewarray k' n, len, q)) (hl : pm_lv (pm_liv k pc) lo = lo1) (hp : pm_pop n st [] = some (as, rest)) (hc : pm_cat rest ≤ 8 ∧ (500 ≤ k' ∨ pm_cat as ≤ pm_mL k')) (h2 : pm_lv (pm_liv k (pc + len)) lo1 = lo2) : pm_F ol orc k pc lo st h = pm_B ol orc k (pc + len) lo2 rest (pm_V ol orc k' as h) := by
  rw [pm_F_unf hi hl]
  simp only [pm_one, hp]
  rw [pm_S_call _ _ _ _ _ _ _ _ _ hc]
  exact pm_B_live h2
/-- an object of a class stands there -/
def pm_is (h : pm_H) (a ci : Nat) : Bool := match pm_go h a with
  | some (c, _) => decide (c = ci)
  | none => false
theorem pm_F_vc {x n b : Nat} {as rest : List Value} (hi : pm_ins k pc = some (.invokeinterface x n, len, q)) (hl : pm_lv (pm_liv k pc) lo = lo1) (hp : pm_pop n st [] = some (.ref b :: as, rest)) (hc : pm_cat rest ≤ 8 ∧ (500 ≤ x % 1000 ∨ pm_cat (.ref b :: as) ≤ pm_mL (x % 1000))) (h2 : pm_lv (pm_liv k (pc + len)) lo1 = lo2) : pm_F ol orc k pc lo st h = if pm_is h b (x / 1000) = true then pm_B ol orc k (pc + len) lo2 rest (pm_V ol orc (x % 1000) (.ref b :: as) h) else none := by
  rw [pm_F_unf hi hl]
  simp only [pm_one, hp]
  unfold pm_is
  cases pm_go h b with
  | none => rfl
  | some o =>
    obtain ⟨c, fs⟩ := o
    dsimp only
    by_cases g : c = x / 1000
    · rw [if_pos g, if_pos (decide_eq_true g), pm_S_call _ _ _ _ _ _ _ _ _ hc]
      exact pm_B_live h2
    · rw [if_neg g, if_neg (fun z => g (of_decide_eq_true z))]; rfl
theorem pm_F_ts {d a b : Int} {offs : Array Int} {x : Int32} (hi : pm_ins k pc = some (.tableswitch d a b offs, len, q)) (hl : pm_lv (pm_liv k pc) lo = lo1) : pm_F ol orc k pc lo (.int x :: st) h = pm_Pt ol orc k lo1 st h (pm_ts d a b offs x) := by
  rw [pm_F_unf hi hl]
  simp only [pm_one]
  cases pm_ts d a b offs x <;> rfl
theorem pm_F_ls {d : Int} {ps : Array (Int × Int)} {x : Int32} (hi : pm_ins k pc = some (.lookupswitch d ps, len, q)) (hl : pm_lv (pm_liv k pc) lo = lo1) : pm_F ol orc k pc lo (.int x :: st) h = pm_Pt ol orc k lo1 st h (some (Op.lookupswitch.offset ps.toList d x.toInt)) := by
  rw [pm_F_unf hi hl]
  rfl
variable {pn : Nat}
theorem r_i1 {cc : ClassFile.Cond} {t : Int} {tn : Nat} {x : Int32} {lo3 : pm_L} {c : Prop} [Decidable c] (hi : pm_ins k pc = some (.ifCond cc t, len, q)) (ht : t.toNat = tn) (hp : pc + len = pn) (hl : pm_lv (pm_liv k pc) lo = lo1) (hc : pm_b1 cc x = decide c) (h2 : pm_lv (pm_liv k tn) lo1 = lo2) (h3 : pm_lv (pm_liv k pn) lo1 = lo3) : pm_F ol orc k pc lo (.int x :: st) h = if c then pm_F ol orc k tn lo2 st h else pm_F ol orc k pn lo3 st h := by
  subst ht; subst hp; exact pm_F_i1 hi hl hc h2 h3
theorem r_i2 {cc : ClassFile.Cond} {t : Int} {tn : Nat} {x y : Int32} {lo3 : pm_L} {c : Prop} [Decidable c] (hi : pm_ins k pc = some (.if_icmp cc t, len, q)) (ht : t.toNat = tn) (hp : pc + len = pn) (hl : pm_lv (pm_liv k pc) lo = lo1) (hc : pm_b2 cc x y = decide c) (h2 : pm_lv (pm_liv k tn) lo1 = lo2) (h3 : pm_lv (pm_liv k pn) lo1 = lo3) : pm_F ol orc k pc lo (.int y :: .int x :: st) h = if c then pm_F ol orc k tn lo2 st h else pm_F ol orc k pn lo3 st h := by
  subst ht; subst hp; exact pm_F_i2 hi hl hc h2 h3
theorem r_gf {x a ci j : Nat} (hi : pm_ins k pc = some (.getfield x, len, q)) (hp : pc + len = pn) (h64 : x / 64 = ci) (hm : x % 64 = j) (hl : pm_lv (pm_liv k pc) lo = lo1) (h2 : pm_lv (pm_liv k pn) lo1 = lo2) : pm_F ol orc k pc lo (.ref a :: st) h = pm_Pv ol orc k pn lo2 st h (pm_fd h a ci j) := by
  subst hp; subst h64; subst hm; exact pm_F_gf hi hl h2
theorem r_pf {x a ci j : Nat} {v : Int32} (hi : pm_ins k pc = some (.putfield x, len, q)) (hp : pc + len = pn) (h64 : x / 64 = ci) (hm : x % 64 = j) (hl : pm_lv (pm_liv k pc) lo = lo1) (h2 : pm_lv (pm_liv k pn) lo1 = lo2) : pm_F ol orc k pc lo (.int v :: .ref a :: st) h = pm_Ph ol orc k pn lo2 st (pm_fs h a ci j (.int v)) := by
  subst hp; subst h64; subst hm; exact pm_F_pf hi hl h2
theorem r_pb {x a ci j : Nat} {v : Int32} (hi : pm_ins k pc = some (.putstatic x, len, q)) (hp : pc + len = pn) (h64 : x / 64 = ci) (hm : x % 64 = j) (hl : pm_lv (pm_liv k pc) lo = lo1) (h2 : pm_lv (pm_liv k pn) lo1 = lo2) : pm_F ol orc k pc lo (.int v :: .ref a :: st) h = if v = 0 ∨ v = 1 then pm_Ph ol orc k pn lo2 st (pm_fs h a ci j (.int v)) else none := by
  subst hp; subst h64; subst hm; exact pm_F_pb hi hl h2
theorem r_ia {a : Nat} {j : Int32} (hi : pm_ins k pc = some (.iaload, len, q)) (hp : pc + len = pn) (hl : pm_lv (pm_liv k pc) lo = lo1) (h2 : pm_lv (pm_liv k pn) lo1 = lo2) : pm_F ol orc k pc lo (.int j :: .ref a :: st) h = pm_Pv ol orc k pn lo2 st h (pm_ai ol h a j) := by
  subst hp; exact pm_F_ia hi hl h2
theorem r_za {a : Nat} {j : Int32} (hi : pm_ins k pc = some (.baload, len, q)) (hp : pc + len = pn) (hl : pm_lv (pm_liv k pc) lo = lo1) (h2 : pm_lv (pm_liv k pn) lo1 = lo2) : pm_F ol orc k pc lo (.int j :: .ref a :: st) h = pm_Pv ol orc k pn lo2 st h (pm_az h a j) := by
  subst hp; exact pm_F_za hi hl h2
theorem r_ja {a : Nat} {j : Int32} (hi : pm_ins k pc = some (.laload, len, q)) (hp : pc + len = pn) (hl : pm_lv (pm_liv k pc) lo = lo1) (h2 : pm_lv (pm_liv k pn) lo1 = lo2) : pm_F ol orc k pc lo (.int j :: .ref a :: st) h = pm_Pv ol orc k pn lo2 st h (pm_aj h a j) := by
  subst hp; exact pm_F_ja hi hl h2
theorem r_qa {a : Nat} {j : Int32} (hi : pm_ins k pc = some (.aaload, len, q)) (hp : pc + len = pn) (hl : pm_lv (pm_liv k pc) lo = lo1) (h2 : pm_lv (pm_liv k pn) lo1 = lo2) : pm_F ol orc k pc lo (.int j :: .ref a :: st) h = pm_Pv ol orc k pn lo2 st h (pm_aq h a j) := by
  subst hp; exact pm_F_qa hi hl h2
theorem r_is {a : Nat} {j x : Int32} (hi : pm_ins k pc = some (.iastore, len, q)) (hp : pc + len = pn) (hl : pm_lv (pm_liv k pc) lo = lo1) (h2 : pm_lv (pm_liv k pn) lo1 = lo2) : pm_F ol orc k pc lo (.int x :: .int j :: .ref a :: st) h = pm_Ph ol orc k pn lo2 st (pm_si h a j x) := by
  subst hp; exact pm_F_is hi hl h2
theorem r_zs {a : Nat} {j x : Int32} (hi : pm_ins k pc = some (.bastore, len, q)) (hp : pc + len = pn) (hl : pm_lv (pm_liv k pc) lo = lo1) (h2 : pm_lv (pm_liv k pn) lo1 = lo2) : pm_F ol orc k pc lo (.int x :: .int j :: .ref a :: st) h = pm_Ph ol orc k pn lo2 st (pm_sb h a j x) := by
  subst hp; exact pm_F_zs hi hl h2
theorem r_js {a : Nat} {j : Int32} {x : Int64} (hi : pm_ins k pc = some (.lastore, len, q)) (hp : pc + len = pn) (hl : pm_lv (pm_liv k pc) lo = lo1) (h2 : pm_lv (pm_liv k pn) lo1 = lo2) : pm_F ol orc k pc lo (.long x :: .int j :: .ref a :: st) h = pm_Ph ol orc k pn lo2 st (pm_sj h a j x) := by
  subst hp; exact pm_F_js hi hl h2
theorem r_ln {a : Nat} (hi : pm_ins k pc = some (.arraylength, len, q)) (hp : pc + len = pn) (hl : pm_lv (pm_liv k pc) lo = lo1) (h2 : pm_lv (pm_liv k pn) lo1 = lo2) : pm_F ol orc k pc lo (.ref a :: st) h = pm_Pv ol orc k pn lo2 st h (pm_ln ol h a) := by
  subst hp; exact pm_F_ln hi hl h2
theorem r_cp {z a0 a : Nat} {sp dp n : Int32} (hi : pm_ins k pc = some (.invokedynamic z, len, q)) (hp : pc + len = pn) (hl : pm_lv (pm_liv k pc) lo = lo1) (hc : pm_cat st ≤ 8) (h2 : pm_lv (pm_liv k pn) lo1 = lo2) : pm_F ol orc k pc lo (.int n :: .int dp :: .ref a :: .int sp :: .ref a0 :: st) h = pm_Ph ol orc k pn lo2 st (pm_cp h a0 sp a dp n) := by
  subst hp; exact pm_F_cp hi hl hc h2
theorem r_sc {k' n : Nat} {as rest : List Value} (hi : pm_ins k pc = some (.multianewarray k' n, len, q)) (hp : pc + len = pn) (hl : pm_lv (pm_liv k pc) lo = lo1) (hp2 : pm_pop n st [] = some (as, rest)) (hc : pm_cat rest ≤ 8) (hc2 : 500 ≤ k' ∨ pm_cat as ≤ pm_mL k') (h2 : pm_lv (pm_liv k pn) lo1 = lo2) : pm_F ol orc k pc lo st h = pm_B ol orc k pn lo2 rest (pm_V ol orc k' as h) := by
  subst hp; exact pm_F_sc hi hl hp2 ⟨hc, hc2⟩ h2
theorem r_vc {x n b ci k' : Nat} {as rest : List Value} (hi : pm_ins k pc = some (.invokeinterface x n, len, q)) (hp : pc + len = pn) (h64 : x / 1000 = ci) (hm : x % 1000 = k') (hl : pm_lv (pm_liv k pc) lo = lo1) (hp2 : pm_pop n st [] = some (.ref b :: as, rest)) (hc : pm_cat rest ≤ 8) (hc2 : pm_cat (.ref b :: as) ≤ pm_mL k') (h2 : pm_lv (pm_liv k pn) lo1 = lo2) : pm_F ol orc k pc lo st h = if pm_is h b ci = true then pm_B ol orc k pn lo2 rest (pm_V ol orc k' (.ref b :: as) h) else none := by
  subst hp; subst h64; subst hm; exact pm_F_vc hi hl hp2 ⟨hc, Or.inr hc2⟩ h2
theorem r_le {a b : Nat} (h : Nat.ble a b = true) : a ≤ b := Nat.le_of_ble_eq_true h
end RUL
end
section
/-! THE HEAP behind the constructors: A: what the arrays hold, I: the int fields, L: the law's long array, g: what came behind -/
def mk_q : Nat → Option Nat := fun j => if j = 0 then some 8 else if j = 1 then some 10 else if j = 2 then some 12 else if j = 3 then some 14 else if j = 4 then some 16 else if j = 5 then some 18 else none
def mk (A I : Nat → Nat → Int32) (L : Nat → Int64) (g : pm_H) : pm_H :=
  .inr (11, [.ref 1, .ref 20, .ref 24, .ref 26, .ref 37, .ref 38]) ::
  .inr (10, [.ref 2, .ref 3, .ref 4, .ref 5, .ref 6]) ::
  .inl (0, 8, .inl (A 2)) ::
  .inl (0, 6, .inl (A 3)) ::
  .inl (0, 6, .inl (A 4)) ::
  .inl (3, 6, .inr (.inr (.inr (.inr mk_q)))) ::
  .inr (4, [.ref 7, .int (I 6 1), .int (I 6 2)]) ::
  .inl (0, 4, .inl (A 7)) ::
  .inr (4, [.ref 9, .int (I 8 1), .int (I 8 2)]) ::
  .inl (0, 4, .inl (A 9)) ::
  .inr (4, [.ref 11, .int (I 10 1), .int (I 10 2)]) ::
  .inl (0, 4, .inl (A 11)) ::
  .inr (4, [.ref 13, .int (I 12 1), .int (I 12 2)]) ::
  .inl (0, 4, .inl (A 13)) ::
  .inr (4, [.ref 15, .int (I 14 1), .int (I 14 2)]) ::
  .inl (0, 4, .inl (A 15)) ::
  .inr (4, [.ref 17, .int (I 16 1), .int (I 16 2)]) ::
  .inl (0, 4, .inl (A 17)) ::
  .inr (4, [.ref 19, .int (I 18 1), .int (I 18 2)]) ::
  .inl (0, 4, .inl (A 19)) ::
  .inr (2, [.ref 21, .ref 23]) ::
  .inr (0, [.ref 22, .int (I 21 1)]) ::
  .inl (0, 48, .inl (A 22)) ::
  .inl (1, 48, .inl (A 23)) ::
  .inr (0, [.ref 25, .int (I 24 1)]) ::
  .inl (0, 120, .inl (A 25)) ::
  .inr (8, [.ref 30, .int (I 26 1), .ref 1, .ref 24, .ref 27, .ref 28, .int (I 26 6), .int (I 26 7), .int (I 26 8)]) ::
  .inl (0, 48, .inl (A 27)) ::
  .inr (5, [.ref 29, .int (I 28 1)]) ::
  .inl (0, 9, .inl (A 29)) ::
  .inr (6, [.ref 1, .ref 31, .ref 32]) ::
  .inl (0, 441, .inl (A 31)) ::
  .inl (0, 49, .inl (A 32)) ::
  .inr (7, [.ref 34, .ref 1, .ref 20, .ref 36, .int (I 33 4)]) ::
  .inr (5, [.ref 35, .int (I 34 1)]) ::
  .inl (0, 9, .inl (A 35)) ::
  .inl (0, 4, .inl (A 36)) ::
  .inr (1, [.ref 1, .ref 20, .ref 33, .ref 30]) ::
  .inr (3, [.ref 1, .ref 20, .ref 33, .ref 45, .ref 39, .ref 43, .ref 44]) ::
  .inr (9, [.ref 40, .ref 42, .int (I 39 2), .int (I 39 3)]) ::
  .inr (0, [.ref 41, .int (I 40 1)]) ::
  .inl (0, 120, .inl (A 41)) ::
  .inl (0, 4, .inl (A 42)) ::
  .inl (1, 49, .inl (A 43)) ::
  .inl (1, 49, .inl (A 44)) ::
  .inr (6, [.ref 1, .ref 46, .ref 47]) ::
  .inl (0, 441, .inl (A 46)) ::
  .inl (0, 49, .inl (A 47)) ::
  .inr (12, [.int (I 48 0), .ref 49, .ref 50, .ref 51, .ref 52, .ref 53, .ref 54, .ref 55, .int (I 48 8), .int (I 48 9), .ref 56, .int (I 48 11), .ref 57, .int (I 48 13), .int (I 48 14), .ref 58, .ref 59, .ref 60, .int (I 48 18), .int (I 48 19), .ref 61, .int (I 48 21), .int (I 48 22), .int (I 48 23), .ref 62, .ref 63, .ref 64, .ref 65, .ref 66, .ref 67, .int (I 48 30), .ref 68]) ::
  .inl (0, 8, .inl (A 49)) ::
  .inl (0, 6, .inl (A 50)) ::
  .inl (0, 6, .inl (A 51)) ::
  .inl (0, 18, .inl (A 52)) ::
  .inl (0, 6, .inl (A 53)) ::
  .inl (0, 6, .inl (A 54)) ::
  .inl (0, 4, .inl (A 55)) ::
  .inl (0, 48, .inl (A 56)) ::
  .inl (0, 120, .inl (A 57)) ::
  .inl (0, 48, .inl (A 58)) ::
  .inl (0, 48, .inl (A 59)) ::
  .inl (0, 480, .inl (A 60)) ::
  .inl (0, 10, .inl (A 61)) ::
  .inl (1, 49, .inl (A 62)) ::
  .inl (1, 49, .inl (A 63)) ::
  .inl (1, 49, .inl (A 64)) ::
  .inl (1, 49, .inl (A 65)) ::
  .inl (0, 490, .inl (A 66)) ::
  .inl (0, 700, .inl (A 67)) ::
  .inl (0, 4, .inl (A 68)) ::
  .inl (2, 1, .inr (.inl L)) :: g
def sI (I : Nat → Nat → Int32) (a j : Nat) (x : Int32) : Nat → Nat → Int32 := fun b i => if b = a ∧ i = j then x else I b i
def sF (A : Nat → Nat → Int32) (a : Nat) (f : Nat → Int32) : Nat → Nat → Int32 := fun b => if b = a then f else A b
def sA (A : Nat → Nat → Int32) (a i : Nat) (x : Int32) : Nat → Nat → Int32 := sF A a (upd (A a) i x)
def inb (j : Int32) (n : Nat) : Prop := ¬ (j < 0 ∨ n ≤ j.toNatClampNeg)
section MK
variable (ol : pm_O) (A I : Nat → Nat → Int32) (L : Nat → Int64) (g : pm_H)
theorem is_0 : pm_is (mk A I L g) 0 11 = true := rfl
theorem fd_0_0 : pm_fd (mk A I L g) 0 11 0 = some (.ref 1) := rfl
theorem fd_0_1 : pm_fd (mk A I L g) 0 11 1 = some (.ref 20) := rfl
theorem fd_0_2 : pm_fd (mk A I L g) 0 11 2 = some (.ref 24) := rfl
theorem fd_0_3 : pm_fd (mk A I L g) 0 11 3 = some (.ref 26) := rfl
theorem fd_0_4 : pm_fd (mk A I L g) 0 11 4 = some (.ref 37) := rfl
theorem fd_0_5 : pm_fd (mk A I L g) 0 11 5 = some (.ref 38) := rfl
theorem is_1 : pm_is (mk A I L g) 1 10 = true := rfl
theorem fd_1_0 : pm_fd (mk A I L g) 1 10 0 = some (.ref 2) := rfl
theorem fd_1_1 : pm_fd (mk A I L g) 1 10 1 = some (.ref 3) := rfl
theorem fd_1_2 : pm_fd (mk A I L g) 1 10 2 = some (.ref 4) := rfl
theorem fd_1_3 : pm_fd (mk A I L g) 1 10 3 = some (.ref 5) := rfl
theorem fd_1_4 : pm_fd (mk A I L g) 1 10 4 = some (.ref 6) := rfl
theorem ai_2 (j : Int32) (h : inb j 8) : pm_ai ol (mk A I L g) 2 j = some (.int (A 2 j.toNatClampNeg)) := if_pos h
theorem si_2 (j x : Int32) (h : inb j 8) : pm_si (mk A I L g) 2 j x = some (mk (sA A 2 j.toNatClampNeg x) I L g) := if_pos h
theorem ln_2 : pm_ln ol (mk A I L g) 2 = some (.int 8) := rfl
theorem ai_3 (j : Int32) (h : inb j 6) : pm_ai ol (mk A I L g) 3 j = some (.int (A 3 j.toNatClampNeg)) := if_pos h
theorem si_3 (j x : Int32) (h : inb j 6) : pm_si (mk A I L g) 3 j x = some (mk (sA A 3 j.toNatClampNeg x) I L g) := if_pos h
theorem ln_3 : pm_ln ol (mk A I L g) 3 = some (.int 6) := rfl
theorem ai_4 (j : Int32) (h : inb j 6) : pm_ai ol (mk A I L g) 4 j = some (.int (A 4 j.toNatClampNeg)) := if_pos h
theorem si_4 (j x : Int32) (h : inb j 6) : pm_si (mk A I L g) 4 j x = some (mk (sA A 4 j.toNatClampNeg x) I L g) := if_pos h
theorem ln_4 : pm_ln ol (mk A I L g) 4 = some (.int 6) := rfl
theorem is_6 : pm_is (mk A I L g) 6 4 = true := rfl
theorem fd_6_0 : pm_fd (mk A I L g) 6 4 0 = some (.ref 7) := rfl
theorem fd_6_1 : pm_fd (mk A I L g) 6 4 1 = some (.int (I 6 1)) := rfl
theorem fs_6_1 (x : Int32) : pm_fs (mk A I L g) 6 4 1 (.int x) = some (mk A (sI I 6 1 x) L g) := rfl
theorem fd_6_2 : pm_fd (mk A I L g) 6 4 2 = some (.int (I 6 2)) := rfl
theorem fs_6_2 (x : Int32) : pm_fs (mk A I L g) 6 4 2 (.int x) = some (mk A (sI I 6 2 x) L g) := rfl
theorem ai_7 (j : Int32) (h : inb j 4) : pm_ai ol (mk A I L g) 7 j = some (.int (A 7 j.toNatClampNeg)) := if_pos h
theorem si_7 (j x : Int32) (h : inb j 4) : pm_si (mk A I L g) 7 j x = some (mk (sA A 7 j.toNatClampNeg x) I L g) := if_pos h
theorem ln_7 : pm_ln ol (mk A I L g) 7 = some (.int 4) := rfl
theorem is_8 : pm_is (mk A I L g) 8 4 = true := rfl
theorem fd_8_0 : pm_fd (mk A I L g) 8 4 0 = some (.ref 9) := rfl
theorem fd_8_1 : pm_fd (mk A I L g) 8 4 1 = some (.int (I 8 1)) := rfl
theorem fs_8_1 (x : Int32) : pm_fs (mk A I L g) 8 4 1 (.int x) = some (mk A (sI I 8 1 x) L g) := rfl
theorem fd_8_2 : pm_fd (mk A I L g) 8 4 2 = some (.int (I 8 2)) := rfl
theorem fs_8_2 (x : Int32) : pm_fs (mk A I L g) 8 4 2 (.int x) = some (mk A (sI I 8 2 x) L g) := rfl
theorem ai_9 (j : Int32) (h : inb j 4) : pm_ai ol (mk A I L g) 9 j = some (.int (A 9 j.toNatClampNeg)) := if_pos h
theorem si_9 (j x : Int32) (h : inb j 4) : pm_si (mk A I L g) 9 j x = some (mk (sA A 9 j.toNatClampNeg x) I L g) := if_pos h
theorem ln_9 : pm_ln ol (mk A I L g) 9 = some (.int 4) := rfl
theorem is_10 : pm_is (mk A I L g) 10 4 = true := rfl
theorem fd_10_0 : pm_fd (mk A I L g) 10 4 0 = some (.ref 11) := rfl
theorem fd_10_1 : pm_fd (mk A I L g) 10 4 1 = some (.int (I 10 1)) := rfl
theorem fs_10_1 (x : Int32) : pm_fs (mk A I L g) 10 4 1 (.int x) = some (mk A (sI I 10 1 x) L g) := rfl
theorem fd_10_2 : pm_fd (mk A I L g) 10 4 2 = some (.int (I 10 2)) := rfl
theorem fs_10_2 (x : Int32) : pm_fs (mk A I L g) 10 4 2 (.int x) = some (mk A (sI I 10 2 x) L g) := rfl
theorem ai_11 (j : Int32) (h : inb j 4) : pm_ai ol (mk A I L g) 11 j = some (.int (A 11 j.toNatClampNeg)) := if_pos h
theorem si_11 (j x : Int32) (h : inb j 4) : pm_si (mk A I L g) 11 j x = some (mk (sA A 11 j.toNatClampNeg x) I L g) := if_pos h
theorem ln_11 : pm_ln ol (mk A I L g) 11 = some (.int 4) := rfl
theorem is_12 : pm_is (mk A I L g) 12 4 = true := rfl
theorem fd_12_0 : pm_fd (mk A I L g) 12 4 0 = some (.ref 13) := rfl
theorem fd_12_1 : pm_fd (mk A I L g) 12 4 1 = some (.int (I 12 1)) := rfl
theorem fs_12_1 (x : Int32) : pm_fs (mk A I L g) 12 4 1 (.int x) = some (mk A (sI I 12 1 x) L g) := rfl
theorem fd_12_2 : pm_fd (mk A I L g) 12 4 2 = some (.int (I 12 2)) := rfl
theorem fs_12_2 (x : Int32) : pm_fs (mk A I L g) 12 4 2 (.int x) = some (mk A (sI I 12 2 x) L g) := rfl
theorem ai_13 (j : Int32) (h : inb j 4) : pm_ai ol (mk A I L g) 13 j = some (.int (A 13 j.toNatClampNeg)) := if_pos h
theorem si_13 (j x : Int32) (h : inb j 4) : pm_si (mk A I L g) 13 j x = some (mk (sA A 13 j.toNatClampNeg x) I L g) := if_pos h
theorem ln_13 : pm_ln ol (mk A I L g) 13 = some (.int 4) := rfl
theorem is_14 : pm_is (mk A I L g) 14 4 = true := rfl
theorem fd_14_0 : pm_fd (mk A I L g) 14 4 0 = some (.ref 15) := rfl
theorem fd_14_1 : pm_fd (mk A I L g) 14 4 1 = some (.int (I 14 1)) := rfl
theorem fs_14_1 (x : Int32) : pm_fs (mk A I L g) 14 4 1 (.int x) = some (mk A (sI I 14 1 x) L g) := rfl
theorem fd_14_2 : pm_fd (mk A I L g) 14 4 2 = some (.int (I 14 2)) := rfl
theorem fs_14_2 (x : Int32) : pm_fs (mk A I L g) 14 4 2 (.int x) = some (mk A (sI I 14 2 x) L g) := rfl
theorem ai_15 (j : Int32) (h : inb j 4) : pm_ai ol (mk A I L g) 15 j = some (.int (A 15 j.toNatClampNeg)) := if_pos h
theorem si_15 (j x : Int32) (h : inb j 4) : pm_si (mk A I L g) 15 j x = some (mk (sA A 15 j.toNatClampNeg x) I L g) := if_pos h
theorem ln_15 : pm_ln ol (mk A I L g) 15 = some (.int 4) := rfl
theorem is_16 : pm_is (mk A I L g) 16 4 = true := rfl
theorem fd_16_0 : pm_fd (mk A I L g) 16 4 0 = some (.ref 17) := rfl
theorem fd_16_1 : pm_fd (mk A I L g) 16 4 1 = some (.int (I 16 1)) := rfl
theorem fs_16_1 (x : Int32) : pm_fs (mk A I L g) 16 4 1 (.int x) = some (mk A (sI I 16 1 x) L g) := rfl
theorem fd_16_2 : pm_fd (mk A I L g) 16 4 2 = some (.int (I 16 2)) := rfl
theorem fs_16_2 (x : Int32) : pm_fs (mk A I L g) 16 4 2 (.int x) = some (mk A (sI I 16 2 x) L g) := rfl
theorem ai_17 (j : Int32) (h : inb j 4) : pm_ai ol (mk A I L g) 17 j = some (.int (A 17 j.toNatClampNeg)) := if_pos h
theorem si_17 (j x : Int32) (h : inb j 4) : pm_si (mk A I L g) 17 j x = some (mk (sA A 17 j.toNatClampNeg x) I L g) := if_pos h
theorem ln_17 : pm_ln ol (mk A I L g) 17 = some (.int 4) := rfl
theorem is_18 : pm_is (mk A I L g) 18 4 = true := rfl
theorem fd_18_0 : pm_fd (mk A I L g) 18 4 0 = some (.ref 19) := rfl
theorem fd_18_1 : pm_fd (mk A I L g) 18 4 1 = some (.int (I 18 1)) := rfl
theorem fs_18_1 (x : Int32) : pm_fs (mk A I L g) 18 4 1 (.int x) = some (mk A (sI I 18 1 x) L g) := rfl
theorem fd_18_2 : pm_fd (mk A I L g) 18 4 2 = some (.int (I 18 2)) := rfl
theorem fs_18_2 (x : Int32) : pm_fs (mk A I L g) 18 4 2 (.int x) = some (mk A (sI I 18 2 x) L g) := rfl
theorem ai_19 (j : Int32) (h : inb j 4) : pm_ai ol (mk A I L g) 19 j = some (.int (A 19 j.toNatClampNeg)) := if_pos h
theorem si_19 (j x : Int32) (h : inb j 4) : pm_si (mk A I L g) 19 j x = some (mk (sA A 19 j.toNatClampNeg x) I L g) := if_pos h
theorem ln_19 : pm_ln ol (mk A I L g) 19 = some (.int 4) := rfl
theorem is_20 : pm_is (mk A I L g) 20 2 = true := rfl
theorem fd_20_0 : pm_fd (mk A I L g) 20 2 0 = some (.ref 21) := rfl
theorem fd_20_1 : pm_fd (mk A I L g) 20 2 1 = some (.ref 23) := rfl
theorem is_21 : pm_is (mk A I L g) 21 0 = true := rfl
theorem fd_21_0 : pm_fd (mk A I L g) 21 0 0 = some (.ref 22) := rfl
theorem fd_21_1 : pm_fd (mk A I L g) 21 0 1 = some (.int (I 21 1)) := rfl
theorem fs_21_1 (x : Int32) : pm_fs (mk A I L g) 21 0 1 (.int x) = some (mk A (sI I 21 1 x) L g) := rfl
theorem ai_22 (j : Int32) (h : inb j 48) : pm_ai ol (mk A I L g) 22 j = some (.int (A 22 j.toNatClampNeg)) := if_pos h
theorem si_22 (j x : Int32) (h : inb j 48) : pm_si (mk A I L g) 22 j x = some (mk (sA A 22 j.toNatClampNeg x) I L g) := if_pos h
theorem ln_22 : pm_ln ol (mk A I L g) 22 = some (.int 48) := rfl
theorem az_23 (j : Int32) (h : inb j 48) : pm_az (mk A I L g) 23 j = some (.int (A 23 j.toNatClampNeg)) := if_pos h
theorem sb_23 (j x : Int32) (h : inb j 48) : pm_sb (mk A I L g) 23 j x = some (mk (sA A 23 j.toNatClampNeg (vp_nar .boolean x)) I L g) := if_pos h
theorem ln_23 : pm_ln ol (mk A I L g) 23 = some (.int 48) := rfl
theorem is_24 : pm_is (mk A I L g) 24 0 = true := rfl
theorem fd_24_0 : pm_fd (mk A I L g) 24 0 0 = some (.ref 25) := rfl
theorem fd_24_1 : pm_fd (mk A I L g) 24 0 1 = some (.int (I 24 1)) := rfl
theorem fs_24_1 (x : Int32) : pm_fs (mk A I L g) 24 0 1 (.int x) = some (mk A (sI I 24 1 x) L g) := rfl
theorem ai_25 (j : Int32) (h : inb j 120) : pm_ai ol (mk A I L g) 25 j = some (.int (A 25 j.toNatClampNeg)) := if_pos h
theorem si_25 (j x : Int32) (h : inb j 120) : pm_si (mk A I L g) 25 j x = some (mk (sA A 25 j.toNatClampNeg x) I L g) := if_pos h
theorem ln_25 : pm_ln ol (mk A I L g) 25 = some (.int 120) := rfl
theorem is_26 : pm_is (mk A I L g) 26 8 = true := rfl
theorem fd_26_0 : pm_fd (mk A I L g) 26 8 0 = some (.ref 30) := rfl
theorem fd_26_1 : pm_fd (mk A I L g) 26 8 1 = some (.int (I 26 1)) := rfl
theorem fs_26_1 (x : Int32) : pm_fs (mk A I L g) 26 8 1 (.int x) = some (mk A (sI I 26 1 x) L g) := rfl
theorem fd_26_2 : pm_fd (mk A I L g) 26 8 2 = some (.ref 1) := rfl
theorem fd_26_3 : pm_fd (mk A I L g) 26 8 3 = some (.ref 24) := rfl
theorem fd_26_4 : pm_fd (mk A I L g) 26 8 4 = some (.ref 27) := rfl
theorem fd_26_5 : pm_fd (mk A I L g) 26 8 5 = some (.ref 28) := rfl
theorem fd_26_6 : pm_fd (mk A I L g) 26 8 6 = some (.int (I 26 6)) := rfl
theorem fs_26_6 (x : Int32) : pm_fs (mk A I L g) 26 8 6 (.int x) = some (mk A (sI I 26 6 x) L g) := rfl
theorem fd_26_7 : pm_fd (mk A I L g) 26 8 7 = some (.int (I 26 7)) := rfl
theorem fs_26_7 (x : Int32) : pm_fs (mk A I L g) 26 8 7 (.int x) = some (mk A (sI I 26 7 x) L g) := rfl
theorem fd_26_8 : pm_fd (mk A I L g) 26 8 8 = some (.int (I 26 8)) := rfl
theorem fs_26_8 (x : Int32) : pm_fs (mk A I L g) 26 8 8 (.int x) = some (mk A (sI I 26 8 x) L g) := rfl
theorem ai_27 (j : Int32) (h : inb j 48) : pm_ai ol (mk A I L g) 27 j = some (.int (A 27 j.toNatClampNeg)) := if_pos h
theorem si_27 (j x : Int32) (h : inb j 48) : pm_si (mk A I L g) 27 j x = some (mk (sA A 27 j.toNatClampNeg x) I L g) := if_pos h
theorem ln_27 : pm_ln ol (mk A I L g) 27 = some (.int 48) := rfl
theorem is_28 : pm_is (mk A I L g) 28 5 = true := rfl
theorem fd_28_0 : pm_fd (mk A I L g) 28 5 0 = some (.ref 29) := rfl
theorem fd_28_1 : pm_fd (mk A I L g) 28 5 1 = some (.int (I 28 1)) := rfl
theorem fs_28_1 (x : Int32) : pm_fs (mk A I L g) 28 5 1 (.int x) = some (mk A (sI I 28 1 x) L g) := rfl
theorem ai_29 (j : Int32) (h : inb j 9) : pm_ai ol (mk A I L g) 29 j = some (.int (A 29 j.toNatClampNeg)) := if_pos h
theorem si_29 (j x : Int32) (h : inb j 9) : pm_si (mk A I L g) 29 j x = some (mk (sA A 29 j.toNatClampNeg x) I L g) := if_pos h
theorem ln_29 : pm_ln ol (mk A I L g) 29 = some (.int 9) := rfl
theorem is_30 : pm_is (mk A I L g) 30 6 = true := rfl
theorem fd_30_0 : pm_fd (mk A I L g) 30 6 0 = some (.ref 1) := rfl
theorem fd_30_1 : pm_fd (mk A I L g) 30 6 1 = some (.ref 31) := rfl
theorem fd_30_2 : pm_fd (mk A I L g) 30 6 2 = some (.ref 32) := rfl
theorem ai_31 (j : Int32) (h : inb j 441) : pm_ai ol (mk A I L g) 31 j = some (.int (A 31 j.toNatClampNeg)) := if_pos h
theorem si_31 (j x : Int32) (h : inb j 441) : pm_si (mk A I L g) 31 j x = some (mk (sA A 31 j.toNatClampNeg x) I L g) := if_pos h
theorem ln_31 : pm_ln ol (mk A I L g) 31 = some (.int 441) := rfl
theorem ai_32 (j : Int32) (h : inb j 49) : pm_ai ol (mk A I L g) 32 j = some (.int (A 32 j.toNatClampNeg)) := if_pos h
theorem si_32 (j x : Int32) (h : inb j 49) : pm_si (mk A I L g) 32 j x = some (mk (sA A 32 j.toNatClampNeg x) I L g) := if_pos h
theorem ln_32 : pm_ln ol (mk A I L g) 32 = some (.int 49) := rfl
theorem is_33 : pm_is (mk A I L g) 33 7 = true := rfl
theorem fd_33_0 : pm_fd (mk A I L g) 33 7 0 = some (.ref 34) := rfl
theorem fd_33_1 : pm_fd (mk A I L g) 33 7 1 = some (.ref 1) := rfl
theorem fd_33_2 : pm_fd (mk A I L g) 33 7 2 = some (.ref 20) := rfl
theorem fd_33_3 : pm_fd (mk A I L g) 33 7 3 = some (.ref 36) := rfl
theorem fd_33_4 : pm_fd (mk A I L g) 33 7 4 = some (.int (I 33 4)) := rfl
theorem fs_33_4 (x : Int32) : pm_fs (mk A I L g) 33 7 4 (.int x) = some (mk A (sI I 33 4 x) L g) := rfl
theorem is_34 : pm_is (mk A I L g) 34 5 = true := rfl
theorem fd_34_0 : pm_fd (mk A I L g) 34 5 0 = some (.ref 35) := rfl
theorem fd_34_1 : pm_fd (mk A I L g) 34 5 1 = some (.int (I 34 1)) := rfl
theorem fs_34_1 (x : Int32) : pm_fs (mk A I L g) 34 5 1 (.int x) = some (mk A (sI I 34 1 x) L g) := rfl
theorem ai_35 (j : Int32) (h : inb j 9) : pm_ai ol (mk A I L g) 35 j = some (.int (A 35 j.toNatClampNeg)) := if_pos h
theorem si_35 (j x : Int32) (h : inb j 9) : pm_si (mk A I L g) 35 j x = some (mk (sA A 35 j.toNatClampNeg x) I L g) := if_pos h
theorem ln_35 : pm_ln ol (mk A I L g) 35 = some (.int 9) := rfl
theorem ai_36 (j : Int32) (h : inb j 4) : pm_ai ol (mk A I L g) 36 j = some (.int (A 36 j.toNatClampNeg)) := if_pos h
theorem si_36 (j x : Int32) (h : inb j 4) : pm_si (mk A I L g) 36 j x = some (mk (sA A 36 j.toNatClampNeg x) I L g) := if_pos h
theorem ln_36 : pm_ln ol (mk A I L g) 36 = some (.int 4) := rfl
theorem is_37 : pm_is (mk A I L g) 37 1 = true := rfl
theorem fd_37_0 : pm_fd (mk A I L g) 37 1 0 = some (.ref 1) := rfl
theorem fd_37_1 : pm_fd (mk A I L g) 37 1 1 = some (.ref 20) := rfl
theorem fd_37_2 : pm_fd (mk A I L g) 37 1 2 = some (.ref 33) := rfl
theorem fd_37_3 : pm_fd (mk A I L g) 37 1 3 = some (.ref 30) := rfl
theorem is_38 : pm_is (mk A I L g) 38 3 = true := rfl
theorem fd_38_0 : pm_fd (mk A I L g) 38 3 0 = some (.ref 1) := rfl
theorem fd_38_1 : pm_fd (mk A I L g) 38 3 1 = some (.ref 20) := rfl
theorem fd_38_2 : pm_fd (mk A I L g) 38 3 2 = some (.ref 33) := rfl
theorem fd_38_3 : pm_fd (mk A I L g) 38 3 3 = some (.ref 45) := rfl
theorem fd_38_4 : pm_fd (mk A I L g) 38 3 4 = some (.ref 39) := rfl
theorem fd_38_5 : pm_fd (mk A I L g) 38 3 5 = some (.ref 43) := rfl
theorem fd_38_6 : pm_fd (mk A I L g) 38 3 6 = some (.ref 44) := rfl
theorem is_39 : pm_is (mk A I L g) 39 9 = true := rfl
theorem fd_39_0 : pm_fd (mk A I L g) 39 9 0 = some (.ref 40) := rfl
theorem fd_39_1 : pm_fd (mk A I L g) 39 9 1 = some (.ref 42) := rfl
theorem fd_39_2 : pm_fd (mk A I L g) 39 9 2 = some (.int (I 39 2)) := rfl
theorem fs_39_2 (x : Int32) : pm_fs (mk A I L g) 39 9 2 (.int x) = some (mk A (sI I 39 2 x) L g) := rfl
theorem fd_39_3 : pm_fd (mk A I L g) 39 9 3 = some (.int (I 39 3)) := rfl
theorem fs_39_3 (x : Int32) : pm_fs (mk A I L g) 39 9 3 (.int x) = some (mk A (sI I 39 3 x) L g) := rfl
theorem is_40 : pm_is (mk A I L g) 40 0 = true := rfl
theorem fd_40_0 : pm_fd (mk A I L g) 40 0 0 = some (.ref 41) := rfl
theorem fd_40_1 : pm_fd (mk A I L g) 40 0 1 = some (.int (I 40 1)) := rfl
theorem fs_40_1 (x : Int32) : pm_fs (mk A I L g) 40 0 1 (.int x) = some (mk A (sI I 40 1 x) L g) := rfl
theorem ai_41 (j : Int32) (h : inb j 120) : pm_ai ol (mk A I L g) 41 j = some (.int (A 41 j.toNatClampNeg)) := if_pos h
theorem si_41 (j x : Int32) (h : inb j 120) : pm_si (mk A I L g) 41 j x = some (mk (sA A 41 j.toNatClampNeg x) I L g) := if_pos h
theorem ln_41 : pm_ln ol (mk A I L g) 41 = some (.int 120) := rfl
theorem ai_42 (j : Int32) (h : inb j 4) : pm_ai ol (mk A I L g) 42 j = some (.int (A 42 j.toNatClampNeg)) := if_pos h
theorem si_42 (j x : Int32) (h : inb j 4) : pm_si (mk A I L g) 42 j x = some (mk (sA A 42 j.toNatClampNeg x) I L g) := if_pos h
theorem ln_42 : pm_ln ol (mk A I L g) 42 = some (.int 4) := rfl
theorem az_43 (j : Int32) (h : inb j 49) : pm_az (mk A I L g) 43 j = some (.int (A 43 j.toNatClampNeg)) := if_pos h
theorem sb_43 (j x : Int32) (h : inb j 49) : pm_sb (mk A I L g) 43 j x = some (mk (sA A 43 j.toNatClampNeg (vp_nar .boolean x)) I L g) := if_pos h
theorem ln_43 : pm_ln ol (mk A I L g) 43 = some (.int 49) := rfl
theorem az_44 (j : Int32) (h : inb j 49) : pm_az (mk A I L g) 44 j = some (.int (A 44 j.toNatClampNeg)) := if_pos h
theorem sb_44 (j x : Int32) (h : inb j 49) : pm_sb (mk A I L g) 44 j x = some (mk (sA A 44 j.toNatClampNeg (vp_nar .boolean x)) I L g) := if_pos h
theorem ln_44 : pm_ln ol (mk A I L g) 44 = some (.int 49) := rfl
theorem is_45 : pm_is (mk A I L g) 45 6 = true := rfl
theorem fd_45_0 : pm_fd (mk A I L g) 45 6 0 = some (.ref 1) := rfl
theorem fd_45_1 : pm_fd (mk A I L g) 45 6 1 = some (.ref 46) := rfl
theorem fd_45_2 : pm_fd (mk A I L g) 45 6 2 = some (.ref 47) := rfl
theorem ai_46 (j : Int32) (h : inb j 441) : pm_ai ol (mk A I L g) 46 j = some (.int (A 46 j.toNatClampNeg)) := if_pos h
theorem si_46 (j x : Int32) (h : inb j 441) : pm_si (mk A I L g) 46 j x = some (mk (sA A 46 j.toNatClampNeg x) I L g) := if_pos h
theorem ln_46 : pm_ln ol (mk A I L g) 46 = some (.int 441) := rfl
theorem ai_47 (j : Int32) (h : inb j 49) : pm_ai ol (mk A I L g) 47 j = some (.int (A 47 j.toNatClampNeg)) := if_pos h
theorem si_47 (j x : Int32) (h : inb j 49) : pm_si (mk A I L g) 47 j x = some (mk (sA A 47 j.toNatClampNeg x) I L g) := if_pos h
theorem ln_47 : pm_ln ol (mk A I L g) 47 = some (.int 49) := rfl
theorem is_48 : pm_is (mk A I L g) 48 12 = true := rfl
theorem fd_48_0 : pm_fd (mk A I L g) 48 12 0 = some (.int (I 48 0)) := rfl
theorem fs_48_0 (x : Int32) : pm_fs (mk A I L g) 48 12 0 (.int x) = some (mk A (sI I 48 0 x) L g) := rfl
theorem fd_48_1 : pm_fd (mk A I L g) 48 12 1 = some (.ref 49) := rfl
theorem fd_48_2 : pm_fd (mk A I L g) 48 12 2 = some (.ref 50) := rfl
theorem fd_48_3 : pm_fd (mk A I L g) 48 12 3 = some (.ref 51) := rfl
theorem fd_48_4 : pm_fd (mk A I L g) 48 12 4 = some (.ref 52) := rfl
theorem fd_48_5 : pm_fd (mk A I L g) 48 12 5 = some (.ref 53) := rfl
theorem fd_48_6 : pm_fd (mk A I L g) 48 12 6 = some (.ref 54) := rfl
theorem fd_48_7 : pm_fd (mk A I L g) 48 12 7 = some (.ref 55) := rfl
theorem fd_48_8 : pm_fd (mk A I L g) 48 12 8 = some (.int (I 48 8)) := rfl
theorem fs_48_8 (x : Int32) : pm_fs (mk A I L g) 48 12 8 (.int x) = some (mk A (sI I 48 8 x) L g) := rfl
theorem fd_48_9 : pm_fd (mk A I L g) 48 12 9 = some (.int (I 48 9)) := rfl
theorem fs_48_9 (x : Int32) : pm_fs (mk A I L g) 48 12 9 (.int x) = some (mk A (sI I 48 9 x) L g) := rfl
theorem fd_48_10 : pm_fd (mk A I L g) 48 12 10 = some (.ref 56) := rfl
theorem fd_48_11 : pm_fd (mk A I L g) 48 12 11 = some (.int (I 48 11)) := rfl
theorem fs_48_11 (x : Int32) : pm_fs (mk A I L g) 48 12 11 (.int x) = some (mk A (sI I 48 11 x) L g) := rfl
theorem fd_48_12 : pm_fd (mk A I L g) 48 12 12 = some (.ref 57) := rfl
theorem fd_48_13 : pm_fd (mk A I L g) 48 12 13 = some (.int (I 48 13)) := rfl
theorem fs_48_13 (x : Int32) : pm_fs (mk A I L g) 48 12 13 (.int x) = some (mk A (sI I 48 13 x) L g) := rfl
theorem fd_48_14 : pm_fd (mk A I L g) 48 12 14 = some (.int (I 48 14)) := rfl
theorem fs_48_14 (x : Int32) : pm_fs (mk A I L g) 48 12 14 (.int x) = some (mk A (sI I 48 14 x) L g) := rfl
theorem fd_48_15 : pm_fd (mk A I L g) 48 12 15 = some (.ref 58) := rfl
theorem fd_48_16 : pm_fd (mk A I L g) 48 12 16 = some (.ref 59) := rfl
theorem fd_48_17 : pm_fd (mk A I L g) 48 12 17 = some (.ref 60) := rfl
theorem fd_48_18 : pm_fd (mk A I L g) 48 12 18 = some (.int (I 48 18)) := rfl
theorem fs_48_18 (x : Int32) : pm_fs (mk A I L g) 48 12 18 (.int x) = some (mk A (sI I 48 18 x) L g) := rfl
theorem fd_48_19 : pm_fd (mk A I L g) 48 12 19 = some (.int (I 48 19)) := rfl
theorem fs_48_19 (x : Int32) : pm_fs (mk A I L g) 48 12 19 (.int x) = some (mk A (sI I 48 19 x) L g) := rfl
theorem fd_48_20 : pm_fd (mk A I L g) 48 12 20 = some (.ref 61) := rfl
theorem fd_48_21 : pm_fd (mk A I L g) 48 12 21 = some (.int (I 48 21)) := rfl
theorem fs_48_21 (x : Int32) : pm_fs (mk A I L g) 48 12 21 (.int x) = some (mk A (sI I 48 21 x) L g) := rfl
theorem fd_48_22 : pm_fd (mk A I L g) 48 12 22 = some (.int (I 48 22)) := rfl
theorem fs_48_22 (x : Int32) : pm_fs (mk A I L g) 48 12 22 (.int x) = some (mk A (sI I 48 22 x) L g) := rfl
theorem fd_48_23 : pm_fd (mk A I L g) 48 12 23 = some (.int (I 48 23)) := rfl
theorem fs_48_23 (x : Int32) : pm_fs (mk A I L g) 48 12 23 (.int x) = some (mk A (sI I 48 23 x) L g) := rfl
theorem fd_48_24 : pm_fd (mk A I L g) 48 12 24 = some (.ref 62) := rfl
theorem fd_48_25 : pm_fd (mk A I L g) 48 12 25 = some (.ref 63) := rfl
theorem fd_48_26 : pm_fd (mk A I L g) 48 12 26 = some (.ref 64) := rfl
theorem fd_48_27 : pm_fd (mk A I L g) 48 12 27 = some (.ref 65) := rfl
theorem fd_48_28 : pm_fd (mk A I L g) 48 12 28 = some (.ref 66) := rfl
theorem fd_48_29 : pm_fd (mk A I L g) 48 12 29 = some (.ref 67) := rfl
theorem fd_48_30 : pm_fd (mk A I L g) 48 12 30 = some (.int (I 48 30)) := rfl
theorem fs_48_30 (x : Int32) : pm_fs (mk A I L g) 48 12 30 (.int x) = some (mk A (sI I 48 30 x) L g) := rfl
theorem fd_48_31 : pm_fd (mk A I L g) 48 12 31 = some (.ref 68) := rfl
theorem ai_49 (j : Int32) (h : inb j 8) : pm_ai ol (mk A I L g) 49 j = some (.int (A 49 j.toNatClampNeg)) := if_pos h
theorem si_49 (j x : Int32) (h : inb j 8) : pm_si (mk A I L g) 49 j x = some (mk (sA A 49 j.toNatClampNeg x) I L g) := if_pos h
theorem ln_49 : pm_ln ol (mk A I L g) 49 = some (.int 8) := rfl
theorem ai_50 (j : Int32) (h : inb j 6) : pm_ai ol (mk A I L g) 50 j = some (.int (A 50 j.toNatClampNeg)) := if_pos h
theorem si_50 (j x : Int32) (h : inb j 6) : pm_si (mk A I L g) 50 j x = some (mk (sA A 50 j.toNatClampNeg x) I L g) := if_pos h
theorem ln_50 : pm_ln ol (mk A I L g) 50 = some (.int 6) := rfl
theorem ai_51 (j : Int32) (h : inb j 6) : pm_ai ol (mk A I L g) 51 j = some (.int (A 51 j.toNatClampNeg)) := if_pos h
theorem si_51 (j x : Int32) (h : inb j 6) : pm_si (mk A I L g) 51 j x = some (mk (sA A 51 j.toNatClampNeg x) I L g) := if_pos h
theorem ln_51 : pm_ln ol (mk A I L g) 51 = some (.int 6) := rfl
theorem ai_52 (j : Int32) (h : inb j 18) : pm_ai ol (mk A I L g) 52 j = some (.int (A 52 j.toNatClampNeg)) := if_pos h
theorem si_52 (j x : Int32) (h : inb j 18) : pm_si (mk A I L g) 52 j x = some (mk (sA A 52 j.toNatClampNeg x) I L g) := if_pos h
theorem ln_52 : pm_ln ol (mk A I L g) 52 = some (.int 18) := rfl
theorem ai_53 (j : Int32) (h : inb j 6) : pm_ai ol (mk A I L g) 53 j = some (.int (A 53 j.toNatClampNeg)) := if_pos h
theorem si_53 (j x : Int32) (h : inb j 6) : pm_si (mk A I L g) 53 j x = some (mk (sA A 53 j.toNatClampNeg x) I L g) := if_pos h
theorem ln_53 : pm_ln ol (mk A I L g) 53 = some (.int 6) := rfl
theorem ai_54 (j : Int32) (h : inb j 6) : pm_ai ol (mk A I L g) 54 j = some (.int (A 54 j.toNatClampNeg)) := if_pos h
theorem si_54 (j x : Int32) (h : inb j 6) : pm_si (mk A I L g) 54 j x = some (mk (sA A 54 j.toNatClampNeg x) I L g) := if_pos h
theorem ln_54 : pm_ln ol (mk A I L g) 54 = some (.int 6) := rfl
theorem ai_55 (j : Int32) (h : inb j 4) : pm_ai ol (mk A I L g) 55 j = some (.int (A 55 j.toNatClampNeg)) := if_pos h
theorem si_55 (j x : Int32) (h : inb j 4) : pm_si (mk A I L g) 55 j x = some (mk (sA A 55 j.toNatClampNeg x) I L g) := if_pos h
theorem ln_55 : pm_ln ol (mk A I L g) 55 = some (.int 4) := rfl
theorem ai_56 (j : Int32) (h : inb j 48) : pm_ai ol (mk A I L g) 56 j = some (.int (A 56 j.toNatClampNeg)) := if_pos h
theorem si_56 (j x : Int32) (h : inb j 48) : pm_si (mk A I L g) 56 j x = some (mk (sA A 56 j.toNatClampNeg x) I L g) := if_pos h
theorem ln_56 : pm_ln ol (mk A I L g) 56 = some (.int 48) := rfl
theorem ai_57 (j : Int32) (h : inb j 120) : pm_ai ol (mk A I L g) 57 j = some (.int (A 57 j.toNatClampNeg)) := if_pos h
theorem si_57 (j x : Int32) (h : inb j 120) : pm_si (mk A I L g) 57 j x = some (mk (sA A 57 j.toNatClampNeg x) I L g) := if_pos h
theorem ln_57 : pm_ln ol (mk A I L g) 57 = some (.int 120) := rfl
theorem ai_58 (j : Int32) (h : inb j 48) : pm_ai ol (mk A I L g) 58 j = some (.int (A 58 j.toNatClampNeg)) := if_pos h
theorem si_58 (j x : Int32) (h : inb j 48) : pm_si (mk A I L g) 58 j x = some (mk (sA A 58 j.toNatClampNeg x) I L g) := if_pos h
theorem ln_58 : pm_ln ol (mk A I L g) 58 = some (.int 48) := rfl
theorem ai_59 (j : Int32) (h : inb j 48) : pm_ai ol (mk A I L g) 59 j = some (.int (A 59 j.toNatClampNeg)) := if_pos h
theorem si_59 (j x : Int32) (h : inb j 48) : pm_si (mk A I L g) 59 j x = some (mk (sA A 59 j.toNatClampNeg x) I L g) := if_pos h
theorem ln_59 : pm_ln ol (mk A I L g) 59 = some (.int 48) := rfl
theorem ai_60 (j : Int32) (h : inb j 480) : pm_ai ol (mk A I L g) 60 j = some (.int (A 60 j.toNatClampNeg)) := if_pos h
theorem si_60 (j x : Int32) (h : inb j 480) : pm_si (mk A I L g) 60 j x = some (mk (sA A 60 j.toNatClampNeg x) I L g) := if_pos h
theorem ln_60 : pm_ln ol (mk A I L g) 60 = some (.int 480) := rfl
theorem ai_61 (j : Int32) (h : inb j 10) : pm_ai ol (mk A I L g) 61 j = some (.int (A 61 j.toNatClampNeg)) := if_pos h
theorem si_61 (j x : Int32) (h : inb j 10) : pm_si (mk A I L g) 61 j x = some (mk (sA A 61 j.toNatClampNeg x) I L g) := if_pos h
theorem ln_61 : pm_ln ol (mk A I L g) 61 = some (.int 10) := rfl
theorem az_62 (j : Int32) (h : inb j 49) : pm_az (mk A I L g) 62 j = some (.int (A 62 j.toNatClampNeg)) := if_pos h
theorem sb_62 (j x : Int32) (h : inb j 49) : pm_sb (mk A I L g) 62 j x = some (mk (sA A 62 j.toNatClampNeg (vp_nar .boolean x)) I L g) := if_pos h
theorem ln_62 : pm_ln ol (mk A I L g) 62 = some (.int 49) := rfl
theorem az_63 (j : Int32) (h : inb j 49) : pm_az (mk A I L g) 63 j = some (.int (A 63 j.toNatClampNeg)) := if_pos h
theorem sb_63 (j x : Int32) (h : inb j 49) : pm_sb (mk A I L g) 63 j x = some (mk (sA A 63 j.toNatClampNeg (vp_nar .boolean x)) I L g) := if_pos h
theorem ln_63 : pm_ln ol (mk A I L g) 63 = some (.int 49) := rfl
theorem az_64 (j : Int32) (h : inb j 49) : pm_az (mk A I L g) 64 j = some (.int (A 64 j.toNatClampNeg)) := if_pos h
theorem sb_64 (j x : Int32) (h : inb j 49) : pm_sb (mk A I L g) 64 j x = some (mk (sA A 64 j.toNatClampNeg (vp_nar .boolean x)) I L g) := if_pos h
theorem ln_64 : pm_ln ol (mk A I L g) 64 = some (.int 49) := rfl
theorem az_65 (j : Int32) (h : inb j 49) : pm_az (mk A I L g) 65 j = some (.int (A 65 j.toNatClampNeg)) := if_pos h
theorem sb_65 (j x : Int32) (h : inb j 49) : pm_sb (mk A I L g) 65 j x = some (mk (sA A 65 j.toNatClampNeg (vp_nar .boolean x)) I L g) := if_pos h
theorem ln_65 : pm_ln ol (mk A I L g) 65 = some (.int 49) := rfl
theorem ai_66 (j : Int32) (h : inb j 490) : pm_ai ol (mk A I L g) 66 j = some (.int (A 66 j.toNatClampNeg)) := if_pos h
theorem si_66 (j x : Int32) (h : inb j 490) : pm_si (mk A I L g) 66 j x = some (mk (sA A 66 j.toNatClampNeg x) I L g) := if_pos h
theorem ln_66 : pm_ln ol (mk A I L g) 66 = some (.int 490) := rfl
theorem ai_67 (j : Int32) (h : inb j 700) : pm_ai ol (mk A I L g) 67 j = some (.int (A 67 j.toNatClampNeg)) := if_pos h
theorem si_67 (j x : Int32) (h : inb j 700) : pm_si (mk A I L g) 67 j x = some (mk (sA A 67 j.toNatClampNeg x) I L g) := if_pos h
theorem ln_67 : pm_ln ol (mk A I L g) 67 = some (.int 700) := rfl
theorem ai_68 (j : Int32) (h : inb j 4) : pm_ai ol (mk A I L g) 68 j = some (.int (A 68 j.toNatClampNeg)) := if_pos h
theorem si_68 (j x : Int32) (h : inb j 4) : pm_si (mk A I L g) 68 j x = some (mk (sA A 68 j.toNatClampNeg x) I L g) := if_pos h
theorem ln_68 : pm_ln ol (mk A I L g) 68 = some (.int 4) := rfl
theorem cp_7_29 (sp dp n : Int32) (h : (¬ sp < 0 ∧ ¬ dp < 0 ∧ ¬ n < 0) ∧ sp.toNatClampNeg + n.toNatClampNeg ≤ 4 ∧ dp.toNatClampNeg + n.toNatClampNeg ≤ 9) : pm_cp (mk A I L g) 7 sp 29 dp n = some (mk (sF A 29 (va_cpy (A 7) (A 29) sp.toNatClampNeg dp.toNatClampNeg n.toNatClampNeg)) I L g) := if_pos h
theorem cp_7_35 (sp dp n : Int32) (h : (¬ sp < 0 ∧ ¬ dp < 0 ∧ ¬ n < 0) ∧ sp.toNatClampNeg + n.toNatClampNeg ≤ 4 ∧ dp.toNatClampNeg + n.toNatClampNeg ≤ 9) : pm_cp (mk A I L g) 7 sp 35 dp n = some (mk (sF A 35 (va_cpy (A 7) (A 35) sp.toNatClampNeg dp.toNatClampNeg n.toNatClampNeg)) I L g) := if_pos h
theorem cp_7_42 (sp dp n : Int32) (h : (¬ sp < 0 ∧ ¬ dp < 0 ∧ ¬ n < 0) ∧ sp.toNatClampNeg + n.toNatClampNeg ≤ 4 ∧ dp.toNatClampNeg + n.toNatClampNeg ≤ 4) : pm_cp (mk A I L g) 7 sp 42 dp n = some (mk (sF A 42 (va_cpy (A 7) (A 42) sp.toNatClampNeg dp.toNatClampNeg n.toNatClampNeg)) I L g) := if_pos h
theorem cp_29_31 (sp dp n : Int32) (h : (¬ sp < 0 ∧ ¬ dp < 0 ∧ ¬ n < 0) ∧ sp.toNatClampNeg + n.toNatClampNeg ≤ 9 ∧ dp.toNatClampNeg + n.toNatClampNeg ≤ 441) : pm_cp (mk A I L g) 29 sp 31 dp n = some (mk (sF A 31 (va_cpy (A 29) (A 31) sp.toNatClampNeg dp.toNatClampNeg n.toNatClampNeg)) I L g) := if_pos h
theorem cp_35_46 (sp dp n : Int32) (h : (¬ sp < 0 ∧ ¬ dp < 0 ∧ ¬ n < 0) ∧ sp.toNatClampNeg + n.toNatClampNeg ≤ 9 ∧ dp.toNatClampNeg + n.toNatClampNeg ≤ 441) : pm_cp (mk A I L g) 35 sp 46 dp n = some (mk (sF A 46 (va_cpy (A 35) (A 46) sp.toNatClampNeg dp.toNatClampNeg n.toNatClampNeg)) I L g) := if_pos h
theorem cp_31_35 (sp dp n : Int32) (h : (¬ sp < 0 ∧ ¬ dp < 0 ∧ ¬ n < 0) ∧ sp.toNatClampNeg + n.toNatClampNeg ≤ 441 ∧ dp.toNatClampNeg + n.toNatClampNeg ≤ 9) : pm_cp (mk A I L g) 31 sp 35 dp n = some (mk (sF A 35 (va_cpy (A 31) (A 35) sp.toNatClampNeg dp.toNatClampNeg n.toNatClampNeg)) I L g) := if_pos h
theorem cp_46_35 (sp dp n : Int32) (h : (¬ sp < 0 ∧ ¬ dp < 0 ∧ ¬ n < 0) ∧ sp.toNatClampNeg + n.toNatClampNeg ≤ 441 ∧ dp.toNatClampNeg + n.toNatClampNeg ≤ 9) : pm_cp (mk A I L g) 46 sp 35 dp n = some (mk (sF A 35 (va_cpy (A 46) (A 35) sp.toNatClampNeg dp.toNatClampNeg n.toNatClampNeg)) I L g) := if_pos h
theorem aq_5 (j : Int32) (h : inb j 6) : pm_aq (mk A I L g) 5 j = some (va_rf (mk_q j.toNatClampNeg)) := if_pos h
theorem aj_69 (j : Int32) (h : inb j 1) : pm_aj (mk A I L g) 69 j = some (.long (L j.toNatClampNeg)) := if_pos h
theorem sj_69 (j : Int32) (x : Int64) (h : inb j 1) : pm_sj (mk A I L g) 69 j x = some (mk A I (vp_updL L j.toNatClampNeg x) g) := if_pos h
end MK
theorem sI_s (I : Nat → Nat → Int32) (a j : Nat) (x : Int32) : sI I a j x a j = x := if_pos ⟨rfl, rfl⟩
theorem sI_n (I : Nat → Nat → Int32) {a j b i : Nat} (x : Int32) (h : ¬ (b = a ∧ i = j)) : sI I a j x b i = I b i := if_neg h
theorem sF_s (A : Nat → Nat → Int32) (a : Nat) (f : Nat → Int32) : sF A a f a = f := if_pos rfl
theorem sF_n (A : Nat → Nat → Int32) {a b : Nat} (f : Nat → Int32) (h : ¬ b = a) : sF A a f b = A b := if_neg h
end
section
/-! FrameTyper$Bytes.empty()V: 1 -/
theorem f1_0 (ol : pm_O) (orc : pm_Q) (x0 : Nat) (h : pm_H) : pm_F ol orc 1 0 [(0, .ref x0)] [] h = pm_F ol orc 1 1 [] [.ref x0] h := pm_F_nx rfl rfl rfl rfl
theorem f1_1 (ol : pm_O) (orc : pm_Q) (s0 : Nat) (h : pm_H) : pm_F ol orc 1 1 [] [.ref s0] h = pm_F ol orc 1 2 [] [.int (0), .ref s0] h := pm_F_nx rfl rfl rfl rfl
theorem f1_2 (ol : pm_O) (orc : pm_Q) (s0 : Int32) (s1 : Nat) (h : pm_H) : pm_F ol orc 1 2 [] [.int s0, .ref s1] h = pm_Ph ol orc 1 5 [] [] (pm_fs h s1 0 1 (.int s0)) := r_pf rfl rfl rfl rfl rfl rfl
theorem f1_5 (ol : pm_O) (orc : pm_Q)  (h : pm_H) : pm_F ol orc 1 5 [] [] h = some (none, h) := pm_F_rt rfl rfl rfl
theorem v1 (ol : pm_O) (orc : pm_Q) (x0 : Nat) (h : pm_H) : pm_V ol orc 1 [.ref x0] h = pm_F ol orc 1 0 [(0, .ref x0)] [] h := (if_pos (r_le rfl)).trans (pm_F_live rfl)
/-! FrameTyper$Bytes.get(I)I: 2 -/
theorem f2_0 (ol : pm_O) (orc : pm_Q) (x0 : Nat) (x1 : Int32) (h : pm_H) : pm_F ol orc 2 0 [(0, .ref x0), (1, .int x1)] [] h = pm_F ol orc 2 1 [(0, .ref x0), (1, .int x1)] [.int x1] h := pm_F_nx rfl rfl rfl rfl
theorem f2_1 (ol : pm_O) (orc : pm_Q) (x0 : Nat) (x1 : Int32) (s0 : Int32) (h : pm_H) : pm_F ol orc 2 1 [(0, .ref x0), (1, .int x1)] [.int s0] h = if s0 < 0 then pm_F ol orc 2 30 [] [] h else pm_F ol orc 2 4 [(0, .ref x0), (1, .int x1)] [] h := r_i1 rfl rfl rfl rfl rfl rfl rfl
theorem f2_4 (ol : pm_O) (orc : pm_Q) (x0 : Nat) (x1 : Int32) (h : pm_H) : pm_F ol orc 2 4 [(0, .ref x0), (1, .int x1)] [] h = pm_F ol orc 2 5 [(0, .ref x0), (1, .int x1)] [.int x1] h := pm_F_nx rfl rfl rfl rfl
theorem f2_5 (ol : pm_O) (orc : pm_Q) (x0 : Nat) (x1 : Int32) (s0 : Int32) (h : pm_H) : pm_F ol orc 2 5 [(0, .ref x0), (1, .int x1)] [.int s0] h = pm_F ol orc 2 6 [(0, .ref x0), (1, .int x1)] [.ref x0, .int s0] h := pm_F_nx rfl rfl rfl rfl
theorem f2_6 (ol : pm_O) (orc : pm_Q) (x0 : Nat) (x1 : Int32) (s0 : Nat) (s1 : Int32) (h : pm_H) : pm_F ol orc 2 6 [(0, .ref x0), (1, .int x1)] [.ref s0, .int s1] h = pm_Pv ol orc 2 9 [(0, .ref x0), (1, .int x1)] [.int s1] h (pm_fd h s0 0 1) := r_gf rfl rfl rfl rfl rfl rfl
theorem f2_9 (ol : pm_O) (orc : pm_Q) (x0 : Nat) (x1 : Int32) (s0 : Int32) (s1 : Int32) (h : pm_H) : pm_F ol orc 2 9 [(0, .ref x0), (1, .int x1)] [.int s0, .int s1] h = if s0 ≤ s1 then pm_F ol orc 2 30 [] [] h else pm_F ol orc 2 12 [(0, .ref x0), (1, .int x1)] [] h := r_i2 rfl rfl rfl rfl rfl rfl rfl
theorem f2_12 (ol : pm_O) (orc : pm_Q) (x0 : Nat) (x1 : Int32) (h : pm_H) : pm_F ol orc 2 12 [(0, .ref x0), (1, .int x1)] [] h = pm_F ol orc 2 13 [(0, .ref x0), (1, .int x1)] [.int x1] h := pm_F_nx rfl rfl rfl rfl
theorem f2_13 (ol : pm_O) (orc : pm_Q) (x0 : Nat) (x1 : Int32) (s0 : Int32) (h : pm_H) : pm_F ol orc 2 13 [(0, .ref x0), (1, .int x1)] [.int s0] h = pm_F ol orc 2 14 [(0, .ref x0), (1, .int x1)] [.ref x0, .int s0] h := pm_F_nx rfl rfl rfl rfl
theorem f2_14 (ol : pm_O) (orc : pm_Q) (x0 : Nat) (x1 : Int32) (s0 : Nat) (s1 : Int32) (h : pm_H) : pm_F ol orc 2 14 [(0, .ref x0), (1, .int x1)] [.ref s0, .int s1] h = pm_Pv ol orc 2 17 [(0, .ref x0), (1, .int x1)] [.int s1] h (pm_fd h s0 0 0) := r_gf rfl rfl rfl rfl rfl rfl
theorem f2_17 (ol : pm_O) (orc : pm_Q) (x0 : Nat) (x1 : Int32) (s0 : Nat) (s1 : Int32) (h : pm_H) : pm_F ol orc 2 17 [(0, .ref x0), (1, .int x1)] [.ref s0, .int s1] h = pm_Pv ol orc 2 18 [(0, .ref x0), (1, .int x1)] [.int s1] h (pm_ln ol h s0) := r_ln rfl rfl rfl rfl
theorem f2_18 (ol : pm_O) (orc : pm_Q) (x0 : Nat) (x1 : Int32) (s0 : Int32) (s1 : Int32) (h : pm_H) : pm_F ol orc 2 18 [(0, .ref x0), (1, .int x1)] [.int s0, .int s1] h = if s0 ≤ s1 then pm_F ol orc 2 30 [] [] h else pm_F ol orc 2 21 [(0, .ref x0), (1, .int x1)] [] h := r_i2 rfl rfl rfl rfl rfl rfl rfl
theorem f2_21 (ol : pm_O) (orc : pm_Q) (x0 : Nat) (x1 : Int32) (h : pm_H) : pm_F ol orc 2 21 [(0, .ref x0), (1, .int x1)] [] h = pm_F ol orc 2 22 [(1, .int x1)] [.ref x0] h := pm_F_nx rfl rfl rfl rfl
theorem f2_22 (ol : pm_O) (orc : pm_Q) (x1 : Int32) (s0 : Nat) (h : pm_H) : pm_F ol orc 2 22 [(1, .int x1)] [.ref s0] h = pm_Pv ol orc 2 25 [(1, .int x1)] [] h (pm_fd h s0 0 0) := r_gf rfl rfl rfl rfl rfl rfl
theorem f2_25 (ol : pm_O) (orc : pm_Q) (x1 : Int32) (s0 : Nat) (h : pm_H) : pm_F ol orc 2 25 [(1, .int x1)] [.ref s0] h = pm_F ol orc 2 26 [] [.int x1, .ref s0] h := pm_F_nx rfl rfl rfl rfl
theorem f2_26 (ol : pm_O) (orc : pm_Q) (s0 : Int32) (s1 : Nat) (h : pm_H) : pm_F ol orc 2 26 [] [.int s0, .ref s1] h = pm_Pv ol orc 2 27 [] [] h (pm_ai ol h s1 s0) := r_ia rfl rfl rfl rfl
theorem f2_27 (ol : pm_O) (orc : pm_Q) (s0 : Int32) (h : pm_H) : pm_F ol orc 2 27 [] [.int s0] h = pm_F ol orc 2 31 [] [.int s0] h := pm_F_nx rfl rfl rfl rfl
theorem f2_30 (ol : pm_O) (orc : pm_Q)  (h : pm_H) : pm_F ol orc 2 30 [] [] h = pm_F ol orc 2 31 [] [.int (-1)] h := pm_F_nx rfl rfl rfl rfl
theorem f2_31 (ol : pm_O) (orc : pm_Q) (s0 : Int32) (h : pm_H) : pm_F ol orc 2 31 [] [.int s0] h = some (some (.int s0), h) := pm_F_rt rfl rfl rfl
theorem v2 (ol : pm_O) (orc : pm_Q) (x0 : Nat) (x1 : Int32) (h : pm_H) : pm_V ol orc 2 [.ref x0, .int x1] h = pm_F ol orc 2 0 [(0, .ref x0), (1, .int x1)] [] h := (if_pos (r_le rfl)).trans (pm_F_live rfl)
/-! FrameTyper$Bytes.append(JI)I: 3 -/
theorem f3_0 (ol : pm_O) (orc : pm_Q) (x0 : Nat) (x1 : Int64) (x3 : Int32) (h : pm_H) : pm_F ol orc 3 0 [(0, .ref x0), (1, .long x1), (3, .int x3)] [] h = pm_F ol orc 3 1 [(0, .ref x0), (1, .long x1), (3, .int x3)] [.int x3] h := pm_F_nx rfl rfl rfl rfl
theorem f3_1 (ol : pm_O) (orc : pm_Q) (x0 : Nat) (x1 : Int64) (x3 : Int32) (s0 : Int32) (h : pm_H) : pm_F ol orc 3 1 [(0, .ref x0), (1, .long x1), (3, .int x3)] [.int s0] h = pm_F ol orc 3 2 [(0, .ref x0), (1, .long x1), (3, .int x3)] [.int (1), .int s0] h := pm_F_nx rfl rfl rfl rfl
theorem f3_2 (ol : pm_O) (orc : pm_Q) (x0 : Nat) (x1 : Int64) (x3 : Int32) (s0 : Int32) (s1 : Int32) (h : pm_H) : pm_F ol orc 3 2 [(0, .ref x0), (1, .long x1), (3, .int x3)] [.int s0, .int s1] h = if s1 < s0 then pm_F ol orc 3 25 [] [] h else pm_F ol orc 3 5 [(0, .ref x0), (1, .long x1), (3, .int x3)] [] h := r_i2 rfl rfl rfl rfl rfl rfl rfl
theorem f3_5 (ol : pm_O) (orc : pm_Q) (x0 : Nat) (x1 : Int64) (x3 : Int32) (h : pm_H) : pm_F ol orc 3 5 [(0, .ref x0), (1, .long x1), (3, .int x3)] [] h = pm_F ol orc 3 6 [(0, .ref x0), (1, .long x1), (3, .int x3)] [.int x3] h := pm_F_nx rfl rfl rfl rfl
theorem f3_6 (ol : pm_O) (orc : pm_Q) (x0 : Nat) (x1 : Int64) (x3 : Int32) (s0 : Int32) (h : pm_H) : pm_F ol orc 3 6 [(0, .ref x0), (1, .long x1), (3, .int x3)] [.int s0] h = pm_F ol orc 3 8 [(0, .ref x0), (1, .long x1), (3, .int x3)] [.int (8), .int s0] h := pm_F_nx rfl rfl rfl rfl
theorem f3_8 (ol : pm_O) (orc : pm_Q) (x0 : Nat) (x1 : Int64) (x3 : Int32) (s0 : Int32) (s1 : Int32) (h : pm_H) : pm_F ol orc 3 8 [(0, .ref x0), (1, .long x1), (3, .int x3)] [.int s0, .int s1] h = if s0 < s1 then pm_F ol orc 3 25 [] [] h else pm_F ol orc 3 11 [(0, .ref x0), (1, .long x1), (3, .int x3)] [] h := r_i2 rfl rfl rfl rfl rfl rfl rfl
theorem f3_11 (ol : pm_O) (orc : pm_Q) (x0 : Nat) (x1 : Int64) (x3 : Int32) (h : pm_H) : pm_F ol orc 3 11 [(0, .ref x0), (1, .long x1), (3, .int x3)] [] h = pm_F ol orc 3 12 [(0, .ref x0), (1, .long x1), (3, .int x3)] [.ref x0] h := pm_F_nx rfl rfl rfl rfl
theorem f3_12 (ol : pm_O) (orc : pm_Q) (x0 : Nat) (x1 : Int64) (x3 : Int32) (s0 : Nat) (h : pm_H) : pm_F ol orc 3 12 [(0, .ref x0), (1, .long x1), (3, .int x3)] [.ref s0] h = pm_Pv ol orc 3 15 [(0, .ref x0), (1, .long x1), (3, .int x3)] [] h (pm_fd h s0 0 1) := r_gf rfl rfl rfl rfl rfl rfl
theorem f3_15 (ol : pm_O) (orc : pm_Q) (x0 : Nat) (x1 : Int64) (x3 : Int32) (s0 : Int32) (h : pm_H) : pm_F ol orc 3 15 [(0, .ref x0), (1, .long x1), (3, .int x3)] [.int s0] h = pm_F ol orc 3 16 [(0, .ref x0), (1, .long x1), (3, .int x3)] [.int x3, .int s0] h := pm_F_nx rfl rfl rfl rfl
theorem f3_16 (ol : pm_O) (orc : pm_Q) (x0 : Nat) (x1 : Int64) (x3 : Int32) (s0 : Int32) (s1 : Int32) (h : pm_H) : pm_F ol orc 3 16 [(0, .ref x0), (1, .long x1), (3, .int x3)] [.int s0, .int s1] h = pm_F ol orc 3 17 [(0, .ref x0), (1, .long x1), (3, .int x3)] [.int (s1 + s0)] h := pm_F_nx rfl rfl rfl rfl
theorem f3_17 (ol : pm_O) (orc : pm_Q) (x0 : Nat) (x1 : Int64) (x3 : Int32) (s0 : Int32) (h : pm_H) : pm_F ol orc 3 17 [(0, .ref x0), (1, .long x1), (3, .int x3)] [.int s0] h = pm_F ol orc 3 18 [(0, .ref x0), (1, .long x1), (3, .int x3)] [.ref x0, .int s0] h := pm_F_nx rfl rfl rfl rfl
theorem f3_18 (ol : pm_O) (orc : pm_Q) (x0 : Nat) (x1 : Int64) (x3 : Int32) (s0 : Nat) (s1 : Int32) (h : pm_H) : pm_F ol orc 3 18 [(0, .ref x0), (1, .long x1), (3, .int x3)] [.ref s0, .int s1] h = pm_Pv ol orc 3 21 [(0, .ref x0), (1, .long x1), (3, .int x3)] [.int s1] h (pm_fd h s0 0 0) := r_gf rfl rfl rfl rfl rfl rfl
theorem f3_21 (ol : pm_O) (orc : pm_Q) (x0 : Nat) (x1 : Int64) (x3 : Int32) (s0 : Nat) (s1 : Int32) (h : pm_H) : pm_F ol orc 3 21 [(0, .ref x0), (1, .long x1), (3, .int x3)] [.ref s0, .int s1] h = pm_Pv ol orc 3 22 [(0, .ref x0), (1, .long x1), (3, .int x3)] [.int s1] h (pm_ln ol h s0) := r_ln rfl rfl rfl rfl
theorem f3_22 (ol : pm_O) (orc : pm_Q) (x0 : Nat) (x1 : Int64) (x3 : Int32) (s0 : Int32) (s1 : Int32) (h : pm_H) : pm_F ol orc 3 22 [(0, .ref x0), (1, .long x1), (3, .int x3)] [.int s0, .int s1] h = if s1 ≤ s0 then pm_F ol orc 3 27 [(0, .ref x0), (1, .long x1), (3, .int x3)] [] h else pm_F ol orc 3 25 [] [] h := r_i2 rfl rfl rfl rfl rfl rfl rfl
theorem f3_25 (ol : pm_O) (orc : pm_Q)  (h : pm_H) : pm_F ol orc 3 25 [] [] h = pm_F ol orc 3 26 [] [.int (-1)] h := pm_F_nx rfl rfl rfl rfl
theorem f3_26 (ol : pm_O) (orc : pm_Q) (s0 : Int32) (h : pm_H) : pm_F ol orc 3 26 [] [.int s0] h = some (some (.int s0), h) := pm_F_rt rfl rfl rfl
theorem f3_27 (ol : pm_O) (orc : pm_Q) (x0 : Nat) (x1 : Int64) (x3 : Int32) (h : pm_H) : pm_F ol orc 3 27 [(0, .ref x0), (1, .long x1), (3, .int x3)] [] h = pm_F ol orc 3 28 [(0, .ref x0), (1, .long x1)] [.int x3] h := pm_F_nx rfl rfl rfl rfl
theorem f3_28 (ol : pm_O) (orc : pm_Q) (x0 : Nat) (x1 : Int64) (s0 : Int32) (h : pm_H) : pm_F ol orc 3 28 [(0, .ref x0), (1, .long x1)] [.int s0] h = pm_F ol orc 3 29 [(0, .ref x0), (1, .long x1)] [.int (1), .int s0] h := pm_F_nx rfl rfl rfl rfl
theorem f3_29 (ol : pm_O) (orc : pm_Q) (x0 : Nat) (x1 : Int64) (s0 : Int32) (s1 : Int32) (h : pm_H) : pm_F ol orc 3 29 [(0, .ref x0), (1, .long x1)] [.int s0, .int s1] h = pm_F ol orc 3 30 [(0, .ref x0), (1, .long x1)] [.int (s1 - s0)] h := pm_F_nx rfl rfl rfl rfl
theorem f3_30 (ol : pm_O) (orc : pm_Q) (x0 : Nat) (x1 : Int64) (s0 : Int32) (h : pm_H) : pm_F ol orc 3 30 [(0, .ref x0), (1, .long x1)] [.int s0] h = pm_F ol orc 3 32 [(0, .ref x0), (1, .long x1), (4, .int s0)] [] h := pm_F_nx rfl rfl rfl rfl
theorem f3_32 (ol : pm_O) (orc : pm_Q) (x0 : Nat) (x1 : Int64) (x4 : Int32) (h : pm_H) : pm_F ol orc 3 32 [(0, .ref x0), (1, .long x1), (4, .int x4)] [] h = pm_F ol orc 3 34 [(0, .ref x0), (1, .long x1), (4, .int x4)] [.int x4] h := pm_F_nx rfl rfl rfl rfl
theorem f3_34 (ol : pm_O) (orc : pm_Q) (x0 : Nat) (x1 : Int64) (x4 : Int32) (s0 : Int32) (h : pm_H) : pm_F ol orc 3 34 [(0, .ref x0), (1, .long x1), (4, .int x4)] [.int s0] h = if s0 < 0 then pm_F ol orc 3 59 [(0, .ref x0)] [] h else pm_F ol orc 3 37 [(0, .ref x0), (1, .long x1), (4, .int x4)] [] h := r_i1 rfl rfl rfl rfl rfl rfl rfl
theorem f3_37 (ol : pm_O) (orc : pm_Q) (x0 : Nat) (x1 : Int64) (x4 : Int32) (h : pm_H) : pm_F ol orc 3 37 [(0, .ref x0), (1, .long x1), (4, .int x4)] [] h = pm_F ol orc 3 38 [(0, .ref x0), (1, .long x1), (4, .int x4)] [.ref x0] h := pm_F_nx rfl rfl rfl rfl
theorem f3_38 (ol : pm_O) (orc : pm_Q) (x0 : Nat) (x1 : Int64) (x4 : Int32) (s0 : Nat) (h : pm_H) : pm_F ol orc 3 38 [(0, .ref x0), (1, .long x1), (4, .int x4)] [.ref s0] h = pm_F ol orc 3 39 [(0, .ref x0), (1, .long x1), (4, .int x4)] [.long x1, .ref s0] h := pm_F_nx rfl rfl rfl rfl
theorem f3_39 (ol : pm_O) (orc : pm_Q) (x0 : Nat) (x1 : Int64) (x4 : Int32) (s0 : Int64) (s1 : Nat) (h : pm_H) : pm_F ol orc 3 39 [(0, .ref x0), (1, .long x1), (4, .int x4)] [.long s0, .ref s1] h = pm_F ol orc 3 41 [(0, .ref x0), (1, .long x1), (4, .int x4)] [.int (8), .long s0, .ref s1] h := pm_F_nx rfl rfl rfl rfl
theorem f3_41 (ol : pm_O) (orc : pm_Q) (x0 : Nat) (x1 : Int64) (x4 : Int32) (s0 : Int32) (s1 : Int64) (s2 : Nat) (h : pm_H) : pm_F ol orc 3 41 [(0, .ref x0), (1, .long x1), (4, .int x4)] [.int s0, .long s1, .ref s2] h = pm_F ol orc 3 43 [(0, .ref x0), (1, .long x1), (4, .int x4)] [.int x4, .int s0, .long s1, .ref s2] h := pm_F_nx rfl rfl rfl rfl
theorem f3_43 (ol : pm_O) (orc : pm_Q) (x0 : Nat) (x1 : Int64) (x4 : Int32) (s0 : Int32) (s1 : Int32) (s2 : Int64) (s3 : Nat) (h : pm_H) : pm_F ol orc 3 43 [(0, .ref x0), (1, .long x1), (4, .int x4)] [.int s0, .int s1, .long s2, .ref s3] h = pm_F ol orc 3 44 [(0, .ref x0), (1, .long x1), (4, .int x4)] [.int (s1 * s0), .long s2, .ref s3] h := pm_F_nx rfl rfl rfl rfl
theorem f3_44 (ol : pm_O) (orc : pm_Q) (x0 : Nat) (x1 : Int64) (x4 : Int32) (s0 : Int32) (s1 : Int64) (s2 : Nat) (h : pm_H) : pm_F ol orc 3 44 [(0, .ref x0), (1, .long x1), (4, .int x4)] [.int s0, .long s1, .ref s2] h = pm_F ol orc 3 45 [(0, .ref x0), (1, .long x1), (4, .int x4)] [.long ((s1.toUInt64 >>> (s0.toInt64.toUInt64 &&& Int64.toUInt64 63)).toInt64), .ref s2] h := pm_F_nx rfl rfl rfl rfl
theorem f3_45 (ol : pm_O) (orc : pm_Q) (x0 : Nat) (x1 : Int64) (x4 : Int32) (s0 : Int64) (s1 : Nat) (h : pm_H) : pm_F ol orc 3 45 [(0, .ref x0), (1, .long x1), (4, .int x4)] [.long s0, .ref s1] h = pm_F ol orc 3 46 [(0, .ref x0), (1, .long x1), (4, .int x4)] [.int s0.toInt32, .ref s1] h := pm_F_nx rfl rfl rfl rfl
theorem f3_46 (ol : pm_O) (orc : pm_Q) (x0 : Nat) (x1 : Int64) (x4 : Int32) (s0 : Int32) (s1 : Nat) (h : pm_H) : pm_F ol orc 3 46 [(0, .ref x0), (1, .long x1), (4, .int x4)] [.int s0, .ref s1] h = pm_F ol orc 3 49 [(0, .ref x0), (1, .long x1), (4, .int x4)] [.int (255), .int s0, .ref s1] h := pm_F_nx rfl rfl rfl rfl
theorem f3_49 (ol : pm_O) (orc : pm_Q) (x0 : Nat) (x1 : Int64) (x4 : Int32) (s0 : Int32) (s1 : Int32) (s2 : Nat) (h : pm_H) : pm_F ol orc 3 49 [(0, .ref x0), (1, .long x1), (4, .int x4)] [.int s0, .int s1, .ref s2] h = pm_F ol orc 3 50 [(0, .ref x0), (1, .long x1), (4, .int x4)] [.int (s1 &&& s0), .ref s2] h := pm_F_nx rfl rfl rfl rfl
theorem f3_50 (ol : pm_O) (orc : pm_Q) (x0 : Nat) (x1 : Int64) (x4 : Int32) (s0 : Int32) (s1 : Nat) (h : pm_H) : pm_F ol orc 3 50 [(0, .ref x0), (1, .long x1), (4, .int x4)] [.int s0, .ref s1] h = if pm_is h s1 0 = true then pm_B ol orc 3 53 [(0, .ref x0), (1, .long x1), (4, .int x4)] [] (pm_V ol orc 4 [.ref s1, .int s0] h) else none := r_vc rfl rfl rfl rfl rfl rfl (r_le rfl) (r_le rfl) rfl
theorem f3_53 (ol : pm_O) (orc : pm_Q) (x0 : Nat) (x1 : Int64) (x4 : Int32) (h : pm_H) : pm_F ol orc 3 53 [(0, .ref x0), (1, .long x1), (4, .int x4)] [] h = pm_F ol orc 3 56 [(0, .ref x0), (1, .long x1), (4, .int (x4 + (-1)))] [] h := pm_F_nx rfl rfl rfl rfl
theorem f3_56 (ol : pm_O) (orc : pm_Q) (x0 : Nat) (x1 : Int64) (x4 : Int32) (h : pm_H) : pm_F ol orc 3 56 [(0, .ref x0), (1, .long x1), (4, .int x4)] [] h = pm_F ol orc 3 32 [(0, .ref x0), (1, .long x1), (4, .int x4)] [] h := pm_F_nx rfl rfl rfl rfl
theorem f3_59 (ol : pm_O) (orc : pm_Q) (x0 : Nat) (h : pm_H) : pm_F ol orc 3 59 [(0, .ref x0)] [] h = pm_F ol orc 3 60 [] [.ref x0] h := pm_F_nx rfl rfl rfl rfl
theorem f3_60 (ol : pm_O) (orc : pm_Q) (s0 : Nat) (h : pm_H) : pm_F ol orc 3 60 [] [.ref s0] h = pm_Pv ol orc 3 63 [] [] h (pm_fd h s0 0 1) := r_gf rfl rfl rfl rfl rfl rfl
theorem f3_63 (ol : pm_O) (orc : pm_Q) (s0 : Int32) (h : pm_H) : pm_F ol orc 3 63 [] [.int s0] h = some (some (.int s0), h) := pm_F_rt rfl rfl rfl
theorem v3 (ol : pm_O) (orc : pm_Q) (x0 : Nat) (x1 : Int64) (x3 : Int32) (h : pm_H) : pm_V ol orc 3 [.ref x0, .long x1, .int x3] h = pm_F ol orc 3 0 [(0, .ref x0), (1, .long x1), (3, .int x3)] [] h := (if_pos (r_le rfl)).trans (pm_F_live rfl)
/-! FrameTyper$Bytes.put(I)V: 4 -/
theorem f4_0 (ol : pm_O) (orc : pm_Q) (x0 : Nat) (x1 : Int32) (h : pm_H) : pm_F ol orc 4 0 [(0, .ref x0), (1, .int x1)] [] h = pm_F ol orc 4 1 [(0, .ref x0), (1, .int x1)] [.ref x0] h := pm_F_nx rfl rfl rfl rfl
theorem f4_1 (ol : pm_O) (orc : pm_Q) (x0 : Nat) (x1 : Int32) (s0 : Nat) (h : pm_H) : pm_F ol orc 4 1 [(0, .ref x0), (1, .int x1)] [.ref s0] h = pm_Pv ol orc 4 4 [(0, .ref x0), (1, .int x1)] [] h (pm_fd h s0 0 1) := r_gf rfl rfl rfl rfl rfl rfl
theorem f4_4 (ol : pm_O) (orc : pm_Q) (x0 : Nat) (x1 : Int32) (s0 : Int32) (h : pm_H) : pm_F ol orc 4 4 [(0, .ref x0), (1, .int x1)] [.int s0] h = pm_F ol orc 4 5 [(0, .ref x0), (1, .int x1)] [.ref x0, .int s0] h := pm_F_nx rfl rfl rfl rfl
theorem f4_5 (ol : pm_O) (orc : pm_Q) (x0 : Nat) (x1 : Int32) (s0 : Nat) (s1 : Int32) (h : pm_H) : pm_F ol orc 4 5 [(0, .ref x0), (1, .int x1)] [.ref s0, .int s1] h = pm_Pv ol orc 4 8 [(0, .ref x0), (1, .int x1)] [.int s1] h (pm_fd h s0 0 0) := r_gf rfl rfl rfl rfl rfl rfl
theorem f4_8 (ol : pm_O) (orc : pm_Q) (x0 : Nat) (x1 : Int32) (s0 : Nat) (s1 : Int32) (h : pm_H) : pm_F ol orc 4 8 [(0, .ref x0), (1, .int x1)] [.ref s0, .int s1] h = pm_Pv ol orc 4 9 [(0, .ref x0), (1, .int x1)] [.int s1] h (pm_ln ol h s0) := r_ln rfl rfl rfl rfl
theorem f4_9 (ol : pm_O) (orc : pm_Q) (x0 : Nat) (x1 : Int32) (s0 : Int32) (s1 : Int32) (h : pm_H) : pm_F ol orc 4 9 [(0, .ref x0), (1, .int x1)] [.int s0, .int s1] h = if s0 ≤ s1 then pm_F ol orc 4 22 [(0, .ref x0)] [] h else pm_F ol orc 4 12 [(0, .ref x0), (1, .int x1)] [] h := r_i2 rfl rfl rfl rfl rfl rfl rfl
theorem f4_12 (ol : pm_O) (orc : pm_Q) (x0 : Nat) (x1 : Int32) (h : pm_H) : pm_F ol orc 4 12 [(0, .ref x0), (1, .int x1)] [] h = pm_F ol orc 4 13 [(0, .ref x0), (1, .int x1)] [.ref x0] h := pm_F_nx rfl rfl rfl rfl
theorem f4_13 (ol : pm_O) (orc : pm_Q) (x0 : Nat) (x1 : Int32) (s0 : Nat) (h : pm_H) : pm_F ol orc 4 13 [(0, .ref x0), (1, .int x1)] [.ref s0] h = pm_Pv ol orc 4 16 [(0, .ref x0), (1, .int x1)] [] h (pm_fd h s0 0 0) := r_gf rfl rfl rfl rfl rfl rfl
theorem f4_16 (ol : pm_O) (orc : pm_Q) (x0 : Nat) (x1 : Int32) (s0 : Nat) (h : pm_H) : pm_F ol orc 4 16 [(0, .ref x0), (1, .int x1)] [.ref s0] h = pm_F ol orc 4 17 [(0, .ref x0), (1, .int x1)] [.ref x0, .ref s0] h := pm_F_nx rfl rfl rfl rfl
theorem f4_17 (ol : pm_O) (orc : pm_Q) (x0 : Nat) (x1 : Int32) (s0 : Nat) (s1 : Nat) (h : pm_H) : pm_F ol orc 4 17 [(0, .ref x0), (1, .int x1)] [.ref s0, .ref s1] h = pm_Pv ol orc 4 20 [(0, .ref x0), (1, .int x1)] [.ref s1] h (pm_fd h s0 0 1) := r_gf rfl rfl rfl rfl rfl rfl
theorem f4_20 (ol : pm_O) (orc : pm_Q) (x0 : Nat) (x1 : Int32) (s0 : Int32) (s1 : Nat) (h : pm_H) : pm_F ol orc 4 20 [(0, .ref x0), (1, .int x1)] [.int s0, .ref s1] h = pm_F ol orc 4 21 [(0, .ref x0)] [.int x1, .int s0, .ref s1] h := pm_F_nx rfl rfl rfl rfl
theorem f4_21 (ol : pm_O) (orc : pm_Q) (x0 : Nat) (s0 : Int32) (s1 : Int32) (s2 : Nat) (h : pm_H) : pm_F ol orc 4 21 [(0, .ref x0)] [.int s0, .int s1, .ref s2] h = pm_Ph ol orc 4 22 [(0, .ref x0)] [] (pm_si h s2 s1 s0) := r_is rfl rfl rfl rfl
theorem f4_22 (ol : pm_O) (orc : pm_Q) (x0 : Nat) (h : pm_H) : pm_F ol orc 4 22 [(0, .ref x0)] [] h = pm_F ol orc 4 23 [] [.ref x0] h := pm_F_nx rfl rfl rfl rfl
theorem f4_23 (ol : pm_O) (orc : pm_Q) (s0 : Nat) (h : pm_H) : pm_F ol orc 4 23 [] [.ref s0] h = pm_F ol orc 4 24 [] [.ref s0, .ref s0] h := pm_F_nx rfl rfl rfl rfl
theorem f4_24 (ol : pm_O) (orc : pm_Q) (s0 : Nat) (s1 : Nat) (h : pm_H) : pm_F ol orc 4 24 [] [.ref s0, .ref s1] h = pm_Pv ol orc 4 27 [] [.ref s1] h (pm_fd h s0 0 1) := r_gf rfl rfl rfl rfl rfl rfl
theorem f4_27 (ol : pm_O) (orc : pm_Q) (s0 : Int32) (s1 : Nat) (h : pm_H) : pm_F ol orc 4 27 [] [.int s0, .ref s1] h = pm_F ol orc 4 28 [] [.int (1), .int s0, .ref s1] h := pm_F_nx rfl rfl rfl rfl
theorem f4_28 (ol : pm_O) (orc : pm_Q) (s0 : Int32) (s1 : Int32) (s2 : Nat) (h : pm_H) : pm_F ol orc 4 28 [] [.int s0, .int s1, .ref s2] h = pm_F ol orc 4 29 [] [.int (s1 + s0), .ref s2] h := pm_F_nx rfl rfl rfl rfl
theorem f4_29 (ol : pm_O) (orc : pm_Q) (s0 : Int32) (s1 : Nat) (h : pm_H) : pm_F ol orc 4 29 [] [.int s0, .ref s1] h = pm_Ph ol orc 4 32 [] [] (pm_fs h s1 0 1 (.int s0)) := r_pf rfl rfl rfl rfl rfl rfl
theorem f4_32 (ol : pm_O) (orc : pm_Q)  (h : pm_H) : pm_F ol orc 4 32 [] [] h = some (none, h) := pm_F_rt rfl rfl rfl
theorem v4 (ol : pm_O) (orc : pm_Q) (x0 : Nat) (x1 : Int32) (h : pm_H) : pm_V ol orc 4 [.ref x0, .int x1] h = pm_F ol orc 4 0 [(0, .ref x0), (1, .int x1)] [] h := (if_pos (r_le rfl)).trans (pm_F_live rfl)
/-! FrameTyper$Bytes.become(LFrameTyper$Bytes;)V: 5 -/
theorem f5_0 (ol : pm_O) (orc : pm_Q) (x0 : Nat) (x1 : Nat) (h : pm_H) : pm_F ol orc 5 0 [(0, .ref x0), (1, .ref x1)] [] h = pm_F ol orc 5 1 [(0, .ref x0), (1, .ref x1)] [.ref x0] h := pm_F_nx rfl rfl rfl rfl
theorem f5_1 (ol : pm_O) (orc : pm_Q) (x0 : Nat) (x1 : Nat) (s0 : Nat) (h : pm_H) : pm_F ol orc 5 1 [(0, .ref x0), (1, .ref x1)] [.ref s0] h = if pm_is h s0 0 = true then pm_B ol orc 5 4 [(0, .ref x0), (1, .ref x1)] [] (pm_V ol orc 1 [.ref s0] h) else none := r_vc rfl rfl rfl rfl rfl rfl (r_le rfl) (r_le rfl) rfl
theorem f5_4 (ol : pm_O) (orc : pm_Q) (x0 : Nat) (x1 : Nat) (h : pm_H) : pm_F ol orc 5 4 [(0, .ref x0), (1, .ref x1)] [] h = pm_F ol orc 5 5 [(0, .ref x0), (1, .ref x1)] [.int (0)] h := pm_F_nx rfl rfl rfl rfl
theorem f5_5 (ol : pm_O) (orc : pm_Q) (x0 : Nat) (x1 : Nat) (s0 : Int32) (h : pm_H) : pm_F ol orc 5 5 [(0, .ref x0), (1, .ref x1)] [.int s0] h = pm_F ol orc 5 6 [(0, .ref x0), (1, .ref x1), (2, .int s0)] [] h := pm_F_nx rfl rfl rfl rfl
theorem f5_6 (ol : pm_O) (orc : pm_Q) (x0 : Nat) (x1 : Nat) (x2 : Int32) (h : pm_H) : pm_F ol orc 5 6 [(0, .ref x0), (1, .ref x1), (2, .int x2)] [] h = pm_F ol orc 5 7 [(0, .ref x0), (1, .ref x1), (2, .int x2)] [.int x2] h := pm_F_nx rfl rfl rfl rfl
theorem f5_7 (ol : pm_O) (orc : pm_Q) (x0 : Nat) (x1 : Nat) (x2 : Int32) (s0 : Int32) (h : pm_H) : pm_F ol orc 5 7 [(0, .ref x0), (1, .ref x1), (2, .int x2)] [.int s0] h = pm_F ol orc 5 8 [(0, .ref x0), (1, .ref x1), (2, .int x2)] [.ref x1, .int s0] h := pm_F_nx rfl rfl rfl rfl
theorem f5_8 (ol : pm_O) (orc : pm_Q) (x0 : Nat) (x1 : Nat) (x2 : Int32) (s0 : Nat) (s1 : Int32) (h : pm_H) : pm_F ol orc 5 8 [(0, .ref x0), (1, .ref x1), (2, .int x2)] [.ref s0, .int s1] h = pm_Pv ol orc 5 11 [(0, .ref x0), (1, .ref x1), (2, .int x2)] [.int s1] h (pm_fd h s0 0 1) := r_gf rfl rfl rfl rfl rfl rfl
theorem f5_11 (ol : pm_O) (orc : pm_Q) (x0 : Nat) (x1 : Nat) (x2 : Int32) (s0 : Int32) (s1 : Int32) (h : pm_H) : pm_F ol orc 5 11 [(0, .ref x0), (1, .ref x1), (2, .int x2)] [.int s0, .int s1] h = if s0 ≤ s1 then pm_F ol orc 5 29 [] [] h else pm_F ol orc 5 14 [(0, .ref x0), (1, .ref x1), (2, .int x2)] [] h := r_i2 rfl rfl rfl rfl rfl rfl rfl
theorem f5_14 (ol : pm_O) (orc : pm_Q) (x0 : Nat) (x1 : Nat) (x2 : Int32) (h : pm_H) : pm_F ol orc 5 14 [(0, .ref x0), (1, .ref x1), (2, .int x2)] [] h = pm_F ol orc 5 15 [(0, .ref x0), (1, .ref x1), (2, .int x2)] [.ref x0] h := pm_F_nx rfl rfl rfl rfl
theorem f5_15 (ol : pm_O) (orc : pm_Q) (x0 : Nat) (x1 : Nat) (x2 : Int32) (s0 : Nat) (h : pm_H) : pm_F ol orc 5 15 [(0, .ref x0), (1, .ref x1), (2, .int x2)] [.ref s0] h = pm_F ol orc 5 16 [(0, .ref x0), (1, .ref x1), (2, .int x2)] [.ref x1, .ref s0] h := pm_F_nx rfl rfl rfl rfl
theorem f5_16 (ol : pm_O) (orc : pm_Q) (x0 : Nat) (x1 : Nat) (x2 : Int32) (s0 : Nat) (s1 : Nat) (h : pm_H) : pm_F ol orc 5 16 [(0, .ref x0), (1, .ref x1), (2, .int x2)] [.ref s0, .ref s1] h = pm_F ol orc 5 17 [(0, .ref x0), (1, .ref x1), (2, .int x2)] [.int x2, .ref s0, .ref s1] h := pm_F_nx rfl rfl rfl rfl
theorem f5_17 (ol : pm_O) (orc : pm_Q) (x0 : Nat) (x1 : Nat) (x2 : Int32) (s0 : Int32) (s1 : Nat) (s2 : Nat) (h : pm_H) : pm_F ol orc 5 17 [(0, .ref x0), (1, .ref x1), (2, .int x2)] [.int s0, .ref s1, .ref s2] h = if pm_is h s1 0 = true then pm_B ol orc 5 20 [(0, .ref x0), (1, .ref x1), (2, .int x2)] [.ref s2] (pm_V ol orc 2 [.ref s1, .int s0] h) else none := r_vc rfl rfl rfl rfl rfl rfl (r_le rfl) (r_le rfl) rfl
theorem f5_20 (ol : pm_O) (orc : pm_Q) (x0 : Nat) (x1 : Nat) (x2 : Int32) (s0 : Int32) (s1 : Nat) (h : pm_H) : pm_F ol orc 5 20 [(0, .ref x0), (1, .ref x1), (2, .int x2)] [.int s0, .ref s1] h = if pm_is h s1 0 = true then pm_B ol orc 5 23 [(0, .ref x0), (1, .ref x1), (2, .int x2)] [] (pm_V ol orc 4 [.ref s1, .int s0] h) else none := r_vc rfl rfl rfl rfl rfl rfl (r_le rfl) (r_le rfl) rfl
theorem f5_23 (ol : pm_O) (orc : pm_Q) (x0 : Nat) (x1 : Nat) (x2 : Int32) (h : pm_H) : pm_F ol orc 5 23 [(0, .ref x0), (1, .ref x1), (2, .int x2)] [] h = pm_F ol orc 5 26 [(0, .ref x0), (1, .ref x1), (2, .int (x2 + 1))] [] h := pm_F_nx rfl rfl rfl rfl
theorem f5_26 (ol : pm_O) (orc : pm_Q) (x0 : Nat) (x1 : Nat) (x2 : Int32) (h : pm_H) : pm_F ol orc 5 26 [(0, .ref x0), (1, .ref x1), (2, .int x2)] [] h = pm_F ol orc 5 6 [(0, .ref x0), (1, .ref x1), (2, .int x2)] [] h := pm_F_nx rfl rfl rfl rfl
theorem f5_29 (ol : pm_O) (orc : pm_Q)  (h : pm_H) : pm_F ol orc 5 29 [] [] h = some (none, h) := pm_F_rt rfl rfl rfl
theorem v5 (ol : pm_O) (orc : pm_Q) (x0 : Nat) (x1 : Nat) (h : pm_H) : pm_V ol orc 5 [.ref x0, .ref x1] h = pm_F ol orc 5 0 [(0, .ref x0), (1, .ref x1)] [] h := (if_pos (r_le rfl)).trans (pm_F_live rfl)
/-! FrameTyper$World.isClass(I)Z: 87 -/
theorem f87_0 (ol : pm_O) (orc : pm_Q) (x0 : Int32) (h : pm_H) : pm_F ol orc 87 0 [(0, .int x0)] [] h = pm_F ol orc 87 1 [(0, .int x0)] [.int x0] h := pm_F_nx rfl rfl rfl rfl
theorem f87_1 (ol : pm_O) (orc : pm_Q) (x0 : Int32) (s0 : Int32) (h : pm_H) : pm_F ol orc 87 1 [(0, .int x0)] [.int s0] h = if s0 < 0 then pm_F ol orc 87 14 [] [] h else pm_F ol orc 87 4 [(0, .int x0)] [] h := r_i1 rfl rfl rfl rfl rfl rfl rfl
theorem f87_4 (ol : pm_O) (orc : pm_Q) (x0 : Int32) (h : pm_H) : pm_F ol orc 87 4 [(0, .int x0)] [] h = pm_F ol orc 87 5 [] [.int x0] h := pm_F_nx rfl rfl rfl rfl
theorem f87_5 (ol : pm_O) (orc : pm_Q) (s0 : Int32) (h : pm_H) : pm_F ol orc 87 5 [] [.int s0] h = pm_F ol orc 87 7 [] [.int (8), .int s0] h := pm_F_nx rfl rfl rfl rfl
theorem f87_7 (ol : pm_O) (orc : pm_Q) (s0 : Int32) (s1 : Int32) (h : pm_H) : pm_F ol orc 87 7 [] [.int s0, .int s1] h = if s0 ≤ s1 then pm_F ol orc 87 14 [] [] h else pm_F ol orc 87 10 [] [] h := r_i2 rfl rfl rfl rfl rfl rfl rfl
theorem f87_10 (ol : pm_O) (orc : pm_Q)  (h : pm_H) : pm_F ol orc 87 10 [] [] h = pm_F ol orc 87 11 [] [.int (1)] h := pm_F_nx rfl rfl rfl rfl
theorem f87_11 (ol : pm_O) (orc : pm_Q) (s0 : Int32) (h : pm_H) : pm_F ol orc 87 11 [] [.int s0] h = pm_F ol orc 87 15 [] [.int s0] h := pm_F_nx rfl rfl rfl rfl
theorem f87_14 (ol : pm_O) (orc : pm_Q)  (h : pm_H) : pm_F ol orc 87 14 [] [] h = pm_F ol orc 87 15 [] [.int (0)] h := pm_F_nx rfl rfl rfl rfl
theorem f87_15 (ol : pm_O) (orc : pm_Q) (s0 : Int32) (h : pm_H) : pm_F ol orc 87 15 [] [.int s0] h = if s0 = 0 ∨ s0 = 1 then some (some (.int s0), h) else none := pm_F_zr rfl rfl
theorem v87 (ol : pm_O) (orc : pm_Q) (x0 : Int32) (h : pm_H) : pm_V ol orc 87 [.int x0] h = pm_F ol orc 87 0 [(0, .int x0)] [] h := (if_pos (r_le rfl)).trans (pm_F_live rfl)
/-! FrameTyper$World.isObject(I)Z: 88 -/
theorem f88_0 (ol : pm_O) (orc : pm_Q) (x0 : Int32) (h : pm_H) : pm_F ol orc 88 0 [(0, .int x0)] [] h = pm_F ol orc 88 1 [(0, .int x0)] [.int x0] h := pm_F_nx rfl rfl rfl rfl
theorem f88_1 (ol : pm_O) (orc : pm_Q) (x0 : Int32) (s0 : Int32) (h : pm_H) : pm_F ol orc 88 1 [(0, .int x0)] [.int s0] h = pm_F ol orc 88 3 [(0, .int x0)] [.int (16), .int s0] h := pm_F_nx rfl rfl rfl rfl
theorem f88_3 (ol : pm_O) (orc : pm_Q) (x0 : Int32) (s0 : Int32) (s1 : Int32) (h : pm_H) : pm_F ol orc 88 3 [(0, .int x0)] [.int s0, .int s1] h = if s1 < s0 then pm_F ol orc 88 16 [] [] h else pm_F ol orc 88 6 [(0, .int x0)] [] h := r_i2 rfl rfl rfl rfl rfl rfl rfl
theorem f88_6 (ol : pm_O) (orc : pm_Q) (x0 : Int32) (h : pm_H) : pm_F ol orc 88 6 [(0, .int x0)] [] h = pm_F ol orc 88 7 [] [.int x0] h := pm_F_nx rfl rfl rfl rfl
theorem f88_7 (ol : pm_O) (orc : pm_Q) (s0 : Int32) (h : pm_H) : pm_F ol orc 88 7 [] [.int s0] h = pm_F ol orc 88 9 [] [.int (24), .int s0] h := pm_F_nx rfl rfl rfl rfl
theorem f88_9 (ol : pm_O) (orc : pm_Q) (s0 : Int32) (s1 : Int32) (h : pm_H) : pm_F ol orc 88 9 [] [.int s0, .int s1] h = if s0 ≤ s1 then pm_F ol orc 88 16 [] [] h else pm_F ol orc 88 12 [] [] h := r_i2 rfl rfl rfl rfl rfl rfl rfl
theorem f88_12 (ol : pm_O) (orc : pm_Q)  (h : pm_H) : pm_F ol orc 88 12 [] [] h = pm_F ol orc 88 13 [] [.int (1)] h := pm_F_nx rfl rfl rfl rfl
theorem f88_13 (ol : pm_O) (orc : pm_Q) (s0 : Int32) (h : pm_H) : pm_F ol orc 88 13 [] [.int s0] h = pm_F ol orc 88 17 [] [.int s0] h := pm_F_nx rfl rfl rfl rfl
theorem f88_16 (ol : pm_O) (orc : pm_Q)  (h : pm_H) : pm_F ol orc 88 16 [] [] h = pm_F ol orc 88 17 [] [.int (0)] h := pm_F_nx rfl rfl rfl rfl
theorem f88_17 (ol : pm_O) (orc : pm_Q) (s0 : Int32) (h : pm_H) : pm_F ol orc 88 17 [] [.int s0] h = if s0 = 0 ∨ s0 = 1 then some (some (.int s0), h) else none := pm_F_zr rfl rfl
theorem v88 (ol : pm_O) (orc : pm_Q) (x0 : Int32) (h : pm_H) : pm_V ol orc 88 [.int x0] h = pm_F ol orc 88 0 [(0, .int x0)] [] h := (if_pos (r_le rfl)).trans (pm_F_live rfl)
/-! FrameTyper$World.isNew(I)Z: 89 -/
theorem f89_0 (ol : pm_O) (orc : pm_Q) (x0 : Int32) (h : pm_H) : pm_F ol orc 89 0 [(0, .int x0)] [] h = pm_F ol orc 89 1 [(0, .int x0)] [.int x0] h := pm_F_nx rfl rfl rfl rfl
theorem f89_1 (ol : pm_O) (orc : pm_Q) (x0 : Int32) (s0 : Int32) (h : pm_H) : pm_F ol orc 89 1 [(0, .int x0)] [.int s0] h = pm_F ol orc 89 3 [(0, .int x0)] [.int (64), .int s0] h := pm_F_nx rfl rfl rfl rfl
theorem f89_3 (ol : pm_O) (orc : pm_Q) (x0 : Int32) (s0 : Int32) (s1 : Int32) (h : pm_H) : pm_F ol orc 89 3 [(0, .int x0)] [.int s0, .int s1] h = if s1 < s0 then pm_F ol orc 89 16 [] [] h else pm_F ol orc 89 6 [(0, .int x0)] [] h := r_i2 rfl rfl rfl rfl rfl rfl rfl
theorem f89_6 (ol : pm_O) (orc : pm_Q) (x0 : Int32) (h : pm_H) : pm_F ol orc 89 6 [(0, .int x0)] [] h = pm_F ol orc 89 7 [] [.int x0] h := pm_F_nx rfl rfl rfl rfl
theorem f89_7 (ol : pm_O) (orc : pm_Q) (s0 : Int32) (h : pm_H) : pm_F ol orc 89 7 [] [.int s0] h = pm_F ol orc 89 9 [] [.int (112), .int s0] h := pm_F_nx rfl rfl rfl rfl
theorem f89_9 (ol : pm_O) (orc : pm_Q) (s0 : Int32) (s1 : Int32) (h : pm_H) : pm_F ol orc 89 9 [] [.int s0, .int s1] h = if s0 ≤ s1 then pm_F ol orc 89 16 [] [] h else pm_F ol orc 89 12 [] [] h := r_i2 rfl rfl rfl rfl rfl rfl rfl
theorem f89_12 (ol : pm_O) (orc : pm_Q)  (h : pm_H) : pm_F ol orc 89 12 [] [] h = pm_F ol orc 89 13 [] [.int (1)] h := pm_F_nx rfl rfl rfl rfl
theorem f89_13 (ol : pm_O) (orc : pm_Q) (s0 : Int32) (h : pm_H) : pm_F ol orc 89 13 [] [.int s0] h = pm_F ol orc 89 17 [] [.int s0] h := pm_F_nx rfl rfl rfl rfl
theorem f89_16 (ol : pm_O) (orc : pm_Q)  (h : pm_H) : pm_F ol orc 89 16 [] [] h = pm_F ol orc 89 17 [] [.int (0)] h := pm_F_nx rfl rfl rfl rfl
theorem f89_17 (ol : pm_O) (orc : pm_Q) (s0 : Int32) (h : pm_H) : pm_F ol orc 89 17 [] [.int s0] h = if s0 = 0 ∨ s0 = 1 then some (some (.int s0), h) else none := pm_F_zr rfl rfl
theorem v89 (ol : pm_O) (orc : pm_Q) (x0 : Int32) (h : pm_H) : pm_V ol orc 89 [.int x0] h = pm_F ol orc 89 0 [(0, .int x0)] [] h := (if_pos (r_le rfl)).trans (pm_F_live rfl)
/-! FrameTyper$World.isReference(I)Z: 90 -/
theorem f90_0 (ol : pm_O) (orc : pm_Q) (x0 : Int32) (h : pm_H) : pm_F ol orc 90 0 [(0, .int x0)] [] h = pm_F ol orc 90 1 [(0, .int x0)] [.int x0] h := pm_F_nx rfl rfl rfl rfl
theorem f90_1 (ol : pm_O) (orc : pm_Q) (x0 : Int32) (s0 : Int32) (h : pm_H) : pm_F ol orc 90 1 [(0, .int x0)] [.int s0] h = pm_F ol orc 90 2 [(0, .int x0)] [.int (2), .int s0] h := pm_F_nx rfl rfl rfl rfl
theorem f90_2 (ol : pm_O) (orc : pm_Q) (x0 : Int32) (s0 : Int32) (s1 : Int32) (h : pm_H) : pm_F ol orc 90 2 [(0, .int x0)] [.int s0, .int s1] h = if s1 = s0 then pm_F ol orc 90 19 [] [] h else pm_F ol orc 90 5 [(0, .int x0)] [] h := r_i2 rfl rfl rfl rfl rfl rfl rfl
theorem f90_5 (ol : pm_O) (orc : pm_Q) (x0 : Int32) (h : pm_H) : pm_F ol orc 90 5 [(0, .int x0)] [] h = pm_F ol orc 90 6 [(0, .int x0)] [.int x0] h := pm_F_nx rfl rfl rfl rfl
theorem f90_6 (ol : pm_O) (orc : pm_Q) (x0 : Int32) (s0 : Int32) (h : pm_H) : pm_F ol orc 90 6 [(0, .int x0)] [.int s0] h = pm_B ol orc 90 9 [(0, .int x0)] [] (pm_V ol orc 88 [.int s0] h) := r_sc rfl rfl rfl rfl (r_le rfl) (Or.inr (r_le rfl)) rfl
theorem f90_9 (ol : pm_O) (orc : pm_Q) (x0 : Int32) (s0 : Int32) (h : pm_H) : pm_F ol orc 90 9 [(0, .int x0)] [.int s0] h = if ¬ s0 = 0 then pm_F ol orc 90 19 [] [] h else pm_F ol orc 90 12 [(0, .int x0)] [] h := r_i1 rfl rfl rfl rfl rfl rfl rfl
theorem f90_12 (ol : pm_O) (orc : pm_Q) (x0 : Int32) (h : pm_H) : pm_F ol orc 90 12 [(0, .int x0)] [] h = pm_F ol orc 90 13 [] [.int x0] h := pm_F_nx rfl rfl rfl rfl
theorem f90_13 (ol : pm_O) (orc : pm_Q) (s0 : Int32) (h : pm_H) : pm_F ol orc 90 13 [] [.int s0] h = pm_B ol orc 90 16 [] [] (pm_V ol orc 89 [.int s0] h) := r_sc rfl rfl rfl rfl (r_le rfl) (Or.inr (r_le rfl)) rfl
theorem f90_16 (ol : pm_O) (orc : pm_Q) (s0 : Int32) (h : pm_H) : pm_F ol orc 90 16 [] [.int s0] h = if s0 = 0 then pm_F ol orc 90 23 [] [] h else pm_F ol orc 90 19 [] [] h := r_i1 rfl rfl rfl rfl rfl rfl rfl
theorem f90_19 (ol : pm_O) (orc : pm_Q)  (h : pm_H) : pm_F ol orc 90 19 [] [] h = pm_F ol orc 90 20 [] [.int (1)] h := pm_F_nx rfl rfl rfl rfl
theorem f90_20 (ol : pm_O) (orc : pm_Q) (s0 : Int32) (h : pm_H) : pm_F ol orc 90 20 [] [.int s0] h = pm_F ol orc 90 24 [] [.int s0] h := pm_F_nx rfl rfl rfl rfl
theorem f90_23 (ol : pm_O) (orc : pm_Q)  (h : pm_H) : pm_F ol orc 90 23 [] [] h = pm_F ol orc 90 24 [] [.int (0)] h := pm_F_nx rfl rfl rfl rfl
theorem f90_24 (ol : pm_O) (orc : pm_Q) (s0 : Int32) (h : pm_H) : pm_F ol orc 90 24 [] [.int s0] h = if s0 = 0 ∨ s0 = 1 then some (some (.int s0), h) else none := pm_F_zr rfl rfl
theorem v90 (ol : pm_O) (orc : pm_Q) (x0 : Int32) (h : pm_H) : pm_V ol orc 90 [.int x0] h = pm_F ol orc 90 0 [(0, .int x0)] [] h := (if_pos (r_le rfl)).trans (pm_F_live rfl)
/-! FrameTyper$World.isKnown(I)Z: 91 -/
theorem f91_0 (ol : pm_O) (orc : pm_Q) (x0 : Int32) (h : pm_H) : pm_F ol orc 91 0 [(0, .int x0)] [] h = pm_F ol orc 91 1 [(0, .int x0)] [.int x0] h := pm_F_nx rfl rfl rfl rfl
theorem f91_1 (ol : pm_O) (orc : pm_Q) (x0 : Int32) (s0 : Int32) (h : pm_H) : pm_F ol orc 91 1 [(0, .int x0)] [.int s0] h = pm_F ol orc 91 2 [(0, .int x0)] [.int (1), .int s0] h := pm_F_nx rfl rfl rfl rfl
theorem f91_2 (ol : pm_O) (orc : pm_Q) (x0 : Int32) (s0 : Int32) (s1 : Int32) (h : pm_H) : pm_F ol orc 91 2 [(0, .int x0)] [.int s0, .int s1] h = if s1 = s0 then pm_F ol orc 91 12 [] [] h else pm_F ol orc 91 5 [(0, .int x0)] [] h := r_i2 rfl rfl rfl rfl rfl rfl rfl
theorem f91_5 (ol : pm_O) (orc : pm_Q) (x0 : Int32) (h : pm_H) : pm_F ol orc 91 5 [(0, .int x0)] [] h = pm_F ol orc 91 6 [] [.int x0] h := pm_F_nx rfl rfl rfl rfl
theorem f91_6 (ol : pm_O) (orc : pm_Q) (s0 : Int32) (h : pm_H) : pm_F ol orc 91 6 [] [.int s0] h = pm_B ol orc 91 9 [] [] (pm_V ol orc 88 [.int s0] h) := r_sc rfl rfl rfl rfl (r_le rfl) (Or.inr (r_le rfl)) rfl
theorem f91_9 (ol : pm_O) (orc : pm_Q) (s0 : Int32) (h : pm_H) : pm_F ol orc 91 9 [] [.int s0] h = if s0 = 0 then pm_F ol orc 91 16 [] [] h else pm_F ol orc 91 12 [] [] h := r_i1 rfl rfl rfl rfl rfl rfl rfl
theorem f91_12 (ol : pm_O) (orc : pm_Q)  (h : pm_H) : pm_F ol orc 91 12 [] [] h = pm_F ol orc 91 13 [] [.int (1)] h := pm_F_nx rfl rfl rfl rfl
theorem f91_13 (ol : pm_O) (orc : pm_Q) (s0 : Int32) (h : pm_H) : pm_F ol orc 91 13 [] [.int s0] h = pm_F ol orc 91 17 [] [.int s0] h := pm_F_nx rfl rfl rfl rfl
theorem f91_16 (ol : pm_O) (orc : pm_Q)  (h : pm_H) : pm_F ol orc 91 16 [] [] h = pm_F ol orc 91 17 [] [.int (0)] h := pm_F_nx rfl rfl rfl rfl
theorem f91_17 (ol : pm_O) (orc : pm_Q) (s0 : Int32) (h : pm_H) : pm_F ol orc 91 17 [] [.int s0] h = if s0 = 0 ∨ s0 = 1 then some (some (.int s0), h) else none := pm_F_zr rfl rfl
theorem v91 (ol : pm_O) (orc : pm_Q) (x0 : Int32) (h : pm_H) : pm_V ol orc 91 [.int x0] h = pm_F ol orc 91 0 [(0, .int x0)] [] h := (if_pos (r_le rfl)).trans (pm_F_live rfl)
/-! FrameTyper$World.isKnownOrNone(I)Z: 92 -/
theorem f92_0 (ol : pm_O) (orc : pm_Q) (x0 : Int32) (h : pm_H) : pm_F ol orc 92 0 [(0, .int x0)] [] h = pm_F ol orc 92 1 [(0, .int x0)] [.int x0] h := pm_F_nx rfl rfl rfl rfl
theorem f92_1 (ol : pm_O) (orc : pm_Q) (x0 : Int32) (s0 : Int32) (h : pm_H) : pm_F ol orc 92 1 [(0, .int x0)] [.int s0] h = pm_F ol orc 92 2 [(0, .int x0)] [.int (-1), .int s0] h := pm_F_nx rfl rfl rfl rfl
theorem f92_2 (ol : pm_O) (orc : pm_Q) (x0 : Int32) (s0 : Int32) (s1 : Int32) (h : pm_H) : pm_F ol orc 92 2 [(0, .int x0)] [.int s0, .int s1] h = if s1 = s0 then pm_F ol orc 92 12 [] [] h else pm_F ol orc 92 5 [(0, .int x0)] [] h := r_i2 rfl rfl rfl rfl rfl rfl rfl
theorem f92_5 (ol : pm_O) (orc : pm_Q) (x0 : Int32) (h : pm_H) : pm_F ol orc 92 5 [(0, .int x0)] [] h = pm_F ol orc 92 6 [] [.int x0] h := pm_F_nx rfl rfl rfl rfl
theorem f92_6 (ol : pm_O) (orc : pm_Q) (s0 : Int32) (h : pm_H) : pm_F ol orc 92 6 [] [.int s0] h = pm_B ol orc 92 9 [] [] (pm_V ol orc 91 [.int s0] h) := r_sc rfl rfl rfl rfl (r_le rfl) (Or.inr (r_le rfl)) rfl
theorem f92_9 (ol : pm_O) (orc : pm_Q) (s0 : Int32) (h : pm_H) : pm_F ol orc 92 9 [] [.int s0] h = if s0 = 0 then pm_F ol orc 92 16 [] [] h else pm_F ol orc 92 12 [] [] h := r_i1 rfl rfl rfl rfl rfl rfl rfl
theorem f92_12 (ol : pm_O) (orc : pm_Q)  (h : pm_H) : pm_F ol orc 92 12 [] [] h = pm_F ol orc 92 13 [] [.int (1)] h := pm_F_nx rfl rfl rfl rfl
theorem f92_13 (ol : pm_O) (orc : pm_Q) (s0 : Int32) (h : pm_H) : pm_F ol orc 92 13 [] [.int s0] h = pm_F ol orc 92 17 [] [.int s0] h := pm_F_nx rfl rfl rfl rfl
theorem f92_16 (ol : pm_O) (orc : pm_Q)  (h : pm_H) : pm_F ol orc 92 16 [] [] h = pm_F ol orc 92 17 [] [.int (0)] h := pm_F_nx rfl rfl rfl rfl
theorem f92_17 (ol : pm_O) (orc : pm_Q) (s0 : Int32) (h : pm_H) : pm_F ol orc 92 17 [] [.int s0] h = if s0 = 0 ∨ s0 = 1 then some (some (.int s0), h) else none := pm_F_zr rfl rfl
theorem v92 (ol : pm_O) (orc : pm_Q) (x0 : Int32) (h : pm_H) : pm_V ol orc 92 [.int x0] h = pm_F ol orc 92 0 [(0, .int x0)] [] h := (if_pos (r_le rfl)).trans (pm_F_live rfl)
/-! FrameTyper$World.setParent(II)Z: 93 -/
theorem f93_0 (ol : pm_O) (orc : pm_Q) (x0 : Nat) (x1 : Int32) (x2 : Int32) (h : pm_H) : pm_F ol orc 93 0 [(0, .ref x0), (1, .int x1), (2, .int x2)] [] h = pm_F ol orc 93 1 [(0, .ref x0), (1, .int x1), (2, .int x2)] [.int x1] h := pm_F_nx rfl rfl rfl rfl
theorem f93_1 (ol : pm_O) (orc : pm_Q) (x0 : Nat) (x1 : Int32) (x2 : Int32) (s0 : Int32) (h : pm_H) : pm_F ol orc 93 1 [(0, .ref x0), (1, .int x1), (2, .int x2)] [.int s0] h = pm_F ol orc 93 2 [(0, .ref x0), (1, .int x1), (2, .int x2)] [.int (1), .int s0] h := pm_F_nx rfl rfl rfl rfl
theorem f93_2 (ol : pm_O) (orc : pm_Q) (x0 : Nat) (x1 : Int32) (x2 : Int32) (s0 : Int32) (s1 : Int32) (h : pm_H) : pm_F ol orc 93 2 [(0, .ref x0), (1, .int x1), (2, .int x2)] [.int s0, .int s1] h = if s1 < s0 then pm_F ol orc 93 20 [] [] h else pm_F ol orc 93 5 [(0, .ref x0), (1, .int x1), (2, .int x2)] [] h := r_i2 rfl rfl rfl rfl rfl rfl rfl
theorem f93_5 (ol : pm_O) (orc : pm_Q) (x0 : Nat) (x1 : Int32) (x2 : Int32) (h : pm_H) : pm_F ol orc 93 5 [(0, .ref x0), (1, .int x1), (2, .int x2)] [] h = pm_F ol orc 93 6 [(0, .ref x0), (1, .int x1), (2, .int x2)] [.int x1] h := pm_F_nx rfl rfl rfl rfl
theorem f93_6 (ol : pm_O) (orc : pm_Q) (x0 : Nat) (x1 : Int32) (x2 : Int32) (s0 : Int32) (h : pm_H) : pm_F ol orc 93 6 [(0, .ref x0), (1, .int x1), (2, .int x2)] [.int s0] h = pm_F ol orc 93 8 [(0, .ref x0), (1, .int x1), (2, .int x2)] [.int (8), .int s0] h := pm_F_nx rfl rfl rfl rfl
theorem f93_8 (ol : pm_O) (orc : pm_Q) (x0 : Nat) (x1 : Int32) (x2 : Int32) (s0 : Int32) (s1 : Int32) (h : pm_H) : pm_F ol orc 93 8 [(0, .ref x0), (1, .int x1), (2, .int x2)] [.int s0, .int s1] h = if s0 ≤ s1 then pm_F ol orc 93 20 [] [] h else pm_F ol orc 93 11 [(0, .ref x0), (1, .int x1), (2, .int x2)] [] h := r_i2 rfl rfl rfl rfl rfl rfl rfl
theorem f93_11 (ol : pm_O) (orc : pm_Q) (x0 : Nat) (x1 : Int32) (x2 : Int32) (h : pm_H) : pm_F ol orc 93 11 [(0, .ref x0), (1, .int x1), (2, .int x2)] [] h = pm_F ol orc 93 12 [(0, .ref x0), (1, .int x1), (2, .int x2)] [.int x2] h := pm_F_nx rfl rfl rfl rfl
theorem f93_12 (ol : pm_O) (orc : pm_Q) (x0 : Nat) (x1 : Int32) (x2 : Int32) (s0 : Int32) (h : pm_H) : pm_F ol orc 93 12 [(0, .ref x0), (1, .int x1), (2, .int x2)] [.int s0] h = if s0 < 0 then pm_F ol orc 93 20 [] [] h else pm_F ol orc 93 15 [(0, .ref x0), (1, .int x1), (2, .int x2)] [] h := r_i1 rfl rfl rfl rfl rfl rfl rfl
theorem f93_15 (ol : pm_O) (orc : pm_Q) (x0 : Nat) (x1 : Int32) (x2 : Int32) (h : pm_H) : pm_F ol orc 93 15 [(0, .ref x0), (1, .int x1), (2, .int x2)] [] h = pm_F ol orc 93 16 [(0, .ref x0), (1, .int x1), (2, .int x2)] [.int x2] h := pm_F_nx rfl rfl rfl rfl
theorem f93_16 (ol : pm_O) (orc : pm_Q) (x0 : Nat) (x1 : Int32) (x2 : Int32) (s0 : Int32) (h : pm_H) : pm_F ol orc 93 16 [(0, .ref x0), (1, .int x1), (2, .int x2)] [.int s0] h = pm_F ol orc 93 17 [(0, .ref x0), (1, .int x1), (2, .int x2)] [.int x1, .int s0] h := pm_F_nx rfl rfl rfl rfl
theorem f93_17 (ol : pm_O) (orc : pm_Q) (x0 : Nat) (x1 : Int32) (x2 : Int32) (s0 : Int32) (s1 : Int32) (h : pm_H) : pm_F ol orc 93 17 [(0, .ref x0), (1, .int x1), (2, .int x2)] [.int s0, .int s1] h = if s1 < s0 then pm_F ol orc 93 22 [(0, .ref x0), (1, .int x1), (2, .int x2)] [] h else pm_F ol orc 93 20 [] [] h := r_i2 rfl rfl rfl rfl rfl rfl rfl
theorem f93_20 (ol : pm_O) (orc : pm_Q)  (h : pm_H) : pm_F ol orc 93 20 [] [] h = pm_F ol orc 93 21 [] [.int (0)] h := pm_F_nx rfl rfl rfl rfl
theorem f93_21 (ol : pm_O) (orc : pm_Q) (s0 : Int32) (h : pm_H) : pm_F ol orc 93 21 [] [.int s0] h = if s0 = 0 ∨ s0 = 1 then some (some (.int s0), h) else none := pm_F_zr rfl rfl
theorem f93_22 (ol : pm_O) (orc : pm_Q) (x0 : Nat) (x1 : Int32) (x2 : Int32) (h : pm_H) : pm_F ol orc 93 22 [(0, .ref x0), (1, .int x1), (2, .int x2)] [] h = pm_F ol orc 93 23 [(1, .int x1), (2, .int x2)] [.ref x0] h := pm_F_nx rfl rfl rfl rfl
theorem f93_23 (ol : pm_O) (orc : pm_Q) (x1 : Int32) (x2 : Int32) (s0 : Nat) (h : pm_H) : pm_F ol orc 93 23 [(1, .int x1), (2, .int x2)] [.ref s0] h = pm_Pv ol orc 93 26 [(1, .int x1), (2, .int x2)] [] h (pm_fd h s0 10 0) := r_gf rfl rfl rfl rfl rfl rfl
theorem f93_26 (ol : pm_O) (orc : pm_Q) (x1 : Int32) (x2 : Int32) (s0 : Nat) (h : pm_H) : pm_F ol orc 93 26 [(1, .int x1), (2, .int x2)] [.ref s0] h = pm_F ol orc 93 27 [(2, .int x2)] [.int x1, .ref s0] h := pm_F_nx rfl rfl rfl rfl
theorem f93_27 (ol : pm_O) (orc : pm_Q) (x2 : Int32) (s0 : Int32) (s1 : Nat) (h : pm_H) : pm_F ol orc 93 27 [(2, .int x2)] [.int s0, .ref s1] h = pm_F ol orc 93 28 [] [.int x2, .int s0, .ref s1] h := pm_F_nx rfl rfl rfl rfl
theorem f93_28 (ol : pm_O) (orc : pm_Q) (s0 : Int32) (s1 : Int32) (s2 : Nat) (h : pm_H) : pm_F ol orc 93 28 [] [.int s0, .int s1, .ref s2] h = pm_Ph ol orc 93 29 [] [] (pm_si h s2 s1 s0) := r_is rfl rfl rfl rfl
theorem f93_29 (ol : pm_O) (orc : pm_Q)  (h : pm_H) : pm_F ol orc 93 29 [] [] h = pm_F ol orc 93 30 [] [.int (1)] h := pm_F_nx rfl rfl rfl rfl
theorem f93_30 (ol : pm_O) (orc : pm_Q) (s0 : Int32) (h : pm_H) : pm_F ol orc 93 30 [] [.int s0] h = if s0 = 0 ∨ s0 = 1 then some (some (.int s0), h) else none := pm_F_zr rfl rfl
theorem v93 (ol : pm_O) (orc : pm_Q) (x0 : Nat) (x1 : Int32) (x2 : Int32) (h : pm_H) : pm_V ol orc 93 [.ref x0, .int x1, .int x2] h = pm_F ol orc 93 0 [(0, .ref x0), (1, .int x1), (2, .int x2)] [] h := (if_pos (r_le rfl)).trans (pm_F_live rfl)
/-! FrameTyper$World.setField(III)Z: 94 -/
theorem f94_0 (ol : pm_O) (orc : pm_Q) (x0 : Nat) (x1 : Int32) (x2 : Int32) (x3 : Int32) (h : pm_H) : pm_F ol orc 94 0 [(0, .ref x0), (1, .int x1), (2, .int x2), (3, .int x3)] [] h = pm_F ol orc 94 1 [(0, .ref x0), (1, .int x1), (2, .int x2), (3, .int x3)] [.int x1] h := pm_F_nx rfl rfl rfl rfl
theorem f94_1 (ol : pm_O) (orc : pm_Q) (x0 : Nat) (x1 : Int32) (x2 : Int32) (x3 : Int32) (s0 : Int32) (h : pm_H) : pm_F ol orc 94 1 [(0, .ref x0), (1, .int x1), (2, .int x2), (3, .int x3)] [.int s0] h = if s0 < 0 then pm_F ol orc 94 24 [] [] h else pm_F ol orc 94 4 [(0, .ref x0), (1, .int x1), (2, .int x2), (3, .int x3)] [] h := r_i1 rfl rfl rfl rfl rfl rfl rfl
theorem f94_4 (ol : pm_O) (orc : pm_Q) (x0 : Nat) (x1 : Int32) (x2 : Int32) (x3 : Int32) (h : pm_H) : pm_F ol orc 94 4 [(0, .ref x0), (1, .int x1), (2, .int x2), (3, .int x3)] [] h = pm_F ol orc 94 5 [(0, .ref x0), (1, .int x1), (2, .int x2), (3, .int x3)] [.int x1] h := pm_F_nx rfl rfl rfl rfl
theorem f94_5 (ol : pm_O) (orc : pm_Q) (x0 : Nat) (x1 : Int32) (x2 : Int32) (x3 : Int32) (s0 : Int32) (h : pm_H) : pm_F ol orc 94 5 [(0, .ref x0), (1, .int x1), (2, .int x2), (3, .int x3)] [.int s0] h = pm_F ol orc 94 7 [(0, .ref x0), (1, .int x1), (2, .int x2), (3, .int x3)] [.int (6), .int s0] h := pm_F_nx rfl rfl rfl rfl
theorem f94_7 (ol : pm_O) (orc : pm_Q) (x0 : Nat) (x1 : Int32) (x2 : Int32) (x3 : Int32) (s0 : Int32) (s1 : Int32) (h : pm_H) : pm_F ol orc 94 7 [(0, .ref x0), (1, .int x1), (2, .int x2), (3, .int x3)] [.int s0, .int s1] h = if s0 ≤ s1 then pm_F ol orc 94 24 [] [] h else pm_F ol orc 94 10 [(0, .ref x0), (1, .int x1), (2, .int x2), (3, .int x3)] [] h := r_i2 rfl rfl rfl rfl rfl rfl rfl
theorem f94_10 (ol : pm_O) (orc : pm_Q) (x0 : Nat) (x1 : Int32) (x2 : Int32) (x3 : Int32) (h : pm_H) : pm_F ol orc 94 10 [(0, .ref x0), (1, .int x1), (2, .int x2), (3, .int x3)] [] h = pm_F ol orc 94 11 [(0, .ref x0), (1, .int x1), (2, .int x2), (3, .int x3)] [.int x2] h := pm_F_nx rfl rfl rfl rfl
theorem f94_11 (ol : pm_O) (orc : pm_Q) (x0 : Nat) (x1 : Int32) (x2 : Int32) (x3 : Int32) (s0 : Int32) (h : pm_H) : pm_F ol orc 94 11 [(0, .ref x0), (1, .int x1), (2, .int x2), (3, .int x3)] [.int s0] h = pm_B ol orc 94 14 [(0, .ref x0), (1, .int x1), (2, .int x2), (3, .int x3)] [] (pm_V ol orc 87 [.int s0] h) := r_sc rfl rfl rfl rfl (r_le rfl) (Or.inr (r_le rfl)) rfl
theorem f94_14 (ol : pm_O) (orc : pm_Q) (x0 : Nat) (x1 : Int32) (x2 : Int32) (x3 : Int32) (s0 : Int32) (h : pm_H) : pm_F ol orc 94 14 [(0, .ref x0), (1, .int x1), (2, .int x2), (3, .int x3)] [.int s0] h = if s0 = 0 then pm_F ol orc 94 24 [] [] h else pm_F ol orc 94 17 [(0, .ref x0), (1, .int x1), (2, .int x2), (3, .int x3)] [] h := r_i1 rfl rfl rfl rfl rfl rfl rfl
theorem f94_17 (ol : pm_O) (orc : pm_Q) (x0 : Nat) (x1 : Int32) (x2 : Int32) (x3 : Int32) (h : pm_H) : pm_F ol orc 94 17 [(0, .ref x0), (1, .int x1), (2, .int x2), (3, .int x3)] [] h = pm_F ol orc 94 18 [(0, .ref x0), (1, .int x1), (2, .int x2), (3, .int x3)] [.int x3] h := pm_F_nx rfl rfl rfl rfl
theorem f94_18 (ol : pm_O) (orc : pm_Q) (x0 : Nat) (x1 : Int32) (x2 : Int32) (x3 : Int32) (s0 : Int32) (h : pm_H) : pm_F ol orc 94 18 [(0, .ref x0), (1, .int x1), (2, .int x2), (3, .int x3)] [.int s0] h = pm_B ol orc 94 21 [(0, .ref x0), (1, .int x1), (2, .int x2), (3, .int x3)] [] (pm_V ol orc 91 [.int s0] h) := r_sc rfl rfl rfl rfl (r_le rfl) (Or.inr (r_le rfl)) rfl
theorem f94_21 (ol : pm_O) (orc : pm_Q) (x0 : Nat) (x1 : Int32) (x2 : Int32) (x3 : Int32) (s0 : Int32) (h : pm_H) : pm_F ol orc 94 21 [(0, .ref x0), (1, .int x1), (2, .int x2), (3, .int x3)] [.int s0] h = if ¬ s0 = 0 then pm_F ol orc 94 26 [(0, .ref x0), (1, .int x1), (2, .int x2), (3, .int x3)] [] h else pm_F ol orc 94 24 [] [] h := r_i1 rfl rfl rfl rfl rfl rfl rfl
theorem f94_24 (ol : pm_O) (orc : pm_Q)  (h : pm_H) : pm_F ol orc 94 24 [] [] h = pm_F ol orc 94 25 [] [.int (0)] h := pm_F_nx rfl rfl rfl rfl
theorem f94_25 (ol : pm_O) (orc : pm_Q) (s0 : Int32) (h : pm_H) : pm_F ol orc 94 25 [] [.int s0] h = if s0 = 0 ∨ s0 = 1 then some (some (.int s0), h) else none := pm_F_zr rfl rfl
theorem f94_26 (ol : pm_O) (orc : pm_Q) (x0 : Nat) (x1 : Int32) (x2 : Int32) (x3 : Int32) (h : pm_H) : pm_F ol orc 94 26 [(0, .ref x0), (1, .int x1), (2, .int x2), (3, .int x3)] [] h = pm_F ol orc 94 27 [(0, .ref x0), (1, .int x1), (2, .int x2), (3, .int x3)] [.ref x0] h := pm_F_nx rfl rfl rfl rfl
theorem f94_27 (ol : pm_O) (orc : pm_Q) (x0 : Nat) (x1 : Int32) (x2 : Int32) (x3 : Int32) (s0 : Nat) (h : pm_H) : pm_F ol orc 94 27 [(0, .ref x0), (1, .int x1), (2, .int x2), (3, .int x3)] [.ref s0] h = pm_Pv ol orc 94 30 [(0, .ref x0), (1, .int x1), (2, .int x2), (3, .int x3)] [] h (pm_fd h s0 10 1) := r_gf rfl rfl rfl rfl rfl rfl
theorem f94_30 (ol : pm_O) (orc : pm_Q) (x0 : Nat) (x1 : Int32) (x2 : Int32) (x3 : Int32) (s0 : Nat) (h : pm_H) : pm_F ol orc 94 30 [(0, .ref x0), (1, .int x1), (2, .int x2), (3, .int x3)] [.ref s0] h = pm_F ol orc 94 31 [(0, .ref x0), (1, .int x1), (2, .int x2), (3, .int x3)] [.int x1, .ref s0] h := pm_F_nx rfl rfl rfl rfl
theorem f94_31 (ol : pm_O) (orc : pm_Q) (x0 : Nat) (x1 : Int32) (x2 : Int32) (x3 : Int32) (s0 : Int32) (s1 : Nat) (h : pm_H) : pm_F ol orc 94 31 [(0, .ref x0), (1, .int x1), (2, .int x2), (3, .int x3)] [.int s0, .ref s1] h = pm_F ol orc 94 32 [(0, .ref x0), (1, .int x1), (3, .int x3)] [.int x2, .int s0, .ref s1] h := pm_F_nx rfl rfl rfl rfl
theorem f94_32 (ol : pm_O) (orc : pm_Q) (x0 : Nat) (x1 : Int32) (x3 : Int32) (s0 : Int32) (s1 : Int32) (s2 : Nat) (h : pm_H) : pm_F ol orc 94 32 [(0, .ref x0), (1, .int x1), (3, .int x3)] [.int s0, .int s1, .ref s2] h = pm_Ph ol orc 94 33 [(0, .ref x0), (1, .int x1), (3, .int x3)] [] (pm_si h s2 s1 s0) := r_is rfl rfl rfl rfl
theorem f94_33 (ol : pm_O) (orc : pm_Q) (x0 : Nat) (x1 : Int32) (x3 : Int32) (h : pm_H) : pm_F ol orc 94 33 [(0, .ref x0), (1, .int x1), (3, .int x3)] [] h = pm_F ol orc 94 34 [(1, .int x1), (3, .int x3)] [.ref x0] h := pm_F_nx rfl rfl rfl rfl
theorem f94_34 (ol : pm_O) (orc : pm_Q) (x1 : Int32) (x3 : Int32) (s0 : Nat) (h : pm_H) : pm_F ol orc 94 34 [(1, .int x1), (3, .int x3)] [.ref s0] h = pm_Pv ol orc 94 37 [(1, .int x1), (3, .int x3)] [] h (pm_fd h s0 10 2) := r_gf rfl rfl rfl rfl rfl rfl
theorem f94_37 (ol : pm_O) (orc : pm_Q) (x1 : Int32) (x3 : Int32) (s0 : Nat) (h : pm_H) : pm_F ol orc 94 37 [(1, .int x1), (3, .int x3)] [.ref s0] h = pm_F ol orc 94 38 [(3, .int x3)] [.int x1, .ref s0] h := pm_F_nx rfl rfl rfl rfl
theorem f94_38 (ol : pm_O) (orc : pm_Q) (x3 : Int32) (s0 : Int32) (s1 : Nat) (h : pm_H) : pm_F ol orc 94 38 [(3, .int x3)] [.int s0, .ref s1] h = pm_F ol orc 94 39 [] [.int x3, .int s0, .ref s1] h := pm_F_nx rfl rfl rfl rfl
theorem f94_39 (ol : pm_O) (orc : pm_Q) (s0 : Int32) (s1 : Int32) (s2 : Nat) (h : pm_H) : pm_F ol orc 94 39 [] [.int s0, .int s1, .ref s2] h = pm_Ph ol orc 94 40 [] [] (pm_si h s2 s1 s0) := r_is rfl rfl rfl rfl
theorem f94_40 (ol : pm_O) (orc : pm_Q)  (h : pm_H) : pm_F ol orc 94 40 [] [] h = pm_F ol orc 94 41 [] [.int (1)] h := pm_F_nx rfl rfl rfl rfl
theorem f94_41 (ol : pm_O) (orc : pm_Q) (s0 : Int32) (h : pm_H) : pm_F ol orc 94 41 [] [.int s0] h = if s0 = 0 ∨ s0 = 1 then some (some (.int s0), h) else none := pm_F_zr rfl rfl
theorem v94 (ol : pm_O) (orc : pm_Q) (x0 : Nat) (x1 : Int32) (x2 : Int32) (x3 : Int32) (h : pm_H) : pm_V ol orc 94 [.ref x0, .int x1, .int x2, .int x3] h = pm_F ol orc 94 0 [(0, .ref x0), (1, .int x1), (2, .int x2), (3, .int x3)] [] h := (if_pos (r_le rfl)).trans (pm_F_live rfl)
/-! FrameTyper$World.sharedClass(II)I: 95 -/
theorem f95_0 (ol : pm_O) (orc : pm_Q) (x0 : Nat) (x1 : Int32) (x2 : Int32) (h : pm_H) : pm_F ol orc 95 0 [(0, .ref x0), (1, .int x1), (2, .int x2)] [] h = pm_F ol orc 95 1 [(0, .ref x0), (1, .int x1), (2, .int x2)] [.int (0)] h := pm_F_nx rfl rfl rfl rfl
theorem f95_1 (ol : pm_O) (orc : pm_Q) (x0 : Nat) (x1 : Int32) (x2 : Int32) (s0 : Int32) (h : pm_H) : pm_F ol orc 95 1 [(0, .ref x0), (1, .int x1), (2, .int x2)] [.int s0] h = pm_F ol orc 95 2 [(0, .ref x0), (1, .int x1), (2, .int x2), (3, .int s0)] [] h := pm_F_nx rfl rfl rfl rfl
theorem f95_2 (ol : pm_O) (orc : pm_Q) (x0 : Nat) (x1 : Int32) (x2 : Int32) (x3 : Int32) (h : pm_H) : pm_F ol orc 95 2 [(0, .ref x0), (1, .int x1), (2, .int x2), (3, .int x3)] [] h = pm_F ol orc 95 3 [(0, .ref x0), (1, .int x1), (2, .int x2), (3, .int x3)] [.int x3] h := pm_F_nx rfl rfl rfl rfl
theorem f95_3 (ol : pm_O) (orc : pm_Q) (x0 : Nat) (x1 : Int32) (x2 : Int32) (x3 : Int32) (s0 : Int32) (h : pm_H) : pm_F ol orc 95 3 [(0, .ref x0), (1, .int x1), (2, .int x2), (3, .int x3)] [.int s0] h = pm_F ol orc 95 5 [(0, .ref x0), (1, .int x1), (2, .int x2), (3, .int x3)] [.int (16), .int s0] h := pm_F_nx rfl rfl rfl rfl
theorem f95_5 (ol : pm_O) (orc : pm_Q) (x0 : Nat) (x1 : Int32) (x2 : Int32) (x3 : Int32) (s0 : Int32) (s1 : Int32) (h : pm_H) : pm_F ol orc 95 5 [(0, .ref x0), (1, .int x1), (2, .int x2), (3, .int x3)] [.int s0, .int s1] h = if s0 ≤ s1 then pm_F ol orc 95 41 [(1, .int x1)] [] h else pm_F ol orc 95 8 [(0, .ref x0), (1, .int x1), (2, .int x2), (3, .int x3)] [] h := r_i2 rfl rfl rfl rfl rfl rfl rfl
theorem f95_8 (ol : pm_O) (orc : pm_Q) (x0 : Nat) (x1 : Int32) (x2 : Int32) (x3 : Int32) (h : pm_H) : pm_F ol orc 95 8 [(0, .ref x0), (1, .int x1), (2, .int x2), (3, .int x3)] [] h = pm_F ol orc 95 9 [(0, .ref x0), (1, .int x1), (2, .int x2), (3, .int x3)] [.int x1] h := pm_F_nx rfl rfl rfl rfl
theorem f95_9 (ol : pm_O) (orc : pm_Q) (x0 : Nat) (x1 : Int32) (x2 : Int32) (x3 : Int32) (s0 : Int32) (h : pm_H) : pm_F ol orc 95 9 [(0, .ref x0), (1, .int x1), (2, .int x2), (3, .int x3)] [.int s0] h = pm_F ol orc 95 10 [(0, .ref x0), (1, .int x1), (2, .int x2), (3, .int x3)] [.int x2, .int s0] h := pm_F_nx rfl rfl rfl rfl
theorem f95_10 (ol : pm_O) (orc : pm_Q) (x0 : Nat) (x1 : Int32) (x2 : Int32) (x3 : Int32) (s0 : Int32) (s1 : Int32) (h : pm_H) : pm_F ol orc 95 10 [(0, .ref x0), (1, .int x1), (2, .int x2), (3, .int x3)] [.int s0, .int s1] h = if s1 = s0 then pm_F ol orc 95 41 [(1, .int x1)] [] h else pm_F ol orc 95 13 [(0, .ref x0), (1, .int x1), (2, .int x2), (3, .int x3)] [] h := r_i2 rfl rfl rfl rfl rfl rfl rfl
theorem f95_13 (ol : pm_O) (orc : pm_Q) (x0 : Nat) (x1 : Int32) (x2 : Int32) (x3 : Int32) (h : pm_H) : pm_F ol orc 95 13 [(0, .ref x0), (1, .int x1), (2, .int x2), (3, .int x3)] [] h = pm_F ol orc 95 14 [(0, .ref x0), (1, .int x1), (2, .int x2), (3, .int x3)] [.int x1] h := pm_F_nx rfl rfl rfl rfl
theorem f95_14 (ol : pm_O) (orc : pm_Q) (x0 : Nat) (x1 : Int32) (x2 : Int32) (x3 : Int32) (s0 : Int32) (h : pm_H) : pm_F ol orc 95 14 [(0, .ref x0), (1, .int x1), (2, .int x2), (3, .int x3)] [.int s0] h = pm_F ol orc 95 15 [(0, .ref x0), (1, .int x1), (2, .int x2), (3, .int x3)] [.int x2, .int s0] h := pm_F_nx rfl rfl rfl rfl
theorem f95_15 (ol : pm_O) (orc : pm_Q) (x0 : Nat) (x1 : Int32) (x2 : Int32) (x3 : Int32) (s0 : Int32) (s1 : Int32) (h : pm_H) : pm_F ol orc 95 15 [(0, .ref x0), (1, .int x1), (2, .int x2), (3, .int x3)] [.int s0, .int s1] h = if s1 ≤ s0 then pm_F ol orc 95 28 [(0, .ref x0), (1, .int x1), (2, .int x2), (3, .int x3)] [] h else pm_F ol orc 95 18 [(0, .ref x0), (1, .int x1), (2, .int x2), (3, .int x3)] [] h := r_i2 rfl rfl rfl rfl rfl rfl rfl
theorem f95_18 (ol : pm_O) (orc : pm_Q) (x0 : Nat) (x1 : Int32) (x2 : Int32) (x3 : Int32) (h : pm_H) : pm_F ol orc 95 18 [(0, .ref x0), (1, .int x1), (2, .int x2), (3, .int x3)] [] h = pm_F ol orc 95 19 [(0, .ref x0), (1, .int x1), (2, .int x2), (3, .int x3)] [.ref x0] h := pm_F_nx rfl rfl rfl rfl
theorem f95_19 (ol : pm_O) (orc : pm_Q) (x0 : Nat) (x1 : Int32) (x2 : Int32) (x3 : Int32) (s0 : Nat) (h : pm_H) : pm_F ol orc 95 19 [(0, .ref x0), (1, .int x1), (2, .int x2), (3, .int x3)] [.ref s0] h = pm_Pv ol orc 95 22 [(0, .ref x0), (1, .int x1), (2, .int x2), (3, .int x3)] [] h (pm_fd h s0 10 0) := r_gf rfl rfl rfl rfl rfl rfl
theorem f95_22 (ol : pm_O) (orc : pm_Q) (x0 : Nat) (x1 : Int32) (x2 : Int32) (x3 : Int32) (s0 : Nat) (h : pm_H) : pm_F ol orc 95 22 [(0, .ref x0), (1, .int x1), (2, .int x2), (3, .int x3)] [.ref s0] h = pm_F ol orc 95 23 [(0, .ref x0), (2, .int x2), (3, .int x3)] [.int x1, .ref s0] h := pm_F_nx rfl rfl rfl rfl
theorem f95_23 (ol : pm_O) (orc : pm_Q) (x0 : Nat) (x2 : Int32) (x3 : Int32) (s0 : Int32) (s1 : Nat) (h : pm_H) : pm_F ol orc 95 23 [(0, .ref x0), (2, .int x2), (3, .int x3)] [.int s0, .ref s1] h = pm_Pv ol orc 95 24 [(0, .ref x0), (2, .int x2), (3, .int x3)] [] h (pm_ai ol h s1 s0) := r_ia rfl rfl rfl rfl
theorem f95_24 (ol : pm_O) (orc : pm_Q) (x0 : Nat) (x2 : Int32) (x3 : Int32) (s0 : Int32) (h : pm_H) : pm_F ol orc 95 24 [(0, .ref x0), (2, .int x2), (3, .int x3)] [.int s0] h = pm_F ol orc 95 25 [(0, .ref x0), (1, .int s0), (2, .int x2), (3, .int x3)] [] h := pm_F_nx rfl rfl rfl rfl
theorem f95_25 (ol : pm_O) (orc : pm_Q) (x0 : Nat) (x1 : Int32) (x2 : Int32) (x3 : Int32) (h : pm_H) : pm_F ol orc 95 25 [(0, .ref x0), (1, .int x1), (2, .int x2), (3, .int x3)] [] h = pm_F ol orc 95 35 [(0, .ref x0), (1, .int x1), (2, .int x2), (3, .int x3)] [] h := pm_F_nx rfl rfl rfl rfl
theorem f95_28 (ol : pm_O) (orc : pm_Q) (x0 : Nat) (x1 : Int32) (x2 : Int32) (x3 : Int32) (h : pm_H) : pm_F ol orc 95 28 [(0, .ref x0), (1, .int x1), (2, .int x2), (3, .int x3)] [] h = pm_F ol orc 95 29 [(0, .ref x0), (1, .int x1), (2, .int x2), (3, .int x3)] [.ref x0] h := pm_F_nx rfl rfl rfl rfl
theorem f95_29 (ol : pm_O) (orc : pm_Q) (x0 : Nat) (x1 : Int32) (x2 : Int32) (x3 : Int32) (s0 : Nat) (h : pm_H) : pm_F ol orc 95 29 [(0, .ref x0), (1, .int x1), (2, .int x2), (3, .int x3)] [.ref s0] h = pm_Pv ol orc 95 32 [(0, .ref x0), (1, .int x1), (2, .int x2), (3, .int x3)] [] h (pm_fd h s0 10 0) := r_gf rfl rfl rfl rfl rfl rfl
theorem f95_32 (ol : pm_O) (orc : pm_Q) (x0 : Nat) (x1 : Int32) (x2 : Int32) (x3 : Int32) (s0 : Nat) (h : pm_H) : pm_F ol orc 95 32 [(0, .ref x0), (1, .int x1), (2, .int x2), (3, .int x3)] [.ref s0] h = pm_F ol orc 95 33 [(0, .ref x0), (1, .int x1), (3, .int x3)] [.int x2, .ref s0] h := pm_F_nx rfl rfl rfl rfl
theorem f95_33 (ol : pm_O) (orc : pm_Q) (x0 : Nat) (x1 : Int32) (x3 : Int32) (s0 : Int32) (s1 : Nat) (h : pm_H) : pm_F ol orc 95 33 [(0, .ref x0), (1, .int x1), (3, .int x3)] [.int s0, .ref s1] h = pm_Pv ol orc 95 34 [(0, .ref x0), (1, .int x1), (3, .int x3)] [] h (pm_ai ol h s1 s0) := r_ia rfl rfl rfl rfl
theorem f95_34 (ol : pm_O) (orc : pm_Q) (x0 : Nat) (x1 : Int32) (x3 : Int32) (s0 : Int32) (h : pm_H) : pm_F ol orc 95 34 [(0, .ref x0), (1, .int x1), (3, .int x3)] [.int s0] h = pm_F ol orc 95 35 [(0, .ref x0), (1, .int x1), (2, .int s0), (3, .int x3)] [] h := pm_F_nx rfl rfl rfl rfl
theorem f95_35 (ol : pm_O) (orc : pm_Q) (x0 : Nat) (x1 : Int32) (x2 : Int32) (x3 : Int32) (h : pm_H) : pm_F ol orc 95 35 [(0, .ref x0), (1, .int x1), (2, .int x2), (3, .int x3)] [] h = pm_F ol orc 95 38 [(0, .ref x0), (1, .int x1), (2, .int x2), (3, .int (x3 + 1))] [] h := pm_F_nx rfl rfl rfl rfl
theorem f95_38 (ol : pm_O) (orc : pm_Q) (x0 : Nat) (x1 : Int32) (x2 : Int32) (x3 : Int32) (h : pm_H) : pm_F ol orc 95 38 [(0, .ref x0), (1, .int x1), (2, .int x2), (3, .int x3)] [] h = pm_F ol orc 95 2 [(0, .ref x0), (1, .int x1), (2, .int x2), (3, .int x3)] [] h := pm_F_nx rfl rfl rfl rfl
theorem f95_41 (ol : pm_O) (orc : pm_Q) (x1 : Int32) (h : pm_H) : pm_F ol orc 95 41 [(1, .int x1)] [] h = pm_F ol orc 95 42 [] [.int x1] h := pm_F_nx rfl rfl rfl rfl
theorem f95_42 (ol : pm_O) (orc : pm_Q) (s0 : Int32) (h : pm_H) : pm_F ol orc 95 42 [] [.int s0] h = some (some (.int s0), h) := pm_F_rt rfl rfl rfl
theorem v95 (ol : pm_O) (orc : pm_Q) (x0 : Nat) (x1 : Int32) (x2 : Int32) (h : pm_H) : pm_V ol orc 95 [.ref x0, .int x1, .int x2] h = pm_F ol orc 95 0 [(0, .ref x0), (1, .int x1), (2, .int x2)] [] h := (if_pos (r_le rfl)).trans (pm_F_live rfl)
/-! FrameTyper$World.fits(II)Z: 96 -/
theorem f96_0 (ol : pm_O) (orc : pm_Q) (x0 : Nat) (x1 : Int32) (x2 : Int32) (h : pm_H) : pm_F ol orc 96 0 [(0, .ref x0), (1, .int x1), (2, .int x2)] [] h = pm_F ol orc 96 1 [(0, .ref x0), (1, .int x1), (2, .int x2)] [.int x2] h := pm_F_nx rfl rfl rfl rfl
theorem f96_1 (ol : pm_O) (orc : pm_Q) (x0 : Nat) (x1 : Int32) (x2 : Int32) (s0 : Int32) (h : pm_H) : pm_F ol orc 96 1 [(0, .ref x0), (1, .int x1), (2, .int x2)] [.int s0] h = if s0 = 0 then pm_F ol orc 96 9 [] [] h else pm_F ol orc 96 4 [(0, .ref x0), (1, .int x1), (2, .int x2)] [] h := r_i1 rfl rfl rfl rfl rfl rfl rfl
theorem f96_4 (ol : pm_O) (orc : pm_Q) (x0 : Nat) (x1 : Int32) (x2 : Int32) (h : pm_H) : pm_F ol orc 96 4 [(0, .ref x0), (1, .int x1), (2, .int x2)] [] h = pm_F ol orc 96 5 [(0, .ref x0), (1, .int x1), (2, .int x2)] [.int x1] h := pm_F_nx rfl rfl rfl rfl
theorem f96_5 (ol : pm_O) (orc : pm_Q) (x0 : Nat) (x1 : Int32) (x2 : Int32) (s0 : Int32) (h : pm_H) : pm_F ol orc 96 5 [(0, .ref x0), (1, .int x1), (2, .int x2)] [.int s0] h = pm_F ol orc 96 6 [(0, .ref x0), (1, .int x1), (2, .int x2)] [.int x2, .int s0] h := pm_F_nx rfl rfl rfl rfl
theorem f96_6 (ol : pm_O) (orc : pm_Q) (x0 : Nat) (x1 : Int32) (x2 : Int32) (s0 : Int32) (s1 : Int32) (h : pm_H) : pm_F ol orc 96 6 [(0, .ref x0), (1, .int x1), (2, .int x2)] [.int s0, .int s1] h = if ¬ s1 = s0 then pm_F ol orc 96 11 [(0, .ref x0), (1, .int x1), (2, .int x2)] [] h else pm_F ol orc 96 9 [] [] h := r_i2 rfl rfl rfl rfl rfl rfl rfl
theorem f96_9 (ol : pm_O) (orc : pm_Q)  (h : pm_H) : pm_F ol orc 96 9 [] [] h = pm_F ol orc 96 10 [] [.int (1)] h := pm_F_nx rfl rfl rfl rfl
theorem f96_10 (ol : pm_O) (orc : pm_Q) (s0 : Int32) (h : pm_H) : pm_F ol orc 96 10 [] [.int s0] h = if s0 = 0 ∨ s0 = 1 then some (some (.int s0), h) else none := pm_F_zr rfl rfl
theorem f96_11 (ol : pm_O) (orc : pm_Q) (x0 : Nat) (x1 : Int32) (x2 : Int32) (h : pm_H) : pm_F ol orc 96 11 [(0, .ref x0), (1, .int x1), (2, .int x2)] [] h = pm_F ol orc 96 12 [(0, .ref x0), (1, .int x1), (2, .int x2)] [.int x2] h := pm_F_nx rfl rfl rfl rfl
theorem f96_12 (ol : pm_O) (orc : pm_Q) (x0 : Nat) (x1 : Int32) (x2 : Int32) (s0 : Int32) (h : pm_H) : pm_F ol orc 96 12 [(0, .ref x0), (1, .int x1), (2, .int x2)] [.int s0] h = pm_B ol orc 96 15 [(0, .ref x0), (1, .int x1), (2, .int x2)] [] (pm_V ol orc 88 [.int s0] h) := r_sc rfl rfl rfl rfl (r_le rfl) (Or.inr (r_le rfl)) rfl
theorem f96_15 (ol : pm_O) (orc : pm_Q) (x0 : Nat) (x1 : Int32) (x2 : Int32) (s0 : Int32) (h : pm_H) : pm_F ol orc 96 15 [(0, .ref x0), (1, .int x1), (2, .int x2)] [.int s0] h = if ¬ s0 = 0 then pm_F ol orc 96 20 [(0, .ref x0), (1, .int x1), (2, .int x2)] [] h else pm_F ol orc 96 18 [] [] h := r_i1 rfl rfl rfl rfl rfl rfl rfl
theorem f96_18 (ol : pm_O) (orc : pm_Q)  (h : pm_H) : pm_F ol orc 96 18 [] [] h = pm_F ol orc 96 19 [] [.int (0)] h := pm_F_nx rfl rfl rfl rfl
theorem f96_19 (ol : pm_O) (orc : pm_Q) (s0 : Int32) (h : pm_H) : pm_F ol orc 96 19 [] [.int s0] h = if s0 = 0 ∨ s0 = 1 then some (some (.int s0), h) else none := pm_F_zr rfl rfl
theorem f96_20 (ol : pm_O) (orc : pm_Q) (x0 : Nat) (x1 : Int32) (x2 : Int32) (h : pm_H) : pm_F ol orc 96 20 [(0, .ref x0), (1, .int x1), (2, .int x2)] [] h = pm_F ol orc 96 21 [(0, .ref x0), (1, .int x1), (2, .int x2)] [.int x1] h := pm_F_nx rfl rfl rfl rfl
theorem f96_21 (ol : pm_O) (orc : pm_Q) (x0 : Nat) (x1 : Int32) (x2 : Int32) (s0 : Int32) (h : pm_H) : pm_F ol orc 96 21 [(0, .ref x0), (1, .int x1), (2, .int x2)] [.int s0] h = pm_F ol orc 96 22 [(0, .ref x0), (1, .int x1), (2, .int x2)] [.int (2), .int s0] h := pm_F_nx rfl rfl rfl rfl
theorem f96_22 (ol : pm_O) (orc : pm_Q) (x0 : Nat) (x1 : Int32) (x2 : Int32) (s0 : Int32) (s1 : Int32) (h : pm_H) : pm_F ol orc 96 22 [(0, .ref x0), (1, .int x1), (2, .int x2)] [.int s0, .int s1] h = if ¬ s1 = s0 then pm_F ol orc 96 27 [(0, .ref x0), (1, .int x1), (2, .int x2)] [] h else pm_F ol orc 96 25 [] [] h := r_i2 rfl rfl rfl rfl rfl rfl rfl
theorem f96_25 (ol : pm_O) (orc : pm_Q)  (h : pm_H) : pm_F ol orc 96 25 [] [] h = pm_F ol orc 96 26 [] [.int (1)] h := pm_F_nx rfl rfl rfl rfl
theorem f96_26 (ol : pm_O) (orc : pm_Q) (s0 : Int32) (h : pm_H) : pm_F ol orc 96 26 [] [.int s0] h = if s0 = 0 ∨ s0 = 1 then some (some (.int s0), h) else none := pm_F_zr rfl rfl
theorem f96_27 (ol : pm_O) (orc : pm_Q) (x0 : Nat) (x1 : Int32) (x2 : Int32) (h : pm_H) : pm_F ol orc 96 27 [(0, .ref x0), (1, .int x1), (2, .int x2)] [] h = pm_F ol orc 96 28 [(0, .ref x0), (1, .int x1), (2, .int x2)] [.int x1] h := pm_F_nx rfl rfl rfl rfl
theorem f96_28 (ol : pm_O) (orc : pm_Q) (x0 : Nat) (x1 : Int32) (x2 : Int32) (s0 : Int32) (h : pm_H) : pm_F ol orc 96 28 [(0, .ref x0), (1, .int x1), (2, .int x2)] [.int s0] h = pm_B ol orc 96 31 [(0, .ref x0), (1, .int x1), (2, .int x2)] [] (pm_V ol orc 88 [.int s0] h) := r_sc rfl rfl rfl rfl (r_le rfl) (Or.inr (r_le rfl)) rfl
theorem f96_31 (ol : pm_O) (orc : pm_Q) (x0 : Nat) (x1 : Int32) (x2 : Int32) (s0 : Int32) (h : pm_H) : pm_F ol orc 96 31 [(0, .ref x0), (1, .int x1), (2, .int x2)] [.int s0] h = if s0 = 0 then pm_F ol orc 96 57 [] [] h else pm_F ol orc 96 34 [(0, .ref x0), (1, .int x1), (2, .int x2)] [] h := r_i1 rfl rfl rfl rfl rfl rfl rfl
theorem f96_34 (ol : pm_O) (orc : pm_Q) (x0 : Nat) (x1 : Int32) (x2 : Int32) (h : pm_H) : pm_F ol orc 96 34 [(0, .ref x0), (1, .int x1), (2, .int x2)] [] h = pm_F ol orc 96 35 [(1, .int x1), (2, .int x2)] [.ref x0] h := pm_F_nx rfl rfl rfl rfl
theorem f96_35 (ol : pm_O) (orc : pm_Q) (x1 : Int32) (x2 : Int32) (s0 : Nat) (h : pm_H) : pm_F ol orc 96 35 [(1, .int x1), (2, .int x2)] [.ref s0] h = pm_F ol orc 96 36 [(2, .int x2)] [.int x1, .ref s0] h := pm_F_nx rfl rfl rfl rfl
theorem f96_36 (ol : pm_O) (orc : pm_Q) (x2 : Int32) (s0 : Int32) (s1 : Nat) (h : pm_H) : pm_F ol orc 96 36 [(2, .int x2)] [.int s0, .ref s1] h = pm_F ol orc 96 38 [(2, .int x2)] [.int (16), .int s0, .ref s1] h := pm_F_nx rfl rfl rfl rfl
theorem f96_38 (ol : pm_O) (orc : pm_Q) (x2 : Int32) (s0 : Int32) (s1 : Int32) (s2 : Nat) (h : pm_H) : pm_F ol orc 96 38 [(2, .int x2)] [.int s0, .int s1, .ref s2] h = pm_F ol orc 96 39 [(2, .int x2)] [.int (s1 - s0), .ref s2] h := pm_F_nx rfl rfl rfl rfl
theorem f96_39 (ol : pm_O) (orc : pm_Q) (x2 : Int32) (s0 : Int32) (s1 : Nat) (h : pm_H) : pm_F ol orc 96 39 [(2, .int x2)] [.int s0, .ref s1] h = pm_F ol orc 96 40 [(2, .int x2)] [.int x2, .int s0, .ref s1] h := pm_F_nx rfl rfl rfl rfl
theorem f96_40 (ol : pm_O) (orc : pm_Q) (x2 : Int32) (s0 : Int32) (s1 : Int32) (s2 : Nat) (h : pm_H) : pm_F ol orc 96 40 [(2, .int x2)] [.int s0, .int s1, .ref s2] h = pm_F ol orc 96 42 [(2, .int x2)] [.int (16), .int s0, .int s1, .ref s2] h := pm_F_nx rfl rfl rfl rfl
theorem f96_42 (ol : pm_O) (orc : pm_Q) (x2 : Int32) (s0 : Int32) (s1 : Int32) (s2 : Int32) (s3 : Nat) (h : pm_H) : pm_F ol orc 96 42 [(2, .int x2)] [.int s0, .int s1, .int s2, .ref s3] h = pm_F ol orc 96 43 [(2, .int x2)] [.int (s1 - s0), .int s2, .ref s3] h := pm_F_nx rfl rfl rfl rfl
theorem f96_43 (ol : pm_O) (orc : pm_Q) (x2 : Int32) (s0 : Int32) (s1 : Int32) (s2 : Nat) (h : pm_H) : pm_F ol orc 96 43 [(2, .int x2)] [.int s0, .int s1, .ref s2] h = if pm_is h s2 10 = true then pm_B ol orc 96 46 [(2, .int x2)] [] (pm_V ol orc 95 [.ref s2, .int s1, .int s0] h) else none := r_vc rfl rfl rfl rfl rfl rfl (r_le rfl) (r_le rfl) rfl
theorem f96_46 (ol : pm_O) (orc : pm_Q) (x2 : Int32) (s0 : Int32) (h : pm_H) : pm_F ol orc 96 46 [(2, .int x2)] [.int s0] h = pm_F ol orc 96 47 [] [.int x2, .int s0] h := pm_F_nx rfl rfl rfl rfl
theorem f96_47 (ol : pm_O) (orc : pm_Q) (s0 : Int32) (s1 : Int32) (h : pm_H) : pm_F ol orc 96 47 [] [.int s0, .int s1] h = pm_F ol orc 96 49 [] [.int (16), .int s0, .int s1] h := pm_F_nx rfl rfl rfl rfl
theorem f96_49 (ol : pm_O) (orc : pm_Q) (s0 : Int32) (s1 : Int32) (s2 : Int32) (h : pm_H) : pm_F ol orc 96 49 [] [.int s0, .int s1, .int s2] h = pm_F ol orc 96 50 [] [.int (s1 - s0), .int s2] h := pm_F_nx rfl rfl rfl rfl
theorem f96_50 (ol : pm_O) (orc : pm_Q) (s0 : Int32) (s1 : Int32) (h : pm_H) : pm_F ol orc 96 50 [] [.int s0, .int s1] h = if ¬ s1 = s0 then pm_F ol orc 96 57 [] [] h else pm_F ol orc 96 53 [] [] h := r_i2 rfl rfl rfl rfl rfl rfl rfl
theorem f96_53 (ol : pm_O) (orc : pm_Q)  (h : pm_H) : pm_F ol orc 96 53 [] [] h = pm_F ol orc 96 54 [] [.int (1)] h := pm_F_nx rfl rfl rfl rfl
theorem f96_54 (ol : pm_O) (orc : pm_Q) (s0 : Int32) (h : pm_H) : pm_F ol orc 96 54 [] [.int s0] h = pm_F ol orc 96 58 [] [.int s0] h := pm_F_nx rfl rfl rfl rfl
theorem f96_57 (ol : pm_O) (orc : pm_Q)  (h : pm_H) : pm_F ol orc 96 57 [] [] h = pm_F ol orc 96 58 [] [.int (0)] h := pm_F_nx rfl rfl rfl rfl
theorem f96_58 (ol : pm_O) (orc : pm_Q) (s0 : Int32) (h : pm_H) : pm_F ol orc 96 58 [] [.int s0] h = if s0 = 0 ∨ s0 = 1 then some (some (.int s0), h) else none := pm_F_zr rfl rfl
theorem v96 (ol : pm_O) (orc : pm_Q) (x0 : Nat) (x1 : Int32) (x2 : Int32) (h : pm_H) : pm_V ol orc 96 [.ref x0, .int x1, .int x2] h = pm_F ol orc 96 0 [(0, .ref x0), (1, .int x1), (2, .int x2)] [] h := (if_pos (r_le rfl)).trans (pm_F_live rfl)
/-! FrameTyper$World.meet(II)I: 97 -/
theorem f97_0 (ol : pm_O) (orc : pm_Q) (x0 : Nat) (x1 : Int32) (x2 : Int32) (h : pm_H) : pm_F ol orc 97 0 [(0, .ref x0), (1, .int x1), (2, .int x2)] [] h = pm_F ol orc 97 1 [(0, .ref x0), (1, .int x1), (2, .int x2)] [.int x1] h := pm_F_nx rfl rfl rfl rfl
theorem f97_1 (ol : pm_O) (orc : pm_Q) (x0 : Nat) (x1 : Int32) (x2 : Int32) (s0 : Int32) (h : pm_H) : pm_F ol orc 97 1 [(0, .ref x0), (1, .int x1), (2, .int x2)] [.int s0] h = pm_F ol orc 97 2 [(0, .ref x0), (1, .int x1), (2, .int x2)] [.int x2, .int s0] h := pm_F_nx rfl rfl rfl rfl
theorem f97_2 (ol : pm_O) (orc : pm_Q) (x0 : Nat) (x1 : Int32) (x2 : Int32) (s0 : Int32) (s1 : Int32) (h : pm_H) : pm_F ol orc 97 2 [(0, .ref x0), (1, .int x1), (2, .int x2)] [.int s0, .int s1] h = if ¬ s1 = s0 then pm_F ol orc 97 7 [(0, .ref x0), (1, .int x1), (2, .int x2)] [] h else pm_F ol orc 97 5 [(1, .int x1)] [] h := r_i2 rfl rfl rfl rfl rfl rfl rfl
theorem f97_5 (ol : pm_O) (orc : pm_Q) (x1 : Int32) (h : pm_H) : pm_F ol orc 97 5 [(1, .int x1)] [] h = pm_F ol orc 97 6 [] [.int x1] h := pm_F_nx rfl rfl rfl rfl
theorem f97_6 (ol : pm_O) (orc : pm_Q) (s0 : Int32) (h : pm_H) : pm_F ol orc 97 6 [] [.int s0] h = some (some (.int s0), h) := pm_F_rt rfl rfl rfl
theorem f97_7 (ol : pm_O) (orc : pm_Q) (x0 : Nat) (x1 : Int32) (x2 : Int32) (h : pm_H) : pm_F ol orc 97 7 [(0, .ref x0), (1, .int x1), (2, .int x2)] [] h = pm_F ol orc 97 8 [(0, .ref x0), (1, .int x1), (2, .int x2)] [.int x1] h := pm_F_nx rfl rfl rfl rfl
theorem f97_8 (ol : pm_O) (orc : pm_Q) (x0 : Nat) (x1 : Int32) (x2 : Int32) (s0 : Int32) (h : pm_H) : pm_F ol orc 97 8 [(0, .ref x0), (1, .int x1), (2, .int x2)] [.int s0] h = pm_F ol orc 97 9 [(0, .ref x0), (1, .int x1), (2, .int x2)] [.int (2), .int s0] h := pm_F_nx rfl rfl rfl rfl
theorem f97_9 (ol : pm_O) (orc : pm_Q) (x0 : Nat) (x1 : Int32) (x2 : Int32) (s0 : Int32) (s1 : Int32) (h : pm_H) : pm_F ol orc 97 9 [(0, .ref x0), (1, .int x1), (2, .int x2)] [.int s0, .int s1] h = if ¬ s1 = s0 then pm_F ol orc 97 21 [(0, .ref x0), (1, .int x1), (2, .int x2)] [] h else pm_F ol orc 97 12 [(0, .ref x0), (1, .int x1), (2, .int x2)] [] h := r_i2 rfl rfl rfl rfl rfl rfl rfl
theorem f97_12 (ol : pm_O) (orc : pm_Q) (x0 : Nat) (x1 : Int32) (x2 : Int32) (h : pm_H) : pm_F ol orc 97 12 [(0, .ref x0), (1, .int x1), (2, .int x2)] [] h = pm_F ol orc 97 13 [(0, .ref x0), (1, .int x1), (2, .int x2)] [.int x2] h := pm_F_nx rfl rfl rfl rfl
theorem f97_13 (ol : pm_O) (orc : pm_Q) (x0 : Nat) (x1 : Int32) (x2 : Int32) (s0 : Int32) (h : pm_H) : pm_F ol orc 97 13 [(0, .ref x0), (1, .int x1), (2, .int x2)] [.int s0] h = pm_B ol orc 97 16 [(0, .ref x0), (1, .int x1), (2, .int x2)] [] (pm_V ol orc 88 [.int s0] h) := r_sc rfl rfl rfl rfl (r_le rfl) (Or.inr (r_le rfl)) rfl
theorem f97_16 (ol : pm_O) (orc : pm_Q) (x0 : Nat) (x1 : Int32) (x2 : Int32) (s0 : Int32) (h : pm_H) : pm_F ol orc 97 16 [(0, .ref x0), (1, .int x1), (2, .int x2)] [.int s0] h = if s0 = 0 then pm_F ol orc 97 21 [(0, .ref x0), (1, .int x1), (2, .int x2)] [] h else pm_F ol orc 97 19 [(2, .int x2)] [] h := r_i1 rfl rfl rfl rfl rfl rfl rfl
theorem f97_19 (ol : pm_O) (orc : pm_Q) (x2 : Int32) (h : pm_H) : pm_F ol orc 97 19 [(2, .int x2)] [] h = pm_F ol orc 97 20 [] [.int x2] h := pm_F_nx rfl rfl rfl rfl
theorem f97_20 (ol : pm_O) (orc : pm_Q) (s0 : Int32) (h : pm_H) : pm_F ol orc 97 20 [] [.int s0] h = some (some (.int s0), h) := pm_F_rt rfl rfl rfl
theorem f97_21 (ol : pm_O) (orc : pm_Q) (x0 : Nat) (x1 : Int32) (x2 : Int32) (h : pm_H) : pm_F ol orc 97 21 [(0, .ref x0), (1, .int x1), (2, .int x2)] [] h = pm_F ol orc 97 22 [(0, .ref x0), (1, .int x1), (2, .int x2)] [.int x2] h := pm_F_nx rfl rfl rfl rfl
theorem f97_22 (ol : pm_O) (orc : pm_Q) (x0 : Nat) (x1 : Int32) (x2 : Int32) (s0 : Int32) (h : pm_H) : pm_F ol orc 97 22 [(0, .ref x0), (1, .int x1), (2, .int x2)] [.int s0] h = pm_F ol orc 97 23 [(0, .ref x0), (1, .int x1), (2, .int x2)] [.int (2), .int s0] h := pm_F_nx rfl rfl rfl rfl
theorem f97_23 (ol : pm_O) (orc : pm_Q) (x0 : Nat) (x1 : Int32) (x2 : Int32) (s0 : Int32) (s1 : Int32) (h : pm_H) : pm_F ol orc 97 23 [(0, .ref x0), (1, .int x1), (2, .int x2)] [.int s0, .int s1] h = if ¬ s1 = s0 then pm_F ol orc 97 35 [(0, .ref x0), (1, .int x1), (2, .int x2)] [] h else pm_F ol orc 97 26 [(0, .ref x0), (1, .int x1), (2, .int x2)] [] h := r_i2 rfl rfl rfl rfl rfl rfl rfl
theorem f97_26 (ol : pm_O) (orc : pm_Q) (x0 : Nat) (x1 : Int32) (x2 : Int32) (h : pm_H) : pm_F ol orc 97 26 [(0, .ref x0), (1, .int x1), (2, .int x2)] [] h = pm_F ol orc 97 27 [(0, .ref x0), (1, .int x1), (2, .int x2)] [.int x1] h := pm_F_nx rfl rfl rfl rfl
theorem f97_27 (ol : pm_O) (orc : pm_Q) (x0 : Nat) (x1 : Int32) (x2 : Int32) (s0 : Int32) (h : pm_H) : pm_F ol orc 97 27 [(0, .ref x0), (1, .int x1), (2, .int x2)] [.int s0] h = pm_B ol orc 97 30 [(0, .ref x0), (1, .int x1), (2, .int x2)] [] (pm_V ol orc 88 [.int s0] h) := r_sc rfl rfl rfl rfl (r_le rfl) (Or.inr (r_le rfl)) rfl
theorem f97_30 (ol : pm_O) (orc : pm_Q) (x0 : Nat) (x1 : Int32) (x2 : Int32) (s0 : Int32) (h : pm_H) : pm_F ol orc 97 30 [(0, .ref x0), (1, .int x1), (2, .int x2)] [.int s0] h = if s0 = 0 then pm_F ol orc 97 35 [(0, .ref x0), (1, .int x1), (2, .int x2)] [] h else pm_F ol orc 97 33 [(1, .int x1)] [] h := r_i1 rfl rfl rfl rfl rfl rfl rfl
theorem f97_33 (ol : pm_O) (orc : pm_Q) (x1 : Int32) (h : pm_H) : pm_F ol orc 97 33 [(1, .int x1)] [] h = pm_F ol orc 97 34 [] [.int x1] h := pm_F_nx rfl rfl rfl rfl
theorem f97_34 (ol : pm_O) (orc : pm_Q) (s0 : Int32) (h : pm_H) : pm_F ol orc 97 34 [] [.int s0] h = some (some (.int s0), h) := pm_F_rt rfl rfl rfl
theorem f97_35 (ol : pm_O) (orc : pm_Q) (x0 : Nat) (x1 : Int32) (x2 : Int32) (h : pm_H) : pm_F ol orc 97 35 [(0, .ref x0), (1, .int x1), (2, .int x2)] [] h = pm_F ol orc 97 36 [(0, .ref x0), (1, .int x1), (2, .int x2)] [.int x1] h := pm_F_nx rfl rfl rfl rfl
theorem f97_36 (ol : pm_O) (orc : pm_Q) (x0 : Nat) (x1 : Int32) (x2 : Int32) (s0 : Int32) (h : pm_H) : pm_F ol orc 97 36 [(0, .ref x0), (1, .int x1), (2, .int x2)] [.int s0] h = pm_B ol orc 97 39 [(0, .ref x0), (1, .int x1), (2, .int x2)] [] (pm_V ol orc 88 [.int s0] h) := r_sc rfl rfl rfl rfl (r_le rfl) (Or.inr (r_le rfl)) rfl
theorem f97_39 (ol : pm_O) (orc : pm_Q) (x0 : Nat) (x1 : Int32) (x2 : Int32) (s0 : Int32) (h : pm_H) : pm_F ol orc 97 39 [(0, .ref x0), (1, .int x1), (2, .int x2)] [.int s0] h = if s0 = 0 then pm_F ol orc 97 65 [] [] h else pm_F ol orc 97 42 [(0, .ref x0), (1, .int x1), (2, .int x2)] [] h := r_i1 rfl rfl rfl rfl rfl rfl rfl
theorem f97_42 (ol : pm_O) (orc : pm_Q) (x0 : Nat) (x1 : Int32) (x2 : Int32) (h : pm_H) : pm_F ol orc 97 42 [(0, .ref x0), (1, .int x1), (2, .int x2)] [] h = pm_F ol orc 97 43 [(0, .ref x0), (1, .int x1), (2, .int x2)] [.int x2] h := pm_F_nx rfl rfl rfl rfl
theorem f97_43 (ol : pm_O) (orc : pm_Q) (x0 : Nat) (x1 : Int32) (x2 : Int32) (s0 : Int32) (h : pm_H) : pm_F ol orc 97 43 [(0, .ref x0), (1, .int x1), (2, .int x2)] [.int s0] h = pm_B ol orc 97 46 [(0, .ref x0), (1, .int x1), (2, .int x2)] [] (pm_V ol orc 88 [.int s0] h) := r_sc rfl rfl rfl rfl (r_le rfl) (Or.inr (r_le rfl)) rfl
theorem f97_46 (ol : pm_O) (orc : pm_Q) (x0 : Nat) (x1 : Int32) (x2 : Int32) (s0 : Int32) (h : pm_H) : pm_F ol orc 97 46 [(0, .ref x0), (1, .int x1), (2, .int x2)] [.int s0] h = if s0 = 0 then pm_F ol orc 97 65 [] [] h else pm_F ol orc 97 49 [(0, .ref x0), (1, .int x1), (2, .int x2)] [] h := r_i1 rfl rfl rfl rfl rfl rfl rfl
theorem f97_49 (ol : pm_O) (orc : pm_Q) (x0 : Nat) (x1 : Int32) (x2 : Int32) (h : pm_H) : pm_F ol orc 97 49 [(0, .ref x0), (1, .int x1), (2, .int x2)] [] h = pm_F ol orc 97 51 [(0, .ref x0), (1, .int x1), (2, .int x2)] [.int (16)] h := pm_F_nx rfl rfl rfl rfl
theorem f97_51 (ol : pm_O) (orc : pm_Q) (x0 : Nat) (x1 : Int32) (x2 : Int32) (s0 : Int32) (h : pm_H) : pm_F ol orc 97 51 [(0, .ref x0), (1, .int x1), (2, .int x2)] [.int s0] h = pm_F ol orc 97 52 [(1, .int x1), (2, .int x2)] [.ref x0, .int s0] h := pm_F_nx rfl rfl rfl rfl
theorem f97_52 (ol : pm_O) (orc : pm_Q) (x1 : Int32) (x2 : Int32) (s0 : Nat) (s1 : Int32) (h : pm_H) : pm_F ol orc 97 52 [(1, .int x1), (2, .int x2)] [.ref s0, .int s1] h = pm_F ol orc 97 53 [(2, .int x2)] [.int x1, .ref s0, .int s1] h := pm_F_nx rfl rfl rfl rfl
theorem f97_53 (ol : pm_O) (orc : pm_Q) (x2 : Int32) (s0 : Int32) (s1 : Nat) (s2 : Int32) (h : pm_H) : pm_F ol orc 97 53 [(2, .int x2)] [.int s0, .ref s1, .int s2] h = pm_F ol orc 97 55 [(2, .int x2)] [.int (16), .int s0, .ref s1, .int s2] h := pm_F_nx rfl rfl rfl rfl
theorem f97_55 (ol : pm_O) (orc : pm_Q) (x2 : Int32) (s0 : Int32) (s1 : Int32) (s2 : Nat) (s3 : Int32) (h : pm_H) : pm_F ol orc 97 55 [(2, .int x2)] [.int s0, .int s1, .ref s2, .int s3] h = pm_F ol orc 97 56 [(2, .int x2)] [.int (s1 - s0), .ref s2, .int s3] h := pm_F_nx rfl rfl rfl rfl
theorem f97_56 (ol : pm_O) (orc : pm_Q) (x2 : Int32) (s0 : Int32) (s1 : Nat) (s2 : Int32) (h : pm_H) : pm_F ol orc 97 56 [(2, .int x2)] [.int s0, .ref s1, .int s2] h = pm_F ol orc 97 57 [] [.int x2, .int s0, .ref s1, .int s2] h := pm_F_nx rfl rfl rfl rfl
theorem f97_57 (ol : pm_O) (orc : pm_Q) (s0 : Int32) (s1 : Int32) (s2 : Nat) (s3 : Int32) (h : pm_H) : pm_F ol orc 97 57 [] [.int s0, .int s1, .ref s2, .int s3] h = pm_F ol orc 97 59 [] [.int (16), .int s0, .int s1, .ref s2, .int s3] h := pm_F_nx rfl rfl rfl rfl
theorem f97_59 (ol : pm_O) (orc : pm_Q) (s0 : Int32) (s1 : Int32) (s2 : Int32) (s3 : Nat) (s4 : Int32) (h : pm_H) : pm_F ol orc 97 59 [] [.int s0, .int s1, .int s2, .ref s3, .int s4] h = pm_F ol orc 97 60 [] [.int (s1 - s0), .int s2, .ref s3, .int s4] h := pm_F_nx rfl rfl rfl rfl
theorem f97_60 (ol : pm_O) (orc : pm_Q) (s0 : Int32) (s1 : Int32) (s2 : Nat) (s3 : Int32) (h : pm_H) : pm_F ol orc 97 60 [] [.int s0, .int s1, .ref s2, .int s3] h = if pm_is h s2 10 = true then pm_B ol orc 97 63 [] [.int s3] (pm_V ol orc 95 [.ref s2, .int s1, .int s0] h) else none := r_vc rfl rfl rfl rfl rfl rfl (r_le rfl) (r_le rfl) rfl
theorem f97_63 (ol : pm_O) (orc : pm_Q) (s0 : Int32) (s1 : Int32) (h : pm_H) : pm_F ol orc 97 63 [] [.int s0, .int s1] h = pm_F ol orc 97 64 [] [.int (s1 + s0)] h := pm_F_nx rfl rfl rfl rfl
theorem f97_64 (ol : pm_O) (orc : pm_Q) (s0 : Int32) (h : pm_H) : pm_F ol orc 97 64 [] [.int s0] h = some (some (.int s0), h) := pm_F_rt rfl rfl rfl
theorem f97_65 (ol : pm_O) (orc : pm_Q)  (h : pm_H) : pm_F ol orc 97 65 [] [] h = pm_F ol orc 97 66 [] [.int (0)] h := pm_F_nx rfl rfl rfl rfl
theorem f97_66 (ol : pm_O) (orc : pm_Q) (s0 : Int32) (h : pm_H) : pm_F ol orc 97 66 [] [.int s0] h = some (some (.int s0), h) := pm_F_rt rfl rfl rfl
theorem v97 (ol : pm_O) (orc : pm_Q) (x0 : Nat) (x1 : Int32) (x2 : Int32) (h : pm_H) : pm_V ol orc 97 [.ref x0, .int x1, .int x2] h = pm_F ol orc 97 0 [(0, .ref x0), (1, .int x1), (2, .int x2)] [] h := (if_pos (r_le rfl)).trans (pm_F_live rfl)
end
section
theorem T_isObject (ol : pm_O) (orc : pm_Q) (t : Int32) (h : pm_H) : pm_V ol orc 88 [.int t] h = some (some (.int (if 16 ≤ t ∧ t < 24 then 1 else 0)), h) := by
  simp only [f88_0, f88_1, f88_3, f88_6, f88_7, f88_9, f88_12, f88_13, f88_16, f88_17, v88]
  by_cases h1 : t < 16
  · sorry
  · sorry
theorem T_get24 (ol : pm_O) (orc : pm_Q) (i : Int32) (A I : Nat → Nat → Int32) (L : Nat → Int64) (g : pm_H) (hI : I 24 1 ≤ 120) : pm_V ol orc 2 [.ref 24, .int i] (mk A I L g) = some (some (.int (if 0 ≤ i ∧ i < I 24 1 then A 25 i.toNatClampNeg else -1)), mk A I L g) := by
  simp only [f2_0, f2_1, f2_4, f2_5, f2_6, f2_9, f2_12, f2_13, f2_14, f2_17, f2_18, f2_21, f2_22, f2_25, f2_26, f2_27, f2_30, f2_31, v2, pm_Pv_some, pm_Ph_some, pm_B_some, pm_B_none, fd_24_0, fd_24_1, ln_25]
  sorry
theorem T_put24 (ol : pm_O) (orc : pm_Q) (i : Int32) (A I : Nat → Nat → Int32) (L : Nat → Int64) (g : pm_H) (hI : I 24 1 ≤ 120) : pm_V ol orc 4 [.ref 24, .int i] (mk A I L g) = none := by
  simp only [f4_0, f4_1, f4_4, f4_5, f4_8, f4_9, f4_12, f4_13, f4_16, f4_17, f4_20, f4_21, f4_22, f4_23, f4_24, f4_27, f4_28, f4_29, f4_32, v4, pm_Pv_some, pm_Ph_some, pm_B_some, pm_B_none, fd_24_0, fd_24_1, ln_25, fs_24_1]
  sorry
end
