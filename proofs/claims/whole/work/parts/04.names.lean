-- ===== PART A: goes FIRST, ahead of the names: the tables' words, and 'selects' of the private methods out of them =====
/-- a private method of a class that the tables say can be made, by its rows of tables_1 -/
def lw_okq (q : MethodName × Nat) : Prop := (q.1.cls ≠ "java/lang/invoke/MethodHandle" ∧ q.1.cls ≠ "java/lang/invoke/VarHandle") ∧ Cond.instantiable q.1.cls q.2 ∈ tables_1 ∧ Cond.privateMethod q.1 ∈ tables_1 ∧ Cond.instanceMethod q.1 ∈ tables_1
theorem lw_p0 : lw_okq (⟨"ArithmeticForms", "keepNode", "(LArithmeticForms$Decimal;)I"⟩, 9) := ⟨⟨by decide +kernel, by decide +kernel⟩, List.mem_of_getElem? (i := 16) (by decide +kernel), List.mem_of_getElem? (i := 147) (by decide +kernel), List.mem_of_getElem? (i := 148) (by decide +kernel)⟩
theorem lw_p1 : lw_okq (⟨"ArithmeticForms", "nodeAt", "(I)LArithmeticForms$Decimal;"⟩, 9) := ⟨⟨by decide +kernel, by decide +kernel⟩, List.mem_of_getElem? (i := 16) (by decide +kernel), List.mem_of_getElem? (i := 155) (by decide +kernel), List.mem_of_getElem? (i := 156) (by decide +kernel)⟩
theorem lw_p2 : lw_okq (⟨"ArithmeticForms", "operate", "(ILArithmeticForms$Decimal;LArithmeticForms$Decimal;LArithmeticForms$Decimal;)V"⟩, 9) := ⟨⟨by decide +kernel, by decide +kernel⟩, List.mem_of_getElem? (i := 16) (by decide +kernel), List.mem_of_getElem? (i := 159) (by decide +kernel), List.mem_of_getElem? (i := 160) (by decide +kernel)⟩
theorem lw_p3 : lw_okq (⟨"ArithmeticForms$Calculator", "carry", "()V"⟩, 4) := ⟨⟨by decide +kernel, by decide +kernel⟩, List.mem_of_getElem? (i := 59) (by decide +kernel), List.mem_of_getElem? (i := 208) (by decide +kernel), List.mem_of_getElem? (i := 209) (by decide +kernel)⟩
theorem lw_p4 : lw_okq (⟨"ArithmeticForms$Calculator", "settle", "(LArithmeticForms$Decimal;II)V"⟩, 4) := ⟨⟨by decide +kernel, by decide +kernel⟩, List.mem_of_getElem? (i := 59) (by decide +kernel), List.mem_of_getElem? (i := 216) (by decide +kernel), List.mem_of_getElem? (i := 217) (by decide +kernel)⟩
theorem lw_p5 : lw_okq (⟨"ArithmeticForms$Calculator", "wideAt", "(I)J"⟩, 4) := ⟨⟨by decide +kernel, by decide +kernel⟩, List.mem_of_getElem? (i := 59) (by decide +kernel), List.mem_of_getElem? (i := 222) (by decide +kernel), List.mem_of_getElem? (i := 223) (by decide +kernel)⟩
theorem lw_p6 : lw_okq (⟨"ArithmeticForms$Calculator", "takeOut", "(LArithmeticForms$Decimal;)J"⟩, 4) := ⟨⟨by decide +kernel, by decide +kernel⟩, List.mem_of_getElem? (i := 59) (by decide +kernel), List.mem_of_getElem? (i := 232) (by decide +kernel), List.mem_of_getElem? (i := 233) (by decide +kernel)⟩
theorem lw_p7 : lw_okq (⟨"ArithmeticForms$Calculator", "reaches", "(LArithmeticForms$Decimal;)Z"⟩, 4) := ⟨⟨by decide +kernel, by decide +kernel⟩, List.mem_of_getElem? (i := 59) (by decide +kernel), List.mem_of_getElem? (i := 239) (by decide +kernel), List.mem_of_getElem? (i := 240) (by decide +kernel)⟩
theorem lw_p8 : lw_okq (⟨"ArithmeticForms$Calculator", "reduce", "(LArithmeticForms$Decimal;J)V"⟩, 4) := ⟨⟨by decide +kernel, by decide +kernel⟩, List.mem_of_getElem? (i := 59) (by decide +kernel), List.mem_of_getElem? (i := 243) (by decide +kernel), List.mem_of_getElem? (i := 244) (by decide +kernel)⟩
theorem lw_p9 : lw_okq (⟨"ArithmeticForms", "calculate", "(ILArithmeticForms$Decimal;LArithmeticForms$Decimal;LArithmeticForms$Decimal;)V"⟩, 9) := ⟨⟨by decide +kernel, by decide +kernel⟩, List.mem_of_getElem? (i := 16) (by decide +kernel), List.mem_of_getElem? (i := 248) (by decide +kernel), List.mem_of_getElem? (i := 249) (by decide +kernel)⟩
theorem lw_p10 : lw_okq (⟨"ArithmeticForms$Calculator", "place", "(LArithmeticForms$Decimal;I)V"⟩, 4) := ⟨⟨by decide +kernel, by decide +kernel⟩, List.mem_of_getElem? (i := 59) (by decide +kernel), List.mem_of_getElem? (i := 266) (by decide +kernel), List.mem_of_getElem? (i := 267) (by decide +kernel)⟩
theorem lw_p11 : lw_okq (⟨"ArithmeticForms", "receiverAt", "(I)LArithmeticForms$Receiver;"⟩, 9) := ⟨⟨by decide +kernel, by decide +kernel⟩, List.mem_of_getElem? (i := 16) (by decide +kernel), List.mem_of_getElem? (i := 305) (by decide +kernel), List.mem_of_getElem? (i := 306) (by decide +kernel)⟩
theorem lw_p12 : lw_okq (⟨"ArithmeticForms", "give", "(LArithmeticForms$Receiver;ILArithmeticForms$Decimal;Z)Z"⟩, 9) := ⟨⟨by decide +kernel, by decide +kernel⟩, List.mem_of_getElem? (i := 16) (by decide +kernel), List.mem_of_getElem? (i := 309) (by decide +kernel), List.mem_of_getElem? (i := 310) (by decide +kernel)⟩
theorem lw_p13 : lw_okq (⟨"ArithmeticForms$Receiver", "isExact", "(LArithmeticForms$Decimal;)Z"⟩, 6) := ⟨⟨by decide +kernel, by decide +kernel⟩, List.mem_of_getElem? (i := 275) (by decide +kernel), List.mem_of_getElem? (i := 317) (by decide +kernel), List.mem_of_getElem? (i := 318) (by decide +kernel)⟩
theorem lw_p14 : lw_okq (⟨"ArithmeticForms$Receiver", "goesUp", "(LArithmeticForms$Decimal;)Z"⟩, 6) := ⟨⟨by decide +kernel, by decide +kernel⟩, List.mem_of_getElem? (i := 275) (by decide +kernel), List.mem_of_getElem? (i := 331) (by decide +kernel), List.mem_of_getElem? (i := 332) (by decide +kernel)⟩
theorem lw_p15 : lw_okq (⟨"ArithmeticForms$Receiver", "compareToHalf", "(LArithmeticForms$Decimal;)I"⟩, 6) := ⟨⟨by decide +kernel, by decide +kernel⟩, List.mem_of_getElem? (i := 275) (by decide +kernel), List.mem_of_getElem? (i := 335) (by decide +kernel), List.mem_of_getElem? (i := 336) (by decide +kernel)⟩
def lw_privs_1 : List (MethodName × Nat) := [(⟨"ArithmeticForms", "keepNode", "(LArithmeticForms$Decimal;)I"⟩, 9), (⟨"ArithmeticForms", "nodeAt", "(I)LArithmeticForms$Decimal;"⟩, 9), (⟨"ArithmeticForms", "operate", "(ILArithmeticForms$Decimal;LArithmeticForms$Decimal;LArithmeticForms$Decimal;)V"⟩, 9), (⟨"ArithmeticForms$Calculator", "carry", "()V"⟩, 4), (⟨"ArithmeticForms$Calculator", "settle", "(LArithmeticForms$Decimal;II)V"⟩, 4), (⟨"ArithmeticForms$Calculator", "wideAt", "(I)J"⟩, 4), (⟨"ArithmeticForms$Calculator", "takeOut", "(LArithmeticForms$Decimal;)J"⟩, 4), (⟨"ArithmeticForms$Calculator", "reaches", "(LArithmeticForms$Decimal;)Z"⟩, 4), (⟨"ArithmeticForms$Calculator", "reduce", "(LArithmeticForms$Decimal;J)V"⟩, 4), (⟨"ArithmeticForms", "calculate", "(ILArithmeticForms$Decimal;LArithmeticForms$Decimal;LArithmeticForms$Decimal;)V"⟩, 9), (⟨"ArithmeticForms$Calculator", "place", "(LArithmeticForms$Decimal;I)V"⟩, 4), (⟨"ArithmeticForms", "receiverAt", "(I)LArithmeticForms$Receiver;"⟩, 9), (⟨"ArithmeticForms", "give", "(LArithmeticForms$Receiver;ILArithmeticForms$Decimal;Z)Z"⟩, 9), (⟨"ArithmeticForms$Receiver", "isExact", "(LArithmeticForms$Decimal;)Z"⟩, 6), (⟨"ArithmeticForms$Receiver", "goesUp", "(LArithmeticForms$Decimal;)Z"⟩, 6), (⟨"ArithmeticForms$Receiver", "compareToHalf", "(LArithmeticForms$Decimal;)I"⟩, 6)]
theorem lw_r1 : ∀ q ∈ lw_privs_1, lw_okq q := List.forall_mem_cons.mpr ⟨lw_p0, List.forall_mem_cons.mpr ⟨lw_p1, List.forall_mem_cons.mpr ⟨lw_p2, List.forall_mem_cons.mpr ⟨lw_p3, List.forall_mem_cons.mpr ⟨lw_p4, List.forall_mem_cons.mpr ⟨lw_p5, List.forall_mem_cons.mpr ⟨lw_p6, List.forall_mem_cons.mpr ⟨lw_p7, List.forall_mem_cons.mpr ⟨lw_p8, List.forall_mem_cons.mpr ⟨lw_p9, List.forall_mem_cons.mpr ⟨lw_p10, List.forall_mem_cons.mpr ⟨lw_p11, List.forall_mem_cons.mpr ⟨lw_p12, List.forall_mem_cons.mpr ⟨lw_p13, List.forall_mem_cons.mpr ⟨lw_p14, List.forall_mem_cons.mpr ⟨lw_p15, fun _ h => absurd h List.not_mem_nil⟩⟩⟩⟩⟩⟩⟩⟩⟩⟩⟩⟩⟩⟩⟩⟩
theorem lw_p16 : lw_okq (⟨"ArithmeticForms$Receiver", "endsOdd", "(LArithmeticForms$Decimal;)Z"⟩, 6) := ⟨⟨by decide +kernel, by decide +kernel⟩, List.mem_of_getElem? (i := 275) (by decide +kernel), List.mem_of_getElem? (i := 341) (by decide +kernel), List.mem_of_getElem? (i := 342) (by decide +kernel)⟩
theorem lw_p17 : lw_okq (⟨"ArithmeticForms", "restOf", "(LArithmeticForms$Receiver;LArithmeticForms$Decimal;)J"⟩, 9) := ⟨⟨by decide +kernel, by decide +kernel⟩, List.mem_of_getElem? (i := 16) (by decide +kernel), List.mem_of_getElem? (i := 351) (by decide +kernel), List.mem_of_getElem? (i := 352) (by decide +kernel)⟩
theorem lw_p18 : lw_okq (⟨"java/lang/Throwable", "fillInStackTrace", "(I)Ljava/lang/Throwable;"⟩, 6) := ⟨⟨by decide +kernel, by decide +kernel⟩, List.mem_of_getElem? (i := 429) (by decide +kernel), List.mem_of_getElem? (i := 427) (by decide +kernel), List.mem_of_getElem? (i := 428) (by decide +kernel)⟩
theorem lw_p19 : lw_okq (⟨"ArithmeticFormsModel", "whole", "(JII)V"⟩, 23) := ⟨⟨by decide +kernel, by decide +kernel⟩, List.mem_of_getElem? (i := 461) (by decide +kernel), List.mem_of_getElem? (i := 547) (by decide +kernel), List.mem_of_getElem? (i := 548) (by decide +kernel)⟩
theorem lw_p20 : lw_okq (⟨"ArithmeticFormsModel", "zero", "(I)V"⟩, 23) := ⟨⟨by decide +kernel, by decide +kernel⟩, List.mem_of_getElem? (i := 461) (by decide +kernel), List.mem_of_getElem? (i := 551) (by decide +kernel), List.mem_of_getElem? (i := 552) (by decide +kernel)⟩
theorem lw_p21 : lw_okq (⟨"ArithmeticFormsModel", "cut", "(II)I"⟩, 23) := ⟨⟨by decide +kernel, by decide +kernel⟩, List.mem_of_getElem? (i := 461) (by decide +kernel), List.mem_of_getElem? (i := 556) (by decide +kernel), List.mem_of_getElem? (i := 557) (by decide +kernel)⟩
theorem lw_p22 : lw_okq (⟨"ArithmeticFormsModel", "drop", "(II)V"⟩, 23) := ⟨⟨by decide +kernel, by decide +kernel⟩, List.mem_of_getElem? (i := 461) (by decide +kernel), List.mem_of_getElem? (i := 560) (by decide +kernel), List.mem_of_getElem? (i := 561) (by decide +kernel)⟩
theorem lw_p23 : lw_okq (⟨"ArithmeticFormsModel", "kept", "(I)I"⟩, 23) := ⟨⟨by decide +kernel, by decide +kernel⟩, List.mem_of_getElem? (i := 461) (by decide +kernel), List.mem_of_getElem? (i := 564) (by decide +kernel), List.mem_of_getElem? (i := 565) (by decide +kernel)⟩
theorem lw_p24 : lw_okq (⟨"ArithmeticFormsModel", "isNode", "(I)Z"⟩, 23) := ⟨⟨by decide +kernel, by decide +kernel⟩, List.mem_of_getElem? (i := 461) (by decide +kernel), List.mem_of_getElem? (i := 572) (by decide +kernel), List.mem_of_getElem? (i := 573) (by decide +kernel)⟩
theorem lw_p25 : lw_okq (⟨"ArithmeticFormsModel", "load", "(II)V"⟩, 23) := ⟨⟨by decide +kernel, by decide +kernel⟩, List.mem_of_getElem? (i := 461) (by decide +kernel), List.mem_of_getElem? (i := 576) (by decide +kernel), List.mem_of_getElem? (i := 577) (by decide +kernel)⟩
theorem lw_p26 : lw_okq (⟨"ArithmeticFormsModel", "operated", "(I)I"⟩, 23) := ⟨⟨by decide +kernel, by decide +kernel⟩, List.mem_of_getElem? (i := 461) (by decide +kernel), List.mem_of_getElem? (i := 580) (by decide +kernel), List.mem_of_getElem? (i := 581) (by decide +kernel)⟩
theorem lw_p27 : lw_okq (⟨"ArithmeticFormsModel", "add", "()I"⟩, 23) := ⟨⟨by decide +kernel, by decide +kernel⟩, List.mem_of_getElem? (i := 461) (by decide +kernel), List.mem_of_getElem? (i := 584) (by decide +kernel), List.mem_of_getElem? (i := 585) (by decide +kernel)⟩
theorem lw_p28 : lw_okq (⟨"ArithmeticFormsModel", "copy", "(II)V"⟩, 23) := ⟨⟨by decide +kernel, by decide +kernel⟩, List.mem_of_getElem? (i := 461) (by decide +kernel), List.mem_of_getElem? (i := 588) (by decide +kernel), List.mem_of_getElem? (i := 589) (by decide +kernel)⟩
theorem lw_p29 : lw_okq (⟨"ArithmeticFormsModel", "topOf", "(I)I"⟩, 23) := ⟨⟨by decide +kernel, by decide +kernel⟩, List.mem_of_getElem? (i := 461) (by decide +kernel), List.mem_of_getElem? (i := 592) (by decide +kernel), List.mem_of_getElem? (i := 593) (by decide +kernel)⟩
theorem lw_p30 : lw_okq (⟨"ArithmeticFormsModel", "order", "(IIII)I"⟩, 23) := ⟨⟨by decide +kernel, by decide +kernel⟩, List.mem_of_getElem? (i := 461) (by decide +kernel), List.mem_of_getElem? (i := 596) (by decide +kernel), List.mem_of_getElem? (i := 597) (by decide +kernel)⟩
theorem lw_p31 : lw_okq (⟨"ArithmeticFormsModel", "digitAt", "(II)I"⟩, 23) := ⟨⟨by decide +kernel, by decide +kernel⟩, List.mem_of_getElem? (i := 461) (by decide +kernel), List.mem_of_getElem? (i := 600) (by decide +kernel), List.mem_of_getElem? (i := 601) (by decide +kernel)⟩
def lw_privs_2 : List (MethodName × Nat) := [(⟨"ArithmeticForms$Receiver", "endsOdd", "(LArithmeticForms$Decimal;)Z"⟩, 6), (⟨"ArithmeticForms", "restOf", "(LArithmeticForms$Receiver;LArithmeticForms$Decimal;)J"⟩, 9), (⟨"java/lang/Throwable", "fillInStackTrace", "(I)Ljava/lang/Throwable;"⟩, 6), (⟨"ArithmeticFormsModel", "whole", "(JII)V"⟩, 23), (⟨"ArithmeticFormsModel", "zero", "(I)V"⟩, 23), (⟨"ArithmeticFormsModel", "cut", "(II)I"⟩, 23), (⟨"ArithmeticFormsModel", "drop", "(II)V"⟩, 23), (⟨"ArithmeticFormsModel", "kept", "(I)I"⟩, 23), (⟨"ArithmeticFormsModel", "isNode", "(I)Z"⟩, 23), (⟨"ArithmeticFormsModel", "load", "(II)V"⟩, 23), (⟨"ArithmeticFormsModel", "operated", "(I)I"⟩, 23), (⟨"ArithmeticFormsModel", "add", "()I"⟩, 23), (⟨"ArithmeticFormsModel", "copy", "(II)V"⟩, 23), (⟨"ArithmeticFormsModel", "topOf", "(I)I"⟩, 23), (⟨"ArithmeticFormsModel", "order", "(IIII)I"⟩, 23), (⟨"ArithmeticFormsModel", "digitAt", "(II)I"⟩, 23)]
theorem lw_r2 : ∀ q ∈ lw_privs_2, lw_okq q := List.forall_mem_cons.mpr ⟨lw_p16, List.forall_mem_cons.mpr ⟨lw_p17, List.forall_mem_cons.mpr ⟨lw_p18, List.forall_mem_cons.mpr ⟨lw_p19, List.forall_mem_cons.mpr ⟨lw_p20, List.forall_mem_cons.mpr ⟨lw_p21, List.forall_mem_cons.mpr ⟨lw_p22, List.forall_mem_cons.mpr ⟨lw_p23, List.forall_mem_cons.mpr ⟨lw_p24, List.forall_mem_cons.mpr ⟨lw_p25, List.forall_mem_cons.mpr ⟨lw_p26, List.forall_mem_cons.mpr ⟨lw_p27, List.forall_mem_cons.mpr ⟨lw_p28, List.forall_mem_cons.mpr ⟨lw_p29, List.forall_mem_cons.mpr ⟨lw_p30, List.forall_mem_cons.mpr ⟨lw_p31, fun _ h => absurd h List.not_mem_nil⟩⟩⟩⟩⟩⟩⟩⟩⟩⟩⟩⟩⟩⟩⟩⟩
theorem lw_p32 : lw_okq (⟨"ArithmeticFormsModel", "multiply", "()I"⟩, 23) := ⟨⟨by decide +kernel, by decide +kernel⟩, List.mem_of_getElem? (i := 461) (by decide +kernel), List.mem_of_getElem? (i := 604) (by decide +kernel), List.mem_of_getElem? (i := 605) (by decide +kernel)⟩
theorem lw_p33 : lw_okq (⟨"ArithmeticFormsModel", "divide", "()I"⟩, 23) := ⟨⟨by decide +kernel, by decide +kernel⟩, List.mem_of_getElem? (i := 461) (by decide +kernel), List.mem_of_getElem? (i := 608) (by decide +kernel), List.mem_of_getElem? (i := 609) (by decide +kernel)⟩
theorem lw_p34 : lw_okq (⟨"ArithmeticFormsModel", "isEnough", "()Z"⟩, 23) := ⟨⟨by decide +kernel, by decide +kernel⟩, List.mem_of_getElem? (i := 461) (by decide +kernel), List.mem_of_getElem? (i := 612) (by decide +kernel), List.mem_of_getElem? (i := 613) (by decide +kernel)⟩
theorem lw_p35 : lw_okq (⟨"ArithmeticFormsModel", "lessen", "()V"⟩, 23) := ⟨⟨by decide +kernel, by decide +kernel⟩, List.mem_of_getElem? (i := 461) (by decide +kernel), List.mem_of_getElem? (i := 616) (by decide +kernel), List.mem_of_getElem? (i := 617) (by decide +kernel)⟩
theorem lw_p36 : lw_okq (⟨"ArithmeticFormsModel", "raise", "()I"⟩, 23) := ⟨⟨by decide +kernel, by decide +kernel⟩, List.mem_of_getElem? (i := 461) (by decide +kernel), List.mem_of_getElem? (i := 620) (by decide +kernel), List.mem_of_getElem? (i := 621) (by decide +kernel)⟩
theorem lw_p37 : lw_okq (⟨"ArithmeticFormsModel", "power", "()I"⟩, 23) := ⟨⟨by decide +kernel, by decide +kernel⟩, List.mem_of_getElem? (i := 461) (by decide +kernel), List.mem_of_getElem? (i := 624) (by decide +kernel), List.mem_of_getElem? (i := 625) (by decide +kernel)⟩
theorem lw_p38 : lw_okq (⟨"ArithmeticFormsModel", "isReceiver", "(I)Z"⟩, 23) := ⟨⟨by decide +kernel, by decide +kernel⟩, List.mem_of_getElem? (i := 461) (by decide +kernel), List.mem_of_getElem? (i := 645) (by decide +kernel), List.mem_of_getElem? (i := 646) (by decide +kernel)⟩
theorem lw_p39 : lw_okq (⟨"ArithmeticFormsModel", "isStored", "(IIIZ)Z"⟩, 23) := ⟨⟨by decide +kernel, by decide +kernel⟩, List.mem_of_getElem? (i := 461) (by decide +kernel), List.mem_of_getElem? (i := 656) (by decide +kernel), List.mem_of_getElem? (i := 657) (by decide +kernel)⟩
theorem lw_p40 : lw_okq (⟨"ArithmeticFormsModel", "given", "(II)I"⟩, 23) := ⟨⟨by decide +kernel, by decide +kernel⟩, List.mem_of_getElem? (i := 461) (by decide +kernel), List.mem_of_getElem? (i := 660) (by decide +kernel), List.mem_of_getElem? (i := 661) (by decide +kernel)⟩
theorem lw_p41 : lw_okq (⟨"ArithmeticFormsModel", "round", "(III)I"⟩, 23) := ⟨⟨by decide +kernel, by decide +kernel⟩, List.mem_of_getElem? (i := 461) (by decide +kernel), List.mem_of_getElem? (i := 664) (by decide +kernel), List.mem_of_getElem? (i := 665) (by decide +kernel)⟩
theorem lw_p42 : lw_okq (⟨"ArithmeticFormsModel", "goesUp", "(II)Z"⟩, 23) := ⟨⟨by decide +kernel, by decide +kernel⟩, List.mem_of_getElem? (i := 461) (by decide +kernel), List.mem_of_getElem? (i := 668) (by decide +kernel), List.mem_of_getElem? (i := 669) (by decide +kernel)⟩
theorem lw_p43 : lw_okq (⟨"ArithmeticFormsModel", "left", "(IJ)J"⟩, 23) := ⟨⟨by decide +kernel, by decide +kernel⟩, List.mem_of_getElem? (i := 461) (by decide +kernel), List.mem_of_getElem? (i := 672) (by decide +kernel), List.mem_of_getElem? (i := 673) (by decide +kernel)⟩
def lw_privs_3 : List (MethodName × Nat) := [(⟨"ArithmeticFormsModel", "multiply", "()I"⟩, 23), (⟨"ArithmeticFormsModel", "divide", "()I"⟩, 23), (⟨"ArithmeticFormsModel", "isEnough", "()Z"⟩, 23), (⟨"ArithmeticFormsModel", "lessen", "()V"⟩, 23), (⟨"ArithmeticFormsModel", "raise", "()I"⟩, 23), (⟨"ArithmeticFormsModel", "power", "()I"⟩, 23), (⟨"ArithmeticFormsModel", "isReceiver", "(I)Z"⟩, 23), (⟨"ArithmeticFormsModel", "isStored", "(IIIZ)Z"⟩, 23), (⟨"ArithmeticFormsModel", "given", "(II)I"⟩, 23), (⟨"ArithmeticFormsModel", "round", "(III)I"⟩, 23), (⟨"ArithmeticFormsModel", "goesUp", "(II)Z"⟩, 23), (⟨"ArithmeticFormsModel", "left", "(IJ)J"⟩, 23)]
theorem lw_r3 : ∀ q ∈ lw_privs_3, lw_okq q := List.forall_mem_cons.mpr ⟨lw_p32, List.forall_mem_cons.mpr ⟨lw_p33, List.forall_mem_cons.mpr ⟨lw_p34, List.forall_mem_cons.mpr ⟨lw_p35, List.forall_mem_cons.mpr ⟨lw_p36, List.forall_mem_cons.mpr ⟨lw_p37, List.forall_mem_cons.mpr ⟨lw_p38, List.forall_mem_cons.mpr ⟨lw_p39, List.forall_mem_cons.mpr ⟨lw_p40, List.forall_mem_cons.mpr ⟨lw_p41, List.forall_mem_cons.mpr ⟨lw_p42, List.forall_mem_cons.mpr ⟨lw_p43, fun _ h => absurd h List.not_mem_nil⟩⟩⟩⟩⟩⟩⟩⟩⟩⟩⟩⟩
def lw_privs : List (MethodName × Nat) := lw_privs_1 ++ (lw_privs_2 ++ (lw_privs_3))
def lw_tbl : List Cond := k2_sels lw_privs ++ tables_1
theorem lw_privs_ok : ∀ q ∈ lw_privs, lw_okq q := by
  show ∀ q ∈ lw_privs_1 ++ (lw_privs_2 ++ (lw_privs_3)), lw_okq q
  exact List.forall_mem_append.mpr ⟨lw_r1, List.forall_mem_append.mpr ⟨lw_r2, lw_r3⟩⟩
-- names (by program)
def wA : List Cond := lw_tbl.filter goodWord
theorem mA {w : Cond} (i : Nat) (h : tables_1[i]? = some w) (hg : goodWord w = true) : w ∈ wA := List.mem_filter.mpr ⟨List.mem_append_right _ (List.mem_of_getElem? h), hg⟩
theorem mS {w : Cond} (i : Nat) (h : (k2_sels lw_privs)[i]? = some w) (hg : goodWord w = true) : w ∈ wA := List.mem_filter.mpr ⟨List.mem_append_left _ (List.mem_of_getElem? h), hg⟩
theorem wA_good {w : Cond} (h : w ∈ wA) : (w.onTables && w.keeps) = true ∨ ∃ ty, w = .arrayClass ty := good_of_word (List.mem_filter.mp h).2
theorem wA_hts {args : Array Value} {s : State} (h : ∀ w ∈ lw_tbl, w.before args s = true) : ∀ w ∈ wA, w.before args s = true := fun w hw => h w (List.mem_filter.mp hw).1
theorem wA_in {ws : List Cond} (h : ∀ w ∈ ws, w ∈ wA) : GoodIn wA ws := fun w hw => ⟨h w hw, wA_good (h w hw)⟩
theorem gC {y : MethodName} {c : ByteArray} {n : Nat} {r : Option FieldType} (h5 : Cond.code y c n r ∈ wA) : GoodIn wA (Cond.code y c n r :: wA) := wA_in (List.forall_mem_cons.mpr ⟨h5, fun _ h => h⟩)
theorem gV {own C : String} {idx : Nat} {y : MethodName} {c : ByteArray} {n : Nat} {r : Option FieldType} (h1 : Cond.methodLink own idx y ∈ wA) (h2 : Cond.instanceMethod y ∈ wA) (h3 : Cond.selects C y y ∈ wA) (h4 : Cond.initialized C ∈ wA) (h5 : Cond.code y c n r ∈ wA) : GoodIn wA (wsV own idx C y (Cond.code y c n r :: wA)) := wA_in (List.forall_mem_append.mpr ⟨List.forall_mem_cons.mpr ⟨h1, List.forall_mem_cons.mpr ⟨h2, List.forall_mem_cons.mpr ⟨h3, List.forall_mem_cons.mpr ⟨h4, fun _ h => absurd h List.not_mem_nil⟩⟩⟩⟩, List.forall_mem_cons.mpr ⟨h5, fun _ h => h⟩⟩)
theorem gS {own : String} {idx : Nat} {y : MethodName} {c : ByteArray} {n : Nat} {r : Option FieldType} (h1 : Cond.methodLink own idx y ∈ wA) (h2 : Cond.static y ∈ wA) (h3 : Cond.initialized y.cls ∈ wA) (h5 : Cond.code y c n r ∈ wA) : GoodIn wA (va_wsS own idx y (Cond.code y c n r :: wA)) := wA_in (List.forall_mem_append.mpr ⟨List.forall_mem_cons.mpr ⟨h1, List.forall_mem_cons.mpr ⟨h2, List.forall_mem_cons.mpr ⟨h3, fun _ h => absurd h List.not_mem_nil⟩⟩⟩, List.forall_mem_cons.mpr ⟨h5, fun _ h => h⟩⟩)
def y_AF_init : MethodName := ⟨"ArithmeticForms", "<init>", "(I)V"⟩
def y_Ob_init : MethodName := ⟨"java/lang/Object", "<init>", "()V"⟩
def y_De_init : MethodName := ⟨"ArithmeticForms$Decimal", "<init>", "()V"⟩
def y_Ma_min : MethodName := ⟨"java/lang/Math", "min", "(II)I"⟩
def y_Ma_max : MethodName := ⟨"java/lang/Math", "max", "(II)I"⟩
def y_Ca_init : MethodName := ⟨"ArithmeticForms$Calculator", "<init>", "(I)V"⟩
def y_De_load : MethodName := ⟨"ArithmeticForms$Decimal", "load", "(JI)V"⟩
def y_De_clear : MethodName := ⟨"ArithmeticForms$Decimal", "clear", "()V"⟩
def y_Ar_fill : MethodName := ⟨"java/util/Arrays", "fill", "([JJ)V"⟩
def y_AF_ten : MethodName := ⟨"ArithmeticForms", "ten", "(I)J"⟩
def y_Ma_abs : MethodName := ⟨"java/lang/Math", "abs", "(J)J"⟩
def y_De_cut : MethodName := ⟨"ArithmeticForms$Decimal", "cut", "(I)V"⟩
def y_AF_value : MethodName := ⟨"ArithmeticForms", "value", "(JI)I"⟩
def y_AF_keepNode : MethodName := ⟨"ArithmeticForms", "keepNode", "(LArithmeticForms$Decimal;)I"⟩
def y_AF_node : MethodName := ⟨"ArithmeticForms", "node", "(III)I"⟩
def y_AF_nodeAt : MethodName := ⟨"ArithmeticForms", "nodeAt", "(I)LArithmeticForms$Decimal;"⟩
def y_AF_operate : MethodName := ⟨"ArithmeticForms", "operate", "(ILArithmeticForms$Decimal;LArithmeticForms$Decimal;LArithmeticForms$Decimal;)V"⟩
def y_Ca_power : MethodName := ⟨"ArithmeticForms$Calculator", "power", "(LArithmeticForms$Decimal;LArithmeticForms$Decimal;LArithmeticForms$Decimal;)V"⟩
def y_Ca_passOn : MethodName := ⟨"ArithmeticForms$Calculator", "passOn", "(LArithmeticForms$Decimal;LArithmeticForms$Decimal;LArithmeticForms$Decimal;)Z"⟩
def y_De_raise : MethodName := ⟨"ArithmeticForms$Decimal", "raise", "(I)V"⟩
def y_Ca_powerOf : MethodName := ⟨"ArithmeticForms$Calculator", "powerOf", "(LArithmeticForms$Decimal;)I"⟩
def y_De_exponent : MethodName := ⟨"ArithmeticForms$Decimal", "exponent", "()I"⟩
def y_De_lowestWhole : MethodName := ⟨"ArithmeticForms$Decimal", "lowestWhole", "(I)J"⟩
def y_De_wholeDigits : MethodName := ⟨"ArithmeticForms$Decimal", "wholeDigits", "(I)I"⟩
def y_De_digit : MethodName := ⟨"ArithmeticForms$Decimal", "digit", "(I)I"⟩
def y_De_copy : MethodName := ⟨"ArithmeticForms$Decimal", "copy", "(LArithmeticForms$Decimal;)V"⟩
def y_Sy_arraycopy : MethodName := ⟨"java/lang/System", "arraycopy", "(Ljava/lang/Object;ILjava/lang/Object;II)V"⟩
def y_Ma_abs2 : MethodName := ⟨"java/lang/Math", "abs", "(I)I"⟩
def y_Ca_multiply : MethodName := ⟨"ArithmeticForms$Calculator", "multiply", "(LArithmeticForms$Decimal;LArithmeticForms$Decimal;LArithmeticForms$Decimal;)V"⟩
def y_Ca_carry : MethodName := ⟨"ArithmeticForms$Calculator", "carry", "()V"⟩
def y_Ma_floorDiv : MethodName := ⟨"java/lang/Math", "floorDiv", "(JJ)J"⟩
def y_Ca_settle : MethodName := ⟨"ArithmeticForms$Calculator", "settle", "(LArithmeticForms$Decimal;II)V"⟩
def y_Ca_wideAt : MethodName := ⟨"ArithmeticForms$Calculator", "wideAt", "(I)J"⟩
def y_Ca_divide : MethodName := ⟨"ArithmeticForms$Calculator", "divide", "(LArithmeticForms$Decimal;LArithmeticForms$Decimal;LArithmeticForms$Decimal;)V"⟩
def y_Ca_takeOut : MethodName := ⟨"ArithmeticForms$Calculator", "takeOut", "(LArithmeticForms$Decimal;)J"⟩
def y_Ma_max2 : MethodName := ⟨"java/lang/Math", "max", "(JJ)J"⟩
def y_Ca_reaches : MethodName := ⟨"ArithmeticForms$Calculator", "reaches", "(LArithmeticForms$Decimal;)Z"⟩
def y_Ca_reduce : MethodName := ⟨"ArithmeticForms$Calculator", "reduce", "(LArithmeticForms$Decimal;J)V"⟩
def y_AF_calculate : MethodName := ⟨"ArithmeticForms", "calculate", "(ILArithmeticForms$Decimal;LArithmeticForms$Decimal;LArithmeticForms$Decimal;)V"⟩
def y_Ca_add : MethodName := ⟨"ArithmeticForms$Calculator", "add", "(LArithmeticForms$Decimal;LArithmeticForms$Decimal;LArithmeticForms$Decimal;I)V"⟩
def y_De_compareSize : MethodName := ⟨"ArithmeticForms$Decimal", "compareSize", "(LArithmeticForms$Decimal;)I"⟩
def y_In_compare : MethodName := ⟨"java/lang/Integer", "compare", "(II)I"⟩
def y_Lo_compare : MethodName := ⟨"java/lang/Long", "compare", "(JJ)I"⟩
def y_Ca_place : MethodName := ⟨"ArithmeticForms$Calculator", "place", "(LArithmeticForms$Decimal;I)V"⟩
def y_AF_receiver : MethodName := ⟨"ArithmeticForms", "receiver", "(III)I"⟩
def y_Re_init : MethodName := ⟨"ArithmeticForms$Receiver", "<init>", "(III)V"⟩
def y_AF_run : MethodName := ⟨"ArithmeticForms", "run", "(IIZ)I"⟩
def y_AF_receiverAt : MethodName := ⟨"ArithmeticForms", "receiverAt", "(I)LArithmeticForms$Receiver;"⟩
def y_AF_give : MethodName := ⟨"ArithmeticForms", "give", "(LArithmeticForms$Receiver;ILArithmeticForms$Decimal;Z)Z"⟩
def y_Re_refuses : MethodName := ⟨"ArithmeticForms$Receiver", "refuses", "(LArithmeticForms$Decimal;)Z"⟩
def y_Re_isExact : MethodName := ⟨"ArithmeticForms$Receiver", "isExact", "(LArithmeticForms$Decimal;)Z"⟩
def y_Re_fits : MethodName := ⟨"ArithmeticForms$Receiver", "fits", "(LArithmeticForms$Decimal;)Z"⟩
def y_Re_roundedSize : MethodName := ⟨"ArithmeticForms$Receiver", "roundedSize", "(LArithmeticForms$Decimal;)J"⟩
def y_Re_goesUp : MethodName := ⟨"ArithmeticForms$Receiver", "goesUp", "(LArithmeticForms$Decimal;)Z"⟩
def y_Re_compareToHalf : MethodName := ⟨"ArithmeticForms$Receiver", "compareToHalf", "(LArithmeticForms$Decimal;)I"⟩
def y_Re_endsOdd : MethodName := ⟨"ArithmeticForms$Receiver", "endsOdd", "(LArithmeticForms$Decimal;)Z"⟩
def y_Re_lowestDigits : MethodName := ⟨"ArithmeticForms$Receiver", "lowestDigits", "(J)J"⟩
def y_AF_restOf : MethodName := ⟨"ArithmeticForms", "restOf", "(LArithmeticForms$Receiver;LArithmeticForms$Decimal;)J"⟩
def y_AF_stored : MethodName := ⟨"ArithmeticForms", "stored", "(I)J"⟩
def y_AF_set : MethodName := ⟨"ArithmeticForms", "set", "(IJ)I"⟩
def y_AF_error : MethodName := ⟨"ArithmeticForms", "error", "(I)Z"⟩
def y_AF_rest : MethodName := ⟨"ArithmeticForms", "rest", "(I)J"⟩
def y_AF_raises : MethodName := ⟨"ArithmeticForms", "raises", "(I)I"⟩
def y_AF_raised : MethodName := ⟨"ArithmeticForms", "raised", "()I"⟩
def y_Lw_cell : MethodName := ⟨"ArithmeticFormsLaw", "cell", "([II)I"⟩
def y_Lw_exact : MethodName := ⟨"ArithmeticFormsLaw", "exact", "(LArithmeticForms;II[J)I"⟩
def y_AF_exact : MethodName := ⟨"ArithmeticForms", "exact", "(II)J"⟩
def y_Th_fillInStackTrace : MethodName := ⟨"java/lang/Throwable", "fillInStackTrace", "(I)Ljava/lang/Throwable;"⟩
def y_Th_fillInStackTrace2 : MethodName := ⟨"java/lang/Throwable", "fillInStackTrace", "()Ljava/lang/Throwable;"⟩
def y_Th_init : MethodName := ⟨"java/lang/Throwable", "<init>", "()V"⟩
def y_AE_init : MethodName := ⟨"java/lang/ArithmeticException", "<init>", "(Ljava/lang/String;)V"⟩
def y_RE_init : MethodName := ⟨"java/lang/RuntimeException", "<init>", "(Ljava/lang/String;)V"⟩
def y_Ex_init : MethodName := ⟨"java/lang/Exception", "<init>", "(Ljava/lang/String;)V"⟩
def y_Th_init2 : MethodName := ⟨"java/lang/Throwable", "<init>", "(Ljava/lang/String;)V"⟩
def y_Mo_init : MethodName := ⟨"ArithmeticFormsModel", "<init>", "(I)V"⟩
def y_Mo_thrown : MethodName := ⟨"ArithmeticFormsModel", "thrown", "()I"⟩
def y_Mo_value : MethodName := ⟨"ArithmeticFormsModel", "value", "(JI)I"⟩
def y_Mo_whole : MethodName := ⟨"ArithmeticFormsModel", "whole", "(JII)V"⟩
def y_Mo_zero : MethodName := ⟨"ArithmeticFormsModel", "zero", "(I)V"⟩
def y_Mo_cut : MethodName := ⟨"ArithmeticFormsModel", "cut", "(II)I"⟩
def y_Mo_drop : MethodName := ⟨"ArithmeticFormsModel", "drop", "(II)V"⟩
def y_Mo_kept : MethodName := ⟨"ArithmeticFormsModel", "kept", "(I)I"⟩
def y_Mo_node : MethodName := ⟨"ArithmeticFormsModel", "node", "(III)I"⟩
def y_Mo_isNode : MethodName := ⟨"ArithmeticFormsModel", "isNode", "(I)Z"⟩
def y_Mo_load : MethodName := ⟨"ArithmeticFormsModel", "load", "(II)V"⟩
def y_Mo_operated : MethodName := ⟨"ArithmeticFormsModel", "operated", "(I)I"⟩
def y_Mo_add : MethodName := ⟨"ArithmeticFormsModel", "add", "()I"⟩
def y_Mo_copy : MethodName := ⟨"ArithmeticFormsModel", "copy", "(II)V"⟩
def y_Mo_topOf : MethodName := ⟨"ArithmeticFormsModel", "topOf", "(I)I"⟩
def y_Mo_order : MethodName := ⟨"ArithmeticFormsModel", "order", "(IIII)I"⟩
def y_Mo_digitAt : MethodName := ⟨"ArithmeticFormsModel", "digitAt", "(II)I"⟩
def y_Mo_multiply : MethodName := ⟨"ArithmeticFormsModel", "multiply", "()I"⟩
def y_Mo_divide : MethodName := ⟨"ArithmeticFormsModel", "divide", "()I"⟩
def y_Mo_isEnough : MethodName := ⟨"ArithmeticFormsModel", "isEnough", "()Z"⟩
def y_Mo_lessen : MethodName := ⟨"ArithmeticFormsModel", "lessen", "()V"⟩
def y_Mo_raise : MethodName := ⟨"ArithmeticFormsModel", "raise", "()I"⟩
def y_Mo_power : MethodName := ⟨"ArithmeticFormsModel", "power", "()I"⟩
def y_Mo_raises : MethodName := ⟨"ArithmeticFormsModel", "raises", "(I)I"⟩
def y_Mo_exact : MethodName := ⟨"ArithmeticFormsModel", "exact", "(II)J"⟩
def y_Mo_receiver : MethodName := ⟨"ArithmeticFormsModel", "receiver", "(III)I"⟩
def y_Mo_set : MethodName := ⟨"ArithmeticFormsModel", "set", "(IJ)I"⟩
def y_Mo_isReceiver : MethodName := ⟨"ArithmeticFormsModel", "isReceiver", "(I)Z"⟩
def y_Mo_ten : MethodName := ⟨"ArithmeticFormsModel", "ten", "(I)J"⟩
def y_Mo_run : MethodName := ⟨"ArithmeticFormsModel", "run", "(IIZ)I"⟩
def y_Mo_isStored : MethodName := ⟨"ArithmeticFormsModel", "isStored", "(IIIZ)Z"⟩
def y_Mo_given : MethodName := ⟨"ArithmeticFormsModel", "given", "(II)I"⟩
def y_Mo_round : MethodName := ⟨"ArithmeticFormsModel", "round", "(III)I"⟩
def y_Mo_goesUp : MethodName := ⟨"ArithmeticFormsModel", "goesUp", "(II)Z"⟩
def y_Mo_left : MethodName := ⟨"ArithmeticFormsModel", "left", "(IJ)J"⟩
def y_Mo_stored : MethodName := ⟨"ArithmeticFormsModel", "stored", "(I)J"⟩
def y_Mo_error : MethodName := ⟨"ArithmeticFormsModel", "error", "(I)Z"⟩
def y_Mo_rest : MethodName := ⟨"ArithmeticFormsModel", "rest", "(I)J"⟩
def y_Mo_raised : MethodName := ⟨"ArithmeticFormsModel", "raised", "()I"⟩
abbrev c_AF_init : ByteArray := prog_1_method_1_code
abbrev c_Ob_init : ByteArray := object_method_1_code
abbrev c_De_init : ByteArray := prog_3_method_1_code
abbrev c_Ma_min : ByteArray := prog_11_method_69_code
abbrev c_Ma_max : ByteArray := prog_11_method_65_code
abbrev c_Ca_init : ByteArray := prog_2_method_1_code
abbrev c_De_load : ByteArray := prog_3_method_5_code
abbrev c_De_clear : ByteArray := prog_3_method_2_code
abbrev c_Ar_fill : ByteArray := prog_16_method_101_code
abbrev c_AF_ten : ByteArray := prog_1_method_20_code
abbrev c_Ma_abs : ByteArray := prog_11_method_61_code
abbrev c_De_cut : ByteArray := prog_3_method_6_code
abbrev c_AF_value : ByteArray := prog_1_method_2_code
abbrev c_AF_keepNode : ByteArray := prog_1_method_15_code
abbrev c_AF_node : ByteArray := prog_1_method_3_code
abbrev c_AF_nodeAt : ByteArray := prog_1_method_13_code
abbrev c_AF_operate : ByteArray := prog_1_method_16_code
abbrev c_Ca_power : ByteArray := prog_2_method_5_code
abbrev c_Ca_passOn : ByteArray := prog_2_method_7_code
abbrev c_De_raise : ByteArray := prog_3_method_3_code
abbrev c_Ca_powerOf : ByteArray := prog_2_method_6_code
abbrev c_De_exponent : ByteArray := prog_3_method_7_code
abbrev c_De_lowestWhole : ByteArray := prog_3_method_10_code
abbrev c_De_wholeDigits : ByteArray := prog_3_method_9_code
abbrev c_De_digit : ByteArray := prog_3_method_8_code
abbrev c_De_copy : ByteArray := prog_3_method_4_code
abbrev c_Ma_abs2 : ByteArray := prog_11_method_59_code
abbrev c_Ca_multiply : ByteArray := prog_2_method_3_code
abbrev c_Ca_carry : ByteArray := prog_2_method_9_code
abbrev c_Ma_floorDiv : ByteArray := prog_11_method_49_code
abbrev c_Ca_settle : ByteArray := prog_2_method_13_code
abbrev c_Ca_wideAt : ByteArray := prog_2_method_14_code
abbrev c_Ca_divide : ByteArray := prog_2_method_4_code
abbrev c_Ca_takeOut : ByteArray := prog_2_method_10_code
abbrev c_Ma_max2 : ByteArray := prog_11_method_66_code
abbrev c_Ca_reaches : ByteArray := prog_2_method_11_code
abbrev c_Ca_reduce : ByteArray := prog_2_method_12_code
abbrev c_AF_calculate : ByteArray := prog_1_method_17_code
abbrev c_Ca_add : ByteArray := prog_2_method_2_code
abbrev c_De_compareSize : ByteArray := prog_3_method_11_code
abbrev c_In_compare : ByteArray := prog_9_method_40_code
abbrev c_Lo_compare : ByteArray := prog_10_method_42_code
abbrev c_Ca_place : ByteArray := prog_2_method_8_code
abbrev c_AF_receiver : ByteArray := prog_1_method_4_code
abbrev c_Re_init : ByteArray := prog_4_method_1_code
abbrev c_AF_run : ByteArray := prog_1_method_5_code
abbrev c_AF_receiverAt : ByteArray := prog_1_method_14_code
abbrev c_AF_give : ByteArray := prog_1_method_18_code
abbrev c_Re_refuses : ByteArray := prog_4_method_2_code
abbrev c_Re_isExact : ByteArray := prog_4_method_6_code
abbrev c_Re_fits : ByteArray := prog_4_method_3_code
abbrev c_Re_roundedSize : ByteArray := prog_4_method_5_code
abbrev c_Re_goesUp : ByteArray := prog_4_method_7_code
abbrev c_Re_compareToHalf : ByteArray := prog_4_method_8_code
abbrev c_Re_endsOdd : ByteArray := prog_4_method_9_code
abbrev c_Re_lowestDigits : ByteArray := prog_4_method_4_code
abbrev c_AF_restOf : ByteArray := prog_1_method_19_code
abbrev c_AF_stored : ByteArray := prog_1_method_6_code
abbrev c_AF_set : ByteArray := prog_1_method_7_code
abbrev c_AF_error : ByteArray := prog_1_method_8_code
abbrev c_AF_rest : ByteArray := prog_1_method_9_code
abbrev c_AF_raises : ByteArray := prog_1_method_11_code
abbrev c_AF_raised : ByteArray := prog_1_method_12_code
abbrev c_Lw_cell : ByteArray := method_2_code
abbrev c_AF_exact : ByteArray := prog_1_method_10_code
abbrev c_Th_init : ByteArray := prog_15_method_1_code
abbrev c_AE_init : ByteArray := prog_7_method_2_code
abbrev c_RE_init : ByteArray := prog_12_method_2_code
abbrev c_Ex_init : ByteArray := prog_8_method_2_code
abbrev c_Th_init2 : ByteArray := prog_15_method_2_code
abbrev c_Mo_init : ByteArray := prog_6_method_1_code
abbrev c_Mo_thrown : ByteArray := prog_6_method_2_code
abbrev c_Mo_value : ByteArray := prog_6_method_20_code
abbrev c_Mo_whole : ByteArray := prog_6_method_5_code
abbrev c_Mo_zero : ByteArray := prog_6_method_3_code
abbrev c_Mo_cut : ByteArray := prog_6_method_7_code
abbrev c_Mo_drop : ByteArray := prog_6_method_6_code
abbrev c_Mo_kept : ByteArray := prog_6_method_19_code
abbrev c_Mo_node : ByteArray := prog_6_method_23_code
abbrev c_Mo_isNode : ByteArray := prog_6_method_21_code
abbrev c_Mo_load : ByteArray := prog_6_method_18_code
abbrev c_Mo_operated : ByteArray := prog_6_method_22_code
abbrev c_Mo_add : ByteArray := prog_6_method_11_code
abbrev c_Mo_copy : ByteArray := prog_6_method_4_code
abbrev c_Mo_topOf : ByteArray := prog_6_method_9_code
abbrev c_Mo_order : ByteArray := prog_6_method_10_code
abbrev c_Mo_digitAt : ByteArray := prog_6_method_8_code
abbrev c_Mo_multiply : ByteArray := prog_6_method_12_code
abbrev c_Mo_divide : ByteArray := prog_6_method_15_code
abbrev c_Mo_isEnough : ByteArray := prog_6_method_13_code
abbrev c_Mo_lessen : ByteArray := prog_6_method_14_code
abbrev c_Mo_raise : ByteArray := prog_6_method_17_code
abbrev c_Mo_power : ByteArray := prog_6_method_16_code
abbrev c_Mo_raises : ByteArray := prog_6_method_24_code
abbrev c_Mo_exact : ByteArray := prog_6_method_25_code
abbrev c_Mo_receiver : ByteArray := prog_6_method_26_code
abbrev c_Mo_set : ByteArray := prog_6_method_29_code
abbrev c_Mo_isReceiver : ByteArray := prog_6_method_27_code
abbrev c_Mo_ten : ByteArray := prog_6_method_28_code
abbrev c_Mo_run : ByteArray := prog_6_method_35_code
abbrev c_Mo_isStored : ByteArray := prog_6_method_34_code
abbrev c_Mo_given : ByteArray := prog_6_method_32_code
abbrev c_Mo_round : ByteArray := prog_6_method_31_code
abbrev c_Mo_goesUp : ByteArray := prog_6_method_30_code
abbrev c_Mo_left : ByteArray := prog_6_method_33_code
abbrev c_Mo_stored : ByteArray := prog_6_method_36_code
abbrev c_Mo_error : ByteArray := prog_6_method_37_code
abbrev c_Mo_rest : ByteArray := prog_6_method_38_code
abbrev c_Mo_raised : ByteArray := prog_6_method_39_code
def T_AF : u_T := fun k => match k with
  | 0 => ("ArithmeticForms", "calculator", "LArithmeticForms$Calculator;", true)
  | 1 => ("ArithmeticForms", "nodes", "[LArithmeticForms$Decimal;", true)
  | 2 => ("ArithmeticForms", "nodeCount", "I", false)
  | 3 => ("ArithmeticForms", "receivers", "[LArithmeticForms$Receiver;", true)
  | 4 => ("ArithmeticForms", "receiverCount", "I", false)
  | 5 => ("ArithmeticForms", "latestRaised", "I", false)
  | 6 => ("ArithmeticForms", "before", "LArithmeticForms$Decimal;", true)
  | 7 => ("ArithmeticForms", "given", "LArithmeticForms$Decimal;", true)
  | _ => ("ArithmeticForms", "over", "LArithmeticForms$Decimal;", true)
def t_AF : Nat → FieldType := fun k => match k with
  | 0 => (.object "ArithmeticForms$Calculator")
  | 1 => (.array (.object "ArithmeticForms$Decimal"))
  | 2 => .int
  | 3 => (.array (.object "ArithmeticForms$Receiver"))
  | 4 => .int
  | 5 => .int
  | 6 => (.object "ArithmeticForms$Decimal")
  | 7 => (.object "ArithmeticForms$Decimal")
  | _ => (.object "ArithmeticForms$Decimal")
theorem n_AF : ∀ a, a < 9 → ∀ b, b < 9 → a ≠ b → (T_AF a).2.1 ≠ (T_AF b).2.1 := by decide +kernel
theorem t_AF_ok : ∀ k, k < 9 → parseFieldDescriptor (T_AF k).2.2.1 = some (t_AF k) := by decide +kernel
theorem i_AF : ∀ w ∈ u_ws "ArithmeticForms" T_AF 9, w ∈ wA := by decide +kernel
def T_Ca : u_T := fun k => match k with
  | 0 => ("ArithmeticForms$Calculator", "precision", "I", true)
  | 1 => ("ArithmeticForms$Calculator", "wide", "[J", true)
  | 2 => ("ArithmeticForms$Calculator", "left", "[J", true)
  | _ => ("ArithmeticForms$Calculator", "one", "LArithmeticForms$Decimal;", true)
def t_Ca : Nat → FieldType := fun k => match k with
  | 0 => .int
  | 1 => (.array .long)
  | 2 => (.array .long)
  | _ => (.object "ArithmeticForms$Decimal")
theorem n_Ca : ∀ a, a < 4 → ∀ b, b < 4 → a ≠ b → (T_Ca a).2.1 ≠ (T_Ca b).2.1 := by decide +kernel
theorem t_Ca_ok : ∀ k, k < 4 → parseFieldDescriptor (T_Ca k).2.2.1 = some (t_Ca k) := by decide +kernel
theorem i_Ca : ∀ w ∈ u_ws "ArithmeticForms$Calculator" T_Ca 4, w ∈ wA := by decide +kernel
def T_De : u_T := fun k => match k with
  | 0 => ("ArithmeticForms$Decimal", "code", "I", false)
  | 1 => ("ArithmeticForms$Decimal", "sign", "I", false)
  | 2 => ("ArithmeticForms$Decimal", "top", "I", false)
  | 3 => ("ArithmeticForms$Decimal", "count", "I", false)
  | _ => ("ArithmeticForms$Decimal", "limbs", "[J", true)
def t_De : Nat → FieldType := fun k => match k with
  | 0 => .int
  | 1 => .int
  | 2 => .int
  | 3 => .int
  | _ => (.array .long)
theorem n_De : ∀ a, a < 5 → ∀ b, b < 5 → a ≠ b → (T_De a).2.1 ≠ (T_De b).2.1 := by decide +kernel
theorem t_De_ok : ∀ k, k < 5 → parseFieldDescriptor (T_De k).2.2.1 = some (t_De k) := by decide +kernel
theorem i_De : ∀ w ∈ u_ws "ArithmeticForms$Decimal" T_De 5, w ∈ wA := by decide +kernel
def T_Re : u_T := fun k => match k with
  | 0 => ("ArithmeticForms$Receiver", "scale", "I", true)
  | 1 => ("ArithmeticForms$Receiver", "digits", "I", true)
  | 2 => ("ArithmeticForms$Receiver", "rounding", "I", true)
  | 3 => ("ArithmeticForms$Receiver", "held", "J", false)
  | 4 => ("ArithmeticForms$Receiver", "remainder", "J", false)
  | _ => ("ArithmeticForms$Receiver", "failed", "Z", false)
def t_Re : Nat → FieldType := fun k => match k with
  | 0 => .int
  | 1 => .int
  | 2 => .int
  | 3 => .long
  | 4 => .long
  | _ => .boolean
theorem n_Re : ∀ a, a < 6 → ∀ b, b < 6 → a ≠ b → (T_Re a).2.1 ≠ (T_Re b).2.1 := by decide +kernel
theorem t_Re_ok : ∀ k, k < 6 → parseFieldDescriptor (T_Re k).2.2.1 = some (t_Re k) := by decide +kernel
theorem i_Re : ∀ w ∈ u_ws "ArithmeticForms$Receiver" T_Re 6, w ∈ wA := by decide +kernel
def T_Mo : u_T := fun k => match k with
  | 0 => ("ArithmeticFormsModel", "code", "I", false)
  | 1 => ("ArithmeticFormsModel", "precision", "I", true)
  | 2 => ("ArithmeticFormsModel", "digits", "[I", true)
  | 3 => ("ArithmeticFormsModel", "sizes", "[I", true)
  | 4 => ("ArithmeticFormsModel", "exponents", "[I", true)
  | 5 => ("ArithmeticFormsModel", "signs", "[I", true)
  | 6 => ("ArithmeticFormsModel", "rest", "[I", true)
  | 7 => ("ArithmeticFormsModel", "coefficients", "[I", true)
  | 8 => ("ArithmeticFormsModel", "nodeSizes", "[I", true)
  | 9 => ("ArithmeticFormsModel", "nodeExponents", "[I", true)
  | 10 => ("ArithmeticFormsModel", "nodeSigns", "[I", true)
  | 11 => ("ArithmeticFormsModel", "raises", "[I", true)
  | 12 => ("ArithmeticFormsModel", "nodes", "I", false)
  | 13 => ("ArithmeticFormsModel", "receivers", "I", false)
  | 14 => ("ArithmeticFormsModel", "latest", "I", false)
  | 15 => ("ArithmeticFormsModel", "most", "[I", true)
  | 16 => ("ArithmeticFormsModel", "scales", "[I", true)
  | 17 => ("ArithmeticFormsModel", "roundings", "[I", true)
  | 18 => ("ArithmeticFormsModel", "holds", "[J", true)
  | 19 => ("ArithmeticFormsModel", "rests", "[J", true)
  | 20 => ("ArithmeticFormsModel", "errors", "[Z", true)
  | 21 => ("ArithmeticFormsModel", "rounded", "J", false)
  | _ => ("ArithmeticFormsModel", "isLong", "Z", false)
def t_Mo : Nat → FieldType := fun k => match k with
  | 0 => .int
  | 1 => .int
  | 2 => (.array .int)
  | 3 => (.array .int)
  | 4 => (.array .int)
  | 5 => (.array .int)
  | 6 => (.array .int)
  | 7 => (.array .int)
  | 8 => (.array .int)
  | 9 => (.array .int)
  | 10 => (.array .int)
  | 11 => (.array .int)
  | 12 => .int
  | 13 => .int
  | 14 => .int
  | 15 => (.array .int)
  | 16 => (.array .int)
  | 17 => (.array .int)
  | 18 => (.array .long)
  | 19 => (.array .long)
  | 20 => (.array .boolean)
  | 21 => .long
  | _ => .boolean
theorem n_Mo : ∀ a, a < 23 → ∀ b, b < 23 → a ≠ b → (T_Mo a).2.1 ≠ (T_Mo b).2.1 := by decide +kernel
theorem t_Mo_ok : ∀ k, k < 23 → parseFieldDescriptor (T_Mo k).2.2.1 = some (t_Mo k) := by decide +kernel
theorem i_Mo : ∀ w ∈ u_ws "ArithmeticFormsModel" T_Mo 23, w ∈ wA := by decide +kernel
abbrev clsA : List vw_C := [("ArithmeticForms", T_AF, 9), ("ArithmeticForms$Calculator", T_Ca, 4), ("ArithmeticForms$Decimal", T_De, 5), ("ArithmeticForms$Receiver", T_Re, 6), ("ArithmeticFormsModel", T_Mo, 23)]
theorem k0 : Cond.initialized "ArithmeticFormsLaw" ∈ wA := mA 0 (by decide +kernel) (by decide +kernel)
theorem k1 : Cond.initialized "ArithmeticForms" ∈ wA := mA 1 (by decide +kernel) (by decide +kernel)
theorem k2 : Cond.initialized "ArithmeticForms$Decimal" ∈ wA := mA 2 (by decide +kernel) (by decide +kernel)
theorem k3 : Cond.initialized "ArithmeticForms$Calculator" ∈ wA := mA 3 (by decide +kernel) (by decide +kernel)
theorem k4 : Cond.initialized "java/lang/Math" ∈ wA := mA 4 (by decide +kernel) (by decide +kernel)
theorem k5 : Cond.initialized "java/util/Arrays" ∈ wA := mA 5 (by decide +kernel) (by decide +kernel)
theorem k6 : Cond.initialized "ArithmeticFormsModel" ∈ wA := mA 6 (by decide +kernel) (by decide +kernel)
theorem k7 : Cond.initialized "java/lang/System" ∈ wA := mA 7 (by decide +kernel) (by decide +kernel)
theorem k8 : Cond.initialized "java/lang/Integer" ∈ wA := mA 8 (by decide +kernel) (by decide +kernel)
theorem k9 : Cond.initialized "java/lang/Long" ∈ wA := mA 9 (by decide +kernel) (by decide +kernel)
theorem k10 : Cond.initialized "ArithmeticForms$Receiver" ∈ wA := mA 10 (by decide +kernel) (by decide +kernel)
theorem k11 : Cond.initialized "java/lang/Throwable" ∈ wA := mA 11 (by decide +kernel) (by decide +kernel)
theorem k12 : Cond.initialized "java/lang/Exception" ∈ wA := mA 12 (by decide +kernel) (by decide +kernel)
theorem k13 : Cond.initialized "java/lang/RuntimeException" ∈ wA := mA 13 (by decide +kernel) (by decide +kernel)
theorem k14 : Cond.initialized "java/lang/ArithmeticException" ∈ wA := mA 14 (by decide +kernel) (by decide +kernel)
theorem k15 : Cond.classLink "ArithmeticFormsLaw" (8 : Nat) "ArithmeticForms" ∈ wA := mA 15 (by decide +kernel) (by decide +kernel)
theorem k16 : Cond.instantiable "ArithmeticForms" (9 : Nat) ∈ wA := mA 16 (by decide +kernel) (by decide +kernel)
theorem k17 : Cond.methodLink "ArithmeticFormsLaw" 21 y_AF_init ∈ wA := mA 17 (by decide +kernel) (by decide +kernel)
theorem k18 : Cond.instanceMethod y_AF_init ∈ wA := mA 18 (by decide +kernel) (by decide +kernel)
theorem k19 : Cond.code y_AF_init c_AF_init 2 none ∈ wA := mA 19 (by decide +kernel) (by decide +kernel)
theorem k20 : Cond.methodLink "ArithmeticForms" 1 y_Ob_init ∈ wA := mA 20 (by decide +kernel) (by decide +kernel)
theorem k21 : Cond.instanceMethod y_Ob_init ∈ wA := mA 21 (by decide +kernel) (by decide +kernel)
theorem k22 : Cond.code y_Ob_init c_Ob_init 1 none ∈ wA := mA 22 (by decide +kernel) (by decide +kernel)
theorem k23 : Cond.classLink "ArithmeticForms" (9 : Nat) "ArithmeticForms$Decimal" ∈ wA := mA 23 (by decide +kernel) (by decide +kernel)
theorem k24t : Cond.arrayOver (Jvm.ClassFile.FieldType.object "ArithmeticForms$Decimal") ∈ lw_tbl := List.mem_append_right _ (List.mem_of_getElem? (i := 24) (by decide +kernel))
theorem k25 : Cond.classLink "ArithmeticForms" (15 : Nat) "ArithmeticForms$Receiver" ∈ wA := mA 25 (by decide +kernel) (by decide +kernel)
theorem k26t : Cond.arrayOver (Jvm.ClassFile.FieldType.object "ArithmeticForms$Receiver") ∈ lw_tbl := List.mem_append_right _ (List.mem_of_getElem? (i := 26) (by decide +kernel))
theorem k27 : Cond.instantiable "ArithmeticForms$Decimal" (5 : Nat) ∈ wA := mA 27 (by decide +kernel) (by decide +kernel)
theorem k28t : Cond.methodLinkNest "ArithmeticForms" 21 y_De_init "ArithmeticForms" ∈ lw_tbl := List.mem_append_right _ (List.mem_of_getElem? (i := 28) (by decide +kernel))
theorem k29 : Cond.instanceMethod y_De_init ∈ wA := mA 29 (by decide +kernel) (by decide +kernel)
theorem k30 : Cond.code y_De_init c_De_init 1 none ∈ wA := mA 30 (by decide +kernel) (by decide +kernel)
theorem k31 : Cond.methodLink "ArithmeticForms$Decimal" 5 y_Ob_init ∈ wA := mA 31 (by decide +kernel) (by decide +kernel)
theorem k32 : Cond.fieldLink "ArithmeticForms$Decimal" (15 : Nat) "ArithmeticForms$Decimal" "code" "I" ∈ wA := mA 32 (by decide +kernel) (by decide +kernel)
theorem k33 : Cond.fieldLink "ArithmeticForms$Calculator" (109 : Nat) "ArithmeticForms$Decimal" "code" "I" ∈ wA := mA 33 (by decide +kernel) (by decide +kernel)
theorem k34 : Cond.fieldLink "ArithmeticForms" (110 : Nat) "ArithmeticForms$Decimal" "code" "I" ∈ wA := mA 34 (by decide +kernel) (by decide +kernel)
theorem k35 : Cond.fieldLink "ArithmeticForms$Decimal" (19 : Nat) "ArithmeticForms$Decimal" "sign" "I" ∈ wA := mA 35 (by decide +kernel) (by decide +kernel)
theorem k36 : Cond.fieldLink "ArithmeticForms$Calculator" (37 : Nat) "ArithmeticForms$Decimal" "sign" "I" ∈ wA := mA 36 (by decide +kernel) (by decide +kernel)
theorem k37 : Cond.fieldLink "ArithmeticForms$Receiver" (55 : Nat) "ArithmeticForms$Decimal" "sign" "I" ∈ wA := mA 37 (by decide +kernel) (by decide +kernel)
theorem k38 : Cond.fieldLink "ArithmeticForms" (120 : Nat) "ArithmeticForms$Decimal" "sign" "I" ∈ wA := mA 38 (by decide +kernel) (by decide +kernel)
theorem k39 : Cond.fieldLink "ArithmeticForms$Decimal" (22 : Nat) "ArithmeticForms$Decimal" "top" "I" ∈ wA := mA 39 (by decide +kernel) (by decide +kernel)
theorem k40 : Cond.fieldLink "ArithmeticForms$Calculator" (64 : Nat) "ArithmeticForms$Decimal" "top" "I" ∈ wA := mA 40 (by decide +kernel) (by decide +kernel)
theorem k41 : Cond.fieldLink "ArithmeticForms$Decimal" (25 : Nat) "ArithmeticForms$Decimal" "count" "I" ∈ wA := mA 41 (by decide +kernel) (by decide +kernel)
theorem k42 : Cond.fieldLink "ArithmeticForms$Receiver" (45 : Nat) "ArithmeticForms$Decimal" "count" "I" ∈ wA := mA 42 (by decide +kernel) (by decide +kernel)
theorem k43 : Cond.fieldLink "ArithmeticForms" (123 : Nat) "ArithmeticForms$Decimal" "count" "I" ∈ wA := mA 43 (by decide +kernel) (by decide +kernel)
theorem k44 : Cond.fieldLink "ArithmeticForms$Decimal" (11 : Nat) "ArithmeticForms$Decimal" "limbs" "[J" ∈ wA := mA 44 (by decide +kernel) (by decide +kernel)
theorem k45 : Cond.fieldLink "ArithmeticForms$Calculator" (61 : Nat) "ArithmeticForms$Decimal" "limbs" "[J" ∈ wA := mA 45 (by decide +kernel) (by decide +kernel)
theorem k56t : Cond.superclass "ArithmeticForms$Decimal" "java/lang/Object" ∈ lw_tbl := List.mem_append_right _ (List.mem_of_getElem? (i := 56) (by decide +kernel))
theorem k57 : Cond.arrayClass Jvm.ClassFile.FieldType.long ∈ wA := mA 57 (by decide +kernel) (by decide +kernel)
theorem k58 : Cond.classLink "ArithmeticForms" (32 : Nat) "ArithmeticForms$Calculator" ∈ wA := mA 58 (by decide +kernel) (by decide +kernel)
theorem k59 : Cond.instantiable "ArithmeticForms$Calculator" (4 : Nat) ∈ wA := mA 59 (by decide +kernel) (by decide +kernel)
theorem k60 : Cond.methodLink "ArithmeticForms" 34 y_Ma_min ∈ wA := mA 60 (by decide +kernel) (by decide +kernel)
theorem k61 : Cond.static y_Ma_min ∈ wA := mA 61 (by decide +kernel) (by decide +kernel)
theorem k62 : Cond.code y_Ma_min c_Ma_min 2 (some .int) ∈ wA := mA 62 (by decide +kernel) (by decide +kernel)
theorem k63 : Cond.methodLink "ArithmeticForms" 40 y_Ma_max ∈ wA := mA 63 (by decide +kernel) (by decide +kernel)
theorem k64 : Cond.static y_Ma_max ∈ wA := mA 64 (by decide +kernel) (by decide +kernel)
theorem k65 : Cond.code y_Ma_max c_Ma_max 2 (some .int) ∈ wA := mA 65 (by decide +kernel) (by decide +kernel)
theorem k66 : Cond.methodLink "ArithmeticForms" 43 y_Ca_init ∈ wA := mA 66 (by decide +kernel) (by decide +kernel)
theorem k67 : Cond.instanceMethod y_Ca_init ∈ wA := mA 67 (by decide +kernel) (by decide +kernel)
theorem k68 : Cond.code y_Ca_init c_Ca_init 2 none ∈ wA := mA 68 (by decide +kernel) (by decide +kernel)
theorem k69 : Cond.methodLink "ArithmeticForms$Calculator" 3 y_Ob_init ∈ wA := mA 69 (by decide +kernel) (by decide +kernel)
theorem k70 : Cond.classLink "ArithmeticForms$Calculator" (15 : Nat) "ArithmeticForms$Decimal" ∈ wA := mA 70 (by decide +kernel) (by decide +kernel)
theorem k71t : Cond.methodLinkNest "ArithmeticForms$Calculator" 20 y_De_init "ArithmeticForms" ∈ lw_tbl := List.mem_append_right _ (List.mem_of_getElem? (i := 71) (by decide +kernel))
theorem k72 : Cond.methodLink "ArithmeticForms$Calculator" 29 y_De_load ∈ wA := mA 72 (by decide +kernel) (by decide +kernel)
theorem k73 : Cond.instanceMethod y_De_load ∈ wA := mA 73 (by decide +kernel) (by decide +kernel)
theorem k74 : Cond.selects "ArithmeticForms$Decimal" y_De_load y_De_load ∈ wA := mA 74 (by decide +kernel) (by decide +kernel)
theorem k75 : Cond.code y_De_load c_De_load 8 none ∈ wA := mA 75 (by decide +kernel) (by decide +kernel)
theorem k76 : Cond.methodLink "ArithmeticForms$Decimal" 34 y_De_clear ∈ wA := mA 76 (by decide +kernel) (by decide +kernel)
theorem k77 : Cond.instanceMethod y_De_clear ∈ wA := mA 77 (by decide +kernel) (by decide +kernel)
theorem k78 : Cond.selects "ArithmeticForms$Decimal" y_De_clear y_De_clear ∈ wA := mA 78 (by decide +kernel) (by decide +kernel)
theorem k79 : Cond.code y_De_clear c_De_clear 1 none ∈ wA := mA 79 (by decide +kernel) (by decide +kernel)
theorem k80 : Cond.methodLink "ArithmeticForms$Decimal" 28 y_Ar_fill ∈ wA := mA 80 (by decide +kernel) (by decide +kernel)
theorem k81 : Cond.static y_Ar_fill ∈ wA := mA 81 (by decide +kernel) (by decide +kernel)
theorem k82 : Cond.code y_Ar_fill c_Ar_fill 5 none ∈ wA := mA 82 (by decide +kernel) (by decide +kernel)
theorem k83t : Cond.methodLinkNest "ArithmeticForms$Decimal" 43 y_AF_ten "ArithmeticForms" ∈ lw_tbl := List.mem_append_right _ (List.mem_of_getElem? (i := 83) (by decide +kernel))
theorem k84 : Cond.static y_AF_ten ∈ wA := mA 84 (by decide +kernel) (by decide +kernel)
theorem k85 : Cond.code y_AF_ten c_AF_ten 1 (some .long) ∈ wA := mA 85 (by decide +kernel) (by decide +kernel)
theorem k86 : Cond.fieldLink "ArithmeticForms" (180 : Nat) "ArithmeticForms" "TENS" "[J" ∈ wA := mA 86 (by decide +kernel) (by decide +kernel)
theorem k87t : Cond.laysStatic "ArithmeticForms" "TENS" "[J" ∈ lw_tbl := List.mem_append_right _ (List.mem_of_getElem? (i := 87) (by decide +kernel))
theorem k88 : Cond.constantLong "ArithmeticForms$Decimal" (47 : Nat) (10 : Int64) ∈ wA := mA 88 (by decide +kernel) (by decide +kernel)
theorem k89 : Cond.methodLink "ArithmeticForms$Decimal" 49 y_Ma_abs ∈ wA := mA 89 (by decide +kernel) (by decide +kernel)
theorem k90 : Cond.static y_Ma_abs ∈ wA := mA 90 (by decide +kernel) (by decide +kernel)
theorem k91 : Cond.code y_Ma_abs c_Ma_abs 2 (some .long) ∈ wA := mA 91 (by decide +kernel) (by decide +kernel)
theorem k92 : Cond.methodLink "ArithmeticForms$Decimal" 55 y_De_cut ∈ wA := mA 92 (by decide +kernel) (by decide +kernel)
theorem k93 : Cond.instanceMethod y_De_cut ∈ wA := mA 93 (by decide +kernel) (by decide +kernel)
theorem k94 : Cond.selects "ArithmeticForms$Decimal" y_De_cut y_De_cut ∈ wA := mA 94 (by decide +kernel) (by decide +kernel)
theorem k95 : Cond.code y_De_cut c_De_cut 4 none ∈ wA := mA 95 (by decide +kernel) (by decide +kernel)
theorem k96 : Cond.methodLink "ArithmeticForms$Decimal" 59 y_Ma_min ∈ wA := mA 96 (by decide +kernel) (by decide +kernel)
theorem k97 : Cond.methodLink "ArithmeticForms$Decimal" 63 y_Ma_max ∈ wA := mA 97 (by decide +kernel) (by decide +kernel)
theorem k98 : Cond.fieldLink "ArithmeticForms$Calculator" (25 : Nat) "ArithmeticForms$Calculator" "precision" "I" ∈ wA := mA 98 (by decide +kernel) (by decide +kernel)
theorem k99 : Cond.fieldLink "ArithmeticForms" (58 : Nat) "ArithmeticForms$Calculator" "precision" "I" ∈ wA := mA 99 (by decide +kernel) (by decide +kernel)
theorem k100 : Cond.fieldLink "ArithmeticForms$Calculator" (11 : Nat) "ArithmeticForms$Calculator" "wide" "[J" ∈ wA := mA 100 (by decide +kernel) (by decide +kernel)
theorem k101 : Cond.fieldLink "ArithmeticForms$Calculator" (17 : Nat) "ArithmeticForms$Calculator" "left" "[J" ∈ wA := mA 101 (by decide +kernel) (by decide +kernel)
theorem k102 : Cond.fieldLink "ArithmeticForms$Calculator" (21 : Nat) "ArithmeticForms$Calculator" "one" "LArithmeticForms$Decimal;" ∈ wA := mA 102 (by decide +kernel) (by decide +kernel)
theorem k111t : Cond.superclass "ArithmeticForms$Calculator" "java/lang/Object" ∈ lw_tbl := List.mem_append_right _ (List.mem_of_getElem? (i := 111) (by decide +kernel))
theorem k112 : Cond.fieldLink "ArithmeticForms" (46 : Nat) "ArithmeticForms" "calculator" "LArithmeticForms$Calculator;" ∈ wA := mA 112 (by decide +kernel) (by decide +kernel)
theorem k113 : Cond.fieldLink "ArithmeticForms" (11 : Nat) "ArithmeticForms" "nodes" "[LArithmeticForms$Decimal;" ∈ wA := mA 113 (by decide +kernel) (by decide +kernel)
theorem k114 : Cond.fieldLink "ArithmeticForms" (50 : Nat) "ArithmeticForms" "nodeCount" "I" ∈ wA := mA 114 (by decide +kernel) (by decide +kernel)
theorem k115 : Cond.fieldLink "ArithmeticForms" (17 : Nat) "ArithmeticForms" "receivers" "[LArithmeticForms$Receiver;" ∈ wA := mA 115 (by decide +kernel) (by decide +kernel)
theorem k116 : Cond.fieldLink "ArithmeticForms" (76 : Nat) "ArithmeticForms" "receiverCount" "I" ∈ wA := mA 116 (by decide +kernel) (by decide +kernel)
theorem k117 : Cond.fieldLink "ArithmeticForms" (82 : Nat) "ArithmeticForms" "latestRaised" "I" ∈ wA := mA 117 (by decide +kernel) (by decide +kernel)
theorem k118 : Cond.fieldLink "ArithmeticForms" (22 : Nat) "ArithmeticForms" "before" "LArithmeticForms$Decimal;" ∈ wA := mA 118 (by decide +kernel) (by decide +kernel)
theorem k119 : Cond.fieldLink "ArithmeticForms" (26 : Nat) "ArithmeticForms" "given" "LArithmeticForms$Decimal;" ∈ wA := mA 119 (by decide +kernel) (by decide +kernel)
theorem k120 : Cond.fieldLink "ArithmeticForms" (29 : Nat) "ArithmeticForms" "over" "LArithmeticForms$Decimal;" ∈ wA := mA 120 (by decide +kernel) (by decide +kernel)
theorem k139t : Cond.superclass "ArithmeticForms" "java/lang/Object" ∈ lw_tbl := List.mem_append_right _ (List.mem_of_getElem? (i := 139) (by decide +kernel))
theorem k140 : Cond.methodLink "ArithmeticFormsLaw" 29 y_AF_value ∈ wA := mA 140 (by decide +kernel) (by decide +kernel)
theorem k141 : Cond.instanceMethod y_AF_value ∈ wA := mA 141 (by decide +kernel) (by decide +kernel)
theorem k142 : Cond.selects "ArithmeticForms" y_AF_value y_AF_value ∈ wA := mA 142 (by decide +kernel) (by decide +kernel)
theorem k143 : Cond.code y_AF_value c_AF_value 5 (some .int) ∈ wA := mA 143 (by decide +kernel) (by decide +kernel)
theorem k144 : Cond.methodLink "ArithmeticForms" 54 y_De_load ∈ wA := mA 144 (by decide +kernel) (by decide +kernel)
theorem k145 : Cond.methodLink "ArithmeticForms" 61 y_De_cut ∈ wA := mA 145 (by decide +kernel) (by decide +kernel)
theorem k146 : Cond.methodLink "ArithmeticForms" 64 y_AF_keepNode ∈ wA := mA 146 (by decide +kernel) (by decide +kernel)
theorem k148 : Cond.instanceMethod y_AF_keepNode ∈ wA := mA 148 (by decide +kernel) (by decide +kernel)
theorem k149 : Cond.code y_AF_keepNode c_AF_keepNode 2 (some .int) ∈ wA := mA 149 (by decide +kernel) (by decide +kernel)
theorem k150 : Cond.methodLink "ArithmeticFormsLaw" 34 y_AF_node ∈ wA := mA 150 (by decide +kernel) (by decide +kernel)
theorem k151 : Cond.instanceMethod y_AF_node ∈ wA := mA 151 (by decide +kernel) (by decide +kernel)
theorem k152 : Cond.selects "ArithmeticForms" y_AF_node y_AF_node ∈ wA := mA 152 (by decide +kernel) (by decide +kernel)
theorem k153 : Cond.code y_AF_node c_AF_node 7 (some .int) ∈ wA := mA 153 (by decide +kernel) (by decide +kernel)
theorem k154 : Cond.methodLink "ArithmeticForms" 68 y_AF_nodeAt ∈ wA := mA 154 (by decide +kernel) (by decide +kernel)
theorem k156 : Cond.instanceMethod y_AF_nodeAt ∈ wA := mA 156 (by decide +kernel) (by decide +kernel)
theorem k157 : Cond.code y_AF_nodeAt c_AF_nodeAt 2 (some (.object "ArithmeticForms$Decimal")) ∈ wA := mA 157 (by decide +kernel) (by decide +kernel)
theorem k158 : Cond.methodLink "ArithmeticForms" 72 y_AF_operate ∈ wA := mA 158 (by decide +kernel) (by decide +kernel)
theorem k160 : Cond.instanceMethod y_AF_operate ∈ wA := mA 160 (by decide +kernel) (by decide +kernel)
theorem k161 : Cond.code y_AF_operate c_AF_operate 5 none ∈ wA := mA 161 (by decide +kernel) (by decide +kernel)
theorem k162 : Cond.methodLink "ArithmeticForms" 134 y_Ca_power ∈ wA := mA 162 (by decide +kernel) (by decide +kernel)
theorem k163 : Cond.instanceMethod y_Ca_power ∈ wA := mA 163 (by decide +kernel) (by decide +kernel)
theorem k164 : Cond.selects "ArithmeticForms$Calculator" y_Ca_power y_Ca_power ∈ wA := mA 164 (by decide +kernel) (by decide +kernel)
theorem k165 : Cond.code y_Ca_power c_Ca_power 6 none ∈ wA := mA 165 (by decide +kernel) (by decide +kernel)
theorem k166 : Cond.methodLink "ArithmeticForms$Calculator" 33 y_Ca_passOn ∈ wA := mA 166 (by decide +kernel) (by decide +kernel)
theorem k167 : Cond.static y_Ca_passOn ∈ wA := mA 167 (by decide +kernel) (by decide +kernel)
theorem k168 : Cond.code y_Ca_passOn c_Ca_passOn 4 (some .boolean) ∈ wA := mA 168 (by decide +kernel) (by decide +kernel)
theorem k169 : Cond.methodLink "ArithmeticForms$Calculator" 67 y_De_raise ∈ wA := mA 169 (by decide +kernel) (by decide +kernel)
theorem k170 : Cond.instanceMethod y_De_raise ∈ wA := mA 170 (by decide +kernel) (by decide +kernel)
theorem k171 : Cond.selects "ArithmeticForms$Decimal" y_De_raise y_De_raise ∈ wA := mA 171 (by decide +kernel) (by decide +kernel)
theorem k172 : Cond.code y_De_raise c_De_raise 2 none ∈ wA := mA 172 (by decide +kernel) (by decide +kernel)
theorem k173 : Cond.methodLink "ArithmeticForms$Calculator" 81 y_Ca_powerOf ∈ wA := mA 173 (by decide +kernel) (by decide +kernel)
theorem k174 : Cond.static y_Ca_powerOf ∈ wA := mA 174 (by decide +kernel) (by decide +kernel)
theorem k175 : Cond.code y_Ca_powerOf c_Ca_powerOf 1 (some .int) ∈ wA := mA 175 (by decide +kernel) (by decide +kernel)
theorem k176 : Cond.methodLink "ArithmeticForms$Calculator" 101 y_De_exponent ∈ wA := mA 176 (by decide +kernel) (by decide +kernel)
theorem k177 : Cond.instanceMethod y_De_exponent ∈ wA := mA 177 (by decide +kernel) (by decide +kernel)
theorem k178 : Cond.selects "ArithmeticForms$Decimal" y_De_exponent y_De_exponent ∈ wA := mA 178 (by decide +kernel) (by decide +kernel)
theorem k179 : Cond.code y_De_exponent c_De_exponent 1 (some .int) ∈ wA := mA 179 (by decide +kernel) (by decide +kernel)
theorem k180 : Cond.methodLink "ArithmeticForms$Calculator" 105 y_De_lowestWhole ∈ wA := mA 180 (by decide +kernel) (by decide +kernel)
theorem k181 : Cond.instanceMethod y_De_lowestWhole ∈ wA := mA 181 (by decide +kernel) (by decide +kernel)
theorem k182 : Cond.selects "ArithmeticForms$Decimal" y_De_lowestWhole y_De_lowestWhole ∈ wA := mA 182 (by decide +kernel) (by decide +kernel)
theorem k183 : Cond.code y_De_lowestWhole c_De_lowestWhole 6 (some .long) ∈ wA := mA 183 (by decide +kernel) (by decide +kernel)
theorem k184 : Cond.methodLink "ArithmeticForms$Decimal" 66 y_De_wholeDigits ∈ wA := mA 184 (by decide +kernel) (by decide +kernel)
theorem k185 : Cond.instanceMethod y_De_wholeDigits ∈ wA := mA 185 (by decide +kernel) (by decide +kernel)
theorem k186 : Cond.selects "ArithmeticForms$Decimal" y_De_wholeDigits y_De_wholeDigits ∈ wA := mA 186 (by decide +kernel) (by decide +kernel)
theorem k187 : Cond.code y_De_wholeDigits c_De_wholeDigits 2 (some .int) ∈ wA := mA 187 (by decide +kernel) (by decide +kernel)
theorem k188 : Cond.methodLink "ArithmeticForms$Decimal" 70 y_De_digit ∈ wA := mA 188 (by decide +kernel) (by decide +kernel)
theorem k189 : Cond.instanceMethod y_De_digit ∈ wA := mA 189 (by decide +kernel) (by decide +kernel)
theorem k190 : Cond.selects "ArithmeticForms$Decimal" y_De_digit y_De_digit ∈ wA := mA 190 (by decide +kernel) (by decide +kernel)
theorem k191 : Cond.code y_De_digit c_De_digit 2 (some .int) ∈ wA := mA 191 (by decide +kernel) (by decide +kernel)
theorem k192 : Cond.methodLink "ArithmeticForms$Calculator" 84 y_De_copy ∈ wA := mA 192 (by decide +kernel) (by decide +kernel)
theorem k193 : Cond.instanceMethod y_De_copy ∈ wA := mA 193 (by decide +kernel) (by decide +kernel)
theorem k194 : Cond.selects "ArithmeticForms$Decimal" y_De_copy y_De_copy ∈ wA := mA 194 (by decide +kernel) (by decide +kernel)
theorem k195 : Cond.code y_De_copy c_De_copy 2 none ∈ wA := mA 195 (by decide +kernel) (by decide +kernel)
theorem k196 : Cond.methodLink "ArithmeticForms$Decimal" 37 y_Sy_arraycopy ∈ wA := mA 196 (by decide +kernel) (by decide +kernel)
theorem k197 : Cond.static y_Sy_arraycopy ∈ wA := mA 197 (by decide +kernel) (by decide +kernel)
theorem k198t : Cond.native y_Sy_arraycopy ∈ lw_tbl := List.mem_append_right _ (List.mem_of_getElem? (i := 198) (by decide +kernel))
theorem k199 : Cond.methodLink "ArithmeticForms$Calculator" 88 y_Ma_abs2 ∈ wA := mA 199 (by decide +kernel) (by decide +kernel)
theorem k200 : Cond.static y_Ma_abs2 ∈ wA := mA 200 (by decide +kernel) (by decide +kernel)
theorem k201 : Cond.code y_Ma_abs2 c_Ma_abs2 1 (some .int) ∈ wA := mA 201 (by decide +kernel) (by decide +kernel)
theorem k202 : Cond.methodLink "ArithmeticForms$Calculator" 94 y_Ca_multiply ∈ wA := mA 202 (by decide +kernel) (by decide +kernel)
theorem k203 : Cond.instanceMethod y_Ca_multiply ∈ wA := mA 203 (by decide +kernel) (by decide +kernel)
theorem k204 : Cond.selects "ArithmeticForms$Calculator" y_Ca_multiply y_Ca_multiply ∈ wA := mA 204 (by decide +kernel) (by decide +kernel)
theorem k205 : Cond.code y_Ca_multiply c_Ca_multiply 6 none ∈ wA := mA 205 (by decide +kernel) (by decide +kernel)
theorem k206 : Cond.methodLink "ArithmeticForms$Calculator" 44 y_Ar_fill ∈ wA := mA 206 (by decide +kernel) (by decide +kernel)
theorem k207 : Cond.methodLink "ArithmeticForms$Calculator" 54 y_Ca_carry ∈ wA := mA 207 (by decide +kernel) (by decide +kernel)
theorem k209 : Cond.instanceMethod y_Ca_carry ∈ wA := mA 209 (by decide +kernel) (by decide +kernel)
theorem k210 : Cond.code y_Ca_carry c_Ca_carry 4 none ∈ wA := mA 210 (by decide +kernel) (by decide +kernel)
theorem k211 : Cond.constantLong "ArithmeticForms$Calculator" (115 : Nat) (100000000 : Int64) ∈ wA := mA 211 (by decide +kernel) (by decide +kernel)
theorem k212 : Cond.methodLink "ArithmeticForms$Calculator" 117 y_Ma_floorDiv ∈ wA := mA 212 (by decide +kernel) (by decide +kernel)
theorem k213 : Cond.static y_Ma_floorDiv ∈ wA := mA 213 (by decide +kernel) (by decide +kernel)
theorem k214 : Cond.code y_Ma_floorDiv c_Ma_floorDiv 6 (some .long) ∈ wA := mA 214 (by decide +kernel) (by decide +kernel)
theorem k215 : Cond.methodLink "ArithmeticForms$Calculator" 57 y_Ca_settle ∈ wA := mA 215 (by decide +kernel) (by decide +kernel)
theorem k217 : Cond.instanceMethod y_Ca_settle ∈ wA := mA 217 (by decide +kernel) (by decide +kernel)
theorem k218 : Cond.code y_Ca_settle c_Ca_settle 12 none ∈ wA := mA 218 (by decide +kernel) (by decide +kernel)
theorem k219 : Cond.methodLink "ArithmeticForms$Calculator" 132 y_De_clear ∈ wA := mA 219 (by decide +kernel) (by decide +kernel)
theorem k220t : Cond.methodLinkNest "ArithmeticForms$Calculator" 112 y_AF_ten "ArithmeticForms" ∈ lw_tbl := List.mem_append_right _ (List.mem_of_getElem? (i := 220) (by decide +kernel))
theorem k221 : Cond.methodLink "ArithmeticForms$Calculator" 135 y_Ca_wideAt ∈ wA := mA 221 (by decide +kernel) (by decide +kernel)
theorem k223 : Cond.instanceMethod y_Ca_wideAt ∈ wA := mA 223 (by decide +kernel) (by decide +kernel)
theorem k224 : Cond.code y_Ca_wideAt c_Ca_wideAt 2 (some .long) ∈ wA := mA 224 (by decide +kernel) (by decide +kernel)
theorem k225 : Cond.methodLink "ArithmeticForms$Calculator" 138 y_De_cut ∈ wA := mA 225 (by decide +kernel) (by decide +kernel)
theorem k226 : Cond.methodLink "ArithmeticForms$Calculator" 98 y_Ca_divide ∈ wA := mA 226 (by decide +kernel) (by decide +kernel)
theorem k227 : Cond.instanceMethod y_Ca_divide ∈ wA := mA 227 (by decide +kernel) (by decide +kernel)
theorem k228 : Cond.selects "ArithmeticForms$Calculator" y_Ca_divide y_Ca_divide ∈ wA := mA 228 (by decide +kernel) (by decide +kernel)
theorem k229 : Cond.code y_Ca_divide c_Ca_divide 5 none ∈ wA := mA 229 (by decide +kernel) (by decide +kernel)
theorem k230 : Cond.methodLink "ArithmeticForms$Calculator" 71 y_Sy_arraycopy ∈ wA := mA 230 (by decide +kernel) (by decide +kernel)
theorem k231 : Cond.methodLink "ArithmeticForms$Calculator" 77 y_Ca_takeOut ∈ wA := mA 231 (by decide +kernel) (by decide +kernel)
theorem k233 : Cond.instanceMethod y_Ca_takeOut ∈ wA := mA 233 (by decide +kernel) (by decide +kernel)
theorem k234 : Cond.code y_Ca_takeOut c_Ca_takeOut 9 (some .long) ∈ wA := mA 234 (by decide +kernel) (by decide +kernel)
theorem k235 : Cond.methodLink "ArithmeticForms$Calculator" 121 y_Ma_max2 ∈ wA := mA 235 (by decide +kernel) (by decide +kernel)
theorem k236 : Cond.static y_Ma_max2 ∈ wA := mA 236 (by decide +kernel) (by decide +kernel)
theorem k237 : Cond.code y_Ma_max2 c_Ma_max2 4 (some .long) ∈ wA := mA 237 (by decide +kernel) (by decide +kernel)
theorem k238 : Cond.methodLink "ArithmeticForms$Calculator" 124 y_Ca_reaches ∈ wA := mA 238 (by decide +kernel) (by decide +kernel)
theorem k240 : Cond.instanceMethod y_Ca_reaches ∈ wA := mA 240 (by decide +kernel) (by decide +kernel)
theorem k241 : Cond.code y_Ca_reaches c_Ca_reaches 3 (some .boolean) ∈ wA := mA 241 (by decide +kernel) (by decide +kernel)
theorem k242 : Cond.methodLink "ArithmeticForms$Calculator" 128 y_Ca_reduce ∈ wA := mA 242 (by decide +kernel) (by decide +kernel)
theorem k244 : Cond.instanceMethod y_Ca_reduce ∈ wA := mA 244 (by decide +kernel) (by decide +kernel)
theorem k245 : Cond.code y_Ca_reduce c_Ca_reduce 9 none ∈ wA := mA 245 (by decide +kernel) (by decide +kernel)
theorem k246 : Cond.methodLink "ArithmeticForms" 138 y_De_copy ∈ wA := mA 246 (by decide +kernel) (by decide +kernel)
theorem k247 : Cond.methodLink "ArithmeticForms" 142 y_AF_calculate ∈ wA := mA 247 (by decide +kernel) (by decide +kernel)
theorem k249 : Cond.instanceMethod y_AF_calculate ∈ wA := mA 249 (by decide +kernel) (by decide +kernel)
theorem k250 : Cond.code y_AF_calculate c_AF_calculate 5 none ∈ wA := mA 250 (by decide +kernel) (by decide +kernel)
theorem k251 : Cond.methodLink "ArithmeticForms" 145 y_Ca_add ∈ wA := mA 251 (by decide +kernel) (by decide +kernel)
theorem k252 : Cond.instanceMethod y_Ca_add ∈ wA := mA 252 (by decide +kernel) (by decide +kernel)
theorem k253 : Cond.selects "ArithmeticForms$Calculator" y_Ca_add y_Ca_add ∈ wA := mA 253 (by decide +kernel) (by decide +kernel)
theorem k254 : Cond.code y_Ca_add c_Ca_add 7 none ∈ wA := mA 254 (by decide +kernel) (by decide +kernel)
theorem k255 : Cond.methodLink "ArithmeticForms$Calculator" 40 y_De_compareSize ∈ wA := mA 255 (by decide +kernel) (by decide +kernel)
theorem k256 : Cond.instanceMethod y_De_compareSize ∈ wA := mA 256 (by decide +kernel) (by decide +kernel)
theorem k257 : Cond.selects "ArithmeticForms$Decimal" y_De_compareSize y_De_compareSize ∈ wA := mA 257 (by decide +kernel) (by decide +kernel)
theorem k258 : Cond.code y_De_compareSize c_De_compareSize 3 (some .int) ∈ wA := mA 258 (by decide +kernel) (by decide +kernel)
theorem k259 : Cond.methodLink "ArithmeticForms$Decimal" 73 y_In_compare ∈ wA := mA 259 (by decide +kernel) (by decide +kernel)
theorem k260 : Cond.static y_In_compare ∈ wA := mA 260 (by decide +kernel) (by decide +kernel)
theorem k261 : Cond.code y_In_compare c_In_compare 2 (some .int) ∈ wA := mA 261 (by decide +kernel) (by decide +kernel)
theorem k262 : Cond.methodLink "ArithmeticForms$Decimal" 78 y_Lo_compare ∈ wA := mA 262 (by decide +kernel) (by decide +kernel)
theorem k263 : Cond.static y_Lo_compare ∈ wA := mA 263 (by decide +kernel) (by decide +kernel)
theorem k264 : Cond.code y_Lo_compare c_Lo_compare 4 (some .int) ∈ wA := mA 264 (by decide +kernel) (by decide +kernel)
theorem k265 : Cond.methodLink "ArithmeticForms$Calculator" 50 y_Ca_place ∈ wA := mA 265 (by decide +kernel) (by decide +kernel)
theorem k267 : Cond.instanceMethod y_Ca_place ∈ wA := mA 267 (by decide +kernel) (by decide +kernel)
theorem k268 : Cond.code y_Ca_place c_Ca_place 10 none ∈ wA := mA 268 (by decide +kernel) (by decide +kernel)
theorem k269 : Cond.methodLink "ArithmeticForms" 149 y_Ca_multiply ∈ wA := mA 269 (by decide +kernel) (by decide +kernel)
theorem k270 : Cond.methodLink "ArithmeticForms" 152 y_Ca_divide ∈ wA := mA 270 (by decide +kernel) (by decide +kernel)
theorem k271 : Cond.methodLink "ArithmeticFormsLaw" 39 y_AF_receiver ∈ wA := mA 271 (by decide +kernel) (by decide +kernel)
theorem k272 : Cond.instanceMethod y_AF_receiver ∈ wA := mA 272 (by decide +kernel) (by decide +kernel)
theorem k273 : Cond.selects "ArithmeticForms" y_AF_receiver y_AF_receiver ∈ wA := mA 273 (by decide +kernel) (by decide +kernel)
theorem k274 : Cond.code y_AF_receiver c_AF_receiver 4 (some .int) ∈ wA := mA 274 (by decide +kernel) (by decide +kernel)
theorem k275 : Cond.instantiable "ArithmeticForms$Receiver" (6 : Nat) ∈ wA := mA 275 (by decide +kernel) (by decide +kernel)
theorem k276 : Cond.methodLink "ArithmeticForms" 79 y_Re_init ∈ wA := mA 276 (by decide +kernel) (by decide +kernel)
theorem k277 : Cond.instanceMethod y_Re_init ∈ wA := mA 277 (by decide +kernel) (by decide +kernel)
theorem k278 : Cond.code y_Re_init c_Re_init 4 none ∈ wA := mA 278 (by decide +kernel) (by decide +kernel)
theorem k279 : Cond.methodLink "ArithmeticForms$Receiver" 1 y_Ob_init ∈ wA := mA 279 (by decide +kernel) (by decide +kernel)
theorem k280 : Cond.fieldLink "ArithmeticForms$Receiver" (13 : Nat) "ArithmeticForms$Receiver" "scale" "I" ∈ wA := mA 280 (by decide +kernel) (by decide +kernel)
theorem k281 : Cond.fieldLink "ArithmeticForms" (155 : Nat) "ArithmeticForms$Receiver" "scale" "I" ∈ wA := mA 281 (by decide +kernel) (by decide +kernel)
theorem k282 : Cond.fieldLink "ArithmeticForms$Receiver" (7 : Nat) "ArithmeticForms$Receiver" "digits" "I" ∈ wA := mA 282 (by decide +kernel) (by decide +kernel)
theorem k283 : Cond.fieldLink "ArithmeticForms$Receiver" (16 : Nat) "ArithmeticForms$Receiver" "rounding" "I" ∈ wA := mA 283 (by decide +kernel) (by decide +kernel)
theorem k284 : Cond.fieldLink "ArithmeticForms" (93 : Nat) "ArithmeticForms$Receiver" "held" "J" ∈ wA := mA 284 (by decide +kernel) (by decide +kernel)
theorem k285 : Cond.fieldLink "ArithmeticForms" (105 : Nat) "ArithmeticForms$Receiver" "remainder" "J" ∈ wA := mA 285 (by decide +kernel) (by decide +kernel)
theorem k286 : Cond.fieldLink "ArithmeticForms" (101 : Nat) "ArithmeticForms$Receiver" "failed" "Z" ∈ wA := mA 286 (by decide +kernel) (by decide +kernel)
theorem k299t : Cond.superclass "ArithmeticForms$Receiver" "java/lang/Object" ∈ lw_tbl := List.mem_append_right _ (List.mem_of_getElem? (i := 299) (by decide +kernel))
theorem k300 : Cond.methodLink "ArithmeticFormsLaw" 43 y_AF_run ∈ wA := mA 300 (by decide +kernel) (by decide +kernel)
theorem k301 : Cond.instanceMethod y_AF_run ∈ wA := mA 301 (by decide +kernel) (by decide +kernel)
theorem k302 : Cond.selects "ArithmeticForms" y_AF_run y_AF_run ∈ wA := mA 302 (by decide +kernel) (by decide +kernel)
theorem k303 : Cond.code y_AF_run c_AF_run 8 (some .int) ∈ wA := mA 303 (by decide +kernel) (by decide +kernel)
theorem k304 : Cond.methodLink "ArithmeticForms" 85 y_AF_receiverAt ∈ wA := mA 304 (by decide +kernel) (by decide +kernel)
theorem k306 : Cond.instanceMethod y_AF_receiverAt ∈ wA := mA 306 (by decide +kernel) (by decide +kernel)
theorem k307 : Cond.code y_AF_receiverAt c_AF_receiverAt 2 (some (.object "ArithmeticForms$Receiver")) ∈ wA := mA 307 (by decide +kernel) (by decide +kernel)
theorem k308 : Cond.methodLink "ArithmeticForms" 89 y_AF_give ∈ wA := mA 308 (by decide +kernel) (by decide +kernel)
theorem k310 : Cond.instanceMethod y_AF_give ∈ wA := mA 310 (by decide +kernel) (by decide +kernel)
theorem k311 : Cond.code y_AF_give c_AF_give 7 (some .boolean) ∈ wA := mA 311 (by decide +kernel) (by decide +kernel)
theorem k312 : Cond.methodLink "ArithmeticForms" 158 y_Re_refuses ∈ wA := mA 312 (by decide +kernel) (by decide +kernel)
theorem k313 : Cond.instanceMethod y_Re_refuses ∈ wA := mA 313 (by decide +kernel) (by decide +kernel)
theorem k314 : Cond.selects "ArithmeticForms$Receiver" y_Re_refuses y_Re_refuses ∈ wA := mA 314 (by decide +kernel) (by decide +kernel)
theorem k315 : Cond.code y_Re_refuses c_Re_refuses 2 (some .boolean) ∈ wA := mA 315 (by decide +kernel) (by decide +kernel)
theorem k316 : Cond.methodLink "ArithmeticForms$Receiver" 19 y_Re_isExact ∈ wA := mA 316 (by decide +kernel) (by decide +kernel)
theorem k318 : Cond.instanceMethod y_Re_isExact ∈ wA := mA 318 (by decide +kernel) (by decide +kernel)
theorem k319 : Cond.code y_Re_isExact c_Re_isExact 2 (some .boolean) ∈ wA := mA 319 (by decide +kernel) (by decide +kernel)
theorem k320 : Cond.methodLink "ArithmeticForms$Receiver" 23 y_De_wholeDigits ∈ wA := mA 320 (by decide +kernel) (by decide +kernel)
theorem k321 : Cond.methodLink "ArithmeticForms" 162 y_Re_fits ∈ wA := mA 321 (by decide +kernel) (by decide +kernel)
theorem k322 : Cond.instanceMethod y_Re_fits ∈ wA := mA 322 (by decide +kernel) (by decide +kernel)
theorem k323 : Cond.selects "ArithmeticForms$Receiver" y_Re_fits y_Re_fits ∈ wA := mA 323 (by decide +kernel) (by decide +kernel)
theorem k324 : Cond.code y_Re_fits c_Re_fits 2 (some .boolean) ∈ wA := mA 324 (by decide +kernel) (by decide +kernel)
theorem k325 : Cond.methodLink "ArithmeticForms$Receiver" 29 y_Re_roundedSize ∈ wA := mA 325 (by decide +kernel) (by decide +kernel)
theorem k326 : Cond.instanceMethod y_Re_roundedSize ∈ wA := mA 326 (by decide +kernel) (by decide +kernel)
theorem k327 : Cond.selects "ArithmeticForms$Receiver" y_Re_roundedSize y_Re_roundedSize ∈ wA := mA 327 (by decide +kernel) (by decide +kernel)
theorem k328 : Cond.code y_Re_roundedSize c_Re_roundedSize 2 (some .long) ∈ wA := mA 328 (by decide +kernel) (by decide +kernel)
theorem k329 : Cond.methodLink "ArithmeticForms$Receiver" 39 y_De_lowestWhole ∈ wA := mA 329 (by decide +kernel) (by decide +kernel)
theorem k330 : Cond.methodLink "ArithmeticForms$Receiver" 42 y_Re_goesUp ∈ wA := mA 330 (by decide +kernel) (by decide +kernel)
theorem k332 : Cond.instanceMethod y_Re_goesUp ∈ wA := mA 332 (by decide +kernel) (by decide +kernel)
theorem k333 : Cond.code y_Re_goesUp c_Re_goesUp 2 (some .boolean) ∈ wA := mA 333 (by decide +kernel) (by decide +kernel)
theorem k334 : Cond.methodLink "ArithmeticForms$Receiver" 48 y_Re_compareToHalf ∈ wA := mA 334 (by decide +kernel) (by decide +kernel)
theorem k336 : Cond.instanceMethod y_Re_compareToHalf ∈ wA := mA 336 (by decide +kernel) (by decide +kernel)
theorem k337 : Cond.code y_Re_compareToHalf c_Re_compareToHalf 4 (some .int) ∈ wA := mA 337 (by decide +kernel) (by decide +kernel)
theorem k338 : Cond.methodLink "ArithmeticForms$Receiver" 58 y_De_digit ∈ wA := mA 338 (by decide +kernel) (by decide +kernel)
theorem k339 : Cond.methodLink "ArithmeticForms$Receiver" 61 y_In_compare ∈ wA := mA 339 (by decide +kernel) (by decide +kernel)
theorem k340 : Cond.methodLink "ArithmeticForms$Receiver" 52 y_Re_endsOdd ∈ wA := mA 340 (by decide +kernel) (by decide +kernel)
theorem k342 : Cond.instanceMethod y_Re_endsOdd ∈ wA := mA 342 (by decide +kernel) (by decide +kernel)
theorem k343 : Cond.code y_Re_endsOdd c_Re_endsOdd 2 (some .boolean) ∈ wA := mA 343 (by decide +kernel) (by decide +kernel)
theorem k344t : Cond.methodLinkNest "ArithmeticForms$Receiver" 33 y_AF_ten "ArithmeticForms" ∈ lw_tbl := List.mem_append_right _ (List.mem_of_getElem? (i := 344) (by decide +kernel))
theorem k345 : Cond.methodLink "ArithmeticForms" 165 y_Re_roundedSize ∈ wA := mA 345 (by decide +kernel) (by decide +kernel)
theorem k346 : Cond.methodLink "ArithmeticForms" 97 y_Re_lowestDigits ∈ wA := mA 346 (by decide +kernel) (by decide +kernel)
theorem k347 : Cond.instanceMethod y_Re_lowestDigits ∈ wA := mA 347 (by decide +kernel) (by decide +kernel)
theorem k348 : Cond.selects "ArithmeticForms$Receiver" y_Re_lowestDigits y_Re_lowestDigits ∈ wA := mA 348 (by decide +kernel) (by decide +kernel)
theorem k349 : Cond.code y_Re_lowestDigits c_Re_lowestDigits 3 (some .long) ∈ wA := mA 349 (by decide +kernel) (by decide +kernel)
theorem k350 : Cond.methodLink "ArithmeticForms" 169 y_AF_restOf ∈ wA := mA 350 (by decide +kernel) (by decide +kernel)
theorem k352 : Cond.instanceMethod y_AF_restOf ∈ wA := mA 352 (by decide +kernel) (by decide +kernel)
theorem k353 : Cond.code y_AF_restOf c_AF_restOf 3 (some .long) ∈ wA := mA 353 (by decide +kernel) (by decide +kernel)
theorem k354 : Cond.methodLink "ArithmeticForms" 173 y_De_wholeDigits ∈ wA := mA 354 (by decide +kernel) (by decide +kernel)
theorem k355 : Cond.methodLink "ArithmeticForms" 176 y_De_lowestWhole ∈ wA := mA 355 (by decide +kernel) (by decide +kernel)
theorem k356 : Cond.methodLink "ArithmeticFormsLaw" 48 y_AF_stored ∈ wA := mA 356 (by decide +kernel) (by decide +kernel)
theorem k357 : Cond.instanceMethod y_AF_stored ∈ wA := mA 357 (by decide +kernel) (by decide +kernel)
theorem k358 : Cond.selects "ArithmeticForms" y_AF_stored y_AF_stored ∈ wA := mA 358 (by decide +kernel) (by decide +kernel)
theorem k359 : Cond.code y_AF_stored c_AF_stored 3 (some .long) ∈ wA := mA 359 (by decide +kernel) (by decide +kernel)
theorem k360 : Cond.methodLink "ArithmeticFormsLaw" 53 y_AF_set ∈ wA := mA 360 (by decide +kernel) (by decide +kernel)
theorem k361 : Cond.instanceMethod y_AF_set ∈ wA := mA 361 (by decide +kernel) (by decide +kernel)
theorem k362 : Cond.selects "ArithmeticForms" y_AF_set y_AF_set ∈ wA := mA 362 (by decide +kernel) (by decide +kernel)
theorem k363 : Cond.code y_AF_set c_AF_set 5 (some .int) ∈ wA := mA 363 (by decide +kernel) (by decide +kernel)
theorem k364 : Cond.methodLink "ArithmeticFormsLaw" 58 y_AF_error ∈ wA := mA 364 (by decide +kernel) (by decide +kernel)
theorem k365 : Cond.instanceMethod y_AF_error ∈ wA := mA 365 (by decide +kernel) (by decide +kernel)
theorem k366 : Cond.selects "ArithmeticForms" y_AF_error y_AF_error ∈ wA := mA 366 (by decide +kernel) (by decide +kernel)
theorem k367 : Cond.code y_AF_error c_AF_error 3 (some .boolean) ∈ wA := mA 367 (by decide +kernel) (by decide +kernel)
theorem k368 : Cond.methodLink "ArithmeticFormsLaw" 63 y_AF_rest ∈ wA := mA 368 (by decide +kernel) (by decide +kernel)
theorem k369 : Cond.instanceMethod y_AF_rest ∈ wA := mA 369 (by decide +kernel) (by decide +kernel)
theorem k370 : Cond.selects "ArithmeticForms" y_AF_rest y_AF_rest ∈ wA := mA 370 (by decide +kernel) (by decide +kernel)
theorem k371 : Cond.code y_AF_rest c_AF_rest 3 (some .long) ∈ wA := mA 371 (by decide +kernel) (by decide +kernel)
theorem k372 : Cond.methodLink "ArithmeticFormsLaw" 75 y_AF_raises ∈ wA := mA 372 (by decide +kernel) (by decide +kernel)
theorem k373 : Cond.instanceMethod y_AF_raises ∈ wA := mA 373 (by decide +kernel) (by decide +kernel)
theorem k374 : Cond.selects "ArithmeticForms" y_AF_raises y_AF_raises ∈ wA := mA 374 (by decide +kernel) (by decide +kernel)
theorem k375 : Cond.code y_AF_raises c_AF_raises 3 (some .int) ∈ wA := mA 375 (by decide +kernel) (by decide +kernel)
theorem k376 : Cond.methodLink "ArithmeticFormsLaw" 80 y_AF_raised ∈ wA := mA 376 (by decide +kernel) (by decide +kernel)
theorem k377 : Cond.instanceMethod y_AF_raised ∈ wA := mA 377 (by decide +kernel) (by decide +kernel)
theorem k378 : Cond.selects "ArithmeticForms" y_AF_raised y_AF_raised ∈ wA := mA 378 (by decide +kernel) (by decide +kernel)
theorem k379 : Cond.code y_AF_raised c_AF_raised 1 (some .int) ∈ wA := mA 379 (by decide +kernel) (by decide +kernel)
theorem k380 : Cond.methodLink "ArithmeticFormsLaw" 15 y_Lw_cell ∈ wA := mA 380 (by decide +kernel) (by decide +kernel)
theorem k381 : Cond.static y_Lw_cell ∈ wA := mA 381 (by decide +kernel) (by decide +kernel)
theorem k382 : Cond.code y_Lw_cell c_Lw_cell 2 (some .int) ∈ wA := mA 382 (by decide +kernel) (by decide +kernel)
theorem k383 : Cond.methodLink "ArithmeticFormsLaw" 67 y_Lw_exact ∈ wA := mA 383 (by decide +kernel) (by decide +kernel)
theorem k384 : Cond.static y_Lw_exact ∈ wA := mA 384 (by decide +kernel) (by decide +kernel)
theorem k385 : Cond.codeWith ({ cls := "ArithmeticFormsLaw", name := "exact", desc := "(LArithmeticForms;II[J)I" } : Jvm.MethodName) method_3_code (5 : Nat) (Option.some Jvm.ClassFile.FieldType.int) [((0 : Nat), (9 : Nat), (12 : Nat), (13 : Nat))] ∈ wA := mA 385 (by decide +kernel) (by decide +kernel)
theorem k386 : Cond.classLink "ArithmeticFormsLaw" (13 : Nat) "java/lang/ArithmeticException" ∈ wA := mA 386 (by decide +kernel) (by decide +kernel)
theorem k387 : Cond.methodLink "ArithmeticFormsLaw" 7 y_AF_exact ∈ wA := mA 387 (by decide +kernel) (by decide +kernel)
theorem k388 : Cond.instanceMethod y_AF_exact ∈ wA := mA 388 (by decide +kernel) (by decide +kernel)
theorem k389 : Cond.selects "ArithmeticForms" y_AF_exact y_AF_exact ∈ wA := mA 389 (by decide +kernel) (by decide +kernel)
theorem k390 : Cond.code y_AF_exact c_AF_exact 5 (some .long) ∈ wA := mA 390 (by decide +kernel) (by decide +kernel)
theorem k391 : Cond.constantLong "ArithmeticForms" (108 : Nat) (-1 : Int64) ∈ wA := mA 391 (by decide +kernel) (by decide +kernel)
theorem k392 : Cond.classLink "ArithmeticForms" (113 : Nat) "java/lang/ArithmeticException" ∈ wA := mA 392 (by decide +kernel) (by decide +kernel)
theorem k393 : Cond.instantiable "java/lang/ArithmeticException" (6 : Nat) ∈ wA := mA 393 (by decide +kernel) (by decide +kernel)
theorem k394t : Cond.castable "java/lang/ArithmeticException" "java/lang/ArithmeticException" ∈ lw_tbl := List.mem_append_right _ (List.mem_of_getElem? (i := 394) (by decide +kernel))
theorem k395t : Cond.declares ({ cls := "java/lang/RuntimeException", name := "<init>", desc := "()V" } : Jvm.MethodName) ∈ lw_tbl := List.mem_append_right _ (List.mem_of_getElem? (i := 395) (by decide +kernel))
theorem k396t : Cond.declares ({ cls := "java/lang/RuntimeException", name := "<init>", desc := "(Ljava/lang/String;)V" } : Jvm.MethodName) ∈ lw_tbl := List.mem_append_right _ (List.mem_of_getElem? (i := 396) (by decide +kernel))
theorem k397t : Cond.declares ({ cls := "java/lang/Exception", name := "<init>", desc := "()V" } : Jvm.MethodName) ∈ lw_tbl := List.mem_append_right _ (List.mem_of_getElem? (i := 397) (by decide +kernel))
theorem k398t : Cond.declares ({ cls := "java/lang/Exception", name := "<init>", desc := "(Ljava/lang/String;)V" } : Jvm.MethodName) ∈ lw_tbl := List.mem_append_right _ (List.mem_of_getElem? (i := 398) (by decide +kernel))
theorem k399t : Cond.declares ({ cls := "java/lang/Throwable", name := "<init>", desc := "()V" } : Jvm.MethodName) ∈ lw_tbl := List.mem_append_right _ (List.mem_of_getElem? (i := 399) (by decide +kernel))
theorem k400t : Cond.declares ({ cls := "java/lang/Throwable", name := "<init>", desc := "(Ljava/lang/String;)V" } : Jvm.MethodName) ∈ lw_tbl := List.mem_append_right _ (List.mem_of_getElem? (i := 400) (by decide +kernel))
theorem k401 : Cond.selects "java/lang/ArithmeticException" y_Th_fillInStackTrace y_Th_fillInStackTrace ∈ wA := mA 401 (by decide +kernel) (by decide +kernel)
theorem k402 : Cond.selects "java/lang/ArithmeticException" y_Th_fillInStackTrace2 y_Th_fillInStackTrace2 ∈ wA := mA 402 (by decide +kernel) (by decide +kernel)
theorem k413 : Cond.fieldLink "java/lang/Throwable" (198 : Nat) "java/lang/Throwable" "backtrace" "Ljava/lang/Object;" ∈ wA := mA 413 (by decide +kernel) (by decide +kernel)
theorem k414t : Cond.superclass "java/lang/Throwable" "java/lang/Object" ∈ lw_tbl := List.mem_append_right _ (List.mem_of_getElem? (i := 414) (by decide +kernel))
theorem k415 : Cond.instanceMethod y_Th_init ∈ wA := mA 415 (by decide +kernel) (by decide +kernel)
theorem k416 : Cond.code y_Th_init c_Th_init 1 none ∈ wA := mA 416 (by decide +kernel) (by decide +kernel)
theorem k417 : Cond.methodLink "java/lang/Throwable" 1 y_Ob_init ∈ wA := mA 417 (by decide +kernel) (by decide +kernel)
theorem k418 : Cond.fieldLink "java/lang/Throwable" (13 : Nat) "java/lang/Throwable" "UNASSIGNED_STACK" "[Ljava/lang/StackTraceElement;" ∈ wA := mA 418 (by decide +kernel) (by decide +kernel)
theorem k419t : Cond.laysStatic "java/lang/Throwable" "UNASSIGNED_STACK" "[Ljava/lang/StackTraceElement;" ∈ lw_tbl := List.mem_append_right _ (List.mem_of_getElem? (i := 419) (by decide +kernel))
theorem k420 : Cond.fieldLink "java/lang/Throwable" (20 : Nat) "java/lang/Throwable" "SUPPRESSED_SENTINEL" "Ljava/util/List;" ∈ wA := mA 420 (by decide +kernel) (by decide +kernel)
theorem k421t : Cond.laysStatic "java/lang/Throwable" "SUPPRESSED_SENTINEL" "Ljava/util/List;" ∈ lw_tbl := List.mem_append_right _ (List.mem_of_getElem? (i := 421) (by decide +kernel))
theorem k422 : Cond.methodLink "java/lang/Throwable" 27 y_Th_fillInStackTrace2 ∈ wA := mA 422 (by decide +kernel) (by decide +kernel)
theorem k423 : Cond.instanceMethod y_Th_fillInStackTrace2 ∈ wA := mA 423 (by decide +kernel) (by decide +kernel)
theorem k424 : Cond.sameMethod "java/lang/Throwable" "java/lang/Throwable" "fillInStackTrace" "()Ljava/lang/Throwable;" ∈ wA := mA 424 (by decide +kernel) (by decide +kernel)
theorem k425 : Cond.codeSync ({ cls := "java/lang/Throwable", name := "fillInStackTrace", desc := "()Ljava/lang/Throwable;" } : Jvm.MethodName) prog_15_method_18_code (1 : Nat) (Option.some (Jvm.ClassFile.FieldType.object "java/lang/Throwable")) ∈ wA := mA 425 (by decide +kernel) (by decide +kernel)
theorem k426 : Cond.methodLink "java/lang/Throwable" 202 y_Th_fillInStackTrace ∈ wA := mA 426 (by decide +kernel) (by decide +kernel)
theorem k428 : Cond.instanceMethod y_Th_fillInStackTrace ∈ wA := mA 428 (by decide +kernel) (by decide +kernel)
theorem k429 : Cond.instantiable "java/lang/Throwable" (6 : Nat) ∈ wA := mA 429 (by decide +kernel) (by decide +kernel)
theorem k430t : Cond.native y_Th_fillInStackTrace ∈ lw_tbl := List.mem_append_right _ (List.mem_of_getElem? (i := 430) (by decide +kernel))
theorem k431t : Cond.stringRef "ArithmeticForms" (115 : Nat) "the node's value is raised" ∈ lw_tbl := List.mem_append_right _ (List.mem_of_getElem? (i := 431) (by decide +kernel))
theorem k432 : Cond.methodLink "ArithmeticForms" 117 y_AE_init ∈ wA := mA 432 (by decide +kernel) (by decide +kernel)
theorem k433 : Cond.instanceMethod y_AE_init ∈ wA := mA 433 (by decide +kernel) (by decide +kernel)
theorem k434 : Cond.code y_AE_init c_AE_init 2 none ∈ wA := mA 434 (by decide +kernel) (by decide +kernel)
theorem k435 : Cond.methodLink "java/lang/ArithmeticException" 7 y_RE_init ∈ wA := mA 435 (by decide +kernel) (by decide +kernel)
theorem k436 : Cond.instanceMethod y_RE_init ∈ wA := mA 436 (by decide +kernel) (by decide +kernel)
theorem k437 : Cond.code y_RE_init c_RE_init 2 none ∈ wA := mA 437 (by decide +kernel) (by decide +kernel)
theorem k438 : Cond.methodLink "java/lang/RuntimeException" 7 y_Ex_init ∈ wA := mA 438 (by decide +kernel) (by decide +kernel)
theorem k439 : Cond.instanceMethod y_Ex_init ∈ wA := mA 439 (by decide +kernel) (by decide +kernel)
theorem k440 : Cond.code y_Ex_init c_Ex_init 2 none ∈ wA := mA 440 (by decide +kernel) (by decide +kernel)
theorem k441 : Cond.methodLink "java/lang/Exception" 7 y_Th_init2 ∈ wA := mA 441 (by decide +kernel) (by decide +kernel)
theorem k442 : Cond.instanceMethod y_Th_init2 ∈ wA := mA 442 (by decide +kernel) (by decide +kernel)
theorem k443 : Cond.code y_Th_init2 c_Th_init2 2 none ∈ wA := mA 443 (by decide +kernel) (by decide +kernel)
theorem k444 : Cond.fieldLink "java/lang/Throwable" (198 : Nat) "java/lang/Throwable" "backtrace" "Ljava/lang/Object;" ∈ wA := mA 444 (by decide +kernel) (by decide +kernel)
theorem k445 : Cond.fieldLink "java/lang/Throwable" (31 : Nat) "java/lang/Throwable" "detailMessage" "Ljava/lang/String;" ∈ wA := mA 445 (by decide +kernel) (by decide +kernel)
theorem k446 : Cond.fieldLink "java/lang/Throwable" (7 : Nat) "java/lang/Throwable" "cause" "Ljava/lang/Throwable;" ∈ wA := mA 446 (by decide +kernel) (by decide +kernel)
theorem k447 : Cond.fieldLink "java/lang/Throwable" (17 : Nat) "java/lang/Throwable" "stackTrace" "[Ljava/lang/StackTraceElement;" ∈ wA := mA 447 (by decide +kernel) (by decide +kernel)
theorem k448 : Cond.fieldLink "java/lang/Throwable" (24 : Nat) "java/lang/Throwable" "suppressedExceptions" "Ljava/util/List;" ∈ wA := mA 448 (by decide +kernel) (by decide +kernel)
theorem k456t : Cond.superclass "java/lang/ArithmeticException" "java/lang/RuntimeException" ∈ lw_tbl := List.mem_append_right _ (List.mem_of_getElem? (i := 456) (by decide +kernel))
theorem k457 : Cond.arrayClass Jvm.ClassFile.FieldType.byte ∈ wA := mA 457 (by decide +kernel) (by decide +kernel)
theorem k458 : Cond.methodLink "ArithmeticForms" 126 y_De_exponent ∈ wA := mA 458 (by decide +kernel) (by decide +kernel)
theorem k459 : Cond.methodLink "ArithmeticForms" 130 y_De_digit ∈ wA := mA 459 (by decide +kernel) (by decide +kernel)
theorem k460 : Cond.classLink "ArithmeticFormsLaw" (24 : Nat) "ArithmeticFormsModel" ∈ wA := mA 460 (by decide +kernel) (by decide +kernel)
theorem k461 : Cond.instantiable "ArithmeticFormsModel" (23 : Nat) ∈ wA := mA 461 (by decide +kernel) (by decide +kernel)
theorem k462 : Cond.methodLink "ArithmeticFormsLaw" 26 y_Mo_init ∈ wA := mA 462 (by decide +kernel) (by decide +kernel)
theorem k463 : Cond.instanceMethod y_Mo_init ∈ wA := mA 463 (by decide +kernel) (by decide +kernel)
theorem k464 : Cond.code y_Mo_init c_Mo_init 2 none ∈ wA := mA 464 (by decide +kernel) (by decide +kernel)
theorem k465 : Cond.methodLink "ArithmeticFormsModel" 1 y_Ob_init ∈ wA := mA 465 (by decide +kernel) (by decide +kernel)
theorem k466 : Cond.fieldLink "ArithmeticFormsModel" (64 : Nat) "ArithmeticFormsModel" "code" "I" ∈ wA := mA 466 (by decide +kernel) (by decide +kernel)
theorem k467 : Cond.fieldLink "ArithmeticFormsModel" (60 : Nat) "ArithmeticFormsModel" "precision" "I" ∈ wA := mA 467 (by decide +kernel) (by decide +kernel)
theorem k468 : Cond.fieldLink "ArithmeticFormsModel" (7 : Nat) "ArithmeticFormsModel" "digits" "[I" ∈ wA := mA 468 (by decide +kernel) (by decide +kernel)
theorem k469 : Cond.fieldLink "ArithmeticFormsModel" (13 : Nat) "ArithmeticFormsModel" "sizes" "[I" ∈ wA := mA 469 (by decide +kernel) (by decide +kernel)
theorem k470 : Cond.fieldLink "ArithmeticFormsModel" (16 : Nat) "ArithmeticFormsModel" "exponents" "[I" ∈ wA := mA 470 (by decide +kernel) (by decide +kernel)
theorem k471 : Cond.fieldLink "ArithmeticFormsModel" (19 : Nat) "ArithmeticFormsModel" "signs" "[I" ∈ wA := mA 471 (by decide +kernel) (by decide +kernel)
theorem k472 : Cond.fieldLink "ArithmeticFormsModel" (22 : Nat) "ArithmeticFormsModel" "rest" "[I" ∈ wA := mA 472 (by decide +kernel) (by decide +kernel)
theorem k473 : Cond.fieldLink "ArithmeticFormsModel" (25 : Nat) "ArithmeticFormsModel" "coefficients" "[I" ∈ wA := mA 473 (by decide +kernel) (by decide +kernel)
theorem k474 : Cond.fieldLink "ArithmeticFormsModel" (28 : Nat) "ArithmeticFormsModel" "nodeSizes" "[I" ∈ wA := mA 474 (by decide +kernel) (by decide +kernel)
theorem k475 : Cond.fieldLink "ArithmeticFormsModel" (31 : Nat) "ArithmeticFormsModel" "nodeExponents" "[I" ∈ wA := mA 475 (by decide +kernel) (by decide +kernel)
theorem k476 : Cond.fieldLink "ArithmeticFormsModel" (34 : Nat) "ArithmeticFormsModel" "nodeSigns" "[I" ∈ wA := mA 476 (by decide +kernel) (by decide +kernel)
theorem k477 : Cond.fieldLink "ArithmeticFormsModel" (37 : Nat) "ArithmeticFormsModel" "raises" "[I" ∈ wA := mA 477 (by decide +kernel) (by decide +kernel)
theorem k478 : Cond.fieldLink "ArithmeticFormsModel" (116 : Nat) "ArithmeticFormsModel" "nodes" "I" ∈ wA := mA 478 (by decide +kernel) (by decide +kernel)
theorem k479 : Cond.fieldLink "ArithmeticFormsModel" (140 : Nat) "ArithmeticFormsModel" "receivers" "I" ∈ wA := mA 479 (by decide +kernel) (by decide +kernel)
theorem k480 : Cond.fieldLink "ArithmeticFormsModel" (169 : Nat) "ArithmeticFormsModel" "latest" "I" ∈ wA := mA 480 (by decide +kernel) (by decide +kernel)
theorem k481 : Cond.fieldLink "ArithmeticFormsModel" (40 : Nat) "ArithmeticFormsModel" "most" "[I" ∈ wA := mA 481 (by decide +kernel) (by decide +kernel)
theorem k482 : Cond.fieldLink "ArithmeticFormsModel" (43 : Nat) "ArithmeticFormsModel" "scales" "[I" ∈ wA := mA 482 (by decide +kernel) (by decide +kernel)
theorem k483 : Cond.fieldLink "ArithmeticFormsModel" (46 : Nat) "ArithmeticFormsModel" "roundings" "[I" ∈ wA := mA 483 (by decide +kernel) (by decide +kernel)
theorem k484 : Cond.fieldLink "ArithmeticFormsModel" (49 : Nat) "ArithmeticFormsModel" "holds" "[J" ∈ wA := mA 484 (by decide +kernel) (by decide +kernel)
theorem k485 : Cond.fieldLink "ArithmeticFormsModel" (53 : Nat) "ArithmeticFormsModel" "rests" "[J" ∈ wA := mA 485 (by decide +kernel) (by decide +kernel)
theorem k486 : Cond.fieldLink "ArithmeticFormsModel" (56 : Nat) "ArithmeticFormsModel" "errors" "[Z" ∈ wA := mA 486 (by decide +kernel) (by decide +kernel)
theorem k487 : Cond.fieldLink "ArithmeticFormsModel" (158 : Nat) "ArithmeticFormsModel" "rounded" "J" ∈ wA := mA 487 (by decide +kernel) (by decide +kernel)
theorem k488 : Cond.fieldLink "ArithmeticFormsModel" (154 : Nat) "ArithmeticFormsModel" "isLong" "Z" ∈ wA := mA 488 (by decide +kernel) (by decide +kernel)
theorem k535t : Cond.superclass "ArithmeticFormsModel" "java/lang/Object" ∈ lw_tbl := List.mem_append_right _ (List.mem_of_getElem? (i := 535) (by decide +kernel))
theorem k536 : Cond.arrayClass Jvm.ClassFile.FieldType.int ∈ wA := mA 536 (by decide +kernel) (by decide +kernel)
theorem k537 : Cond.arrayClass Jvm.ClassFile.FieldType.boolean ∈ wA := mA 537 (by decide +kernel) (by decide +kernel)
theorem k538 : Cond.methodLink "ArithmeticFormsLaw" 71 y_Mo_thrown ∈ wA := mA 538 (by decide +kernel) (by decide +kernel)
theorem k539 : Cond.instanceMethod y_Mo_thrown ∈ wA := mA 539 (by decide +kernel) (by decide +kernel)
theorem k540 : Cond.selects "ArithmeticFormsModel" y_Mo_thrown y_Mo_thrown ∈ wA := mA 540 (by decide +kernel) (by decide +kernel)
theorem k541 : Cond.code y_Mo_thrown c_Mo_thrown 1 (some .int) ∈ wA := mA 541 (by decide +kernel) (by decide +kernel)
theorem k542 : Cond.methodLink "ArithmeticFormsLaw" 33 y_Mo_value ∈ wA := mA 542 (by decide +kernel) (by decide +kernel)
theorem k543 : Cond.instanceMethod y_Mo_value ∈ wA := mA 543 (by decide +kernel) (by decide +kernel)
theorem k544 : Cond.selects "ArithmeticFormsModel" y_Mo_value y_Mo_value ∈ wA := mA 544 (by decide +kernel) (by decide +kernel)
theorem k545 : Cond.code y_Mo_value c_Mo_value 4 (some .int) ∈ wA := mA 545 (by decide +kernel) (by decide +kernel)
theorem k546 : Cond.methodLink "ArithmeticFormsModel" 106 y_Mo_whole ∈ wA := mA 546 (by decide +kernel) (by decide +kernel)
theorem k548 : Cond.instanceMethod y_Mo_whole ∈ wA := mA 548 (by decide +kernel) (by decide +kernel)
theorem k549 : Cond.code y_Mo_whole c_Mo_whole 9 none ∈ wA := mA 549 (by decide +kernel) (by decide +kernel)
theorem k550 : Cond.methodLink "ArithmeticFormsModel" 67 y_Mo_zero ∈ wA := mA 550 (by decide +kernel) (by decide +kernel)
theorem k552 : Cond.instanceMethod y_Mo_zero ∈ wA := mA 552 (by decide +kernel) (by decide +kernel)
theorem k553 : Cond.code y_Mo_zero c_Mo_zero 2 none ∈ wA := mA 553 (by decide +kernel) (by decide +kernel)
theorem k554 : Cond.constantLong "ArithmeticFormsModel" (71 : Nat) (10 : Int64) ∈ wA := mA 554 (by decide +kernel) (by decide +kernel)
theorem k555 : Cond.methodLink "ArithmeticFormsModel" 84 y_Mo_cut ∈ wA := mA 555 (by decide +kernel) (by decide +kernel)
theorem k557 : Cond.instanceMethod y_Mo_cut ∈ wA := mA 557 (by decide +kernel) (by decide +kernel)
theorem k558 : Cond.code y_Mo_cut c_Mo_cut 5 (some .int) ∈ wA := mA 558 (by decide +kernel) (by decide +kernel)
theorem k559 : Cond.methodLink "ArithmeticFormsModel" 73 y_Mo_drop ∈ wA := mA 559 (by decide +kernel) (by decide +kernel)
theorem k561 : Cond.instanceMethod y_Mo_drop ∈ wA := mA 561 (by decide +kernel) (by decide +kernel)
theorem k562 : Cond.code y_Mo_drop c_Mo_drop 4 none ∈ wA := mA 562 (by decide +kernel) (by decide +kernel)
theorem k563 : Cond.methodLink "ArithmeticFormsModel" 119 y_Mo_kept ∈ wA := mA 563 (by decide +kernel) (by decide +kernel)
theorem k565 : Cond.instanceMethod y_Mo_kept ∈ wA := mA 565 (by decide +kernel) (by decide +kernel)
theorem k566 : Cond.code y_Mo_kept c_Mo_kept 3 (some .int) ∈ wA := mA 566 (by decide +kernel) (by decide +kernel)
theorem k567 : Cond.methodLink "ArithmeticFormsLaw" 38 y_Mo_node ∈ wA := mA 567 (by decide +kernel) (by decide +kernel)
theorem k568 : Cond.instanceMethod y_Mo_node ∈ wA := mA 568 (by decide +kernel) (by decide +kernel)
theorem k569 : Cond.selects "ArithmeticFormsModel" y_Mo_node y_Mo_node ∈ wA := mA 569 (by decide +kernel) (by decide +kernel)
theorem k570 : Cond.code y_Mo_node c_Mo_node 4 (some .int) ∈ wA := mA 570 (by decide +kernel) (by decide +kernel)
theorem k571 : Cond.methodLink "ArithmeticFormsModel" 128 y_Mo_isNode ∈ wA := mA 571 (by decide +kernel) (by decide +kernel)
theorem k573 : Cond.instanceMethod y_Mo_isNode ∈ wA := mA 573 (by decide +kernel) (by decide +kernel)
theorem k574 : Cond.code y_Mo_isNode c_Mo_isNode 2 (some .boolean) ∈ wA := mA 574 (by decide +kernel) (by decide +kernel)
theorem k575 : Cond.methodLink "ArithmeticFormsModel" 132 y_Mo_load ∈ wA := mA 575 (by decide +kernel) (by decide +kernel)
theorem k577 : Cond.instanceMethod y_Mo_load ∈ wA := mA 577 (by decide +kernel) (by decide +kernel)
theorem k578 : Cond.code y_Mo_load c_Mo_load 4 none ∈ wA := mA 578 (by decide +kernel) (by decide +kernel)
theorem k579 : Cond.methodLink "ArithmeticFormsModel" 135 y_Mo_operated ∈ wA := mA 579 (by decide +kernel) (by decide +kernel)
theorem k581 : Cond.instanceMethod y_Mo_operated ∈ wA := mA 581 (by decide +kernel) (by decide +kernel)
theorem k582 : Cond.code y_Mo_operated c_Mo_operated 2 (some .int) ∈ wA := mA 582 (by decide +kernel) (by decide +kernel)
theorem k583 : Cond.methodLink "ArithmeticFormsModel" 122 y_Mo_add ∈ wA := mA 583 (by decide +kernel) (by decide +kernel)
theorem k585 : Cond.instanceMethod y_Mo_add ∈ wA := mA 585 (by decide +kernel) (by decide +kernel)
theorem k586 : Cond.code y_Mo_add c_Mo_add 10 (some .int) ∈ wA := mA 586 (by decide +kernel) (by decide +kernel)
theorem k587 : Cond.methodLink "ArithmeticFormsModel" 81 y_Mo_copy ∈ wA := mA 587 (by decide +kernel) (by decide +kernel)
theorem k589 : Cond.instanceMethod y_Mo_copy ∈ wA := mA 589 (by decide +kernel) (by decide +kernel)
theorem k590 : Cond.code y_Mo_copy c_Mo_copy 4 none ∈ wA := mA 590 (by decide +kernel) (by decide +kernel)
theorem k591 : Cond.methodLink "ArithmeticFormsModel" 87 y_Mo_topOf ∈ wA := mA 591 (by decide +kernel) (by decide +kernel)
theorem k593 : Cond.instanceMethod y_Mo_topOf ∈ wA := mA 593 (by decide +kernel) (by decide +kernel)
theorem k594 : Cond.code y_Mo_topOf c_Mo_topOf 2 (some .int) ∈ wA := mA 594 (by decide +kernel) (by decide +kernel)
theorem k595 : Cond.methodLink "ArithmeticFormsModel" 91 y_Mo_order ∈ wA := mA 595 (by decide +kernel) (by decide +kernel)
theorem k597 : Cond.instanceMethod y_Mo_order ∈ wA := mA 597 (by decide +kernel) (by decide +kernel)
theorem k598 : Cond.code y_Mo_order c_Mo_order 7 (some .int) ∈ wA := mA 598 (by decide +kernel) (by decide +kernel)
theorem k599 : Cond.methodLink "ArithmeticFormsModel" 77 y_Mo_digitAt ∈ wA := mA 599 (by decide +kernel) (by decide +kernel)
theorem k601 : Cond.instanceMethod y_Mo_digitAt ∈ wA := mA 601 (by decide +kernel) (by decide +kernel)
theorem k602 : Cond.code y_Mo_digitAt c_Mo_digitAt 4 (some .int) ∈ wA := mA 602 (by decide +kernel) (by decide +kernel)
theorem k603 : Cond.methodLink "ArithmeticFormsModel" 110 y_Mo_multiply ∈ wA := mA 603 (by decide +kernel) (by decide +kernel)
theorem k605 : Cond.instanceMethod y_Mo_multiply ∈ wA := mA 605 (by decide +kernel) (by decide +kernel)
theorem k606 : Cond.code y_Mo_multiply c_Mo_multiply 6 (some .int) ∈ wA := mA 606 (by decide +kernel) (by decide +kernel)
theorem k607 : Cond.methodLink "ArithmeticFormsModel" 113 y_Mo_divide ∈ wA := mA 607 (by decide +kernel) (by decide +kernel)
theorem k609 : Cond.instanceMethod y_Mo_divide ∈ wA := mA 609 (by decide +kernel) (by decide +kernel)
theorem k610 : Cond.code y_Mo_divide c_Mo_divide 5 (some .int) ∈ wA := mA 610 (by decide +kernel) (by decide +kernel)
theorem k611 : Cond.methodLink "ArithmeticFormsModel" 95 y_Mo_isEnough ∈ wA := mA 611 (by decide +kernel) (by decide +kernel)
theorem k613 : Cond.instanceMethod y_Mo_isEnough ∈ wA := mA 613 (by decide +kernel) (by decide +kernel)
theorem k614 : Cond.code y_Mo_isEnough c_Mo_isEnough 4 (some .boolean) ∈ wA := mA 614 (by decide +kernel) (by decide +kernel)
theorem k615 : Cond.methodLink "ArithmeticFormsModel" 99 y_Mo_lessen ∈ wA := mA 615 (by decide +kernel) (by decide +kernel)
theorem k617 : Cond.instanceMethod y_Mo_lessen ∈ wA := mA 617 (by decide +kernel) (by decide +kernel)
theorem k618 : Cond.code y_Mo_lessen c_Mo_lessen 4 none ∈ wA := mA 618 (by decide +kernel) (by decide +kernel)
theorem k619 : Cond.methodLink "ArithmeticFormsModel" 125 y_Mo_raise ∈ wA := mA 619 (by decide +kernel) (by decide +kernel)
theorem k621 : Cond.instanceMethod y_Mo_raise ∈ wA := mA 621 (by decide +kernel) (by decide +kernel)
theorem k622 : Cond.code y_Mo_raise c_Mo_raise 4 (some .int) ∈ wA := mA 622 (by decide +kernel) (by decide +kernel)
theorem k623 : Cond.methodLink "ArithmeticFormsModel" 102 y_Mo_power ∈ wA := mA 623 (by decide +kernel) (by decide +kernel)
theorem k625 : Cond.instanceMethod y_Mo_power ∈ wA := mA 625 (by decide +kernel) (by decide +kernel)
theorem k626 : Cond.code y_Mo_power c_Mo_power 1 (some .int) ∈ wA := mA 626 (by decide +kernel) (by decide +kernel)
theorem k627 : Cond.methodLink "ArithmeticFormsLaw" 79 y_Mo_raises ∈ wA := mA 627 (by decide +kernel) (by decide +kernel)
theorem k628 : Cond.instanceMethod y_Mo_raises ∈ wA := mA 628 (by decide +kernel) (by decide +kernel)
theorem k629 : Cond.selects "ArithmeticFormsModel" y_Mo_raises y_Mo_raises ∈ wA := mA 629 (by decide +kernel) (by decide +kernel)
theorem k630 : Cond.code y_Mo_raises c_Mo_raises 2 (some .int) ∈ wA := mA 630 (by decide +kernel) (by decide +kernel)
theorem k631 : Cond.methodLink "ArithmeticFormsLaw" 70 y_Mo_exact ∈ wA := mA 631 (by decide +kernel) (by decide +kernel)
theorem k632 : Cond.instanceMethod y_Mo_exact ∈ wA := mA 632 (by decide +kernel) (by decide +kernel)
theorem k633 : Cond.selects "ArithmeticFormsModel" y_Mo_exact y_Mo_exact ∈ wA := mA 633 (by decide +kernel) (by decide +kernel)
theorem k634 : Cond.code y_Mo_exact c_Mo_exact 4 (some .long) ∈ wA := mA 634 (by decide +kernel) (by decide +kernel)
theorem k635 : Cond.constantLong "ArithmeticFormsModel" (138 : Nat) (-1 : Int64) ∈ wA := mA 635 (by decide +kernel) (by decide +kernel)
theorem k636 : Cond.methodLink "ArithmeticFormsLaw" 42 y_Mo_receiver ∈ wA := mA 636 (by decide +kernel) (by decide +kernel)
theorem k637 : Cond.instanceMethod y_Mo_receiver ∈ wA := mA 637 (by decide +kernel) (by decide +kernel)
theorem k638 : Cond.selects "ArithmeticFormsModel" y_Mo_receiver y_Mo_receiver ∈ wA := mA 638 (by decide +kernel) (by decide +kernel)
theorem k639 : Cond.code y_Mo_receiver c_Mo_receiver 4 (some .int) ∈ wA := mA 639 (by decide +kernel) (by decide +kernel)
theorem k640 : Cond.methodLink "ArithmeticFormsLaw" 57 y_Mo_set ∈ wA := mA 640 (by decide +kernel) (by decide +kernel)
theorem k641 : Cond.instanceMethod y_Mo_set ∈ wA := mA 641 (by decide +kernel) (by decide +kernel)
theorem k642 : Cond.selects "ArithmeticFormsModel" y_Mo_set y_Mo_set ∈ wA := mA 642 (by decide +kernel) (by decide +kernel)
theorem k643 : Cond.code y_Mo_set c_Mo_set 4 (some .int) ∈ wA := mA 643 (by decide +kernel) (by decide +kernel)
theorem k644 : Cond.methodLink "ArithmeticFormsModel" 143 y_Mo_isReceiver ∈ wA := mA 644 (by decide +kernel) (by decide +kernel)
theorem k646 : Cond.instanceMethod y_Mo_isReceiver ∈ wA := mA 646 (by decide +kernel) (by decide +kernel)
theorem k647 : Cond.code y_Mo_isReceiver c_Mo_isReceiver 2 (some .boolean) ∈ wA := mA 647 (by decide +kernel) (by decide +kernel)
theorem k648 : Cond.methodLink "ArithmeticFormsModel" 146 y_Mo_ten ∈ wA := mA 648 (by decide +kernel) (by decide +kernel)
theorem k649 : Cond.static y_Mo_ten ∈ wA := mA 649 (by decide +kernel) (by decide +kernel)
theorem k650 : Cond.code y_Mo_ten c_Mo_ten 4 (some .long) ∈ wA := mA 650 (by decide +kernel) (by decide +kernel)
theorem k651 : Cond.methodLink "ArithmeticFormsLaw" 47 y_Mo_run ∈ wA := mA 651 (by decide +kernel) (by decide +kernel)
theorem k652 : Cond.instanceMethod y_Mo_run ∈ wA := mA 652 (by decide +kernel) (by decide +kernel)
theorem k653 : Cond.selects "ArithmeticFormsModel" y_Mo_run y_Mo_run ∈ wA := mA 653 (by decide +kernel) (by decide +kernel)
theorem k654 : Cond.code y_Mo_run c_Mo_run 6 (some .int) ∈ wA := mA 654 (by decide +kernel) (by decide +kernel)
theorem k655 : Cond.methodLink "ArithmeticFormsModel" 176 y_Mo_isStored ∈ wA := mA 655 (by decide +kernel) (by decide +kernel)
theorem k657 : Cond.instanceMethod y_Mo_isStored ∈ wA := mA 657 (by decide +kernel) (by decide +kernel)
theorem k658 : Cond.code y_Mo_isStored c_Mo_isStored 9 (some .boolean) ∈ wA := mA 658 (by decide +kernel) (by decide +kernel)
theorem k659 : Cond.methodLink "ArithmeticFormsModel" 166 y_Mo_given ∈ wA := mA 659 (by decide +kernel) (by decide +kernel)
theorem k661 : Cond.instanceMethod y_Mo_given ∈ wA := mA 661 (by decide +kernel) (by decide +kernel)
theorem k662 : Cond.code y_Mo_given c_Mo_given 4 (some .int) ∈ wA := mA 662 (by decide +kernel) (by decide +kernel)
theorem k663 : Cond.methodLink "ArithmeticFormsModel" 162 y_Mo_round ∈ wA := mA 663 (by decide +kernel) (by decide +kernel)
theorem k665 : Cond.instanceMethod y_Mo_round ∈ wA := mA 665 (by decide +kernel) (by decide +kernel)
theorem k666 : Cond.code y_Mo_round c_Mo_round 13 (some .int) ∈ wA := mA 666 (by decide +kernel) (by decide +kernel)
theorem k667 : Cond.methodLink "ArithmeticFormsModel" 150 y_Mo_goesUp ∈ wA := mA 667 (by decide +kernel) (by decide +kernel)
theorem k669 : Cond.instanceMethod y_Mo_goesUp ∈ wA := mA 669 (by decide +kernel) (by decide +kernel)
theorem k670 : Cond.code y_Mo_goesUp c_Mo_goesUp 8 (some .boolean) ∈ wA := mA 670 (by decide +kernel) (by decide +kernel)
theorem k671 : Cond.methodLink "ArithmeticFormsModel" 172 y_Mo_left ∈ wA := mA 671 (by decide +kernel) (by decide +kernel)
theorem k673 : Cond.instanceMethod y_Mo_left ∈ wA := mA 673 (by decide +kernel) (by decide +kernel)
theorem k674 : Cond.code y_Mo_left c_Mo_left 5 (some .long) ∈ wA := mA 674 (by decide +kernel) (by decide +kernel)
theorem k675 : Cond.methodLink "ArithmeticFormsLaw" 52 y_Mo_stored ∈ wA := mA 675 (by decide +kernel) (by decide +kernel)
theorem k676 : Cond.instanceMethod y_Mo_stored ∈ wA := mA 676 (by decide +kernel) (by decide +kernel)
theorem k677 : Cond.selects "ArithmeticFormsModel" y_Mo_stored y_Mo_stored ∈ wA := mA 677 (by decide +kernel) (by decide +kernel)
theorem k678 : Cond.code y_Mo_stored c_Mo_stored 2 (some .long) ∈ wA := mA 678 (by decide +kernel) (by decide +kernel)
theorem k679 : Cond.methodLink "ArithmeticFormsLaw" 62 y_Mo_error ∈ wA := mA 679 (by decide +kernel) (by decide +kernel)
theorem k680 : Cond.instanceMethod y_Mo_error ∈ wA := mA 680 (by decide +kernel) (by decide +kernel)
theorem k681 : Cond.selects "ArithmeticFormsModel" y_Mo_error y_Mo_error ∈ wA := mA 681 (by decide +kernel) (by decide +kernel)
theorem k682 : Cond.code y_Mo_error c_Mo_error 2 (some .boolean) ∈ wA := mA 682 (by decide +kernel) (by decide +kernel)
theorem k683 : Cond.methodLink "ArithmeticFormsLaw" 66 y_Mo_rest ∈ wA := mA 683 (by decide +kernel) (by decide +kernel)
theorem k684 : Cond.instanceMethod y_Mo_rest ∈ wA := mA 684 (by decide +kernel) (by decide +kernel)
theorem k685 : Cond.selects "ArithmeticFormsModel" y_Mo_rest y_Mo_rest ∈ wA := mA 685 (by decide +kernel) (by decide +kernel)
theorem k686 : Cond.code y_Mo_rest c_Mo_rest 2 (some .long) ∈ wA := mA 686 (by decide +kernel) (by decide +kernel)
theorem k687 : Cond.methodLink "ArithmeticFormsLaw" 83 y_Mo_raised ∈ wA := mA 687 (by decide +kernel) (by decide +kernel)
theorem k688 : Cond.instanceMethod y_Mo_raised ∈ wA := mA 688 (by decide +kernel) (by decide +kernel)
theorem k689 : Cond.selects "ArithmeticFormsModel" y_Mo_raised y_Mo_raised ∈ wA := mA 689 (by decide +kernel) (by decide +kernel)
theorem k690 : Cond.code y_Mo_raised c_Mo_raised 1 (some .int) ∈ wA := mA 690 (by decide +kernel) (by decide +kernel)
theorem k691 : Cond.constantLong "ArithmeticFormsLaw" (27 : Nat) (4294967295 : Int64) ∈ wA := mA 691 (by decide +kernel) (by decide +kernel)
theorem k692 : Cond.sameMethod "java/lang/Throwable" "java/lang/Throwable" "fillInStackTrace" "(I)Ljava/lang/Throwable;" ∈ wA := mA 692 (by decide +kernel) (by decide +kernel)
theorem ks0 : Cond.selects "ArithmeticForms" y_AF_keepNode y_AF_keepNode ∈ wA := mS 0 (by decide +kernel) (by decide +kernel)
theorem ks1 : Cond.selects "ArithmeticForms" y_AF_nodeAt y_AF_nodeAt ∈ wA := mS 1 (by decide +kernel) (by decide +kernel)
theorem ks2 : Cond.selects "ArithmeticForms" y_AF_operate y_AF_operate ∈ wA := mS 2 (by decide +kernel) (by decide +kernel)
theorem ks3 : Cond.selects "ArithmeticForms$Calculator" y_Ca_carry y_Ca_carry ∈ wA := mS 3 (by decide +kernel) (by decide +kernel)
theorem ks4 : Cond.selects "ArithmeticForms$Calculator" y_Ca_settle y_Ca_settle ∈ wA := mS 4 (by decide +kernel) (by decide +kernel)
theorem ks5 : Cond.selects "ArithmeticForms$Calculator" y_Ca_wideAt y_Ca_wideAt ∈ wA := mS 5 (by decide +kernel) (by decide +kernel)
theorem ks6 : Cond.selects "ArithmeticForms$Calculator" y_Ca_takeOut y_Ca_takeOut ∈ wA := mS 6 (by decide +kernel) (by decide +kernel)
theorem ks7 : Cond.selects "ArithmeticForms$Calculator" y_Ca_reaches y_Ca_reaches ∈ wA := mS 7 (by decide +kernel) (by decide +kernel)
theorem ks8 : Cond.selects "ArithmeticForms$Calculator" y_Ca_reduce y_Ca_reduce ∈ wA := mS 8 (by decide +kernel) (by decide +kernel)
theorem ks9 : Cond.selects "ArithmeticForms" y_AF_calculate y_AF_calculate ∈ wA := mS 9 (by decide +kernel) (by decide +kernel)
theorem ks10 : Cond.selects "ArithmeticForms$Calculator" y_Ca_place y_Ca_place ∈ wA := mS 10 (by decide +kernel) (by decide +kernel)
theorem ks11 : Cond.selects "ArithmeticForms" y_AF_receiverAt y_AF_receiverAt ∈ wA := mS 11 (by decide +kernel) (by decide +kernel)
theorem ks12 : Cond.selects "ArithmeticForms" y_AF_give y_AF_give ∈ wA := mS 12 (by decide +kernel) (by decide +kernel)
theorem ks13 : Cond.selects "ArithmeticForms$Receiver" y_Re_isExact y_Re_isExact ∈ wA := mS 13 (by decide +kernel) (by decide +kernel)
theorem ks14 : Cond.selects "ArithmeticForms$Receiver" y_Re_goesUp y_Re_goesUp ∈ wA := mS 14 (by decide +kernel) (by decide +kernel)
theorem ks15 : Cond.selects "ArithmeticForms$Receiver" y_Re_compareToHalf y_Re_compareToHalf ∈ wA := mS 15 (by decide +kernel) (by decide +kernel)
theorem ks16 : Cond.selects "ArithmeticForms$Receiver" y_Re_endsOdd y_Re_endsOdd ∈ wA := mS 16 (by decide +kernel) (by decide +kernel)
theorem ks17 : Cond.selects "ArithmeticForms" y_AF_restOf y_AF_restOf ∈ wA := mS 17 (by decide +kernel) (by decide +kernel)
theorem ks18 : Cond.selects "java/lang/Throwable" y_Th_fillInStackTrace y_Th_fillInStackTrace ∈ wA := mS 18 (by decide +kernel) (by decide +kernel)
theorem ks19 : Cond.selects "ArithmeticFormsModel" y_Mo_whole y_Mo_whole ∈ wA := mS 19 (by decide +kernel) (by decide +kernel)
theorem ks20 : Cond.selects "ArithmeticFormsModel" y_Mo_zero y_Mo_zero ∈ wA := mS 20 (by decide +kernel) (by decide +kernel)
theorem ks21 : Cond.selects "ArithmeticFormsModel" y_Mo_cut y_Mo_cut ∈ wA := mS 21 (by decide +kernel) (by decide +kernel)
theorem ks22 : Cond.selects "ArithmeticFormsModel" y_Mo_drop y_Mo_drop ∈ wA := mS 22 (by decide +kernel) (by decide +kernel)
theorem ks23 : Cond.selects "ArithmeticFormsModel" y_Mo_kept y_Mo_kept ∈ wA := mS 23 (by decide +kernel) (by decide +kernel)
theorem ks24 : Cond.selects "ArithmeticFormsModel" y_Mo_isNode y_Mo_isNode ∈ wA := mS 24 (by decide +kernel) (by decide +kernel)
theorem ks25 : Cond.selects "ArithmeticFormsModel" y_Mo_load y_Mo_load ∈ wA := mS 25 (by decide +kernel) (by decide +kernel)
theorem ks26 : Cond.selects "ArithmeticFormsModel" y_Mo_operated y_Mo_operated ∈ wA := mS 26 (by decide +kernel) (by decide +kernel)
theorem ks27 : Cond.selects "ArithmeticFormsModel" y_Mo_add y_Mo_add ∈ wA := mS 27 (by decide +kernel) (by decide +kernel)
theorem ks28 : Cond.selects "ArithmeticFormsModel" y_Mo_copy y_Mo_copy ∈ wA := mS 28 (by decide +kernel) (by decide +kernel)
theorem ks29 : Cond.selects "ArithmeticFormsModel" y_Mo_topOf y_Mo_topOf ∈ wA := mS 29 (by decide +kernel) (by decide +kernel)
theorem ks30 : Cond.selects "ArithmeticFormsModel" y_Mo_order y_Mo_order ∈ wA := mS 30 (by decide +kernel) (by decide +kernel)
theorem ks31 : Cond.selects "ArithmeticFormsModel" y_Mo_digitAt y_Mo_digitAt ∈ wA := mS 31 (by decide +kernel) (by decide +kernel)
theorem ks32 : Cond.selects "ArithmeticFormsModel" y_Mo_multiply y_Mo_multiply ∈ wA := mS 32 (by decide +kernel) (by decide +kernel)
theorem ks33 : Cond.selects "ArithmeticFormsModel" y_Mo_divide y_Mo_divide ∈ wA := mS 33 (by decide +kernel) (by decide +kernel)
theorem ks34 : Cond.selects "ArithmeticFormsModel" y_Mo_isEnough y_Mo_isEnough ∈ wA := mS 34 (by decide +kernel) (by decide +kernel)
theorem ks35 : Cond.selects "ArithmeticFormsModel" y_Mo_lessen y_Mo_lessen ∈ wA := mS 35 (by decide +kernel) (by decide +kernel)
theorem ks36 : Cond.selects "ArithmeticFormsModel" y_Mo_raise y_Mo_raise ∈ wA := mS 36 (by decide +kernel) (by decide +kernel)
theorem ks37 : Cond.selects "ArithmeticFormsModel" y_Mo_power y_Mo_power ∈ wA := mS 37 (by decide +kernel) (by decide +kernel)
theorem ks38 : Cond.selects "ArithmeticFormsModel" y_Mo_isReceiver y_Mo_isReceiver ∈ wA := mS 38 (by decide +kernel) (by decide +kernel)
theorem ks39 : Cond.selects "ArithmeticFormsModel" y_Mo_isStored y_Mo_isStored ∈ wA := mS 39 (by decide +kernel) (by decide +kernel)
theorem ks40 : Cond.selects "ArithmeticFormsModel" y_Mo_given y_Mo_given ∈ wA := mS 40 (by decide +kernel) (by decide +kernel)
theorem ks41 : Cond.selects "ArithmeticFormsModel" y_Mo_round y_Mo_round ∈ wA := mS 41 (by decide +kernel) (by decide +kernel)
theorem ks42 : Cond.selects "ArithmeticFormsModel" y_Mo_goesUp y_Mo_goesUp ∈ wA := mS 42 (by decide +kernel) (by decide +kernel)
theorem ks43 : Cond.selects "ArithmeticFormsModel" y_Mo_left y_Mo_left ∈ wA := mS 43 (by decide +kernel) (by decide +kernel)
