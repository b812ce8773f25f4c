-- ===== PART A: goes FIRST, ahead of the names: the tables' words, and 'selects' of the private methods out of them =====
/-- a private method of a class that the tables say can be made, by its rows of tables_1 -/
def lw_okq (q : MethodName × Nat) : Prop := (q.1.cls ≠ "java/lang/invoke/MethodHandle" ∧ q.1.cls ≠ "java/lang/invoke/VarHandle") ∧ Cond.instantiable q.1.cls q.2 ∈ tables_1 ∧ Cond.privateMethod q.1 ∈ tables_1 ∧ Cond.instanceMethod q.1 ∈ tables_1
theorem lw_p0 : lw_okq (⟨"CreditScroll", "addAsChange", "(III)I"⟩, 7) := ⟨⟨by decide +kernel, by decide +kernel⟩, List.mem_of_getElem? (i := 11) (by decide +kernel), List.mem_of_getElem? (i := 212) (by decide +kernel), List.mem_of_getElem? (i := 213) (by decide +kernel)⟩
theorem lw_p1 : lw_okq (⟨"CreditScroll$Course", "layOut", "()V"⟩, 9) := ⟨⟨by decide +kernel, by decide +kernel⟩, List.mem_of_getElem? (i := 19) (by decide +kernel), List.mem_of_getElem? (i := 240) (by decide +kernel), List.mem_of_getElem? (i := 241) (by decide +kernel)⟩
theorem lw_p2 : lw_okq (⟨"CreditScroll$Course", "pace", "()V"⟩, 9) := ⟨⟨by decide +kernel, by decide +kernel⟩, List.mem_of_getElem? (i := 19) (by decide +kernel), List.mem_of_getElem? (i := 248) (by decide +kernel), List.mem_of_getElem? (i := 249) (by decide +kernel)⟩
theorem lw_p3 : lw_okq (⟨"CreditScroll$Course", "begin", "(III)V"⟩, 9) := ⟨⟨by decide +kernel, by decide +kernel⟩, List.mem_of_getElem? (i := 19) (by decide +kernel), List.mem_of_getElem? (i := 252) (by decide +kernel), List.mem_of_getElem? (i := 253) (by decide +kernel)⟩
theorem lw_p4 : lw_okq (⟨"CreditScroll$Course", "changeSpeed", "(II)V"⟩, 9) := ⟨⟨by decide +kernel, by decide +kernel⟩, List.mem_of_getElem? (i := 19) (by decide +kernel), List.mem_of_getElem? (i := 256) (by decide +kernel), List.mem_of_getElem? (i := 257) (by decide +kernel)⟩
theorem lw_p5 : lw_okq (⟨"CreditScroll$Course", "ticksIn", "(II)I"⟩, 9) := ⟨⟨by decide +kernel, by decide +kernel⟩, List.mem_of_getElem? (i := 19) (by decide +kernel), List.mem_of_getElem? (i := 260) (by decide +kernel), List.mem_of_getElem? (i := 261) (by decide +kernel)⟩
theorem lw_p6 : lw_okq (⟨"CreditScroll$Course", "watch", "()V"⟩, 9) := ⟨⟨by decide +kernel, by decide +kernel⟩, List.mem_of_getElem? (i := 19) (by decide +kernel), List.mem_of_getElem? (i := 264) (by decide +kernel), List.mem_of_getElem? (i := 265) (by decide +kernel)⟩
theorem lw_p7 : lw_okq (⟨"CreditScroll$Course", "stretchReaching", "(II)I"⟩, 9) := ⟨⟨by decide +kernel, by decide +kernel⟩, List.mem_of_getElem? (i := 19) (by decide +kernel), List.mem_of_getElem? (i := 268) (by decide +kernel), List.mem_of_getElem? (i := 269) (by decide +kernel)⟩
theorem lw_p8 : lw_okq (⟨"CreditScroll$Course", "timeIn", "(II)I"⟩, 9) := ⟨⟨by decide +kernel, by decide +kernel⟩, List.mem_of_getElem? (i := 19) (by decide +kernel), List.mem_of_getElem? (i := 272) (by decide +kernel), List.mem_of_getElem? (i := 273) (by decide +kernel)⟩
theorem lw_p9 : lw_okq (⟨"CreditScroll$Credits", "exchange", "(II)V"⟩, 6) := ⟨⟨by decide +kernel, by decide +kernel⟩, List.mem_of_getElem? (i := 25) (by decide +kernel), List.mem_of_getElem? (i := 284) (by decide +kernel), List.mem_of_getElem? (i := 285) (by decide +kernel)⟩
theorem lw_p10 : lw_okq (⟨"CreditScroll$Pad", "parseLineInto", "(LCreditScroll$Credits;)Z"⟩, 3) := ⟨⟨by decide +kernel, by decide +kernel⟩, List.mem_of_getElem? (i := 100) (by decide +kernel), List.mem_of_getElem? (i := 320) (by decide +kernel), List.mem_of_getElem? (i := 321) (by decide +kernel)⟩
theorem lw_p11 : lw_okq (⟨"CreditScroll$Pad", "kindHere", "()I"⟩, 3) := ⟨⟨by decide +kernel, by decide +kernel⟩, List.mem_of_getElem? (i := 100) (by decide +kernel), List.mem_of_getElem? (i := 324) (by decide +kernel), List.mem_of_getElem? (i := 325) (by decide +kernel)⟩
theorem lw_p12 : lw_okq (⟨"CreditScroll$Pad", "character", "()I"⟩, 3) := ⟨⟨by decide +kernel, by decide +kernel⟩, List.mem_of_getElem? (i := 100) (by decide +kernel), List.mem_of_getElem? (i := 328) (by decide +kernel), List.mem_of_getElem? (i := 329) (by decide +kernel)⟩
theorem lw_p13 : lw_okq (⟨"CreditScroll$Pad", "digit", "()I"⟩, 3) := ⟨⟨by decide +kernel, by decide +kernel⟩, List.mem_of_getElem? (i := 100) (by decide +kernel), List.mem_of_getElem? (i := 332) (by decide +kernel), List.mem_of_getElem? (i := 333) (by decide +kernel)⟩
theorem lw_p14 : lw_okq (⟨"CreditScroll$Pad", "parseNumber", "(II)I"⟩, 3) := ⟨⟨by decide +kernel, by decide +kernel⟩, List.mem_of_getElem? (i := 100) (by decide +kernel), List.mem_of_getElem? (i := 338) (by decide +kernel), List.mem_of_getElem? (i := 339) (by decide +kernel)⟩
theorem lw_p15 : lw_okq (⟨"CreditScroll$Course", "mostSeenOf", "(I)I"⟩, 9) := ⟨⟨by decide +kernel, by decide +kernel⟩, List.mem_of_getElem? (i := 19) (by decide +kernel), List.mem_of_getElem? (i := 361) (by decide +kernel), List.mem_of_getElem? (i := 362) (by decide +kernel)⟩
def lw_privs_1 : List (MethodName × Nat) := [(⟨"CreditScroll", "addAsChange", "(III)I"⟩, 7), (⟨"CreditScroll$Course", "layOut", "()V"⟩, 9), (⟨"CreditScroll$Course", "pace", "()V"⟩, 9), (⟨"CreditScroll$Course", "begin", "(III)V"⟩, 9), (⟨"CreditScroll$Course", "changeSpeed", "(II)V"⟩, 9), (⟨"CreditScroll$Course", "ticksIn", "(II)I"⟩, 9), (⟨"CreditScroll$Course", "watch", "()V"⟩, 9), (⟨"CreditScroll$Course", "stretchReaching", "(II)I"⟩, 9), (⟨"CreditScroll$Course", "timeIn", "(II)I"⟩, 9), (⟨"CreditScroll$Credits", "exchange", "(II)V"⟩, 6), (⟨"CreditScroll$Pad", "parseLineInto", "(LCreditScroll$Credits;)Z"⟩, 3), (⟨"CreditScroll$Pad", "kindHere", "()I"⟩, 3), (⟨"CreditScroll$Pad", "character", "()I"⟩, 3), (⟨"CreditScroll$Pad", "digit", "()I"⟩, 3), (⟨"CreditScroll$Pad", "parseNumber", "(II)I"⟩, 3), (⟨"CreditScroll$Course", "mostSeenOf", "(I)I"⟩, 9)]
theorem lw_r1 : ∀ q ∈ lw_privs_1, lw_okq q := List.forall_mem_cons.mpr ⟨lw_p0, List.forall_mem_cons.mpr ⟨lw_p1, List.forall_mem_cons.mpr ⟨lw_p2, List.forall_mem_cons.mpr ⟨lw_p3, List.forall_mem_cons.mpr ⟨lw_p4, List.forall_mem_cons.mpr ⟨lw_p5, List.forall_mem_cons.mpr ⟨lw_p6, List.forall_mem_cons.mpr ⟨lw_p7, List.forall_mem_cons.mpr ⟨lw_p8, List.forall_mem_cons.mpr ⟨lw_p9, List.forall_mem_cons.mpr ⟨lw_p10, List.forall_mem_cons.mpr ⟨lw_p11, List.forall_mem_cons.mpr ⟨lw_p12, List.forall_mem_cons.mpr ⟨lw_p13, List.forall_mem_cons.mpr ⟨lw_p14, List.forall_mem_cons.mpr ⟨lw_p15, fun _ h => absurd h List.not_mem_nil⟩⟩⟩⟩⟩⟩⟩⟩⟩⟩⟩⟩⟩⟩⟩⟩
theorem lw_p16 : lw_okq (⟨"CreditScroll", "firstNumberOf", "(I)I"⟩, 7) := ⟨⟨by decide +kernel, by decide +kernel⟩, List.mem_of_getElem? (i := 11) (by decide +kernel), List.mem_of_getElem? (i := 378) (by decide +kernel), List.mem_of_getElem? (i := 379) (by decide +kernel)⟩
theorem lw_p17 : lw_okq (⟨"CreditScroll$Course", "isSeenAt", "(II)Z"⟩, 9) := ⟨⟨by decide +kernel, by decide +kernel⟩, List.mem_of_getElem? (i := 19) (by decide +kernel), List.mem_of_getElem? (i := 390) (by decide +kernel), List.mem_of_getElem? (i := 391) (by decide +kernel)⟩
theorem lw_p18 : lw_okq (⟨"CreditScroll$Course", "stretchAt", "(I)I"⟩, 9) := ⟨⟨by decide +kernel, by decide +kernel⟩, List.mem_of_getElem? (i := 19) (by decide +kernel), List.mem_of_getElem? (i := 406) (by decide +kernel), List.mem_of_getElem? (i := 407) (by decide +kernel)⟩
theorem lw_p19 : lw_okq (⟨"CreditScrollModel", "record", "()V"⟩, 17) := ⟨⟨by decide +kernel, by decide +kernel⟩, List.mem_of_getElem? (i := 504) (by decide +kernel), List.mem_of_getElem? (i := 577) (by decide +kernel), List.mem_of_getElem? (i := 578) (by decide +kernel)⟩
theorem lw_p20 : lw_okq (⟨"CreditScrollModel", "add", "(IIII)I"⟩, 17) := ⟨⟨by decide +kernel, by decide +kernel⟩, List.mem_of_getElem? (i := 504) (by decide +kernel), List.mem_of_getElem? (i := 598) (by decide +kernel), List.mem_of_getElem? (i := 599) (by decide +kernel)⟩
theorem lw_p21 : lw_okq (⟨"CreditScrollModel", "isLine", "(I)Z"⟩, 17) := ⟨⟨by decide +kernel, by decide +kernel⟩, List.mem_of_getElem? (i := 504) (by decide +kernel), List.mem_of_getElem? (i := 610) (by decide +kernel), List.mem_of_getElem? (i := 611) (by decide +kernel)⟩
theorem lw_p22 : lw_okq (⟨"CreditScrollModel", "its", "(II)I"⟩, 17) := ⟨⟨by decide +kernel, by decide +kernel⟩, List.mem_of_getElem? (i := 504) (by decide +kernel), List.mem_of_getElem? (i := 614) (by decide +kernel), List.mem_of_getElem? (i := 615) (by decide +kernel)⟩
theorem lw_p23 : lw_okq (⟨"CreditScrollModel", "run", "()I"⟩, 17) := ⟨⟨by decide +kernel, by decide +kernel⟩, List.mem_of_getElem? (i := 504) (by decide +kernel), List.mem_of_getElem? (i := 622) (by decide +kernel), List.mem_of_getElem? (i := 623) (by decide +kernel)⟩
theorem lw_p24 : lw_okq (⟨"CreditScrollModel", "begin", "()V"⟩, 17) := ⟨⟨by decide +kernel, by decide +kernel⟩, List.mem_of_getElem? (i := 504) (by decide +kernel), List.mem_of_getElem? (i := 626) (by decide +kernel), List.mem_of_getElem? (i := 627) (by decide +kernel)⟩
theorem lw_p25 : lw_okq (⟨"CreditScrollModel", "height", "(I)I"⟩, 17) := ⟨⟨by decide +kernel, by decide +kernel⟩, List.mem_of_getElem? (i := 504) (by decide +kernel), List.mem_of_getElem? (i := 630) (by decide +kernel), List.mem_of_getElem? (i := 631) (by decide +kernel)⟩
theorem lw_p26 : lw_okq (⟨"CreditScrollModel", "speedNow", "()I"⟩, 17) := ⟨⟨by decide +kernel, by decide +kernel⟩, List.mem_of_getElem? (i := 504) (by decide +kernel), List.mem_of_getElem? (i := 634) (by decide +kernel), List.mem_of_getElem? (i := 635) (by decide +kernel)⟩
theorem lw_p27 : lw_okq (⟨"CreditScrollModel", "isSeen", "(I)Z"⟩, 17) := ⟨⟨by decide +kernel, by decide +kernel⟩, List.mem_of_getElem? (i := 504) (by decide +kernel), List.mem_of_getElem? (i := 638) (by decide +kernel), List.mem_of_getElem? (i := 639) (by decide +kernel)⟩
theorem lw_p28 : lw_okq (⟨"CreditScrollModel", "exchange", "(I)V"⟩, 17) := ⟨⟨by decide +kernel, by decide +kernel⟩, List.mem_of_getElem? (i := 504) (by decide +kernel), List.mem_of_getElem? (i := 642) (by decide +kernel), List.mem_of_getElem? (i := 643) (by decide +kernel)⟩
theorem lw_p29 : lw_okq (⟨"CreditScrollModel", "namesOf", "(I)I"⟩, 17) := ⟨⟨by decide +kernel, by decide +kernel⟩, List.mem_of_getElem? (i := 504) (by decide +kernel), List.mem_of_getElem? (i := 654) (by decide +kernel), List.mem_of_getElem? (i := 655) (by decide +kernel)⟩
theorem lw_p30 : lw_okq (⟨"CreditScrollModel", "isNameOf", "(II)Z"⟩, 17) := ⟨⟨by decide +kernel, by decide +kernel⟩, List.mem_of_getElem? (i := 504) (by decide +kernel), List.mem_of_getElem? (i := 658) (by decide +kernel), List.mem_of_getElem? (i := 659) (by decide +kernel)⟩
theorem lw_p31 : lw_okq (⟨"CreditScrollModel", "turnOnce", "(I)V"⟩, 17) := ⟨⟨by decide +kernel, by decide +kernel⟩, List.mem_of_getElem? (i := 504) (by decide +kernel), List.mem_of_getElem? (i := 662) (by decide +kernel), List.mem_of_getElem? (i := 663) (by decide +kernel)⟩
def lw_privs_2 : List (MethodName × Nat) := [(⟨"CreditScroll", "firstNumberOf", "(I)I"⟩, 7), (⟨"CreditScroll$Course", "isSeenAt", "(II)Z"⟩, 9), (⟨"CreditScroll$Course", "stretchAt", "(I)I"⟩, 9), (⟨"CreditScrollModel", "record", "()V"⟩, 17), (⟨"CreditScrollModel", "add", "(IIII)I"⟩, 17), (⟨"CreditScrollModel", "isLine", "(I)Z"⟩, 17), (⟨"CreditScrollModel", "its", "(II)I"⟩, 17), (⟨"CreditScrollModel", "run", "()I"⟩, 17), (⟨"CreditScrollModel", "begin", "()V"⟩, 17), (⟨"CreditScrollModel", "height", "(I)I"⟩, 17), (⟨"CreditScrollModel", "speedNow", "()I"⟩, 17), (⟨"CreditScrollModel", "isSeen", "(I)Z"⟩, 17), (⟨"CreditScrollModel", "exchange", "(I)V"⟩, 17), (⟨"CreditScrollModel", "namesOf", "(I)I"⟩, 17), (⟨"CreditScrollModel", "isNameOf", "(II)Z"⟩, 17), (⟨"CreditScrollModel", "turnOnce", "(I)V"⟩, 17)]
theorem lw_r2 : ∀ q ∈ lw_privs_2, lw_okq q := List.forall_mem_cons.mpr ⟨lw_p16, List.forall_mem_cons.mpr ⟨lw_p17, List.forall_mem_cons.mpr ⟨lw_p18, List.forall_mem_cons.mpr ⟨lw_p19, List.forall_mem_cons.mpr ⟨lw_p20, List.forall_mem_cons.mpr ⟨lw_p21, List.forall_mem_cons.mpr ⟨lw_p22, List.forall_mem_cons.mpr ⟨lw_p23, List.forall_mem_cons.mpr ⟨lw_p24, List.forall_mem_cons.mpr ⟨lw_p25, List.forall_mem_cons.mpr ⟨lw_p26, List.forall_mem_cons.mpr ⟨lw_p27, List.forall_mem_cons.mpr ⟨lw_p28, List.forall_mem_cons.mpr ⟨lw_p29, List.forall_mem_cons.mpr ⟨lw_p30, List.forall_mem_cons.mpr ⟨lw_p31, fun _ h => absurd h List.not_mem_nil⟩⟩⟩⟩⟩⟩⟩⟩⟩⟩⟩⟩⟩⟩⟩⟩
theorem lw_p32 : lw_okq (⟨"CreditScrollModel", "firstName", "(I)I"⟩, 17) := ⟨⟨by decide +kernel, by decide +kernel⟩, List.mem_of_getElem? (i := 504) (by decide +kernel), List.mem_of_getElem? (i := 666) (by decide +kernel), List.mem_of_getElem? (i := 667) (by decide +kernel)⟩
theorem lw_p33 : lw_okq (⟨"CreditScrollModel", "spread", "(I)I"⟩, 17) := ⟨⟨by decide +kernel, by decide +kernel⟩, List.mem_of_getElem? (i := 504) (by decide +kernel), List.mem_of_getElem? (i := 678) (by decide +kernel), List.mem_of_getElem? (i := 679) (by decide +kernel)⟩
theorem lw_p34 : lw_okq (⟨"CreditScrollModel", "shortest", "(I)I"⟩, 17) := ⟨⟨by decide +kernel, by decide +kernel⟩, List.mem_of_getElem? (i := 504) (by decide +kernel), List.mem_of_getElem? (i := 682) (by decide +kernel), List.mem_of_getElem? (i := 683) (by decide +kernel)⟩
theorem lw_p35 : lw_okq (⟨"CreditScrollModel", "seenNow", "(I)I"⟩, 17) := ⟨⟨by decide +kernel, by decide +kernel⟩, List.mem_of_getElem? (i := 504) (by decide +kernel), List.mem_of_getElem? (i := 690) (by decide +kernel), List.mem_of_getElem? (i := 691) (by decide +kernel)⟩
theorem lw_p36 : lw_okq (⟨"CreditScrollModel", "names", "(Z)I"⟩, 17) := ⟨⟨by decide +kernel, by decide +kernel⟩, List.mem_of_getElem? (i := 504) (by decide +kernel), List.mem_of_getElem? (i := 698) (by decide +kernel), List.mem_of_getElem? (i := 699) (by decide +kernel)⟩
theorem lw_p37 : lw_okq (⟨"CreditScrollModel", "unequal", "()I"⟩, 17) := ⟨⟨by decide +kernel, by decide +kernel⟩, List.mem_of_getElem? (i := 504) (by decide +kernel), List.mem_of_getElem? (i := 702) (by decide +kernel), List.mem_of_getElem? (i := 703) (by decide +kernel)⟩
theorem lw_p38 : lw_okq (⟨"CreditScrollModel", "cues", "()I"⟩, 17) := ⟨⟨by decide +kernel, by decide +kernel⟩, List.mem_of_getElem? (i := 504) (by decide +kernel), List.mem_of_getElem? (i := 706) (by decide +kernel), List.mem_of_getElem? (i := 707) (by decide +kernel)⟩
theorem lw_p39 : lw_okq (⟨"CreditScrollModel", "allSpreads", "()I"⟩, 17) := ⟨⟨by decide +kernel, by decide +kernel⟩, List.mem_of_getElem? (i := 504) (by decide +kernel), List.mem_of_getElem? (i := 714) (by decide +kernel), List.mem_of_getElem? (i := 715) (by decide +kernel)⟩
theorem lw_p40 : lw_okq (⟨"CreditScrollModel", "areSeenFor", "(I)Z"⟩, 17) := ⟨⟨by decide +kernel, by decide +kernel⟩, List.mem_of_getElem? (i := 504) (by decide +kernel), List.mem_of_getElem? (i := 722) (by decide +kernel), List.mem_of_getElem? (i := 723) (by decide +kernel)⟩
theorem lw_p41 : lw_okq (⟨"CreditScrollModel", "readPad", "()I"⟩, 17) := ⟨⟨by decide +kernel, by decide +kernel⟩, List.mem_of_getElem? (i := 504) (by decide +kernel), List.mem_of_getElem? (i := 750) (by decide +kernel), List.mem_of_getElem? (i := 751) (by decide +kernel)⟩
theorem lw_p42 : lw_okq (⟨"CreditScrollModel", "readLine", "()V"⟩, 17) := ⟨⟨by decide +kernel, by decide +kernel⟩, List.mem_of_getElem? (i := 504) (by decide +kernel), List.mem_of_getElem? (i := 754) (by decide +kernel), List.mem_of_getElem? (i := 755) (by decide +kernel)⟩
theorem lw_p43 : lw_okq (⟨"CreditScrollModel", "letter", "()I"⟩, 17) := ⟨⟨by decide +kernel, by decide +kernel⟩, List.mem_of_getElem? (i := 504) (by decide +kernel), List.mem_of_getElem? (i := 758) (by decide +kernel), List.mem_of_getElem? (i := 759) (by decide +kernel)⟩
theorem lw_p44 : lw_okq (⟨"CreditScrollModel", "wants", "(Z)V"⟩, 17) := ⟨⟨by decide +kernel, by decide +kernel⟩, List.mem_of_getElem? (i := 504) (by decide +kernel), List.mem_of_getElem? (i := 762) (by decide +kernel), List.mem_of_getElem? (i := 763) (by decide +kernel)⟩
theorem lw_p45 : lw_okq (⟨"CreditScrollModel", "number", "(II)I"⟩, 17) := ⟨⟨by decide +kernel, by decide +kernel⟩, List.mem_of_getElem? (i := 504) (by decide +kernel), List.mem_of_getElem? (i := 766) (by decide +kernel), List.mem_of_getElem? (i := 767) (by decide +kernel)⟩
def lw_privs_3 : List (MethodName × Nat) := [(⟨"CreditScrollModel", "firstName", "(I)I"⟩, 17), (⟨"CreditScrollModel", "spread", "(I)I"⟩, 17), (⟨"CreditScrollModel", "shortest", "(I)I"⟩, 17), (⟨"CreditScrollModel", "seenNow", "(I)I"⟩, 17), (⟨"CreditScrollModel", "names", "(Z)I"⟩, 17), (⟨"CreditScrollModel", "unequal", "()I"⟩, 17), (⟨"CreditScrollModel", "cues", "()I"⟩, 17), (⟨"CreditScrollModel", "allSpreads", "()I"⟩, 17), (⟨"CreditScrollModel", "areSeenFor", "(I)Z"⟩, 17), (⟨"CreditScrollModel", "readPad", "()I"⟩, 17), (⟨"CreditScrollModel", "readLine", "()V"⟩, 17), (⟨"CreditScrollModel", "letter", "()I"⟩, 17), (⟨"CreditScrollModel", "wants", "(Z)V"⟩, 17), (⟨"CreditScrollModel", "number", "(II)I"⟩, 17)]
theorem lw_r3 : ∀ q ∈ lw_privs_3, lw_okq q := List.forall_mem_cons.mpr ⟨lw_p32, List.forall_mem_cons.mpr ⟨lw_p33, List.forall_mem_cons.mpr ⟨lw_p34, List.forall_mem_cons.mpr ⟨lw_p35, List.forall_mem_cons.mpr ⟨lw_p36, List.forall_mem_cons.mpr ⟨lw_p37, List.forall_mem_cons.mpr ⟨lw_p38, List.forall_mem_cons.mpr ⟨lw_p39, List.forall_mem_cons.mpr ⟨lw_p40, List.forall_mem_cons.mpr ⟨lw_p41, List.forall_mem_cons.mpr ⟨lw_p42, List.forall_mem_cons.mpr ⟨lw_p43, List.forall_mem_cons.mpr ⟨lw_p44, List.forall_mem_cons.mpr ⟨lw_p45, fun _ h => absurd h List.not_mem_nil⟩⟩⟩⟩⟩⟩⟩⟩⟩⟩⟩⟩⟩⟩
def lw_privs : List (MethodName × Nat) := lw_privs_1 ++ (lw_privs_2 ++ (lw_privs_3))
def lw_tbl : List Cond := k2_sels lw_privs ++ tables_1
theorem lw_privs_ok : ∀ q ∈ lw_privs, lw_okq q := by
  show ∀ q ∈ lw_privs_1 ++ (lw_privs_2 ++ (lw_privs_3)), lw_okq q
  exact List.forall_mem_append.mpr ⟨lw_r1, List.forall_mem_append.mpr ⟨lw_r2, lw_r3⟩⟩
-- ===== names =====
def RX0 : String := "CreditScroll$Course"
def TX0 : u_T := fun k => match k with
  | 0 => ("CreditScroll$Course", "credits", "LCreditScroll$Credits;", true)
  | 1 => ("CreditScroll$Course", "tops", "[I", true)
  | 2 => ("CreditScroll$Course", "firsts", "[I", true)
  | 3 => ("CreditScroll$Course", "seen", "[I", true)
  | 4 => ("CreditScroll$Course", "rows", "I", false)
  | 5 => ("CreditScroll$Course", "times", "[I", true)
  | 6 => ("CreditScroll$Course", "heights", "[I", true)
  | 7 => ("CreditScroll$Course", "speeds", "[I", true)
  | _ => ("CreditScroll$Course", "stretches", "I", false)
def tyX0 : Nat → FieldType := fun k => match k with
  | 0 => .object "CreditScroll$Credits"
  | 1 => .array .int
  | 2 => .array .int
  | 3 => .array .int
  | 4 => .int
  | 5 => .array .int
  | 6 => .array .int
  | 7 => .array .int
  | _ => .int
abbrev wsX00 : List Cond := u_ws RX0 TX0 9
theorem nmX0 : ∀ a, a < 9 → ∀ b, b < 9 → a ≠ b → (TX0 a).2.1 ≠ (TX0 b).2.1 := by decide +kernel
theorem tyX0_ok : ∀ k, k < 9 → parseFieldDescriptor (TX0 k).2.2.1 = some (tyX0 k) := by decide +kernel
abbrev cX0_init : ByteArray := prog_2_method_1_code
def yX0_init : MethodName := ⟨RX0, "<init>", "()V"⟩
abbrev cX0_follow : ByteArray := prog_2_method_2_code
def yX0_follow : MethodName := ⟨RX0, "follow", "()V"⟩
abbrev cX0_layOut : ByteArray := prog_2_method_3_code
def yX0_layOut : MethodName := ⟨RX0, "layOut", "()V"⟩
abbrev cX0_pace : ByteArray := prog_2_method_4_code
def yX0_pace : MethodName := ⟨RX0, "pace", "()V"⟩
abbrev cX0_changeSpeed : ByteArray := prog_2_method_5_code
def yX0_changeSpeed : MethodName := ⟨RX0, "changeSpeed", "(II)V"⟩
abbrev cX0_begin : ByteArray := prog_2_method_6_code
def yX0_begin : MethodName := ⟨RX0, "begin", "(III)V"⟩
abbrev cX0_watch : ByteArray := prog_2_method_7_code
def yX0_watch : MethodName := ⟨RX0, "watch", "()V"⟩
abbrev cX0_stretchReaching : ByteArray := prog_2_method_8_code
def yX0_stretchReaching : MethodName := ⟨RX0, "stretchReaching", "(II)I"⟩
abbrev cX0_timeIn : ByteArray := prog_2_method_9_code
def yX0_timeIn : MethodName := ⟨RX0, "timeIn", "(II)I"⟩
abbrev cX0_ticksIn : ByteArray := prog_2_method_10_code
def yX0_ticksIn : MethodName := ⟨RX0, "ticksIn", "(II)I"⟩
abbrev cX0_ticksInAll : ByteArray := prog_2_method_11_code
def yX0_ticksInAll : MethodName := ⟨RX0, "ticksInAll", "()I"⟩
abbrev cX0_stretchAt : ByteArray := prog_2_method_12_code
def yX0_stretchAt : MethodName := ⟨RX0, "stretchAt", "(I)I"⟩
abbrev cX0_speedAt : ByteArray := prog_2_method_13_code
def yX0_speedAt : MethodName := ⟨RX0, "speedAt", "(I)I"⟩
abbrev cX0_movedAt : ByteArray := prog_2_method_14_code
def yX0_movedAt : MethodName := ⟨RX0, "movedAt", "(I)I"⟩
abbrev cX0_isSeenAt : ByteArray := prog_2_method_15_code
def yX0_isSeenAt : MethodName := ⟨RX0, "isSeenAt", "(II)Z"⟩
abbrev cX0_firstSeenAt : ByteArray := prog_2_method_16_code
def yX0_firstSeenAt : MethodName := ⟨RX0, "firstSeenAt", "(I)I"⟩
abbrev cX0_lastSeenAt : ByteArray := prog_2_method_17_code
def yX0_lastSeenAt : MethodName := ⟨RX0, "lastSeenAt", "(I)I"⟩
abbrev cX0_howManySeenAt : ByteArray := prog_2_method_18_code
def yX0_howManySeenAt : MethodName := ⟨RX0, "howManySeenAt", "(I)I"⟩
abbrev cX0_leastSeenLineOf : ByteArray := prog_2_method_19_code
def yX0_leastSeenLineOf : MethodName := ⟨RX0, "leastSeenLineOf", "(I)I"⟩
abbrev cX0_leastSeenOf : ByteArray := prog_2_method_20_code
def yX0_leastSeenOf : MethodName := ⟨RX0, "leastSeenOf", "(I)I"⟩
abbrev cX0_mostSeenOf : ByteArray := prog_2_method_21_code
def yX0_mostSeenOf : MethodName := ⟨RX0, "mostSeenOf", "(I)I"⟩
abbrev cX0_spreadOf : ByteArray := prog_2_method_22_code
def yX0_spreadOf : MethodName := ⟨RX0, "spreadOf", "(I)I"⟩
abbrev cX0_spreadsInAll : ByteArray := prog_2_method_23_code
def yX0_spreadsInAll : MethodName := ⟨RX0, "spreadsInAll", "()I"⟩
abbrev cX0_unequalGroups : ByteArray := prog_2_method_24_code
def yX0_unequalGroups : MethodName := ⟨RX0, "unequalGroups", "()I"⟩
abbrev cX0_neverSeenNames : ByteArray := prog_2_method_25_code
def yX0_neverSeenNames : MethodName := ⟨RX0, "neverSeenNames", "()I"⟩
abbrev cX0_showsNamesFor : ByteArray := prog_2_method_26_code
def yX0_showsNamesFor : MethodName := ⟨RX0, "showsNamesFor", "(I)Z"⟩
def RX1 : String := "CreditScroll$Credits"
def TX1 : u_T := fun k => match k with
  | 0 => ("CreditScroll$Credits", "settings", "[I", true)
  | 1 => ("CreditScroll$Credits", "kinds", "[I", true)
  | 2 => ("CreditScroll$Credits", "groups", "[I", true)
  | 3 => ("CreditScroll$Credits", "numbers", "[I", true)
  | 4 => ("CreditScroll$Credits", "cues", "[I", true)
  | _ => ("CreditScroll$Credits", "lines", "I", false)
def tyX1 : Nat → FieldType := fun k => match k with
  | 0 => .array .int
  | 1 => .array .int
  | 2 => .array .int
  | 3 => .array .int
  | 4 => .array .int
  | _ => .int
abbrev wsX10 : List Cond := u_ws RX1 TX1 6
theorem nmX1 : ∀ a, a < 6 → ∀ b, b < 6 → a ≠ b → (TX1 a).2.1 ≠ (TX1 b).2.1 := by decide +kernel
theorem tyX1_ok : ∀ k, k < 6 → parseFieldDescriptor (TX1 k).2.2.1 = some (tyX1 k) := by decide +kernel
abbrev cX1_init : ByteArray := prog_3_method_1_code
def yX1_init : MethodName := ⟨RX1, "<init>", "()V"⟩
abbrev cX1_takeFrom : ByteArray := prog_3_method_2_code
def yX1_takeFrom : MethodName := ⟨RX1, "takeFrom", "(LCreditScroll$Credits;)V"⟩
abbrev cX1_addAll : ByteArray := prog_3_method_3_code
def yX1_addAll : MethodName := ⟨RX1, "addAll", "(LCreditScroll$Credits;)V"⟩
abbrev cX1_add : ByteArray := prog_3_method_4_code
def yX1_add : MethodName := ⟨RX1, "add", "(IIII)V"⟩
abbrev cX1_holds : ByteArray := prog_3_method_5_code
def yX1_holds : MethodName := ⟨RX1, "holds", "(I)Z"⟩
abbrev cX1_heightOf : ByteArray := prog_3_method_6_code
def yX1_heightOf : MethodName := ⟨RX1, "heightOf", "(I)I"⟩
abbrev cX1_carry : ByteArray := prog_3_method_7_code
def yX1_carry : MethodName := ⟨RX1, "carry", "(II)V"⟩
abbrev cX1_remove : ByteArray := prog_3_method_8_code
def yX1_remove : MethodName := ⟨RX1, "remove", "(I)V"⟩
abbrev cX1_exchange : ByteArray := prog_3_method_9_code
def yX1_exchange : MethodName := ⟨RX1, "exchange", "(II)V"⟩
abbrev cX1_exchangeIn : ByteArray := prog_3_method_10_code
def yX1_exchangeIn : MethodName := ⟨RX1, "exchangeIn", "([III)V"⟩
abbrev cX1_rotateNumbers : ByteArray := prog_3_method_11_code
def yX1_rotateNumbers : MethodName := ⟨RX1, "rotateNumbers", "(I)V"⟩
abbrev cX1_firstNameOf : ByteArray := prog_3_method_12_code
def yX1_firstNameOf : MethodName := ⟨RX1, "firstNameOf", "(I)I"⟩
abbrev cX1_namesOf : ByteArray := prog_3_method_13_code
def yX1_namesOf : MethodName := ⟨RX1, "namesOf", "(I)I"⟩
abbrev cX1_namesInAll : ByteArray := prog_3_method_14_code
def yX1_namesInAll : MethodName := ⟨RX1, "namesInAll", "()I"⟩
abbrev cX1_cuesInAll : ByteArray := prog_3_method_15_code
def yX1_cuesInAll : MethodName := ⟨RX1, "cuesInAll", "()I"⟩
abbrev cX1_dropCues : ByteArray := prog_3_method_16_code
def yX1_dropCues : MethodName := ⟨RX1, "dropCues", "()V"⟩
def RX2 : String := "CreditScroll$History"
def TX2 : u_T := fun k => match k with
  | 0 => ("CreditScroll$History", "states", "[LCreditScroll$Credits;", true)
  | 1 => ("CreditScroll$History", "kept", "I", false)
  | _ => ("CreditScroll$History", "oldest", "I", false)
def tyX2 : Nat → FieldType := fun k => match k with
  | 0 => .array (.object "CreditScroll$Credits")
  | 1 => .int
  | _ => .int
abbrev wsX20 : List Cond := u_ws RX2 TX2 3
theorem nmX2 : ∀ a, a < 3 → ∀ b, b < 3 → a ≠ b → (TX2 a).2.1 ≠ (TX2 b).2.1 := by decide +kernel
theorem tyX2_ok : ∀ k, k < 3 → parseFieldDescriptor (TX2 k).2.2.1 = some (tyX2 k) := by decide +kernel
abbrev cX2_init : ByteArray := prog_4_method_1_code
def yX2_init : MethodName := ⟨RX2, "<init>", "()V"⟩
abbrev cX2_remember : ByteArray := prog_4_method_2_code
def yX2_remember : MethodName := ⟨RX2, "remember", "(LCreditScroll$Credits;)V"⟩
abbrev cX2_takeBack : ByteArray := prog_4_method_3_code
def yX2_takeBack : MethodName := ⟨RX2, "takeBack", "(LCreditScroll$Credits;)V"⟩
def RX3 : String := "CreditScroll$Pad"
def TX3 : u_T := fun k => match k with
  | 0 => ("CreditScroll$Pad", "characters", "[C", true)
  | 1 => ("CreditScroll$Pad", "length", "I", false)
  | _ => ("CreditScroll$Pad", "place", "I", false)
def tyX3 : Nat → FieldType := fun k => match k with
  | 0 => .array .char
  | 1 => .int
  | _ => .int
abbrev wsX30 : List Cond := u_ws RX3 TX3 3
theorem nmX3 : ∀ a, a < 3 → ∀ b, b < 3 → a ≠ b → (TX3 a).2.1 ≠ (TX3 b).2.1 := by decide +kernel
theorem tyX3_ok : ∀ k, k < 3 → parseFieldDescriptor (TX3 k).2.2.1 = some (tyX3 k) := by decide +kernel
abbrev cX3_init : ByteArray := prog_5_method_1_code
def yX3_init : MethodName := ⟨RX3, "<init>", "()V"⟩
abbrev cX3_charactersIn : ByteArray := prog_5_method_2_code
def yX3_charactersIn : MethodName := ⟨RX3, "charactersIn", "(J)I"⟩
abbrev cX3_append : ByteArray := prog_5_method_3_code
def yX3_append : MethodName := ⟨RX3, "append", "(JI)V"⟩
abbrev cX3_parseInto : ByteArray := prog_5_method_4_code
def yX3_parseInto : MethodName := ⟨RX3, "parseInto", "(LCreditScroll$Credits;)I"⟩
abbrev cX3_parseLineInto : ByteArray := prog_5_method_5_code
def yX3_parseLineInto : MethodName := ⟨RX3, "parseLineInto", "(LCreditScroll$Credits;)Z"⟩
abbrev cX3_parseNumber : ByteArray := prog_5_method_6_code
def yX3_parseNumber : MethodName := ⟨RX3, "parseNumber", "(II)I"⟩
abbrev cX3_kindHere : ByteArray := prog_5_method_7_code
def yX3_kindHere : MethodName := ⟨RX3, "kindHere", "()I"⟩
abbrev cX3_digit : ByteArray := prog_5_method_8_code
def yX3_digit : MethodName := ⟨RX3, "digit", "()I"⟩
abbrev cX3_character : ByteArray := prog_5_method_9_code
def yX3_character : MethodName := ⟨RX3, "character", "()I"⟩
def RX4 : String := "CreditScroll$Slots"
def TX4 : u_T := fun k => match k with
  | 0 => ("CreditScroll$Slots", "states", "[LCreditScroll$Credits;", true)
  | _ => ("CreditScroll$Slots", "filled", "[Z", true)
def tyX4 : Nat → FieldType := fun k => match k with
  | 0 => .array (.object "CreditScroll$Credits")
  | _ => .array .boolean
abbrev wsX40 : List Cond := u_ws RX4 TX4 2
theorem nmX4 : ∀ a, a < 2 → ∀ b, b < 2 → a ≠ b → (TX4 a).2.1 ≠ (TX4 b).2.1 := by decide +kernel
theorem tyX4_ok : ∀ k, k < 2 → parseFieldDescriptor (TX4 k).2.2.1 = some (tyX4 k) := by decide +kernel
abbrev cX4_init : ByteArray := prog_6_method_1_code
def yX4_init : MethodName := ⟨RX4, "<init>", "()V"⟩
def RX5 : String := "CreditScroll"
def TX5 : u_T := fun k => match k with
  | 0 => ("CreditScroll", "course", "LCreditScroll$Course;", true)
  | 1 => ("CreditScroll", "credits", "LCreditScroll$Credits;", true)
  | 2 => ("CreditScroll", "trialCourse", "LCreditScroll$Course;", true)
  | 3 => ("CreditScroll", "trial", "LCreditScroll$Credits;", true)
  | 4 => ("CreditScroll", "pad", "LCreditScroll$Pad;", true)
  | 5 => ("CreditScroll", "history", "LCreditScroll$History;", true)
  | _ => ("CreditScroll", "slots", "LCreditScroll$Slots;", true)
def tyX5 : Nat → FieldType := fun k => match k with
  | 0 => .object "CreditScroll$Course"
  | 1 => .object "CreditScroll$Credits"
  | 2 => .object "CreditScroll$Course"
  | 3 => .object "CreditScroll$Credits"
  | 4 => .object "CreditScroll$Pad"
  | 5 => .object "CreditScroll$History"
  | _ => .object "CreditScroll$Slots"
abbrev wsX50 : List Cond := u_ws RX5 TX5 7
theorem nmX5 : ∀ a, a < 7 → ∀ b, b < 7 → a ≠ b → (TX5 a).2.1 ≠ (TX5 b).2.1 := by decide +kernel
theorem tyX5_ok : ∀ k, k < 7 → parseFieldDescriptor (TX5 k).2.2.1 = some (tyX5 k) := by decide +kernel
abbrev cX5_init : ByteArray := prog_1_method_1_code
def yX5_init : MethodName := ⟨RX5, "<init>", "()V"⟩
abbrev cX5_set : ByteArray := prog_1_method_2_code
def yX5_set : MethodName := ⟨RX5, "set", "(II)I"⟩
abbrev cX5_name : ByteArray := prog_1_method_3_code
def yX5_name : MethodName := ⟨RX5, "name", "(II)I"⟩
abbrev cX5_line : ByteArray := prog_1_method_4_code
def yX5_line : MethodName := ⟨RX5, "line", "(I)I"⟩
abbrev cX5_cue : ByteArray := prog_1_method_5_code
def yX5_cue : MethodName := ⟨RX5, "cue", "(II)I"⟩
abbrev cX5_move : ByteArray := prog_1_method_6_code
def yX5_move : MethodName := ⟨RX5, "move", "(II)I"⟩
abbrev cX5_drop : ByteArray := prog_1_method_7_code
def yX5_drop : MethodName := ⟨RX5, "drop", "(I)I"⟩
abbrev cX5_turn : ByteArray := prog_1_method_8_code
def yX5_turn : MethodName := ⟨RX5, "turn", "(II)I"⟩
abbrev cX5_read : ByteArray := prog_1_method_9_code
def yX5_read : MethodName := ⟨RX5, "read", "()I"⟩
abbrev cX5_of : ByteArray := prog_1_method_10_code
def yX5_of : MethodName := ⟨RX5, "of", "(II)I"⟩
abbrev cX5_group : ByteArray := prog_1_method_11_code
def yX5_group : MethodName := ⟨RX5, "group", "(II)I"⟩
abbrev cX5_at : ByteArray := prog_1_method_12_code
def yX5_at : MethodName := ⟨RX5, "at", "(II)I"⟩
abbrev cX5_count : ByteArray := prog_1_method_13_code
def yX5_count : MethodName := ⟨RX5, "count", "(I)I"⟩
abbrev cX5_blame : ByteArray := prog_1_method_14_code
def yX5_blame : MethodName := ⟨RX5, "blame", "(I)I"⟩
abbrev cX5_speedFor : ByteArray := prog_1_method_15_code
def yX5_speedFor : MethodName := ⟨RX5, "speedFor", "(I)I"⟩
abbrev cX5_seenIf : ByteArray := prog_1_method_16_code
def yX5_seenIf : MethodName := ⟨RX5, "seenIf", "(II)I"⟩
abbrev cX5_bestCue : ByteArray := prog_1_method_17_code
def yX5_bestCue : MethodName := ⟨RX5, "bestCue", "(III)I"⟩
abbrev cX5_put : ByteArray := prog_1_method_18_code
def yX5_put : MethodName := ⟨RX5, "put", "(J)I"⟩
abbrev cX5_wipe : ByteArray := prog_1_method_19_code
def yX5_wipe : MethodName := ⟨RX5, "wipe", "()I"⟩
abbrev cX5_fault : ByteArray := prog_1_method_20_code
def yX5_fault : MethodName := ⟨RX5, "fault", "()I"⟩
abbrev cX5_undo : ByteArray := prog_1_method_21_code
def yX5_undo : MethodName := ⟨RX5, "undo", "()I"⟩
abbrev cX5_save : ByteArray := prog_1_method_22_code
def yX5_save : MethodName := ⟨RX5, "save", "(I)I"⟩
abbrev cX5_restore : ByteArray := prog_1_method_23_code
def yX5_restore : MethodName := ⟨RX5, "restore", "(I)I"⟩
abbrev cX5_addAsChange : ByteArray := prog_1_method_24_code
def yX5_addAsChange : MethodName := ⟨RX5, "addAsChange", "(III)I"⟩
abbrev cX5_firstNumberOf : ByteArray := prog_1_method_25_code
def yX5_firstNumberOf : MethodName := ⟨RX5, "firstNumberOf", "(I)I"⟩
abbrev cX5_isWithin : ByteArray := prog_1_method_26_code
def yX5_isWithin : MethodName := ⟨RX5, "isWithin", "(III)Z"⟩
abbrev cX5_isGroup : ByteArray := prog_1_method_27_code
def yX5_isGroup : MethodName := ⟨RX5, "isGroup", "(I)Z"⟩
abbrev cX5_isSpeed : ByteArray := prog_1_method_28_code
def yX5_isSpeed : MethodName := ⟨RX5, "isSpeed", "(I)Z"⟩
abbrev cX5_isSlot : ByteArray := prog_1_method_29_code
def yX5_isSlot : MethodName := ⟨RX5, "isSlot", "(I)Z"⟩
def RX6 : String := "CreditScrollModel"
def TX6 : u_T := fun k => match k with
  | 0 => ("CreditScrollModel", "z", "[I", true)
  | 1 => ("CreditScrollModel", "past", "[I", true)
  | 2 => ("CreditScrollModel", "slots", "[I", true)
  | 3 => ("CreditScrollModel", "isSaved", "[Z", true)
  | 4 => ("CreditScrollModel", "pastMany", "I", false)
  | 5 => ("CreditScrollModel", "pad", "[C", true)
  | 6 => ("CreditScrollModel", "typed", "I", false)
  | 7 => ("CreditScrollModel", "above", "[I", true)
  | 8 => ("CreditScrollModel", "ticks", "[I", true)
  | 9 => ("CreditScrollModel", "first", "[I", true)
  | 10 => ("CreditScrollModel", "last", "[I", true)
  | 11 => ("CreditScrollModel", "moved", "I", false)
  | 12 => ("CreditScrollModel", "cuesBefore", "[I", true)
  | 13 => ("CreditScrollModel", "read", "[I", true)
  | 14 => ("CreditScrollModel", "readMany", "I", false)
  | 15 => ("CreditScrollModel", "spot", "I", false)
  | _ => ("CreditScrollModel", "wrong", "I", false)
def tyX6 : Nat → FieldType := fun k => match k with
  | 0 => .array .int
  | 1 => .array .int
  | 2 => .array .int
  | 3 => .array .boolean
  | 4 => .int
  | 5 => .array .char
  | 6 => .int
  | 7 => .array .int
  | 8 => .array .int
  | 9 => .array .int
  | 10 => .array .int
  | 11 => .int
  | 12 => .array .int
  | 13 => .array .int
  | 14 => .int
  | 15 => .int
  | _ => .int
abbrev wsX60 : List Cond := u_ws RX6 TX6 17
theorem nmX6 : ∀ a, a < 17 → ∀ b, b < 17 → a ≠ b → (TX6 a).2.1 ≠ (TX6 b).2.1 := by decide +kernel
theorem tyX6_ok : ∀ k, k < 17 → parseFieldDescriptor (TX6 k).2.2.1 = some (tyX6 k) := by decide +kernel
abbrev cX6_init : ByteArray := prog_8_method_1_code
def yX6_init : MethodName := ⟨RX6, "<init>", "()V"⟩
abbrev cX6_in : ByteArray := prog_8_method_2_code
def yX6_in : MethodName := ⟨RX6, "in", "(III)Z"⟩
abbrev cX6_isLine : ByteArray := prog_8_method_3_code
def yX6_isLine : MethodName := ⟨RX6, "isLine", "(I)Z"⟩
abbrev cX6_isGroup : ByteArray := prog_8_method_4_code
def yX6_isGroup : MethodName := ⟨RX6, "isGroup", "(I)Z"⟩
abbrev cX6_isSpeed : ByteArray := prog_8_method_5_code
def yX6_isSpeed : MethodName := ⟨RX6, "isSpeed", "(I)Z"⟩
abbrev cX6_its : ByteArray := prog_8_method_6_code
def yX6_its : MethodName := ⟨RX6, "its", "(II)I"⟩
abbrev cX6_isNameOf : ByteArray := prog_8_method_7_code
def yX6_isNameOf : MethodName := ⟨RX6, "isNameOf", "(II)Z"⟩
abbrev cX6_record : ByteArray := prog_8_method_8_code
def yX6_record : MethodName := ⟨RX6, "record", "()V"⟩
abbrev cX6_undo : ByteArray := prog_8_method_9_code
def yX6_undo : MethodName := ⟨RX6, "undo", "()I"⟩
abbrev cX6_save : ByteArray := prog_8_method_10_code
def yX6_save : MethodName := ⟨RX6, "save", "(I)I"⟩
abbrev cX6_restore : ByteArray := prog_8_method_11_code
def yX6_restore : MethodName := ⟨RX6, "restore", "(I)I"⟩
abbrev cX6_height : ByteArray := prog_8_method_12_code
def yX6_height : MethodName := ⟨RX6, "height", "(I)I"⟩
abbrev cX6_begin : ByteArray := prog_8_method_13_code
def yX6_begin : MethodName := ⟨RX6, "begin", "()V"⟩
abbrev cX6_speedNow : ByteArray := prog_8_method_14_code
def yX6_speedNow : MethodName := ⟨RX6, "speedNow", "()I"⟩
abbrev cX6_isSeen : ByteArray := prog_8_method_15_code
def yX6_isSeen : MethodName := ⟨RX6, "isSeen", "(I)Z"⟩
abbrev cX6_run : ByteArray := prog_8_method_16_code
def yX6_run : MethodName := ⟨RX6, "run", "()I"⟩
abbrev cX6_namesOf : ByteArray := prog_8_method_17_code
def yX6_namesOf : MethodName := ⟨RX6, "namesOf", "(I)I"⟩
abbrev cX6_shortest : ByteArray := prog_8_method_18_code
def yX6_shortest : MethodName := ⟨RX6, "shortest", "(I)I"⟩
abbrev cX6_spread : ByteArray := prog_8_method_19_code
def yX6_spread : MethodName := ⟨RX6, "spread", "(I)I"⟩
abbrev cX6_firstName : ByteArray := prog_8_method_20_code
def yX6_firstName : MethodName := ⟨RX6, "firstName", "(I)I"⟩
abbrev cX6_leastOf : ByteArray := prog_8_method_21_code
def yX6_leastOf : MethodName := ⟨RX6, "leastOf", "(I)I"⟩
abbrev cX6_mostOf : ByteArray := prog_8_method_22_code
def yX6_mostOf : MethodName := ⟨RX6, "mostOf", "(I)I"⟩
abbrev cX6_set : ByteArray := prog_8_method_23_code
def yX6_set : MethodName := ⟨RX6, "set", "(II)I"⟩
abbrev cX6_add : ByteArray := prog_8_method_24_code
def yX6_add : MethodName := ⟨RX6, "add", "(IIII)I"⟩
abbrev cX6_name : ByteArray := prog_8_method_25_code
def yX6_name : MethodName := ⟨RX6, "name", "(II)I"⟩
abbrev cX6_line : ByteArray := prog_8_method_26_code
def yX6_line : MethodName := ⟨RX6, "line", "(I)I"⟩
abbrev cX6_cue : ByteArray := prog_8_method_27_code
def yX6_cue : MethodName := ⟨RX6, "cue", "(II)I"⟩
abbrev cX6_exchange : ByteArray := prog_8_method_28_code
def yX6_exchange : MethodName := ⟨RX6, "exchange", "(I)V"⟩
abbrev cX6_move : ByteArray := prog_8_method_29_code
def yX6_move : MethodName := ⟨RX6, "move", "(II)I"⟩
abbrev cX6_drop : ByteArray := prog_8_method_30_code
def yX6_drop : MethodName := ⟨RX6, "drop", "(I)I"⟩
abbrev cX6_turnOnce : ByteArray := prog_8_method_31_code
def yX6_turnOnce : MethodName := ⟨RX6, "turnOnce", "(I)V"⟩
abbrev cX6_turn : ByteArray := prog_8_method_32_code
def yX6_turn : MethodName := ⟨RX6, "turn", "(II)I"⟩
abbrev cX6_of : ByteArray := prog_8_method_33_code
def yX6_of : MethodName := ⟨RX6, "of", "(II)I"⟩
abbrev cX6_group : ByteArray := prog_8_method_34_code
def yX6_group : MethodName := ⟨RX6, "group", "(II)I"⟩
abbrev cX6_seenNow : ByteArray := prog_8_method_35_code
def yX6_seenNow : MethodName := ⟨RX6, "seenNow", "(I)I"⟩
abbrev cX6_at : ByteArray := prog_8_method_36_code
def yX6_at : MethodName := ⟨RX6, "at", "(II)I"⟩
abbrev cX6_unequal : ByteArray := prog_8_method_37_code
def yX6_unequal : MethodName := ⟨RX6, "unequal", "()I"⟩
abbrev cX6_names : ByteArray := prog_8_method_38_code
def yX6_names : MethodName := ⟨RX6, "names", "(Z)I"⟩
abbrev cX6_cues : ByteArray := prog_8_method_39_code
def yX6_cues : MethodName := ⟨RX6, "cues", "()I"⟩
abbrev cX6_count : ByteArray := prog_8_method_40_code
def yX6_count : MethodName := ⟨RX6, "count", "(I)I"⟩
abbrev cX6_allSpreads : ByteArray := prog_8_method_41_code
def yX6_allSpreads : MethodName := ⟨RX6, "allSpreads", "()I"⟩
abbrev cX6_blame : ByteArray := prog_8_method_42_code
def yX6_blame : MethodName := ⟨RX6, "blame", "(I)I"⟩
abbrev cX6_areSeenFor : ByteArray := prog_8_method_43_code
def yX6_areSeenFor : MethodName := ⟨RX6, "areSeenFor", "(I)Z"⟩
abbrev cX6_speedFor : ByteArray := prog_8_method_44_code
def yX6_speedFor : MethodName := ⟨RX6, "speedFor", "(I)I"⟩
abbrev cX6_seenIf : ByteArray := prog_8_method_45_code
def yX6_seenIf : MethodName := ⟨RX6, "seenIf", "(II)I"⟩
abbrev cX6_bestCue : ByteArray := prog_8_method_46_code
def yX6_bestCue : MethodName := ⟨RX6, "bestCue", "(III)I"⟩
abbrev cX6_put : ByteArray := prog_8_method_47_code
def yX6_put : MethodName := ⟨RX6, "put", "(J)I"⟩
abbrev cX6_wipe : ByteArray := prog_8_method_48_code
def yX6_wipe : MethodName := ⟨RX6, "wipe", "()I"⟩
abbrev cX6_letter : ByteArray := prog_8_method_49_code
def yX6_letter : MethodName := ⟨RX6, "letter", "()I"⟩
abbrev cX6_wants : ByteArray := prog_8_method_50_code
def yX6_wants : MethodName := ⟨RX6, "wants", "(Z)V"⟩
abbrev cX6_number : ByteArray := prog_8_method_51_code
def yX6_number : MethodName := ⟨RX6, "number", "(II)I"⟩
abbrev cX6_readLine : ByteArray := prog_8_method_52_code
def yX6_readLine : MethodName := ⟨RX6, "readLine", "()V"⟩
abbrev cX6_readPad : ByteArray := prog_8_method_53_code
def yX6_readPad : MethodName := ⟨RX6, "readPad", "()I"⟩
abbrev cX6_fault : ByteArray := prog_8_method_54_code
def yX6_fault : MethodName := ⟨RX6, "fault", "()I"⟩
abbrev cX6_read : ByteArray := prog_8_method_55_code
def yX6_read : MethodName := ⟨RX6, "read", "()I"⟩
def RL : String := "CreditScrollLaw"
abbrev cL_law : ByteArray := code
def yL_law : MethodName := ⟨RL, "law", "([I)Z"⟩
abbrev vwCl : List vw_C := [(RX0, TX0, 9), (RX1, TX1, 6), (RX2, TX2, 3), (RX3, TX3, 3), (RX4, TX4, 2), (RX5, TX5, 7), (RX6, TX6, 17)]
