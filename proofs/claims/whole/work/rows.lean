section
-- ===== PART A: goes FIRST, ahead of the names: the tables' words, and 'selects' of the private methods out of them =====
/-- a private method of a class that the tables say can be made, by its rows of tables_1 -/
def lw_okq (q : MethodName × Nat) : Prop := (q.1.cls ≠ "java/lang/invoke/MethodHandle" ∧ q.1.cls ≠ "java/lang/invoke/VarHandle") ∧ Cond.instantiable q.1.cls q.2 ∈ tables_1 ∧ Cond.privateMethod q.1 ∈ tables_1 ∧ Cond.instanceMethod q.1 ∈ tables_1
theorem lw_p0 : lw_okq (⟨"CreditScroll", "addAsChange", "(III)I"⟩, 7) := ⟨⟨by decide +kernel, by decide +kernel⟩, List.mem_of_getElem? (i := 11) (by decide +kernel), List.mem_of_getElem? (i := 211) (by decide +kernel), List.mem_of_getElem? (i := 212) (by decide +kernel)⟩
theorem lw_p1 : lw_okq (⟨"CreditScroll$Course", "layOut", "()V"⟩, 9) := ⟨⟨by decide +kernel, by decide +kernel⟩, List.mem_of_getElem? (i := 61) (by decide +kernel), List.mem_of_getElem? (i := 239) (by decide +kernel), List.mem_of_getElem? (i := 240) (by decide +kernel)⟩
theorem lw_p2 : lw_okq (⟨"CreditScroll$Course", "pace", "()V"⟩, 9) := ⟨⟨by decide +kernel, by decide +kernel⟩, List.mem_of_getElem? (i := 61) (by decide +kernel), List.mem_of_getElem? (i := 247) (by decide +kernel), List.mem_of_getElem? (i := 248) (by decide +kernel)⟩
theorem lw_p3 : lw_okq (⟨"CreditScroll$Course", "begin", "(III)V"⟩, 9) := ⟨⟨by decide +kernel, by decide +kernel⟩, List.mem_of_getElem? (i := 61) (by decide +kernel), List.mem_of_getElem? (i := 251) (by decide +kernel), List.mem_of_getElem? (i := 252) (by decide +kernel)⟩
theorem lw_p4 : lw_okq (⟨"CreditScroll$Course", "changeSpeed", "(II)V"⟩, 9) := ⟨⟨by decide +kernel, by decide +kernel⟩, List.mem_of_getElem? (i := 61) (by decide +kernel), List.mem_of_getElem? (i := 255) (by decide +kernel), List.mem_of_getElem? (i := 256) (by decide +kernel)⟩
theorem lw_p5 : lw_okq (⟨"CreditScroll$Course", "ticksIn", "(II)I"⟩, 9) := ⟨⟨by decide +kernel, by decide +kernel⟩, List.mem_of_getElem? (i := 61) (by decide +kernel), List.mem_of_getElem? (i := 259) (by decide +kernel), List.mem_of_getElem? (i := 260) (by decide +kernel)⟩
theorem lw_p6 : lw_okq (⟨"CreditScroll$Course", "watch", "()V"⟩, 9) := ⟨⟨by decide +kernel, by decide +kernel⟩, List.mem_of_getElem? (i := 61) (by decide +kernel), List.mem_of_getElem? (i := 263) (by decide +kernel), List.mem_of_getElem? (i := 264) (by decide +kernel)⟩
theorem lw_p7 : lw_okq (⟨"CreditScroll$Course", "stretchReaching", "(II)I"⟩, 9) := ⟨⟨by decide +kernel, by decide +kernel⟩, List.mem_of_getElem? (i := 61) (by decide +kernel), List.mem_of_getElem? (i := 267) (by decide +kernel), List.mem_of_getElem? (i := 268) (by decide +kernel)⟩
theorem lw_p8 : lw_okq (⟨"CreditScroll$Course", "timeIn", "(II)I"⟩, 9) := ⟨⟨by decide +kernel, by decide +kernel⟩, List.mem_of_getElem? (i := 61) (by decide +kernel), List.mem_of_getElem? (i := 271) (by decide +kernel), List.mem_of_getElem? (i := 272) (by decide +kernel)⟩
theorem lw_p9 : lw_okq (⟨"CreditScroll$Credits", "exchange", "(II)V"⟩, 6) := ⟨⟨by decide +kernel, by decide +kernel⟩, List.mem_of_getElem? (i := 19) (by decide +kernel), List.mem_of_getElem? (i := 283) (by decide +kernel), List.mem_of_getElem? (i := 284) (by decide +kernel)⟩
theorem lw_p10 : lw_okq (⟨"CreditScroll$Pad", "parseLineInto", "(LCreditScroll$Credits;)Z"⟩, 3) := ⟨⟨by decide +kernel, by decide +kernel⟩, List.mem_of_getElem? (i := 99) (by decide +kernel), List.mem_of_getElem? (i := 319) (by decide +kernel), List.mem_of_getElem? (i := 320) (by decide +kernel)⟩
theorem lw_p11 : lw_okq (⟨"CreditScroll$Pad", "kindHere", "()I"⟩, 3) := ⟨⟨by decide +kernel, by decide +kernel⟩, List.mem_of_getElem? (i := 99) (by decide +kernel), List.mem_of_getElem? (i := 323) (by decide +kernel), List.mem_of_getElem? (i := 324) (by decide +kernel)⟩
theorem lw_p12 : lw_okq (⟨"CreditScroll$Pad", "character", "()I"⟩, 3) := ⟨⟨by decide +kernel, by decide +kernel⟩, List.mem_of_getElem? (i := 99) (by decide +kernel), List.mem_of_getElem? (i := 327) (by decide +kernel), List.mem_of_getElem? (i := 328) (by decide +kernel)⟩
theorem lw_p13 : lw_okq (⟨"CreditScroll$Pad", "digit", "()I"⟩, 3) := ⟨⟨by decide +kernel, by decide +kernel⟩, List.mem_of_getElem? (i := 99) (by decide +kernel), List.mem_of_getElem? (i := 331) (by decide +kernel), List.mem_of_getElem? (i := 332) (by decide +kernel)⟩
theorem lw_p14 : lw_okq (⟨"CreditScroll$Pad", "parseNumber", "(II)I"⟩, 3) := ⟨⟨by decide +kernel, by decide +kernel⟩, List.mem_of_getElem? (i := 99) (by decide +kernel), List.mem_of_getElem? (i := 337) (by decide +kernel), List.mem_of_getElem? (i := 338) (by decide +kernel)⟩
theorem lw_p15 : lw_okq (⟨"CreditScroll$Course", "mostSeenOf", "(I)I"⟩, 9) := ⟨⟨by decide +kernel, by decide +kernel⟩, List.mem_of_getElem? (i := 61) (by decide +kernel), List.mem_of_getElem? (i := 360) (by decide +kernel), List.mem_of_getElem? (i := 361) (by decide +kernel)⟩
def lw_privs_1 : List (MethodName × Nat) := [(⟨"CreditScroll", "addAsChange", "(III)I"⟩, 7), (⟨"CreditScroll$Course", "layOut", "()V"⟩, 9), (⟨"CreditScroll$Course", "pace", "()V"⟩, 9), (⟨"CreditScroll$Course", "begin", "(III)V"⟩, 9), (⟨"CreditScroll$Course", "changeSpeed", "(II)V"⟩, 9), (⟨"CreditScroll$Course", "ticksIn", "(II)I"⟩, 9), (⟨"CreditScroll$Course", "watch", "()V"⟩, 9), (⟨"CreditScroll$Course", "stretchReaching", "(II)I"⟩, 9), (⟨"CreditScroll$Course", "timeIn", "(II)I"⟩, 9), (⟨"CreditScroll$Credits", "exchange", "(II)V"⟩, 6), (⟨"CreditScroll$Pad", "parseLineInto", "(LCreditScroll$Credits;)Z"⟩, 3), (⟨"CreditScroll$Pad", "kindHere", "()I"⟩, 3), (⟨"CreditScroll$Pad", "character", "()I"⟩, 3), (⟨"CreditScroll$Pad", "digit", "()I"⟩, 3), (⟨"CreditScroll$Pad", "parseNumber", "(II)I"⟩, 3), (⟨"CreditScroll$Course", "mostSeenOf", "(I)I"⟩, 9)]
theorem lw_r1 : ∀ q ∈ lw_privs_1, lw_okq q := List.forall_mem_cons.mpr ⟨lw_p0, List.forall_mem_cons.mpr ⟨lw_p1, List.forall_mem_cons.mpr ⟨lw_p2, List.forall_mem_cons.mpr ⟨lw_p3, List.forall_mem_cons.mpr ⟨lw_p4, List.forall_mem_cons.mpr ⟨lw_p5, List.forall_mem_cons.mpr ⟨lw_p6, List.forall_mem_cons.mpr ⟨lw_p7, List.forall_mem_cons.mpr ⟨lw_p8, List.forall_mem_cons.mpr ⟨lw_p9, List.forall_mem_cons.mpr ⟨lw_p10, List.forall_mem_cons.mpr ⟨lw_p11, List.forall_mem_cons.mpr ⟨lw_p12, List.forall_mem_cons.mpr ⟨lw_p13, List.forall_mem_cons.mpr ⟨lw_p14, List.forall_mem_cons.mpr ⟨lw_p15, fun _ h => absurd h List.not_mem_nil⟩⟩⟩⟩⟩⟩⟩⟩⟩⟩⟩⟩⟩⟩⟩⟩
theorem lw_p16 : lw_okq (⟨"CreditScroll", "firstNumberOf", "(I)I"⟩, 7) := ⟨⟨by decide +kernel, by decide +kernel⟩, List.mem_of_getElem? (i := 11) (by decide +kernel), List.mem_of_getElem? (i := 377) (by decide +kernel), List.mem_of_getElem? (i := 378) (by decide +kernel)⟩
theorem lw_p17 : lw_okq (⟨"CreditScroll$Course", "isSeenAt", "(II)Z"⟩, 9) := ⟨⟨by decide +kernel, by decide +kernel⟩, List.mem_of_getElem? (i := 61) (by decide +kernel), List.mem_of_getElem? (i := 389) (by decide +kernel), List.mem_of_getElem? (i := 390) (by decide +kernel)⟩
theorem lw_p18 : lw_okq (⟨"CreditScroll$Course", "stretchAt", "(I)I"⟩, 9) := ⟨⟨by decide +kernel, by decide +kernel⟩, List.mem_of_getElem? (i := 61) (by decide +kernel), List.mem_of_getElem? (i := 405) (by decide +kernel), List.mem_of_getElem? (i := 406) (by decide +kernel)⟩
theorem lw_p19 : lw_okq (⟨"CreditScrollModel", "record", "()V"⟩, 17) := ⟨⟨by decide +kernel, by decide +kernel⟩, List.mem_of_getElem? (i := 503) (by decide +kernel), List.mem_of_getElem? (i := 576) (by decide +kernel), List.mem_of_getElem? (i := 577) (by decide +kernel)⟩
theorem lw_p20 : lw_okq (⟨"CreditScrollModel", "add", "(IIII)I"⟩, 17) := ⟨⟨by decide +kernel, by decide +kernel⟩, List.mem_of_getElem? (i := 503) (by decide +kernel), List.mem_of_getElem? (i := 597) (by decide +kernel), List.mem_of_getElem? (i := 598) (by decide +kernel)⟩
theorem lw_p21 : lw_okq (⟨"CreditScrollModel", "isLine", "(I)Z"⟩, 17) := ⟨⟨by decide +kernel, by decide +kernel⟩, List.mem_of_getElem? (i := 503) (by decide +kernel), List.mem_of_getElem? (i := 609) (by decide +kernel), List.mem_of_getElem? (i := 610) (by decide +kernel)⟩
theorem lw_p22 : lw_okq (⟨"CreditScrollModel", "its", "(II)I"⟩, 17) := ⟨⟨by decide +kernel, by decide +kernel⟩, List.mem_of_getElem? (i := 503) (by decide +kernel), List.mem_of_getElem? (i := 613) (by decide +kernel), List.mem_of_getElem? (i := 614) (by decide +kernel)⟩
theorem lw_p23 : lw_okq (⟨"CreditScrollModel", "run", "()I"⟩, 17) := ⟨⟨by decide +kernel, by decide +kernel⟩, List.mem_of_getElem? (i := 503) (by decide +kernel), List.mem_of_getElem? (i := 621) (by decide +kernel), List.mem_of_getElem? (i := 622) (by decide +kernel)⟩
theorem lw_p24 : lw_okq (⟨"CreditScrollModel", "begin", "()V"⟩, 17) := ⟨⟨by decide +kernel, by decide +kernel⟩, List.mem_of_getElem? (i := 503) (by decide +kernel), List.mem_of_getElem? (i := 625) (by decide +kernel), List.mem_of_getElem? (i := 626) (by decide +kernel)⟩
theorem lw_p25 : lw_okq (⟨"CreditScrollModel", "height", "(I)I"⟩, 17) := ⟨⟨by decide +kernel, by decide +kernel⟩, List.mem_of_getElem? (i := 503) (by decide +kernel), List.mem_of_getElem? (i := 629) (by decide +kernel), List.mem_of_getElem? (i := 630) (by decide +kernel)⟩
theorem lw_p26 : lw_okq (⟨"CreditScrollModel", "speedNow", "()I"⟩, 17) := ⟨⟨by decide +kernel, by decide +kernel⟩, List.mem_of_getElem? (i := 503) (by decide +kernel), List.mem_of_getElem? (i := 633) (by decide +kernel), List.mem_of_getElem? (i := 634) (by decide +kernel)⟩
theorem lw_p27 : lw_okq (⟨"CreditScrollModel", "isSeen", "(I)Z"⟩, 17) := ⟨⟨by decide +kernel, by decide +kernel⟩, List.mem_of_getElem? (i := 503) (by decide +kernel), List.mem_of_getElem? (i := 637) (by decide +kernel), List.mem_of_getElem? (i := 638) (by decide +kernel)⟩
theorem lw_p28 : lw_okq (⟨"CreditScrollModel", "exchange", "(I)V"⟩, 17) := ⟨⟨by decide +kernel, by decide +kernel⟩, List.mem_of_getElem? (i := 503) (by decide +kernel), List.mem_of_getElem? (i := 641) (by decide +kernel), List.mem_of_getElem? (i := 642) (by decide +kernel)⟩
theorem lw_p29 : lw_okq (⟨"CreditScrollModel", "namesOf", "(I)I"⟩, 17) := ⟨⟨by decide +kernel, by decide +kernel⟩, List.mem_of_getElem? (i := 503) (by decide +kernel), List.mem_of_getElem? (i := 653) (by decide +kernel), List.mem_of_getElem? (i := 654) (by decide +kernel)⟩
theorem lw_p30 : lw_okq (⟨"CreditScrollModel", "isNameOf", "(II)Z"⟩, 17) := ⟨⟨by decide +kernel, by decide +kernel⟩, List.mem_of_getElem? (i := 503) (by decide +kernel), List.mem_of_getElem? (i := 657) (by decide +kernel), List.mem_of_getElem? (i := 658) (by decide +kernel)⟩
theorem lw_p31 : lw_okq (⟨"CreditScrollModel", "turnOnce", "(I)V"⟩, 17) := ⟨⟨by decide +kernel, by decide +kernel⟩, List.mem_of_getElem? (i := 503) (by decide +kernel), List.mem_of_getElem? (i := 661) (by decide +kernel), List.mem_of_getElem? (i := 662) (by decide +kernel)⟩
def lw_privs_2 : List (MethodName × Nat) := [(⟨"CreditScroll", "firstNumberOf", "(I)I"⟩, 7), (⟨"CreditScroll$Course", "isSeenAt", "(II)Z"⟩, 9), (⟨"CreditScroll$Course", "stretchAt", "(I)I"⟩, 9), (⟨"CreditScrollModel", "record", "()V"⟩, 17), (⟨"CreditScrollModel", "add", "(IIII)I"⟩, 17), (⟨"CreditScrollModel", "isLine", "(I)Z"⟩, 17), (⟨"CreditScrollModel", "its", "(II)I"⟩, 17), (⟨"CreditScrollModel", "run", "()I"⟩, 17), (⟨"CreditScrollModel", "begin", "()V"⟩, 17), (⟨"CreditScrollModel", "height", "(I)I"⟩, 17), (⟨"CreditScrollModel", "speedNow", "()I"⟩, 17), (⟨"CreditScrollModel", "isSeen", "(I)Z"⟩, 17), (⟨"CreditScrollModel", "exchange", "(I)V"⟩, 17), (⟨"CreditScrollModel", "namesOf", "(I)I"⟩, 17), (⟨"CreditScrollModel", "isNameOf", "(II)Z"⟩, 17), (⟨"CreditScrollModel", "turnOnce", "(I)V"⟩, 17)]
theorem lw_r2 : ∀ q ∈ lw_privs_2, lw_okq q := List.forall_mem_cons.mpr ⟨lw_p16, List.forall_mem_cons.mpr ⟨lw_p17, List.forall_mem_cons.mpr ⟨lw_p18, List.forall_mem_cons.mpr ⟨lw_p19, List.forall_mem_cons.mpr ⟨lw_p20, List.forall_mem_cons.mpr ⟨lw_p21, List.forall_mem_cons.mpr ⟨lw_p22, List.forall_mem_cons.mpr ⟨lw_p23, List.forall_mem_cons.mpr ⟨lw_p24, List.forall_mem_cons.mpr ⟨lw_p25, List.forall_mem_cons.mpr ⟨lw_p26, List.forall_mem_cons.mpr ⟨lw_p27, List.forall_mem_cons.mpr ⟨lw_p28, List.forall_mem_cons.mpr ⟨lw_p29, List.forall_mem_cons.mpr ⟨lw_p30, List.forall_mem_cons.mpr ⟨lw_p31, fun _ h => absurd h List.not_mem_nil⟩⟩⟩⟩⟩⟩⟩⟩⟩⟩⟩⟩⟩⟩⟩⟩
theorem lw_p32 : lw_okq (⟨"CreditScrollModel", "firstName", "(I)I"⟩, 17) := ⟨⟨by decide +kernel, by decide +kernel⟩, List.mem_of_getElem? (i := 503) (by decide +kernel), List.mem_of_getElem? (i := 665) (by decide +kernel), List.mem_of_getElem? (i := 666) (by decide +kernel)⟩
theorem lw_p33 : lw_okq (⟨"CreditScrollModel", "spread", "(I)I"⟩, 17) := ⟨⟨by decide +kernel, by decide +kernel⟩, List.mem_of_getElem? (i := 503) (by decide +kernel), List.mem_of_getElem? (i := 677) (by decide +kernel), List.mem_of_getElem? (i := 678) (by decide +kernel)⟩
theorem lw_p34 : lw_okq (⟨"CreditScrollModel", "shortest", "(I)I"⟩, 17) := ⟨⟨by decide +kernel, by decide +kernel⟩, List.mem_of_getElem? (i := 503) (by decide +kernel), List.mem_of_getElem? (i := 681) (by decide +kernel), List.mem_of_getElem? (i := 682) (by decide +kernel)⟩
theorem lw_p35 : lw_okq (⟨"CreditScrollModel", "seenNow", "(I)I"⟩, 17) := ⟨⟨by decide +kernel, by decide +kernel⟩, List.mem_of_getElem? (i := 503) (by decide +kernel), List.mem_of_getElem? (i := 689) (by decide +kernel), List.mem_of_getElem? (i := 690) (by decide +kernel)⟩
theorem lw_p36 : lw_okq (⟨"CreditScrollModel", "names", "(Z)I"⟩, 17) := ⟨⟨by decide +kernel, by decide +kernel⟩, List.mem_of_getElem? (i := 503) (by decide +kernel), List.mem_of_getElem? (i := 697) (by decide +kernel), List.mem_of_getElem? (i := 698) (by decide +kernel)⟩
theorem lw_p37 : lw_okq (⟨"CreditScrollModel", "unequal", "()I"⟩, 17) := ⟨⟨by decide +kernel, by decide +kernel⟩, List.mem_of_getElem? (i := 503) (by decide +kernel), List.mem_of_getElem? (i := 701) (by decide +kernel), List.mem_of_getElem? (i := 702) (by decide +kernel)⟩
theorem lw_p38 : lw_okq (⟨"CreditScrollModel", "cues", "()I"⟩, 17) := ⟨⟨by decide +kernel, by decide +kernel⟩, List.mem_of_getElem? (i := 503) (by decide +kernel), List.mem_of_getElem? (i := 705) (by decide +kernel), List.mem_of_getElem? (i := 706) (by decide +kernel)⟩
theorem lw_p39 : lw_okq (⟨"CreditScrollModel", "allSpreads", "()I"⟩, 17) := ⟨⟨by decide +kernel, by decide +kernel⟩, List.mem_of_getElem? (i := 503) (by decide +kernel), List.mem_of_getElem? (i := 713) (by decide +kernel), List.mem_of_getElem? (i := 714) (by decide +kernel)⟩
theorem lw_p40 : lw_okq (⟨"CreditScrollModel", "areSeenFor", "(I)Z"⟩, 17) := ⟨⟨by decide +kernel, by decide +kernel⟩, List.mem_of_getElem? (i := 503) (by decide +kernel), List.mem_of_getElem? (i := 721) (by decide +kernel), List.mem_of_getElem? (i := 722) (by decide +kernel)⟩
theorem lw_p41 : lw_okq (⟨"CreditScrollModel", "readPad", "()I"⟩, 17) := ⟨⟨by decide +kernel, by decide +kernel⟩, List.mem_of_getElem? (i := 503) (by decide +kernel), List.mem_of_getElem? (i := 749) (by decide +kernel), List.mem_of_getElem? (i := 750) (by decide +kernel)⟩
theorem lw_p42 : lw_okq (⟨"CreditScrollModel", "readLine", "()V"⟩, 17) := ⟨⟨by decide +kernel, by decide +kernel⟩, List.mem_of_getElem? (i := 503) (by decide +kernel), List.mem_of_getElem? (i := 753) (by decide +kernel), List.mem_of_getElem? (i := 754) (by decide +kernel)⟩
theorem lw_p43 : lw_okq (⟨"CreditScrollModel", "letter", "()I"⟩, 17) := ⟨⟨by decide +kernel, by decide +kernel⟩, List.mem_of_getElem? (i := 503) (by decide +kernel), List.mem_of_getElem? (i := 757) (by decide +kernel), List.mem_of_getElem? (i := 758) (by decide +kernel)⟩
theorem lw_p44 : lw_okq (⟨"CreditScrollModel", "wants", "(Z)V"⟩, 17) := ⟨⟨by decide +kernel, by decide +kernel⟩, List.mem_of_getElem? (i := 503) (by decide +kernel), List.mem_of_getElem? (i := 761) (by decide +kernel), List.mem_of_getElem? (i := 762) (by decide +kernel)⟩
theorem lw_p45 : lw_okq (⟨"CreditScrollModel", "number", "(II)I"⟩, 17) := ⟨⟨by decide +kernel, by decide +kernel⟩, List.mem_of_getElem? (i := 503) (by decide +kernel), List.mem_of_getElem? (i := 765) (by decide +kernel), List.mem_of_getElem? (i := 766) (by decide +kernel)⟩
def lw_privs_3 : List (MethodName × Nat) := [(⟨"CreditScrollModel", "firstName", "(I)I"⟩, 17), (⟨"CreditScrollModel", "spread", "(I)I"⟩, 17), (⟨"CreditScrollModel", "shortest", "(I)I"⟩, 17), (⟨"CreditScrollModel", "seenNow", "(I)I"⟩, 17), (⟨"CreditScrollModel", "names", "(Z)I"⟩, 17), (⟨"CreditScrollModel", "unequal", "()I"⟩, 17), (⟨"CreditScrollModel", "cues", "()I"⟩, 17), (⟨"CreditScrollModel", "allSpreads", "()I"⟩, 17), (⟨"CreditScrollModel", "areSeenFor", "(I)Z"⟩, 17), (⟨"CreditScrollModel", "readPad", "()I"⟩, 17), (⟨"CreditScrollModel", "readLine", "()V"⟩, 17), (⟨"CreditScrollModel", "letter", "()I"⟩, 17), (⟨"CreditScrollModel", "wants", "(Z)V"⟩, 17), (⟨"CreditScrollModel", "number", "(II)I"⟩, 17)]
theorem lw_r3 : ∀ q ∈ lw_privs_3, lw_okq q := List.forall_mem_cons.mpr ⟨lw_p32, List.forall_mem_cons.mpr ⟨lw_p33, List.forall_mem_cons.mpr ⟨lw_p34, List.forall_mem_cons.mpr ⟨lw_p35, List.forall_mem_cons.mpr ⟨lw_p36, List.forall_mem_cons.mpr ⟨lw_p37, List.forall_mem_cons.mpr ⟨lw_p38, List.forall_mem_cons.mpr ⟨lw_p39, List.forall_mem_cons.mpr ⟨lw_p40, List.forall_mem_cons.mpr ⟨lw_p41, List.forall_mem_cons.mpr ⟨lw_p42, List.forall_mem_cons.mpr ⟨lw_p43, List.forall_mem_cons.mpr ⟨lw_p44, List.forall_mem_cons.mpr ⟨lw_p45, fun _ h => absurd h List.not_mem_nil⟩⟩⟩⟩⟩⟩⟩⟩⟩⟩⟩⟩⟩⟩
def lw_privs : List (MethodName × Nat) := lw_privs_1 ++ (lw_privs_2 ++ (lw_privs_3))
def lw_tbl : List Cond := k2_sels lw_privs ++ tables_1
theorem lw_privs_ok : ∀ q ∈ lw_privs, lw_okq q := by
  show ∀ q ∈ lw_privs_1 ++ (lw_privs_2 ++ (lw_privs_3)), lw_okq q
  exact List.forall_mem_append.mpr ⟨lw_r1, List.forall_mem_append.mpr ⟨lw_r2, lw_r3⟩⟩
-- ===== names =====
def RX0 : String := "CreditScroll$Course"
def TX0 : u_T := fun k => match k with
  | 0 => ("CreditScroll$Course", "credits", "LCreditScroll$Credits;", true)
  | 1 => ("CreditScroll$Course", "tops", "[I", true)
  | 2 => ("CreditScroll$Course", "firsts", "[I", true)
  | 3 => ("CreditScroll$Course", "seen", "[I", true)
  | 4 => ("CreditScroll$Course", "rows", "I", false)
  | 5 => ("CreditScroll$Course", "times", "[I", true)
  | 6 => ("CreditScroll$Course", "heights", "[I", true)
  | 7 => ("CreditScroll$Course", "speeds", "[I", true)
  | _ => ("CreditScroll$Course", "stretches", "I", false)
def tyX0 : Nat → FieldType := fun k => match k with
  | 0 => .object "CreditScroll$Credits"
  | 1 => .array .int
  | 2 => .array .int
  | 3 => .array .int
  | 4 => .int
  | 5 => .array .int
  | 6 => .array .int
  | 7 => .array .int
  | _ => .int
abbrev wsX00 : List Cond := u_ws RX0 TX0 9
theorem nmX0 : ∀ a, a < 9 → ∀ b, b < 9 → a ≠ b → (TX0 a).2.1 ≠ (TX0 b).2.1 := by decide +kernel
theorem tyX0_ok : ∀ k, k < 9 → parseFieldDescriptor (TX0 k).2.2.1 = some (tyX0 k) := by decide +kernel
abbrev cX0_init : ByteArray := prog_2_method_1_code
def yX0_init : MethodName := ⟨RX0, "<init>", "(LCreditScroll$Credits;)V"⟩
abbrev cX0_follow : ByteArray := prog_2_method_2_code
def yX0_follow : MethodName := ⟨RX0, "follow", "()V"⟩
abbrev cX0_layOut : ByteArray := prog_2_method_3_code
def yX0_layOut : MethodName := ⟨RX0, "layOut", "()V"⟩
abbrev cX0_pace : ByteArray := prog_2_method_4_code
def yX0_pace : MethodName := ⟨RX0, "pace", "()V"⟩
abbrev cX0_changeSpeed : ByteArray := prog_2_method_5_code
def yX0_changeSpeed : MethodName := ⟨RX0, "changeSpeed", "(II)V"⟩
abbrev cX0_begin : ByteArray := prog_2_method_6_code
def yX0_begin : MethodName := ⟨RX0, "begin", "(III)V"⟩
abbrev cX0_watch : ByteArray := prog_2_method_7_code
def yX0_watch : MethodName := ⟨RX0, "watch", "()V"⟩
abbrev cX0_stretchReaching : ByteArray := prog_2_method_8_code
def yX0_stretchReaching : MethodName := ⟨RX0, "stretchReaching", "(II)I"⟩
abbrev cX0_timeIn : ByteArray := prog_2_method_9_code
def yX0_timeIn : MethodName := ⟨RX0, "timeIn", "(II)I"⟩
abbrev cX0_ticksIn : ByteArray := prog_2_method_10_code
def yX0_ticksIn : MethodName := ⟨RX0, "ticksIn", "(II)I"⟩
abbrev cX0_ticksInAll : ByteArray := prog_2_method_11_code
def yX0_ticksInAll : MethodName := ⟨RX0, "ticksInAll", "()I"⟩
abbrev cX0_stretchAt : ByteArray := prog_2_method_12_code
def yX0_stretchAt : MethodName := ⟨RX0, "stretchAt", "(I)I"⟩
abbrev cX0_speedAt : ByteArray := prog_2_method_13_code
def yX0_speedAt : MethodName := ⟨RX0, "speedAt", "(I)I"⟩
abbrev cX0_movedAt : ByteArray := prog_2_method_14_code
def yX0_movedAt : MethodName := ⟨RX0, "movedAt", "(I)I"⟩
abbrev cX0_isSeenAt : ByteArray := prog_2_method_15_code
def yX0_isSeenAt : MethodName := ⟨RX0, "isSeenAt", "(II)Z"⟩
abbrev cX0_firstSeenAt : ByteArray := prog_2_method_16_code
def yX0_firstSeenAt : MethodName := ⟨RX0, "firstSeenAt", "(I)I"⟩
abbrev cX0_lastSeenAt : ByteArray := prog_2_method_17_code
def yX0_lastSeenAt : MethodName := ⟨RX0, "lastSeenAt", "(I)I"⟩
abbrev cX0_howManySeenAt : ByteArray := prog_2_method_18_code
def yX0_howManySeenAt : MethodName := ⟨RX0, "howManySeenAt", "(I)I"⟩
abbrev cX0_leastSeenLineOf : ByteArray := prog_2_method_19_code
def yX0_leastSeenLineOf : MethodName := ⟨RX0, "leastSeenLineOf", "(I)I"⟩
abbrev cX0_leastSeenOf : ByteArray := prog_2_method_20_code
def yX0_leastSeenOf : MethodName := ⟨RX0, "leastSeenOf", "(I)I"⟩
abbrev cX0_mostSeenOf : ByteArray := prog_2_method_21_code
def yX0_mostSeenOf : MethodName := ⟨RX0, "mostSeenOf", "(I)I"⟩
abbrev cX0_spreadOf : ByteArray := prog_2_method_22_code
def yX0_spreadOf : MethodName := ⟨RX0, "spreadOf", "(I)I"⟩
abbrev cX0_spreadsInAll : ByteArray := prog_2_method_23_code
def yX0_spreadsInAll : MethodName := ⟨RX0, "spreadsInAll", "()I"⟩
abbrev cX0_unequalGroups : ByteArray := prog_2_method_24_code
def yX0_unequalGroups : MethodName := ⟨RX0, "unequalGroups", "()I"⟩
abbrev cX0_neverSeenNames : ByteArray := prog_2_method_25_code
def yX0_neverSeenNames : MethodName := ⟨RX0, "neverSeenNames", "()I"⟩
abbrev cX0_showsNamesFor : ByteArray := prog_2_method_26_code
def yX0_showsNamesFor : MethodName := ⟨RX0, "showsNamesFor", "(I)Z"⟩
def RX1 : String := "CreditScroll$Credits"
def TX1 : u_T := fun k => match k with
  | 0 => ("CreditScroll$Credits", "settings", "[I", true)
  | 1 => ("CreditScroll$Credits", "kinds", "[I", true)
  | 2 => ("CreditScroll$Credits", "groups", "[I", true)
  | 3 => ("CreditScroll$Credits", "numbers", "[I", true)
  | 4 => ("CreditScroll$Credits", "cues", "[I", true)
  | _ => ("CreditScroll$Credits", "lines", "I", false)
def tyX1 : Nat → FieldType := fun k => match k with
  | 0 => .array .int
  | 1 => .array .int
  | 2 => .array .int
  | 3 => .array .int
  | 4 => .array .int
  | _ => .int
abbrev wsX10 : List Cond := u_ws RX1 TX1 6
theorem nmX1 : ∀ a, a < 6 → ∀ b, b < 6 → a ≠ b → (TX1 a).2.1 ≠ (TX1 b).2.1 := by decide +kernel
theorem tyX1_ok : ∀ k, k < 6 → parseFieldDescriptor (TX1 k).2.2.1 = some (tyX1 k) := by decide +kernel
abbrev cX1_init : ByteArray := prog_3_method_1_code
def yX1_init : MethodName := ⟨RX1, "<init>", "()V"⟩
abbrev cX1_takeFrom : ByteArray := prog_3_method_2_code
def yX1_takeFrom : MethodName := ⟨RX1, "takeFrom", "(LCreditScroll$Credits;)V"⟩
abbrev cX1_addAll : ByteArray := prog_3_method_3_code
def yX1_addAll : MethodName := ⟨RX1, "addAll", "(LCreditScroll$Credits;)V"⟩
abbrev cX1_add : ByteArray := prog_3_method_4_code
def yX1_add : MethodName := ⟨RX1, "add", "(IIII)V"⟩
abbrev cX1_holds : ByteArray := prog_3_method_5_code
def yX1_holds : MethodName := ⟨RX1, "holds", "(I)Z"⟩
abbrev cX1_heightOf : ByteArray := prog_3_method_6_code
def yX1_heightOf : MethodName := ⟨RX1, "heightOf", "(I)I"⟩
abbrev cX1_carry : ByteArray := prog_3_method_7_code
def yX1_carry : MethodName := ⟨RX1, "carry", "(II)V"⟩
abbrev cX1_remove : ByteArray := prog_3_method_8_code
def yX1_remove : MethodName := ⟨RX1, "remove", "(I)V"⟩
abbrev cX1_exchange : ByteArray := prog_3_method_9_code
def yX1_exchange : MethodName := ⟨RX1, "exchange", "(II)V"⟩
abbrev cX1_exchangeIn : ByteArray := prog_3_method_10_code
def yX1_exchangeIn : MethodName := ⟨RX1, "exchangeIn", "([III)V"⟩
abbrev cX1_rotateNumbers : ByteArray := prog_3_method_11_code
def yX1_rotateNumbers : MethodName := ⟨RX1, "rotateNumbers", "(I)V"⟩
abbrev cX1_firstNameOf : ByteArray := prog_3_method_12_code
def yX1_firstNameOf : MethodName := ⟨RX1, "firstNameOf", "(I)I"⟩
abbrev cX1_namesOf : ByteArray := prog_3_method_13_code
def yX1_namesOf : MethodName := ⟨RX1, "namesOf", "(I)I"⟩
abbrev cX1_namesInAll : ByteArray := prog_3_method_14_code
def yX1_namesInAll : MethodName := ⟨RX1, "namesInAll", "()I"⟩
abbrev cX1_cuesInAll : ByteArray := prog_3_method_15_code
def yX1_cuesInAll : MethodName := ⟨RX1, "cuesInAll", "()I"⟩
abbrev cX1_dropCues : ByteArray := prog_3_method_16_code
def yX1_dropCues : MethodName := ⟨RX1, "dropCues", "()V"⟩
def RX2 : String := "CreditScroll$History"
def TX2 : u_T := fun k => match k with
  | 0 => ("CreditScroll$History", "states", "[LCreditScroll$Credits;", true)
  | 1 => ("CreditScroll$History", "kept", "I", false)
  | _ => ("CreditScroll$History", "oldest", "I", false)
def tyX2 : Nat → FieldType := fun k => match k with
  | 0 => .array (.object "CreditScroll$Credits")
  | 1 => .int
  | _ => .int
abbrev wsX20 : List Cond := u_ws RX2 TX2 3
theorem nmX2 : ∀ a, a < 3 → ∀ b, b < 3 → a ≠ b → (TX2 a).2.1 ≠ (TX2 b).2.1 := by decide +kernel
theorem tyX2_ok : ∀ k, k < 3 → parseFieldDescriptor (TX2 k).2.2.1 = some (tyX2 k) := by decide +kernel
abbrev cX2_init : ByteArray := prog_4_method_1_code
def yX2_init : MethodName := ⟨RX2, "<init>", "()V"⟩
abbrev cX2_remember : ByteArray := prog_4_method_2_code
def yX2_remember : MethodName := ⟨RX2, "remember", "(LCreditScroll$Credits;)V"⟩
abbrev cX2_takeBack : ByteArray := prog_4_method_3_code
def yX2_takeBack : MethodName := ⟨RX2, "takeBack", "(LCreditScroll$Credits;)V"⟩
def RX3 : String := "CreditScroll$Pad"
def TX3 : u_T := fun k => match k with
  | 0 => ("CreditScroll$Pad", "characters", "[C", true)
  | 1 => ("CreditScroll$Pad", "length", "I", false)
  | _ => ("CreditScroll$Pad", "place", "I", false)
def tyX3 : Nat → FieldType := fun k => match k with
  | 0 => .array .char
  | 1 => .int
  | _ => .int
abbrev wsX30 : List Cond := u_ws RX3 TX3 3
theorem nmX3 : ∀ a, a < 3 → ∀ b, b < 3 → a ≠ b → (TX3 a).2.1 ≠ (TX3 b).2.1 := by decide +kernel
theorem tyX3_ok : ∀ k, k < 3 → parseFieldDescriptor (TX3 k).2.2.1 = some (tyX3 k) := by decide +kernel
abbrev cX3_init : ByteArray := prog_5_method_1_code
def yX3_init : MethodName := ⟨RX3, "<init>", "()V"⟩
abbrev cX3_charactersIn : ByteArray := prog_5_method_2_code
def yX3_charactersIn : MethodName := ⟨RX3, "charactersIn", "(J)I"⟩
abbrev cX3_append : ByteArray := prog_5_method_3_code
def yX3_append : MethodName := ⟨RX3, "append", "(JI)V"⟩
abbrev cX3_parseInto : ByteArray := prog_5_method_4_code
def yX3_parseInto : MethodName := ⟨RX3, "parseInto", "(LCreditScroll$Credits;)I"⟩
abbrev cX3_parseLineInto : ByteArray := prog_5_method_5_code
def yX3_parseLineInto : MethodName := ⟨RX3, "parseLineInto", "(LCreditScroll$Credits;)Z"⟩
abbrev cX3_parseNumber : ByteArray := prog_5_method_6_code
def yX3_parseNumber : MethodName := ⟨RX3, "parseNumber", "(II)I"⟩
abbrev cX3_kindHere : ByteArray := prog_5_method_7_code
def yX3_kindHere : MethodName := ⟨RX3, "kindHere", "()I"⟩
abbrev cX3_digit : ByteArray := prog_5_method_8_code
def yX3_digit : MethodName := ⟨RX3, "digit", "()I"⟩
abbrev cX3_character : ByteArray := prog_5_method_9_code
def yX3_character : MethodName := ⟨RX3, "character", "()I"⟩
def RX4 : String := "CreditScroll$Slots"
def TX4 : u_T := fun k => match k with
  | 0 => ("CreditScroll$Slots", "states", "[LCreditScroll$Credits;", true)
  | _ => ("CreditScroll$Slots", "filled", "[Z", true)
def tyX4 : Nat → FieldType := fun k => match k with
  | 0 => .array (.object "CreditScroll$Credits")
  | _ => .array .boolean
abbrev wsX40 : List Cond := u_ws RX4 TX4 2
theorem nmX4 : ∀ a, a < 2 → ∀ b, b < 2 → a ≠ b → (TX4 a).2.1 ≠ (TX4 b).2.1 := by decide +kernel
theorem tyX4_ok : ∀ k, k < 2 → parseFieldDescriptor (TX4 k).2.2.1 = some (tyX4 k) := by decide +kernel
abbrev cX4_init : ByteArray := prog_6_method_1_code
def yX4_init : MethodName := ⟨RX4, "<init>", "()V"⟩
def RX5 : String := "CreditScroll"
def TX5 : u_T := fun k => match k with
  | 0 => ("CreditScroll", "credits", "LCreditScroll$Credits;", true)
  | 1 => ("CreditScroll", "course", "LCreditScroll$Course;", true)
  | 2 => ("CreditScroll", "trial", "LCreditScroll$Credits;", true)
  | 3 => ("CreditScroll", "trialCourse", "LCreditScroll$Course;", true)
  | 4 => ("CreditScroll", "pad", "LCreditScroll$Pad;", true)
  | 5 => ("CreditScroll", "history", "LCreditScroll$History;", true)
  | _ => ("CreditScroll", "slots", "LCreditScroll$Slots;", true)
def tyX5 : Nat → FieldType := fun k => match k with
  | 0 => .object "CreditScroll$Credits"
  | 1 => .object "CreditScroll$Course"
  | 2 => .object "CreditScroll$Credits"
  | 3 => .object "CreditScroll$Course"
  | 4 => .object "CreditScroll$Pad"
  | 5 => .object "CreditScroll$History"
  | _ => .object "CreditScroll$Slots"
abbrev wsX50 : List Cond := u_ws RX5 TX5 7
theorem nmX5 : ∀ a, a < 7 → ∀ b, b < 7 → a ≠ b → (TX5 a).2.1 ≠ (TX5 b).2.1 := by decide +kernel
theorem tyX5_ok : ∀ k, k < 7 → parseFieldDescriptor (TX5 k).2.2.1 = some (tyX5 k) := by decide +kernel
abbrev cX5_init : ByteArray := prog_1_method_1_code
def yX5_init : MethodName := ⟨RX5, "<init>", "()V"⟩
abbrev cX5_set : ByteArray := prog_1_method_2_code
def yX5_set : MethodName := ⟨RX5, "set", "(II)I"⟩
abbrev cX5_name : ByteArray := prog_1_method_3_code
def yX5_name : MethodName := ⟨RX5, "name", "(II)I"⟩
abbrev cX5_line : ByteArray := prog_1_method_4_code
def yX5_line : MethodName := ⟨RX5, "line", "(I)I"⟩
abbrev cX5_cue : ByteArray := prog_1_method_5_code
def yX5_cue : MethodName := ⟨RX5, "cue", "(II)I"⟩
abbrev cX5_move : ByteArray := prog_1_method_6_code
def yX5_move : MethodName := ⟨RX5, "move", "(II)I"⟩
abbrev cX5_drop : ByteArray := prog_1_method_7_code
def yX5_drop : MethodName := ⟨RX5, "drop", "(I)I"⟩
abbrev cX5_turn : ByteArray := prog_1_method_8_code
def yX5_turn : MethodName := ⟨RX5, "turn", "(II)I"⟩
abbrev cX5_read : ByteArray := prog_1_method_9_code
def yX5_read : MethodName := ⟨RX5, "read", "()I"⟩
abbrev cX5_of : ByteArray := prog_1_method_10_code
def yX5_of : MethodName := ⟨RX5, "of", "(II)I"⟩
abbrev cX5_group : ByteArray := prog_1_method_11_code
def yX5_group : MethodName := ⟨RX5, "group", "(II)I"⟩
abbrev cX5_at : ByteArray := prog_1_method_12_code
def yX5_at : MethodName := ⟨RX5, "at", "(II)I"⟩
abbrev cX5_count : ByteArray := prog_1_method_13_code
def yX5_count : MethodName := ⟨RX5, "count", "(I)I"⟩
abbrev cX5_blame : ByteArray := prog_1_method_14_code
def yX5_blame : MethodName := ⟨RX5, "blame", "(I)I"⟩
abbrev cX5_speedFor : ByteArray := prog_1_method_15_code
def yX5_speedFor : MethodName := ⟨RX5, "speedFor", "(I)I"⟩
abbrev cX5_seenIf : ByteArray := prog_1_method_16_code
def yX5_seenIf : MethodName := ⟨RX5, "seenIf", "(II)I"⟩
abbrev cX5_bestCue : ByteArray := prog_1_method_17_code
def yX5_bestCue : MethodName := ⟨RX5, "bestCue", "(III)I"⟩
abbrev cX5_put : ByteArray := prog_1_method_18_code
def yX5_put : MethodName := ⟨RX5, "put", "(J)I"⟩
abbrev cX5_wipe : ByteArray := prog_1_method_19_code
def yX5_wipe : MethodName := ⟨RX5, "wipe", "()I"⟩
abbrev cX5_fault : ByteArray := prog_1_method_20_code
def yX5_fault : MethodName := ⟨RX5, "fault", "()I"⟩
abbrev cX5_undo : ByteArray := prog_1_method_21_code
def yX5_undo : MethodName := ⟨RX5, "undo", "()I"⟩
abbrev cX5_save : ByteArray := prog_1_method_22_code
def yX5_save : MethodName := ⟨RX5, "save", "(I)I"⟩
abbrev cX5_restore : ByteArray := prog_1_method_23_code
def yX5_restore : MethodName := ⟨RX5, "restore", "(I)I"⟩
abbrev cX5_addAsChange : ByteArray := prog_1_method_24_code
def yX5_addAsChange : MethodName := ⟨RX5, "addAsChange", "(III)I"⟩
abbrev cX5_firstNumberOf : ByteArray := prog_1_method_25_code
def yX5_firstNumberOf : MethodName := ⟨RX5, "firstNumberOf", "(I)I"⟩
abbrev cX5_isWithin : ByteArray := prog_1_method_26_code
def yX5_isWithin : MethodName := ⟨RX5, "isWithin", "(III)Z"⟩
abbrev cX5_isGroup : ByteArray := prog_1_method_27_code
def yX5_isGroup : MethodName := ⟨RX5, "isGroup", "(I)Z"⟩
abbrev cX5_isSpeed : ByteArray := prog_1_method_28_code
def yX5_isSpeed : MethodName := ⟨RX5, "isSpeed", "(I)Z"⟩
abbrev cX5_isSlot : ByteArray := prog_1_method_29_code
def yX5_isSlot : MethodName := ⟨RX5, "isSlot", "(I)Z"⟩
def RX6 : String := "CreditScrollModel"
def TX6 : u_T := fun k => match k with
  | 0 => ("CreditScrollModel", "z", "[I", true)
  | 1 => ("CreditScrollModel", "past", "[I", true)
  | 2 => ("CreditScrollModel", "slots", "[I", true)
  | 3 => ("CreditScrollModel", "isSaved", "[Z", true)
  | 4 => ("CreditScrollModel", "pastMany", "I", false)
  | 5 => ("CreditScrollModel", "pad", "[C", true)
  | 6 => ("CreditScrollModel", "typed", "I", false)
  | 7 => ("CreditScrollModel", "above", "[I", true)
  | 8 => ("CreditScrollModel", "ticks", "[I", true)
  | 9 => ("CreditScrollModel", "first", "[I", true)
  | 10 => ("CreditScrollModel", "last", "[I", true)
  | 11 => ("CreditScrollModel", "moved", "I", false)
  | 12 => ("CreditScrollModel", "cuesBefore", "[I", true)
  | 13 => ("CreditScrollModel", "read", "[I", true)
  | 14 => ("CreditScrollModel", "readMany", "I", false)
  | 15 => ("CreditScrollModel", "spot", "I", false)
  | _ => ("CreditScrollModel", "wrong", "I", false)
def tyX6 : Nat → FieldType := fun k => match k with
  | 0 => .array .int
  | 1 => .array .int
  | 2 => .array .int
  | 3 => .array .boolean
  | 4 => .int
  | 5 => .array .char
  | 6 => .int
  | 7 => .array .int
  | 8 => .array .int
  | 9 => .array .int
  | 10 => .array .int
  | 11 => .int
  | 12 => .array .int
  | 13 => .array .int
  | 14 => .int
  | 15 => .int
  | _ => .int
abbrev wsX60 : List Cond := u_ws RX6 TX6 17
theorem nmX6 : ∀ a, a < 17 → ∀ b, b < 17 → a ≠ b → (TX6 a).2.1 ≠ (TX6 b).2.1 := by decide +kernel
theorem tyX6_ok : ∀ k, k < 17 → parseFieldDescriptor (TX6 k).2.2.1 = some (tyX6 k) := by decide +kernel
abbrev cX6_init : ByteArray := prog_8_method_1_code
def yX6_init : MethodName := ⟨RX6, "<init>", "()V"⟩
abbrev cX6_in : ByteArray := prog_8_method_2_code
def yX6_in : MethodName := ⟨RX6, "in", "(III)Z"⟩
abbrev cX6_isLine : ByteArray := prog_8_method_3_code
def yX6_isLine : MethodName := ⟨RX6, "isLine", "(I)Z"⟩
abbrev cX6_isGroup : ByteArray := prog_8_method_4_code
def yX6_isGroup : MethodName := ⟨RX6, "isGroup", "(I)Z"⟩
abbrev cX6_isSpeed : ByteArray := prog_8_method_5_code
def yX6_isSpeed : MethodName := ⟨RX6, "isSpeed", "(I)Z"⟩
abbrev cX6_its : ByteArray := prog_8_method_6_code
def yX6_its : MethodName := ⟨RX6, "its", "(II)I"⟩
abbrev cX6_isNameOf : ByteArray := prog_8_method_7_code
def yX6_isNameOf : MethodName := ⟨RX6, "isNameOf", "(II)Z"⟩
abbrev cX6_record : ByteArray := prog_8_method_8_code
def yX6_record : MethodName := ⟨RX6, "record", "()V"⟩
abbrev cX6_undo : ByteArray := prog_8_method_9_code
def yX6_undo : MethodName := ⟨RX6, "undo", "()I"⟩
abbrev cX6_save : ByteArray := prog_8_method_10_code
def yX6_save : MethodName := ⟨RX6, "save", "(I)I"⟩
abbrev cX6_restore : ByteArray := prog_8_method_11_code
def yX6_restore : MethodName := ⟨RX6, "restore", "(I)I"⟩
abbrev cX6_height : ByteArray := prog_8_method_12_code
def yX6_height : MethodName := ⟨RX6, "height", "(I)I"⟩
abbrev cX6_begin : ByteArray := prog_8_method_13_code
def yX6_begin : MethodName := ⟨RX6, "begin", "()V"⟩
abbrev cX6_speedNow : ByteArray := prog_8_method_14_code
def yX6_speedNow : MethodName := ⟨RX6, "speedNow", "()I"⟩
abbrev cX6_isSeen : ByteArray := prog_8_method_15_code
def yX6_isSeen : MethodName := ⟨RX6, "isSeen", "(I)Z"⟩
abbrev cX6_run : ByteArray := prog_8_method_16_code
def yX6_run : MethodName := ⟨RX6, "run", "()I"⟩
abbrev cX6_namesOf : ByteArray := prog_8_method_17_code
def yX6_namesOf : MethodName := ⟨RX6, "namesOf", "(I)I"⟩
abbrev cX6_shortest : ByteArray := prog_8_method_18_code
def yX6_shortest : MethodName := ⟨RX6, "shortest", "(I)I"⟩
abbrev cX6_spread : ByteArray := prog_8_method_19_code
def yX6_spread : MethodName := ⟨RX6, "spread", "(I)I"⟩
abbrev cX6_firstName : ByteArray := prog_8_method_20_code
def yX6_firstName : MethodName := ⟨RX6, "firstName", "(I)I"⟩
abbrev cX6_leastOf : ByteArray := prog_8_method_21_code
def yX6_leastOf : MethodName := ⟨RX6, "leastOf", "(I)I"⟩
abbrev cX6_mostOf : ByteArray := prog_8_method_22_code
def yX6_mostOf : MethodName := ⟨RX6, "mostOf", "(I)I"⟩
abbrev cX6_set : ByteArray := prog_8_method_23_code
def yX6_set : MethodName := ⟨RX6, "set", "(II)I"⟩
abbrev cX6_add : ByteArray := prog_8_method_24_code
def yX6_add : MethodName := ⟨RX6, "add", "(IIII)I"⟩
abbrev cX6_name : ByteArray := prog_8_method_25_code
def yX6_name : MethodName := ⟨RX6, "name", "(II)I"⟩
abbrev cX6_line : ByteArray := prog_8_method_26_code
def yX6_line : MethodName := ⟨RX6, "line", "(I)I"⟩
abbrev cX6_cue : ByteArray := prog_8_method_27_code
def yX6_cue : MethodName := ⟨RX6, "cue", "(II)I"⟩
abbrev cX6_exchange : ByteArray := prog_8_method_28_code
def yX6_exchange : MethodName := ⟨RX6, "exchange", "(I)V"⟩
abbrev cX6_move : ByteArray := prog_8_method_29_code
def yX6_move : MethodName := ⟨RX6, "move", "(II)I"⟩
abbrev cX6_drop : ByteArray := prog_8_method_30_code
def yX6_drop : MethodName := ⟨RX6, "drop", "(I)I"⟩
abbrev cX6_turnOnce : ByteArray := prog_8_method_31_code
def yX6_turnOnce : MethodName := ⟨RX6, "turnOnce", "(I)V"⟩
abbrev cX6_turn : ByteArray := prog_8_method_32_code
def yX6_turn : MethodName := ⟨RX6, "turn", "(II)I"⟩
abbrev cX6_of : ByteArray := prog_8_method_33_code
def yX6_of : MethodName := ⟨RX6, "of", "(II)I"⟩
abbrev cX6_group : ByteArray := prog_8_method_34_code
def yX6_group : MethodName := ⟨RX6, "group", "(II)I"⟩
abbrev cX6_seenNow : ByteArray := prog_8_method_35_code
def yX6_seenNow : MethodName := ⟨RX6, "seenNow", "(I)I"⟩
abbrev cX6_at : ByteArray := prog_8_method_36_code
def yX6_at : MethodName := ⟨RX6, "at", "(II)I"⟩
abbrev cX6_unequal : ByteArray := prog_8_method_37_code
def yX6_unequal : MethodName := ⟨RX6, "unequal", "()I"⟩
abbrev cX6_names : ByteArray := prog_8_method_38_code
def yX6_names : MethodName := ⟨RX6, "names", "(Z)I"⟩
abbrev cX6_cues : ByteArray := prog_8_method_39_code
def yX6_cues : MethodName := ⟨RX6, "cues", "()I"⟩
abbrev cX6_count : ByteArray := prog_8_method_40_code
def yX6_count : MethodName := ⟨RX6, "count", "(I)I"⟩
abbrev cX6_allSpreads : ByteArray := prog_8_method_41_code
def yX6_allSpreads : MethodName := ⟨RX6, "allSpreads", "()I"⟩
abbrev cX6_blame : ByteArray := prog_8_method_42_code
def yX6_blame : MethodName := ⟨RX6, "blame", "(I)I"⟩
abbrev cX6_areSeenFor : ByteArray := prog_8_method_43_code
def yX6_areSeenFor : MethodName := ⟨RX6, "areSeenFor", "(I)Z"⟩
abbrev cX6_speedFor : ByteArray := prog_8_method_44_code
def yX6_speedFor : MethodName := ⟨RX6, "speedFor", "(I)I"⟩
abbrev cX6_seenIf : ByteArray := prog_8_method_45_code
def yX6_seenIf : MethodName := ⟨RX6, "seenIf", "(II)I"⟩
abbrev cX6_bestCue : ByteArray := prog_8_method_46_code
def yX6_bestCue : MethodName := ⟨RX6, "bestCue", "(III)I"⟩
abbrev cX6_put : ByteArray := prog_8_method_47_code
def yX6_put : MethodName := ⟨RX6, "put", "(J)I"⟩
abbrev cX6_wipe : ByteArray := prog_8_method_48_code
def yX6_wipe : MethodName := ⟨RX6, "wipe", "()I"⟩
abbrev cX6_letter : ByteArray := prog_8_method_49_code
def yX6_letter : MethodName := ⟨RX6, "letter", "()I"⟩
abbrev cX6_wants : ByteArray := prog_8_method_50_code
def yX6_wants : MethodName := ⟨RX6, "wants", "(Z)V"⟩
abbrev cX6_number : ByteArray := prog_8_method_51_code
def yX6_number : MethodName := ⟨RX6, "number", "(II)I"⟩
abbrev cX6_readLine : ByteArray := prog_8_method_52_code
def yX6_readLine : MethodName := ⟨RX6, "readLine", "()V"⟩
abbrev cX6_readPad : ByteArray := prog_8_method_53_code
def yX6_readPad : MethodName := ⟨RX6, "readPad", "()I"⟩
abbrev cX6_fault : ByteArray := prog_8_method_54_code
def yX6_fault : MethodName := ⟨RX6, "fault", "()I"⟩
abbrev cX6_read : ByteArray := prog_8_method_55_code
def yX6_read : MethodName := ⟨RX6, "read", "()I"⟩
def RL : String := "CreditScrollLaw"
abbrev cL_law : ByteArray := code
def yL_law : MethodName := ⟨RL, "law", "([I)Z"⟩
abbrev vwCl : List vw_C := [(RX0, TX0, 9), (RX1, TX1, 6), (RX2, TX2, 3), (RX3, TX3, 3), (RX4, TX4, 2), (RX5, TX5, 7), (RX6, TX6, 17)]
end
section
-- 0 CreditScroll$Course.init
def ins_0 : List (Nat × Instr × Nat) := [(0, .aload_n 0, 1), (1, .invokespecial 3, 3), (4, .aload_n 0, 1), (5, .bipush 40, 2), (7, .newarray .int, 2), (9, .putfield 9, 3), (12, .aload_n 0, 1), (13, .bipush 40, 2), (15, .newarray .int, 2), (17, .putfield 15, 3), (20, .aload_n 0, 1), (21, .bipush 40, 2), (23, .newarray .int, 2), (25, .putfield 18, 3), (28, .aload_n 0, 1), (29, .bipush 41, 2), (31, .newarray .int, 2), (33, .putfield 21, 3), (36, .aload_n 0, 1), (37, .bipush 41, 2), (39, .newarray .int, 2), (41, .putfield 24, 3), (44, .aload_n 0, 1), (45, .bipush 41, 2), (47, .newarray .int, 2), (49, .putfield 27, 3), (52, .aload_n 0, 1), (53, .aload_n 1, 1), (54, .putfield 30, 3), (57, .return_, 1)]
set_option maxRecDepth 100000 in
theorem chk_0 : (ins_0).all (fun e => decide (decode cX0_init e.1 = .ok e.2)) = true := by decide +kernel
-- 1 CreditScroll$Course.follow
def ins_1 : List (Nat × Instr × Nat) := [(0, .aload_n 0, 1), (1, .invokevirtual 34, 3), (4, .aload_n 0, 1), (5, .invokevirtual 37, 3), (8, .aload_n 0, 1), (9, .invokevirtual 40, 3), (12, .return_, 1)]
set_option maxRecDepth 100000 in
theorem chk_1 : (ins_1).all (fun e => decide (decode cX0_follow e.1 = .ok e.2)) = true := by decide +kernel
-- 2 CreditScroll$Course.layOut
def ins_2 : List (Nat × Instr × Nat) := [(0, .aload_n 0, 1), (1, .iconst 0, 1), (2, .putfield 43, 3), (5, .iconst 0, 1), (6, .istore_n 1, 1), (7, .iload_n 1, 1), (8, .aload_n 0, 1), (9, .getfield 30, 3), (12, .getfield 47, 3), (15, .if_icmp .ge 36, 3), (18, .aload_n 0, 1), (19, .getfield 9, 3), (22, .iload_n 1, 1), (23, .aload_n 0, 1), (24, .getfield 43, 3), (27, .iastore, 1), (28, .aload_n 0, 1), (29, .dup, 1), (30, .getfield 43, 3), (33, .aload_n 0, 1), (34, .getfield 30, 3), (37, .iload_n 1, 1), (38, .invokevirtual 52, 3), (41, .iadd, 1), (42, .putfield 43, 3), (45, .iinc 1 1, 3), (48, .goto (-41), 3), (51, .return_, 1)]
set_option maxRecDepth 100000 in
theorem chk_2 : (ins_2).all (fun e => decide (decode cX0_layOut e.1 = .ok e.2)) = true := by decide +kernel
-- 3 CreditScroll$Course.pace
def ins_3 : List (Nat × Instr × Nat) := [(0, .aload_n 0, 1), (1, .iconst 0, 1), (2, .putfield 56, 3), (5, .aload_n 0, 1), (6, .iconst 0, 1), (7, .iconst 0, 1), (8, .aload_n 0, 1), (9, .getfield 30, 3), (12, .getfield 59, 3), (15, .iconst 1, 1), (16, .iaload, 1), (17, .invokevirtual 62, 3), (20, .iconst 0, 1), (21, .istore_n 1, 1), (22, .iload_n 1, 1), (23, .aload_n 0, 1), (24, .getfield 30, 3), (27, .getfield 47, 3), (30, .if_icmp .ge 43, 3), (33, .aload_n 0, 1), (34, .getfield 30, 3), (37, .getfield 66, 3), (40, .iload_n 1, 1), (41, .iaload, 1), (42, .ifCond .eq 25, 3), (45, .aload_n 0, 1), (46, .bipush 10, 2), (48, .aload_n 0, 1), (49, .getfield 9, 3), (52, .iload_n 1, 1), (53, .iaload, 1), (54, .imul, 1), (55, .aload_n 0, 1), (56, .getfield 30, 3), (59, .getfield 66, 3), (62, .iload_n 1, 1), (63, .iaload, 1), (64, .invokevirtual 69, 3), (67, .iinc 1 1, 3), (70, .goto (-48), 3), (73, .return_, 1)]
set_option maxRecDepth 100000 in
theorem chk_3 : (ins_3).all (fun e => decide (decode cX0_pace e.1 = .ok e.2)) = true := by decide +kernel
-- 4 CreditScroll$Course.changeSpeed
def ins_4 : List (Nat × Instr × Nat) := [(0, .aload_n 0, 1), (1, .getfield 56, 3), (4, .iconst 1, 1), (5, .isub, 1), (6, .istore_n 3, 1), (7, .iload_n 3, 1), (8, .ifCond .ge 4, 3), (11, .return_, 1), (12, .aload_n 0, 1), (13, .iload_n 3, 1), (14, .iload_n 1, 1), (15, .invokevirtual 73, 3), (18, .istore 4, 2), (20, .iload 4, 2), (22, .ifCond .le 36, 3), (25, .aload_n 0, 1), (26, .aload_n 0, 1), (27, .getfield 21, 3), (30, .iload_n 3, 1), (31, .iaload, 1), (32, .iload 4, 2), (34, .iadd, 1), (35, .aload_n 0, 1), (36, .getfield 24, 3), (39, .iload_n 3, 1), (40, .iaload, 1), (41, .iload 4, 2), (43, .aload_n 0, 1), (44, .getfield 27, 3), (47, .iload_n 3, 1), (48, .iaload, 1), (49, .imul, 1), (50, .iadd, 1), (51, .iload_n 2, 1), (52, .invokevirtual 62, 3), (55, .goto 10, 3), (58, .aload_n 0, 1), (59, .getfield 27, 3), (62, .iload_n 3, 1), (63, .iload_n 2, 1), (64, .iastore, 1), (65, .return_, 1)]
set_option maxRecDepth 100000 in
theorem chk_4 : (ins_4).all (fun e => decide (decode cX0_changeSpeed e.1 = .ok e.2)) = true := by decide +kernel
-- 5 CreditScroll$Course.begin
def ins_5 : List (Nat × Instr × Nat) := [(0, .aload_n 0, 1), (1, .getfield 56, 3), (4, .bipush 40, 2), (6, .if_icmp .gt 43, 3), (9, .aload_n 0, 1), (10, .getfield 21, 3), (13, .aload_n 0, 1), (14, .getfield 56, 3), (17, .iload_n 1, 1), (18, .iastore, 1), (19, .aload_n 0, 1), (20, .getfield 24, 3), (23, .aload_n 0, 1), (24, .getfield 56, 3), (27, .iload_n 2, 1), (28, .iastore, 1), (29, .aload_n 0, 1), (30, .getfield 27, 3), (33, .aload_n 0, 1), (34, .getfield 56, 3), (37, .iload_n 3, 1), (38, .iastore, 1), (39, .aload_n 0, 1), (40, .dup, 1), (41, .getfield 56, 3), (44, .iconst 1, 1), (45, .iadd, 1), (46, .putfield 56, 3), (49, .return_, 1)]
set_option maxRecDepth 100000 in
theorem chk_5 : (ins_5).all (fun e => decide (decode cX0_begin e.1 = .ok e.2)) = true := by decide +kernel
-- 6 CreditScroll$Course.watch
def ins_6 : List (Nat × Instr × Nat) := [(0, .iconst 0, 1), (1, .istore_n 1, 1), (2, .iconst 0, 1), (3, .istore_n 2, 1), (4, .iconst 0, 1), (5, .istore_n 3, 1), (6, .iload_n 3, 1), (7, .aload_n 0, 1), (8, .getfield 30, 3), (11, .getfield 47, 3), (14, .if_icmp .ge 101, 3), (17, .bipush 10, 2), (19, .aload_n 0, 1), (20, .getfield 9, 3), (23, .iload_n 3, 1), (24, .iaload, 1), (25, .aload_n 0, 1), (26, .getfield 30, 3), (29, .iload_n 3, 1), (30, .invokevirtual 52, 3), (33, .iadd, 1), (34, .imul, 1), (35, .istore 4, 2), (37, .bipush 10, 2), (39, .aload_n 0, 1), (40, .getfield 9, 3), (43, .iload_n 3, 1), (44, .iaload, 1), (45, .aload_n 0, 1), (46, .getfield 30, 3), (49, .getfield 59, 3), (52, .iconst 0, 1), (53, .iaload, 1), (54, .iadd, 1), (55, .imul, 1), (56, .iconst 1, 1), (57, .iadd, 1), (58, .istore 5, 2), (60, .aload_n 0, 1), (61, .iload 4, 2), (63, .iload_n 1, 1), (64, .invokevirtual 77, 3), (67, .istore_n 1, 1), (68, .aload_n 0, 1), (69, .iload 5, 2), (71, .iload_n 2, 1), (72, .invokevirtual 77, 3), (75, .istore_n 2, 1), (76, .aload_n 0, 1), (77, .getfield 15, 3), (80, .iload_n 3, 1), (81, .aload_n 0, 1), (82, .iload_n 1, 1), (83, .iload 4, 2), (85, .invokevirtual 80, 3), (88, .iastore, 1), (89, .aload_n 0, 1), (90, .getfield 18, 3), (93, .iload_n 3, 1), (94, .aload_n 0, 1), (95, .iload_n 2, 1), (96, .iload 5, 2), (98, .invokevirtual 80, 3), (101, .aload_n 0, 1), (102, .getfield 15, 3), (105, .iload_n 3, 1), (106, .iaload, 1), (107, .isub, 1), (108, .iastore, 1), (109, .iinc 3 1, 3), (112, .goto (-106), 3), (115, .return_, 1)]
set_option maxRecDepth 100000 in
theorem chk_6 : (ins_6).all (fun e => decide (decode cX0_watch e.1 = .ok e.2)) = true := by decide +kernel
-- 7 CreditScroll$Course.stretchReaching
def ins_7 : List (Nat × Instr × Nat) := [(0, .iload_n 2, 1), (1, .istore_n 3, 1), (2, .iload_n 2, 1), (3, .iconst 1, 1), (4, .iadd, 1), (5, .istore 4, 2), (7, .iload 4, 2), (9, .aload_n 0, 1), (10, .getfield 56, 3), (13, .if_icmp .ge 23, 3), (16, .aload_n 0, 1), (17, .getfield 24, 3), (20, .iload 4, 2), (22, .iaload, 1), (23, .iload_n 1, 1), (24, .if_icmp .ge 12, 3), (27, .iload 4, 2), (29, .istore_n 3, 1), (30, .iinc 4 1, 3), (33, .goto (-26), 3), (36, .iload_n 3, 1), (37, .ireturn, 1)]
set_option maxRecDepth 100000 in
theorem chk_7 : (ins_7).all (fun e => decide (decode cX0_stretchReaching e.1 = .ok e.2)) = true := by decide +kernel
-- 8 CreditScroll$Course.timeIn
def ins_8 : List (Nat × Instr × Nat) := [(0, .aload_n 0, 1), (1, .getfield 21, 3), (4, .iload_n 1, 1), (5, .iaload, 1), (6, .aload_n 0, 1), (7, .iload_n 1, 1), (8, .iload_n 2, 1), (9, .invokevirtual 73, 3), (12, .iadd, 1), (13, .ireturn, 1)]
set_option maxRecDepth 100000 in
theorem chk_8 : (ins_8).all (fun e => decide (decode cX0_timeIn e.1 = .ok e.2)) = true := by decide +kernel
-- 9 CreditScroll$Course.ticksIn
def ins_9 : List (Nat × Instr × Nat) := [(0, .iload_n 2, 1), (1, .aload_n 0, 1), (2, .getfield 24, 3), (5, .iload_n 1, 1), (6, .iaload, 1), (7, .isub, 1), (8, .istore_n 3, 1), (9, .aload_n 0, 1), (10, .getfield 27, 3), (13, .iload_n 1, 1), (14, .iaload, 1), (15, .istore 4, 2), (17, .iload_n 3, 1), (18, .ifCond .le 8, 3), (21, .iload 4, 2), (23, .ifCond .gt 7, 3), (26, .iconst 0, 1), (27, .goto 12, 3), (30, .iload_n 3, 1), (31, .iload 4, 2), (33, .iadd, 1), (34, .iconst 1, 1), (35, .isub, 1), (36, .iload 4, 2), (38, .idiv, 1), (39, .ireturn, 1)]
set_option maxRecDepth 100000 in
theorem chk_9 : (ins_9).all (fun e => decide (decode cX0_ticksIn e.1 = .ok e.2)) = true := by decide +kernel
-- 10 CreditScroll$Course.ticksInAll
def ins_10 : List (Nat × Instr × Nat) := [(0, .aload_n 0, 1), (1, .getfield 30, 3), (4, .getfield 47, 3), (7, .ifCond .ne 5, 3), (10, .iconst 0, 1), (11, .ireturn, 1), (12, .bipush 10, 2), (14, .aload_n 0, 1), (15, .getfield 43, 3), (18, .aload_n 0, 1), (19, .getfield 30, 3), (22, .getfield 59, 3), (25, .iconst 0, 1), (26, .iaload, 1), (27, .iadd, 1), (28, .imul, 1), (29, .istore_n 1, 1), (30, .aload_n 0, 1), (31, .aload_n 0, 1), (32, .iload_n 1, 1), (33, .iconst 0, 1), (34, .invokevirtual 77, 3), (37, .iload_n 1, 1), (38, .invokevirtual 80, 3), (41, .ireturn, 1)]
set_option maxRecDepth 100000 in
theorem chk_10 : (ins_10).all (fun e => decide (decode cX0_ticksInAll e.1 = .ok e.2)) = true := by decide +kernel
-- 11 CreditScroll$Course.stretchAt
def ins_11 : List (Nat × Instr × Nat) := [(0, .iconst 0, 1), (1, .istore_n 2, 1), (2, .iconst 1, 1), (3, .istore_n 3, 1), (4, .iload_n 3, 1), (5, .aload_n 0, 1), (6, .getfield 56, 3), (9, .if_icmp .ge 21, 3), (12, .aload_n 0, 1), (13, .getfield 21, 3), (16, .iload_n 3, 1), (17, .iaload, 1), (18, .iload_n 1, 1), (19, .if_icmp .gt 11, 3), (22, .iload_n 3, 1), (23, .istore_n 2, 1), (24, .iinc 3 1, 3), (27, .goto (-23), 3), (30, .iload_n 2, 1), (31, .ireturn, 1)]
set_option maxRecDepth 100000 in
theorem chk_11 : (ins_11).all (fun e => decide (decode cX0_stretchAt e.1 = .ok e.2)) = true := by decide +kernel
-- 12 CreditScroll$Course.speedAt
def ins_12 : List (Nat × Instr × Nat) := [(0, .aload_n 0, 1), (1, .getfield 27, 3), (4, .aload_n 0, 1), (5, .iload_n 1, 1), (6, .invokevirtual 83, 3), (9, .iaload, 1), (10, .ireturn, 1)]
set_option maxRecDepth 100000 in
theorem chk_12 : (ins_12).all (fun e => decide (decode cX0_speedAt e.1 = .ok e.2)) = true := by decide +kernel
-- 13 CreditScroll$Course.movedAt
def ins_13 : List (Nat × Instr × Nat) := [(0, .aload_n 0, 1), (1, .iload_n 1, 1), (2, .invokevirtual 83, 3), (5, .istore_n 2, 1), (6, .aload_n 0, 1), (7, .getfield 24, 3), (10, .iload_n 2, 1), (11, .iaload, 1), (12, .iload_n 1, 1), (13, .aload_n 0, 1), (14, .getfield 21, 3), (17, .iload_n 2, 1), (18, .iaload, 1), (19, .isub, 1), (20, .aload_n 0, 1), (21, .getfield 27, 3), (24, .iload_n 2, 1), (25, .iaload, 1), (26, .imul, 1), (27, .iadd, 1), (28, .ireturn, 1)]
set_option maxRecDepth 100000 in
theorem chk_13 : (ins_13).all (fun e => decide (decode cX0_movedAt e.1 = .ok e.2)) = true := by decide +kernel
-- 14 CreditScroll$Course.isSeenAt
def ins_14 : List (Nat × Instr × Nat) := [(0, .iload_n 2, 1), (1, .aload_n 0, 1), (2, .getfield 15, 3), (5, .iload_n 1, 1), (6, .iaload, 1), (7, .if_icmp .lt 24, 3), (10, .iload_n 2, 1), (11, .aload_n 0, 1), (12, .getfield 15, 3), (15, .iload_n 1, 1), (16, .iaload, 1), (17, .aload_n 0, 1), (18, .getfield 18, 3), (21, .iload_n 1, 1), (22, .iaload, 1), (23, .iadd, 1), (24, .if_icmp .ge 7, 3), (27, .iconst 1, 1), (28, .goto 4, 3), (31, .iconst 0, 1), (32, .ireturn, 1)]
set_option maxRecDepth 100000 in
theorem chk_14 : (ins_14).all (fun e => decide (decode cX0_isSeenAt e.1 = .ok e.2)) = true := by decide +kernel
-- 15 CreditScroll$Course.firstSeenAt
def ins_15 : List (Nat × Instr × Nat) := [(0, .iconst 0, 1), (1, .istore_n 2, 1), (2, .iload_n 2, 1), (3, .aload_n 0, 1), (4, .getfield 30, 3), (7, .getfield 47, 3), (10, .if_icmp .ge 20, 3), (13, .aload_n 0, 1), (14, .iload_n 2, 1), (15, .iload_n 1, 1), (16, .invokevirtual 86, 3), (19, .ifCond .eq 5, 3), (22, .iload_n 2, 1), (23, .ireturn, 1), (24, .iinc 2 1, 3), (27, .goto (-25), 3), (30, .bipush (-6), 2), (32, .ireturn, 1)]
set_option maxRecDepth 100000 in
theorem chk_15 : (ins_15).all (fun e => decide (decode cX0_firstSeenAt e.1 = .ok e.2)) = true := by decide +kernel
-- 16 CreditScroll$Course.lastSeenAt
def ins_16 : List (Nat × Instr × Nat) := [(0, .aload_n 0, 1), (1, .getfield 30, 3), (4, .getfield 47, 3), (7, .iconst 1, 1), (8, .isub, 1), (9, .istore_n 2, 1), (10, .iload_n 2, 1), (11, .ifCond .lt 20, 3), (14, .aload_n 0, 1), (15, .iload_n 2, 1), (16, .iload_n 1, 1), (17, .invokevirtual 86, 3), (20, .ifCond .eq 5, 3), (23, .iload_n 2, 1), (24, .ireturn, 1), (25, .iinc 2 (-1), 3), (28, .goto (-18), 3), (31, .bipush (-6), 2), (33, .ireturn, 1)]
set_option maxRecDepth 100000 in
theorem chk_16 : (ins_16).all (fun e => decide (decode cX0_lastSeenAt e.1 = .ok e.2)) = true := by decide +kernel
-- 17 CreditScroll$Course.howManySeenAt
def ins_17 : List (Nat × Instr × Nat) := [(0, .iconst 0, 1), (1, .istore_n 2, 1), (2, .iconst 0, 1), (3, .istore_n 3, 1), (4, .iload_n 3, 1), (5, .aload_n 0, 1), (6, .getfield 30, 3), (9, .getfield 47, 3), (12, .if_icmp .ge 21, 3), (15, .aload_n 0, 1), (16, .iload_n 3, 1), (17, .iload_n 1, 1), (18, .invokevirtual 86, 3), (21, .ifCond .eq 6, 3), (24, .iinc 2 1, 3), (27, .iinc 3 1, 3), (30, .goto (-26), 3), (33, .iload_n 2, 1), (34, .ireturn, 1)]
set_option maxRecDepth 100000 in
theorem chk_17 : (ins_17).all (fun e => decide (decode cX0_howManySeenAt e.1 = .ok e.2)) = true := by decide +kernel
-- 18 CreditScroll$Course.leastSeenLineOf
def ins_18 : List (Nat × Instr × Nat) := [(0, .bipush (-6), 2), (2, .istore_n 2, 1), (3, .iconst 0, 1), (4, .istore_n 3, 1), (5, .iload_n 3, 1), (6, .aload_n 0, 1), (7, .getfield 30, 3), (10, .getfield 47, 3), (13, .if_icmp .ge 45, 3), (16, .aload_n 0, 1), (17, .getfield 30, 3), (20, .getfield 90, 3), (23, .iload_n 3, 1), (24, .iaload, 1), (25, .iload_n 1, 1), (26, .if_icmp .ne 26, 3), (29, .iload_n 2, 1), (30, .bipush (-6), 2), (32, .if_icmp .eq 18, 3), (35, .aload_n 0, 1), (36, .getfield 18, 3), (39, .iload_n 3, 1), (40, .iaload, 1), (41, .aload_n 0, 1), (42, .getfield 18, 3), (45, .iload_n 2, 1), (46, .iaload, 1), (47, .if_icmp .ge 5, 3), (50, .iload_n 3, 1), (51, .istore_n 2, 1), (52, .iinc 3 1, 3), (55, .goto (-50), 3), (58, .iload_n 2, 1), (59, .ireturn, 1)]
set_option maxRecDepth 100000 in
theorem chk_18 : (ins_18).all (fun e => decide (decode cX0_leastSeenLineOf e.1 = .ok e.2)) = true := by decide +kernel
-- 19 CreditScroll$Course.leastSeenOf
def ins_19 : List (Nat × Instr × Nat) := [(0, .aload_n 0, 1), (1, .iload_n 1, 1), (2, .invokevirtual 93, 3), (5, .istore_n 2, 1), (6, .iload_n 2, 1), (7, .bipush (-6), 2), (9, .if_icmp .ne 7, 3), (12, .iconst 0, 1), (13, .goto 9, 3), (16, .aload_n 0, 1), (17, .getfield 18, 3), (20, .iload_n 2, 1), (21, .iaload, 1), (22, .ireturn, 1)]
set_option maxRecDepth 100000 in
theorem chk_19 : (ins_19).all (fun e => decide (decode cX0_leastSeenOf e.1 = .ok e.2)) = true := by decide +kernel
-- 20 CreditScroll$Course.mostSeenOf
def ins_20 : List (Nat × Instr × Nat) := [(0, .iconst 0, 1), (1, .istore_n 2, 1), (2, .iconst 0, 1), (3, .istore_n 3, 1), (4, .iload_n 3, 1), (5, .aload_n 0, 1), (6, .getfield 30, 3), (9, .getfield 47, 3), (12, .if_icmp .ge 33, 3), (15, .aload_n 0, 1), (16, .getfield 30, 3), (19, .getfield 90, 3), (22, .iload_n 3, 1), (23, .iaload, 1), (24, .iload_n 1, 1), (25, .if_icmp .ne 14, 3), (28, .iload_n 2, 1), (29, .aload_n 0, 1), (30, .getfield 18, 3), (33, .iload_n 3, 1), (34, .iaload, 1), (35, .invokestatic 96, 3), (38, .istore_n 2, 1), (39, .iinc 3 1, 3), (42, .goto (-38), 3), (45, .iload_n 2, 1), (46, .ireturn, 1)]
set_option maxRecDepth 100000 in
theorem chk_20 : (ins_20).all (fun e => decide (decode cX0_mostSeenOf e.1 = .ok e.2)) = true := by decide +kernel
-- 21 CreditScroll$Course.spreadOf
def ins_21 : List (Nat × Instr × Nat) := [(0, .aload_n 0, 1), (1, .iload_n 1, 1), (2, .invokevirtual 101, 3), (5, .aload_n 0, 1), (6, .iload_n 1, 1), (7, .invokevirtual 104, 3), (10, .isub, 1), (11, .ireturn, 1)]
set_option maxRecDepth 100000 in
theorem chk_21 : (ins_21).all (fun e => decide (decode cX0_spreadOf e.1 = .ok e.2)) = true := by decide +kernel
-- 22 CreditScroll$Course.spreadsInAll
def ins_22 : List (Nat × Instr × Nat) := [(0, .iconst 0, 1), (1, .istore_n 1, 1), (2, .iconst 0, 1), (3, .istore_n 2, 1), (4, .iload_n 2, 1), (5, .bipush 8, 2), (7, .if_icmp .ge 17, 3), (10, .iload_n 1, 1), (11, .aload_n 0, 1), (12, .iload_n 2, 1), (13, .invokevirtual 107, 3), (16, .iadd, 1), (17, .istore_n 1, 1), (18, .iinc 2 1, 3), (21, .goto (-17), 3), (24, .iload_n 1, 1), (25, .ireturn, 1)]
set_option maxRecDepth 100000 in
theorem chk_22 : (ins_22).all (fun e => decide (decode cX0_spreadsInAll e.1 = .ok e.2)) = true := by decide +kernel
-- 23 CreditScroll$Course.unequalGroups
def ins_23 : List (Nat × Instr × Nat) := [(0, .iconst 0, 1), (1, .istore_n 1, 1), (2, .iconst 0, 1), (3, .istore_n 2, 1), (4, .iload_n 2, 1), (5, .bipush 8, 2), (7, .if_icmp .ge 20, 3), (10, .aload_n 0, 1), (11, .iload_n 2, 1), (12, .invokevirtual 107, 3), (15, .ifCond .eq 6, 3), (18, .iinc 1 1, 3), (21, .iinc 2 1, 3), (24, .goto (-20), 3), (27, .iload_n 1, 1), (28, .ireturn, 1)]
set_option maxRecDepth 100000 in
theorem chk_23 : (ins_23).all (fun e => decide (decode cX0_unequalGroups e.1 = .ok e.2)) = true := by decide +kernel
-- 24 CreditScroll$Course.neverSeenNames
def ins_24 : List (Nat × Instr × Nat) := [(0, .iconst 0, 1), (1, .istore_n 1, 1), (2, .iconst 0, 1), (3, .istore_n 2, 1), (4, .iload_n 2, 1), (5, .aload_n 0, 1), (6, .getfield 30, 3), (9, .getfield 47, 3), (12, .if_icmp .ge 33, 3), (15, .aload_n 0, 1), (16, .getfield 30, 3), (19, .getfield 110, 3), (22, .iload_n 2, 1), (23, .iaload, 1), (24, .ifCond .ne 15, 3), (27, .aload_n 0, 1), (28, .getfield 18, 3), (31, .iload_n 2, 1), (32, .iaload, 1), (33, .ifCond .ne 6, 3), (36, .iinc 1 1, 3), (39, .iinc 2 1, 3), (42, .goto (-38), 3), (45, .iload_n 1, 1), (46, .ireturn, 1)]
set_option maxRecDepth 100000 in
theorem chk_24 : (ins_24).all (fun e => decide (decode cX0_neverSeenNames e.1 = .ok e.2)) = true := by decide +kernel
-- 25 CreditScroll$Course.showsNamesFor
def ins_25 : List (Nat × Instr × Nat) := [(0, .iconst 0, 1), (1, .istore_n 2, 1), (2, .iload_n 2, 1), (3, .aload_n 0, 1), (4, .getfield 30, 3), (7, .getfield 47, 3), (10, .if_icmp .ge 33, 3), (13, .aload_n 0, 1), (14, .getfield 30, 3), (17, .getfield 110, 3), (20, .iload_n 2, 1), (21, .iaload, 1), (22, .ifCond .ne 15, 3), (25, .aload_n 0, 1), (26, .getfield 18, 3), (29, .iload_n 2, 1), (30, .iaload, 1), (31, .iload_n 1, 1), (32, .if_icmp .ge 5, 3), (35, .iconst 0, 1), (36, .ireturn, 1), (37, .iinc 2 1, 3), (40, .goto (-38), 3), (43, .iconst 1, 1), (44, .ireturn, 1)]
set_option maxRecDepth 100000 in
theorem chk_25 : (ins_25).all (fun e => decide (decode cX0_showsNamesFor e.1 = .ok e.2)) = true := by decide +kernel
-- 26 CreditScroll$Credits.init
def ins_26 : List (Nat × Instr × Nat) := [(0, .aload_n 0, 1), (1, .invokespecial 3, 3), (4, .aload_n 0, 1), (5, .iconst 3, 1), (6, .newarray .int, 2), (8, .putfield 9, 3), (11, .aload_n 0, 1), (12, .bipush 40, 2), (14, .newarray .int, 2), (16, .putfield 15, 3), (19, .aload_n 0, 1), (20, .bipush 40, 2), (22, .newarray .int, 2), (24, .putfield 18, 3), (27, .aload_n 0, 1), (28, .bipush 40, 2), (30, .newarray .int, 2), (32, .putfield 21, 3), (35, .aload_n 0, 1), (36, .bipush 40, 2), (38, .newarray .int, 2), (40, .putfield 24, 3), (43, .getstatic 27, 3), (46, .iconst 0, 1), (47, .aload_n 0, 1), (48, .getfield 9, 3), (51, .iconst 0, 1), (52, .iconst 3, 1), (53, .invokestatic 30, 3), (56, .return_, 1)]
set_option maxRecDepth 100000 in
theorem chk_26 : (ins_26).all (fun e => decide (decode cX1_init e.1 = .ok e.2)) = true := by decide +kernel
-- 27 CreditScroll$Credits.takeFrom
def ins_27 : List (Nat × Instr × Nat) := [(0, .aload_n 1, 1), (1, .getfield 9, 3), (4, .iconst 0, 1), (5, .aload_n 0, 1), (6, .getfield 9, 3), (9, .iconst 0, 1), (10, .iconst 3, 1), (11, .invokestatic 30, 3), (14, .aload_n 0, 1), (15, .iconst 0, 1), (16, .putfield 36, 3), (19, .aload_n 0, 1), (20, .aload_n 1, 1), (21, .invokevirtual 40, 3), (24, .return_, 1)]
set_option maxRecDepth 100000 in
theorem chk_27 : (ins_27).all (fun e => decide (decode cX1_takeFrom e.1 = .ok e.2)) = true := by decide +kernel
-- 28 CreditScroll$Credits.addAll
def ins_28 : List (Nat × Instr × Nat) := [(0, .iconst 0, 1), (1, .istore_n 2, 1), (2, .iload_n 2, 1), (3, .aload_n 1, 1), (4, .getfield 36, 3), (7, .if_icmp .ge 37, 3), (10, .aload_n 0, 1), (11, .aload_n 1, 1), (12, .getfield 15, 3), (15, .iload_n 2, 1), (16, .iaload, 1), (17, .aload_n 1, 1), (18, .getfield 18, 3), (21, .iload_n 2, 1), (22, .iaload, 1), (23, .aload_n 1, 1), (24, .getfield 21, 3), (27, .iload_n 2, 1), (28, .iaload, 1), (29, .aload_n 1, 1), (30, .getfield 24, 3), (33, .iload_n 2, 1), (34, .iaload, 1), (35, .invokevirtual 44, 3), (38, .iinc 2 1, 3), (41, .goto (-39), 3), (44, .return_, 1)]
set_option maxRecDepth 100000 in
theorem chk_28 : (ins_28).all (fun e => decide (decode cX1_addAll e.1 = .ok e.2)) = true := by decide +kernel
-- 29 CreditScroll$Credits.add
def ins_29 : List (Nat × Instr × Nat) := [(0, .aload_n 0, 1), (1, .getfield 36, 3), (4, .bipush 40, 2), (6, .if_icmp .ge 54, 3), (9, .aload_n 0, 1), (10, .getfield 15, 3), (13, .aload_n 0, 1), (14, .getfield 36, 3), (17, .iload_n 1, 1), (18, .iastore, 1), (19, .aload_n 0, 1), (20, .getfield 18, 3), (23, .aload_n 0, 1), (24, .getfield 36, 3), (27, .iload_n 2, 1), (28, .iastore, 1), (29, .aload_n 0, 1), (30, .getfield 21, 3), (33, .aload_n 0, 1), (34, .getfield 36, 3), (37, .iload_n 3, 1), (38, .iastore, 1), (39, .aload_n 0, 1), (40, .getfield 24, 3), (43, .aload_n 0, 1), (44, .getfield 36, 3), (47, .iload 4, 2), (49, .iastore, 1), (50, .aload_n 0, 1), (51, .dup, 1), (52, .getfield 36, 3), (55, .iconst 1, 1), (56, .iadd, 1), (57, .putfield 36, 3), (60, .return_, 1)]
set_option maxRecDepth 100000 in
theorem chk_29 : (ins_29).all (fun e => decide (decode cX1_add e.1 = .ok e.2)) = true := by decide +kernel
-- 30 CreditScroll$Credits.holds
def ins_30 : List (Nat × Instr × Nat) := [(0, .iload_n 1, 1), (1, .ifCond .lt 15, 3), (4, .iload_n 1, 1), (5, .aload_n 0, 1), (6, .getfield 36, 3), (9, .if_icmp .ge 7, 3), (12, .iconst 1, 1), (13, .goto 4, 3), (16, .iconst 0, 1), (17, .ireturn, 1)]
set_option maxRecDepth 100000 in
theorem chk_30 : (ins_30).all (fun e => decide (decode cX1_holds e.1 = .ok e.2)) = true := by decide +kernel
-- 31 CreditScroll$Credits.heightOf
def ins_31 : List (Nat × Instr × Nat) := [(0, .aload_n 0, 1), (1, .getfield 15, 3), (4, .iload_n 1, 1), (5, .iaload, 1), (6, .lookupswitch 35 #[(1, 26), (2, 28)], 26), (32, .iconst 2, 1), (33, .ireturn, 1), (34, .aload_n 0, 1), (35, .getfield 9, 3), (38, .iconst 2, 1), (39, .iaload, 1), (40, .ireturn, 1), (41, .iconst 1, 1), (42, .ireturn, 1)]
set_option maxRecDepth 100000 in
theorem chk_31 : (ins_31).all (fun e => decide (decode cX1_heightOf e.1 = .ok e.2)) = true := by decide +kernel
-- 32 CreditScroll$Credits.carry
def ins_32 : List (Nat × Instr × Nat) := [(0, .iload_n 1, 1), (1, .istore_n 3, 1), (2, .iload_n 3, 1), (3, .iload_n 2, 1), (4, .if_icmp .ge 17, 3), (7, .aload_n 0, 1), (8, .iload_n 3, 1), (9, .iload_n 3, 1), (10, .iconst 1, 1), (11, .iadd, 1), (12, .invokevirtual 48, 3), (15, .iinc 3 1, 3), (18, .goto (-16), 3), (21, .iload_n 1, 1), (22, .istore_n 3, 1), (23, .iload_n 3, 1), (24, .iload_n 2, 1), (25, .if_icmp .le 17, 3), (28, .aload_n 0, 1), (29, .iload_n 3, 1), (30, .iload_n 3, 1), (31, .iconst 1, 1), (32, .isub, 1), (33, .invokevirtual 48, 3), (36, .iinc 3 (-1), 3), (39, .goto (-16), 3), (42, .return_, 1)]
set_option maxRecDepth 100000 in
theorem chk_32 : (ins_32).all (fun e => decide (decode cX1_carry e.1 = .ok e.2)) = true := by decide +kernel
-- 33 CreditScroll$Credits.remove
def ins_33 : List (Nat × Instr × Nat) := [(0, .aload_n 0, 1), (1, .iload_n 1, 1), (2, .aload_n 0, 1), (3, .getfield 36, 3), (6, .iconst 1, 1), (7, .isub, 1), (8, .invokevirtual 52, 3), (11, .aload_n 0, 1), (12, .dup, 1), (13, .getfield 36, 3), (16, .iconst 1, 1), (17, .isub, 1), (18, .putfield 36, 3), (21, .return_, 1)]
set_option maxRecDepth 100000 in
theorem chk_33 : (ins_33).all (fun e => decide (decode cX1_remove e.1 = .ok e.2)) = true := by decide +kernel
-- 34 CreditScroll$Credits.exchange
def ins_34 : List (Nat × Instr × Nat) := [(0, .aload_n 0, 1), (1, .getfield 15, 3), (4, .iload_n 1, 1), (5, .iload_n 2, 1), (6, .invokestatic 55, 3), (9, .aload_n 0, 1), (10, .getfield 18, 3), (13, .iload_n 1, 1), (14, .iload_n 2, 1), (15, .invokestatic 55, 3), (18, .aload_n 0, 1), (19, .getfield 21, 3), (22, .iload_n 1, 1), (23, .iload_n 2, 1), (24, .invokestatic 55, 3), (27, .aload_n 0, 1), (28, .getfield 24, 3), (31, .iload_n 1, 1), (32, .iload_n 2, 1), (33, .invokestatic 55, 3), (36, .return_, 1)]
set_option maxRecDepth 100000 in
theorem chk_34 : (ins_34).all (fun e => decide (decode cX1_exchange e.1 = .ok e.2)) = true := by decide +kernel
-- 35 CreditScroll$Credits.exchangeIn
def ins_35 : List (Nat × Instr × Nat) := [(0, .aload_n 0, 1), (1, .iload_n 1, 1), (2, .iaload, 1), (3, .istore_n 3, 1), (4, .aload_n 0, 1), (5, .iload_n 1, 1), (6, .aload_n 0, 1), (7, .iload_n 2, 1), (8, .iaload, 1), (9, .iastore, 1), (10, .aload_n 0, 1), (11, .iload_n 2, 1), (12, .iload_n 3, 1), (13, .iastore, 1), (14, .return_, 1)]
set_option maxRecDepth 100000 in
theorem chk_35 : (ins_35).all (fun e => decide (decode cX1_exchangeIn e.1 = .ok e.2)) = true := by decide +kernel
-- 36 CreditScroll$Credits.rotateNumbers
def ins_36 : List (Nat × Instr × Nat) := [(0, .bipush (-6), 2), (2, .istore_n 2, 1), (3, .iconst 0, 1), (4, .istore_n 3, 1), (5, .iload_n 3, 1), (6, .aload_n 0, 1), (7, .getfield 36, 3), (10, .if_icmp .ge 36, 3), (13, .aload_n 0, 1), (14, .getfield 18, 3), (17, .iload_n 3, 1), (18, .iaload, 1), (19, .iload_n 1, 1), (20, .if_icmp .ne 20, 3), (23, .iload_n 2, 1), (24, .bipush (-6), 2), (26, .if_icmp .eq 12, 3), (29, .aload_n 0, 1), (30, .getfield 21, 3), (33, .iload_n 2, 1), (34, .iload_n 3, 1), (35, .invokestatic 55, 3), (38, .iload_n 3, 1), (39, .istore_n 2, 1), (40, .iinc 3 1, 3), (43, .goto (-38), 3), (46, .return_, 1)]
set_option maxRecDepth 100000 in
theorem chk_36 : (ins_36).all (fun e => decide (decode cX1_rotateNumbers e.1 = .ok e.2)) = true := by decide +kernel
-- 37 CreditScroll$Credits.firstNameOf
def ins_37 : List (Nat × Instr × Nat) := [(0, .iconst 0, 1), (1, .istore_n 2, 1), (2, .iload_n 2, 1), (3, .aload_n 0, 1), (4, .getfield 36, 3), (7, .if_icmp .ge 21, 3), (10, .aload_n 0, 1), (11, .getfield 18, 3), (14, .iload_n 2, 1), (15, .iaload, 1), (16, .iload_n 1, 1), (17, .if_icmp .ne 5, 3), (20, .iload_n 2, 1), (21, .ireturn, 1), (22, .iinc 2 1, 3), (25, .goto (-23), 3), (28, .bipush (-6), 2), (30, .ireturn, 1)]
set_option maxRecDepth 100000 in
theorem chk_37 : (ins_37).all (fun e => decide (decode cX1_firstNameOf e.1 = .ok e.2)) = true := by decide +kernel
-- 38 CreditScroll$Credits.namesOf
def ins_38 : List (Nat × Instr × Nat) := [(0, .iconst 0, 1), (1, .istore_n 2, 1), (2, .iconst 0, 1), (3, .istore_n 3, 1), (4, .iload_n 3, 1), (5, .aload_n 0, 1), (6, .getfield 36, 3), (9, .if_icmp .ge 22, 3), (12, .aload_n 0, 1), (13, .getfield 18, 3), (16, .iload_n 3, 1), (17, .iaload, 1), (18, .iload_n 1, 1), (19, .if_icmp .ne 6, 3), (22, .iinc 2 1, 3), (25, .iinc 3 1, 3), (28, .goto (-24), 3), (31, .iload_n 2, 1), (32, .ireturn, 1)]
set_option maxRecDepth 100000 in
theorem chk_38 : (ins_38).all (fun e => decide (decode cX1_namesOf e.1 = .ok e.2)) = true := by decide +kernel
-- 39 CreditScroll$Credits.namesInAll
def ins_39 : List (Nat × Instr × Nat) := [(0, .iconst 0, 1), (1, .istore_n 1, 1), (2, .iconst 0, 1), (3, .istore_n 2, 1), (4, .iload_n 2, 1), (5, .aload_n 0, 1), (6, .getfield 36, 3), (9, .if_icmp .ge 21, 3), (12, .aload_n 0, 1), (13, .getfield 15, 3), (16, .iload_n 2, 1), (17, .iaload, 1), (18, .ifCond .ne 6, 3), (21, .iinc 1 1, 3), (24, .iinc 2 1, 3), (27, .goto (-23), 3), (30, .iload_n 1, 1), (31, .ireturn, 1)]
set_option maxRecDepth 100000 in
theorem chk_39 : (ins_39).all (fun e => decide (decode cX1_namesInAll e.1 = .ok e.2)) = true := by decide +kernel
-- 40 CreditScroll$Credits.cuesInAll
def ins_40 : List (Nat × Instr × Nat) := [(0, .iconst 0, 1), (1, .istore_n 1, 1), (2, .iconst 0, 1), (3, .istore_n 2, 1), (4, .iload_n 2, 1), (5, .aload_n 0, 1), (6, .getfield 36, 3), (9, .if_icmp .ge 21, 3), (12, .aload_n 0, 1), (13, .getfield 24, 3), (16, .iload_n 2, 1), (17, .iaload, 1), (18, .ifCond .eq 6, 3), (21, .iinc 1 1, 3), (24, .iinc 2 1, 3), (27, .goto (-23), 3), (30, .iload_n 1, 1), (31, .ireturn, 1)]
set_option maxRecDepth 100000 in
theorem chk_40 : (ins_40).all (fun e => decide (decode cX1_cuesInAll e.1 = .ok e.2)) = true := by decide +kernel
-- 41 CreditScroll$Credits.dropCues
def ins_41 : List (Nat × Instr × Nat) := [(0, .iconst 0, 1), (1, .istore_n 1, 1), (2, .iload_n 1, 1), (3, .aload_n 0, 1), (4, .getfield 36, 3), (7, .if_icmp .ge 16, 3), (10, .aload_n 0, 1), (11, .getfield 24, 3), (14, .iload_n 1, 1), (15, .iconst 0, 1), (16, .iastore, 1), (17, .iinc 1 1, 3), (20, .goto (-18), 3), (23, .return_, 1)]
set_option maxRecDepth 100000 in
theorem chk_41 : (ins_41).all (fun e => decide (decode cX1_dropCues e.1 = .ok e.2)) = true := by decide +kernel
-- 42 CreditScroll$History.init
def ins_42 : List (Nat × Instr × Nat) := [(0, .aload_n 0, 1), (1, .invokespecial 3, 3), (4, .aload_n 0, 1), (5, .bipush 6, 2), (7, .anewarray 9, 3), (10, .putfield 11, 3), (13, .iconst 0, 1), (14, .istore_n 1, 1), (15, .iload_n 1, 1), (16, .bipush 6, 2), (18, .if_icmp .ge 22, 3), (21, .aload_n 0, 1), (22, .getfield 11, 3), (25, .iload_n 1, 1), (26, .new 9, 3), (29, .dup, 1), (30, .invokespecial 17, 3), (33, .aastore, 1), (34, .iinc 1 1, 3), (37, .goto (-22), 3), (40, .return_, 1)]
set_option maxRecDepth 100000 in
theorem chk_42 : (ins_42).all (fun e => decide (decode cX2_init e.1 = .ok e.2)) = true := by decide +kernel
-- 43 CreditScroll$History.remember
def ins_43 : List (Nat × Instr × Nat) := [(0, .aload_n 0, 1), (1, .getfield 11, 3), (4, .aload_n 0, 1), (5, .getfield 18, 3), (8, .aload_n 0, 1), (9, .getfield 22, 3), (12, .iadd, 1), (13, .bipush 6, 2), (15, .irem, 1), (16, .aaload, 1), (17, .aload_n 1, 1), (18, .invokevirtual 25, 3), (21, .aload_n 0, 1), (22, .getfield 22, 3), (25, .bipush 6, 2), (27, .if_icmp .ge 16, 3), (30, .aload_n 0, 1), (31, .dup, 1), (32, .getfield 22, 3), (35, .iconst 1, 1), (36, .iadd, 1), (37, .putfield 22, 3), (40, .goto 16, 3), (43, .aload_n 0, 1), (44, .aload_n 0, 1), (45, .getfield 18, 3), (48, .iconst 1, 1), (49, .iadd, 1), (50, .bipush 6, 2), (52, .irem, 1), (53, .putfield 18, 3), (56, .return_, 1)]
set_option maxRecDepth 100000 in
theorem chk_43 : (ins_43).all (fun e => decide (decode cX2_remember e.1 = .ok e.2)) = true := by decide +kernel
-- 44 CreditScroll$History.takeBack
def ins_44 : List (Nat × Instr × Nat) := [(0, .aload_n 0, 1), (1, .getfield 22, 3), (4, .ifCond .le 34, 3), (7, .aload_n 0, 1), (8, .dup, 1), (9, .getfield 22, 3), (12, .iconst 1, 1), (13, .isub, 1), (14, .putfield 22, 3), (17, .aload_n 1, 1), (18, .aload_n 0, 1), (19, .getfield 11, 3), (22, .aload_n 0, 1), (23, .getfield 18, 3), (26, .aload_n 0, 1), (27, .getfield 22, 3), (30, .iadd, 1), (31, .bipush 6, 2), (33, .irem, 1), (34, .aaload, 1), (35, .invokevirtual 25, 3), (38, .return_, 1)]
set_option maxRecDepth 100000 in
theorem chk_44 : (ins_44).all (fun e => decide (decode cX2_takeBack e.1 = .ok e.2)) = true := by decide +kernel
-- 45 CreditScroll$Pad.init
def ins_45 : List (Nat × Instr × Nat) := [(0, .aload_n 0, 1), (1, .invokespecial 3, 3), (4, .aload_n 0, 1), (5, .bipush 60, 2), (7, .newarray .char, 2), (9, .putfield 9, 3), (12, .return_, 1)]
set_option maxRecDepth 100000 in
theorem chk_45 : (ins_45).all (fun e => decide (decode cX3_init e.1 = .ok e.2)) = true := by decide +kernel
-- 46 CreditScroll$Pad.charactersIn
def ins_46 : List (Nat × Instr × Nat) := [(0, .iconst 0, 1), (1, .istore_n 3, 1), (2, .lload_n 1, 1), (3, .lstore 4, 2), (5, .iload_n 3, 1), (6, .bipush 8, 2), (8, .if_icmp .ge 42, 3), (11, .lload 4, 2), (13, .lconst 0, 1), (14, .lcmp, 1), (15, .ifCond .eq 35, 3), (18, .lload 4, 2), (20, .ldc2_w 15, 3), (23, .land, 1), (24, .l2i, 1), (25, .bipush 33, 2), (27, .bipush 126, 2), (29, .invokestatic 17, 3), (32, .ifCond .ne 5, 3), (35, .iconst 0, 1), (36, .ireturn, 1), (37, .iinc 3 1, 3), (40, .lload 4, 2), (42, .bipush 8, 2), (44, .lushr, 1), (45, .lstore 4, 2), (47, .goto (-42), 3), (50, .iload_n 3, 1), (51, .ireturn, 1)]
set_option maxRecDepth 100000 in
theorem chk_46 : (ins_46).all (fun e => decide (decode cX3_charactersIn e.1 = .ok e.2)) = true := by decide +kernel
-- 47 CreditScroll$Pad.append
def ins_47 : List (Nat × Instr × Nat) := [(0, .iload_n 3, 1), (1, .iconst 1, 1), (2, .isub, 1), (3, .istore 4, 2), (5, .iload 4, 2), (7, .ifCond .lt 50, 3), (10, .aload_n 0, 1), (11, .getfield 21, 3), (14, .bipush 60, 2), (16, .if_icmp .ge 35, 3), (19, .aload_n 0, 1), (20, .getfield 9, 3), (23, .aload_n 0, 1), (24, .getfield 21, 3), (27, .lload_n 1, 1), (28, .bipush 8, 2), (30, .iload 4, 2), (32, .imul, 1), (33, .lushr, 1), (34, .ldc2_w 15, 3), (37, .land, 1), (38, .l2i, 1), (39, .i2c, 1), (40, .castore, 1), (41, .aload_n 0, 1), (42, .dup, 1), (43, .getfield 21, 3), (46, .iconst 1, 1), (47, .iadd, 1), (48, .putfield 21, 3), (51, .iinc 4 (-1), 3), (54, .goto (-49), 3), (57, .return_, 1)]
set_option maxRecDepth 100000 in
theorem chk_47 : (ins_47).all (fun e => decide (decode cX3_append e.1 = .ok e.2)) = true := by decide +kernel
-- 48 CreditScroll$Pad.parseInto
def ins_48 : List (Nat × Instr × Nat) := [(0, .aload_n 0, 1), (1, .iconst 0, 1), (2, .putfield 25, 3), (5, .iconst 0, 1), (6, .istore_n 2, 1), (7, .iload_n 2, 1), (8, .aload_n 0, 1), (9, .getfield 21, 3), (12, .if_icmp .gt 60, 3), (15, .aload_n 0, 1), (16, .aload_n 1, 1), (17, .invokevirtual 28, 3), (20, .ifCond .ne 8, 3), (23, .aload_n 0, 1), (24, .getfield 25, 3), (27, .ireturn, 1), (28, .aload_n 0, 1), (29, .getfield 25, 3), (32, .aload_n 0, 1), (33, .getfield 21, 3), (36, .if_icmp .ne 6, 3), (39, .bipush (-6), 2), (41, .ireturn, 1), (42, .aload_n 0, 1), (43, .invokevirtual 32, 3), (46, .bipush 44, 2), (48, .if_icmp .eq 8, 3), (51, .aload_n 0, 1), (52, .getfield 25, 3), (55, .ireturn, 1), (56, .aload_n 0, 1), (57, .dup, 1), (58, .getfield 25, 3), (61, .iconst 1, 1), (62, .iadd, 1), (63, .putfield 25, 3), (66, .iinc 2 1, 3), (69, .goto (-62), 3), (72, .aload_n 0, 1), (73, .getfield 25, 3), (76, .ireturn, 1)]
set_option maxRecDepth 100000 in
theorem chk_48 : (ins_48).all (fun e => decide (decode cX3_parseInto e.1 = .ok e.2)) = true := by decide +kernel
-- 49 CreditScroll$Pad.parseLineInto
def ins_49 : List (Nat × Instr × Nat) := [(0, .aload_n 0, 1), (1, .invokevirtual 36, 3), (4, .istore_n 2, 1), (5, .iload_n 2, 1), (6, .iconst (-1), 1), (7, .if_icmp .ne 5, 3), (10, .iconst 0, 1), (11, .ireturn, 1), (12, .aload_n 0, 1), (13, .dup, 1), (14, .getfield 25, 3), (17, .iconst 1, 1), (18, .iadd, 1), (19, .putfield 25, 3), (22, .bipush (-6), 2), (24, .istore_n 3, 1), (25, .bipush (-6), 2), (27, .istore 4, 2), (29, .iload_n 2, 1), (30, .ifCond .ne 45, 3), (33, .aload_n 0, 1), (34, .invokevirtual 39, 3), (37, .istore_n 3, 1), (38, .iload_n 3, 1), (39, .invokestatic 42, 3), (42, .ifCond .ne 5, 3), (45, .iconst 0, 1), (46, .ireturn, 1), (47, .aload_n 0, 1), (48, .dup, 1), (49, .getfield 25, 3), (52, .iconst 1, 1), (53, .iadd, 1), (54, .putfield 25, 3), (57, .aload_n 0, 1), (58, .iconst 0, 1), (59, .sipush 999, 3), (62, .invokevirtual 46, 3), (65, .istore 4, 2), (67, .iload 4, 2), (69, .iconst (-1), 1), (70, .if_icmp .ne 5, 3), (73, .iconst 0, 1), (74, .ireturn, 1), (75, .iconst 0, 1), (76, .istore 5, 2), (78, .aload_n 0, 1), (79, .invokevirtual 32, 3), (82, .bipush 64, 2), (84, .if_icmp .ne 30, 3), (87, .aload_n 0, 1), (88, .dup, 1), (89, .getfield 25, 3), (92, .iconst 1, 1), (93, .iadd, 1), (94, .putfield 25, 3), (97, .aload_n 0, 1), (98, .iconst 1, 1), (99, .bipush 30, 2), (101, .invokevirtual 46, 3), (104, .istore 5, 2), (106, .iload 5, 2), (108, .iconst (-1), 1), (109, .if_icmp .ne 5, 3), (112, .iconst 0, 1), (113, .ireturn, 1), (114, .aload_n 1, 1), (115, .iload_n 2, 1), (116, .iload_n 3, 1), (117, .iload 4, 2), (119, .iload 5, 2), (121, .invokevirtual 50, 3), (124, .iconst 1, 1), (125, .ireturn, 1)]
set_option maxRecDepth 100000 in
theorem chk_49 : (ins_49).all (fun e => decide (decode cX3_parseLineInto e.1 = .ok e.2)) = true := by decide +kernel
-- 50 CreditScroll$Pad.parseNumber
def ins_50 : List (Nat × Instr × Nat) := [(0, .aload_n 0, 1), (1, .invokevirtual 39, 3), (4, .istore_n 3, 1), (5, .iload_n 3, 1), (6, .iload_n 1, 1), (7, .if_icmp .ge 5, 3), (10, .iconst (-1), 1), (11, .ireturn, 1), (12, .aload_n 0, 1), (13, .dup, 1), (14, .getfield 25, 3), (17, .iconst 1, 1), (18, .iadd, 1), (19, .putfield 25, 3), (22, .aload_n 0, 1), (23, .getfield 25, 3), (26, .istore 4, 2), (28, .iload 4, 2), (30, .aload_n 0, 1), (31, .getfield 21, 3), (34, .if_icmp .ge 56, 3), (37, .aload_n 0, 1), (38, .invokevirtual 39, 3), (41, .istore 5, 2), (43, .iload_n 3, 1), (44, .ifCond .eq 20, 3), (47, .iload 5, 2), (49, .iconst (-1), 1), (50, .if_icmp .eq 14, 3), (53, .bipush 10, 2), (55, .iload_n 3, 1), (56, .imul, 1), (57, .iload 5, 2), (59, .iadd, 1), (60, .iload_n 2, 1), (61, .if_icmp .le 5, 3), (64, .iload_n 3, 1), (65, .ireturn, 1), (66, .bipush 10, 2), (68, .iload_n 3, 1), (69, .imul, 1), (70, .iload 5, 2), (72, .iadd, 1), (73, .istore_n 3, 1), (74, .aload_n 0, 1), (75, .dup, 1), (76, .getfield 25, 3), (79, .iconst 1, 1), (80, .iadd, 1), (81, .putfield 25, 3), (84, .iinc 4 1, 3), (87, .goto (-59), 3), (90, .iload_n 3, 1), (91, .ireturn, 1)]
set_option maxRecDepth 100000 in
theorem chk_50 : (ins_50).all (fun e => decide (decode cX3_parseNumber e.1 = .ok e.2)) = true := by decide +kernel
-- 51 CreditScroll$Pad.kindHere
def ins_51 : List (Nat × Instr × Nat) := [(0, .aload_n 0, 1), (1, .invokevirtual 32, 3), (4, .lookupswitch 52 #[(98, 50), (108, 48), (110, 44), (116, 46)], 44), (48, .iconst 0, 1), (49, .ireturn, 1), (50, .iconst 1, 1), (51, .ireturn, 1), (52, .iconst 2, 1), (53, .ireturn, 1), (54, .iconst 3, 1), (55, .ireturn, 1), (56, .iconst (-1), 1), (57, .ireturn, 1)]
set_option maxRecDepth 100000 in
theorem chk_51 : (ins_51).all (fun e => decide (decode cX3_kindHere e.1 = .ok e.2)) = true := by decide +kernel
-- 52 CreditScroll$Pad.digit
def ins_52 : List (Nat × Instr × Nat) := [(0, .aload_n 0, 1), (1, .invokevirtual 32, 3), (4, .istore_n 1, 1), (5, .iload_n 1, 1), (6, .bipush 48, 2), (8, .bipush 57, 2), (10, .invokestatic 17, 3), (13, .ifCond .eq 10, 3), (16, .iload_n 1, 1), (17, .bipush 48, 2), (19, .isub, 1), (20, .goto 4, 3), (23, .iconst (-1), 1), (24, .ireturn, 1)]
set_option maxRecDepth 100000 in
theorem chk_52 : (ins_52).all (fun e => decide (decode cX3_digit e.1 = .ok e.2)) = true := by decide +kernel
-- 53 CreditScroll$Pad.character
def ins_53 : List (Nat × Instr × Nat) := [(0, .aload_n 0, 1), (1, .getfield 25, 3), (4, .aload_n 0, 1), (5, .getfield 21, 3), (8, .if_icmp .ge 15, 3), (11, .aload_n 0, 1), (12, .getfield 9, 3), (15, .aload_n 0, 1), (16, .getfield 25, 3), (19, .caload, 1), (20, .goto 4, 3), (23, .iconst 0, 1), (24, .ireturn, 1)]
set_option maxRecDepth 100000 in
theorem chk_53 : (ins_53).all (fun e => decide (decode cX3_character e.1 = .ok e.2)) = true := by decide +kernel
-- 54 CreditScroll$Slots.init
def ins_54 : List (Nat × Instr × Nat) := [(0, .aload_n 0, 1), (1, .invokespecial 3, 3), (4, .aload_n 0, 1), (5, .iconst 2, 1), (6, .anewarray 9, 3), (9, .putfield 11, 3), (12, .aload_n 0, 1), (13, .iconst 2, 1), (14, .newarray .boolean, 2), (16, .putfield 17, 3), (19, .iconst 0, 1), (20, .istore_n 1, 1), (21, .iload_n 1, 1), (22, .iconst 2, 1), (23, .if_icmp .ge 22, 3), (26, .aload_n 0, 1), (27, .getfield 11, 3), (30, .iload_n 1, 1), (31, .new 9, 3), (34, .dup, 1), (35, .invokespecial 21, 3), (38, .aastore, 1), (39, .iinc 1 1, 3), (42, .goto (-21), 3), (45, .return_, 1)]
set_option maxRecDepth 100000 in
theorem chk_54 : (ins_54).all (fun e => decide (decode cX4_init e.1 = .ok e.2)) = true := by decide +kernel
-- 55 CreditScroll.init
def ins_55 : List (Nat × Instr × Nat) := [(0, .aload_n 0, 1), (1, .invokespecial 1, 3), (4, .aload_n 0, 1), (5, .new 7, 3), (8, .dup, 1), (9, .invokespecial 9, 3), (12, .putfield 10, 3), (15, .aload_n 0, 1), (16, .new 16, 3), (19, .dup, 1), (20, .aload_n 0, 1), (21, .getfield 10, 3), (24, .invokespecial 18, 3), (27, .putfield 21, 3), (30, .aload_n 0, 1), (31, .new 7, 3), (34, .dup, 1), (35, .invokespecial 9, 3), (38, .putfield 25, 3), (41, .aload_n 0, 1), (42, .new 16, 3), (45, .dup, 1), (46, .aload_n 0, 1), (47, .getfield 25, 3), (50, .invokespecial 18, 3), (53, .putfield 28, 3), (56, .aload_n 0, 1), (57, .new 31, 3), (60, .dup, 1), (61, .invokespecial 33, 3), (64, .putfield 34, 3), (67, .aload_n 0, 1), (68, .new 38, 3), (71, .dup, 1), (72, .invokespecial 40, 3), (75, .putfield 41, 3), (78, .aload_n 0, 1), (79, .new 45, 3), (82, .dup, 1), (83, .invokespecial 47, 3), (86, .putfield 48, 3), (89, .return_, 1)]
set_option maxRecDepth 100000 in
theorem chk_55 : (ins_55).all (fun e => decide (decode cX5_init e.1 = .ok e.2)) = true := by decide +kernel
-- 56 CreditScroll.set
def ins_56 : List (Nat × Instr × Nat) := [(0, .iload_n 1, 1), (1, .ifCond .lt 8, 3), (4, .iload_n 1, 1), (5, .iconst 3, 1), (6, .if_icmp .lt 6, 3), (9, .bipush (-2), 2), (11, .ireturn, 1), (12, .iload_n 2, 1), (13, .getstatic 52, 3), (16, .iload_n 1, 1), (17, .iaload, 1), (18, .getstatic 56, 3), (21, .iload_n 1, 1), (22, .iaload, 1), (23, .invokestatic 59, 3), (26, .ifCond .ne 6, 3), (29, .bipush (-2), 2), (31, .ireturn, 1), (32, .aload_n 0, 1), (33, .getfield 41, 3), (36, .aload_n 0, 1), (37, .getfield 10, 3), (40, .invokevirtual 63, 3), (43, .aload_n 0, 1), (44, .getfield 10, 3), (47, .getfield 66, 3), (50, .iload_n 1, 1), (51, .iaload, 1), (52, .istore_n 3, 1), (53, .aload_n 0, 1), (54, .getfield 10, 3), (57, .getfield 66, 3), (60, .iload_n 1, 1), (61, .iload_n 2, 1), (62, .iastore, 1), (63, .iload_n 3, 1), (64, .ireturn, 1)]
set_option maxRecDepth 100000 in
theorem chk_56 : (ins_56).all (fun e => decide (decode cX5_set e.1 = .ok e.2)) = true := by decide +kernel
-- 57 CreditScroll.name
def ins_57 : List (Nat × Instr × Nat) := [(0, .iload_n 1, 1), (1, .invokestatic 69, 3), (4, .ifCond .eq 14, 3), (7, .iload_n 2, 1), (8, .iconst 0, 1), (9, .sipush 999, 3), (12, .invokestatic 59, 3), (15, .ifCond .ne 6, 3), (18, .bipush (-2), 2), (20, .ireturn, 1), (21, .aload_n 0, 1), (22, .iconst 0, 1), (23, .iload_n 1, 1), (24, .iload_n 2, 1), (25, .invokevirtual 73, 3), (28, .ireturn, 1)]
set_option maxRecDepth 100000 in
theorem chk_57 : (ins_57).all (fun e => decide (decode cX5_name e.1 = .ok e.2)) = true := by decide +kernel
-- 58 CreditScroll.line
def ins_58 : List (Nat × Instr × Nat) := [(0, .iload_n 1, 1), (1, .iconst 1, 1), (2, .iconst 3, 1), (3, .invokestatic 59, 3), (6, .ifCond .ne 6, 3), (9, .bipush (-2), 2), (11, .ireturn, 1), (12, .aload_n 0, 1), (13, .iload_n 1, 1), (14, .bipush (-6), 2), (16, .bipush (-6), 2), (18, .invokevirtual 73, 3), (21, .ireturn, 1)]
set_option maxRecDepth 100000 in
theorem chk_58 : (ins_58).all (fun e => decide (decode cX5_line e.1 = .ok e.2)) = true := by decide +kernel
-- 59 CreditScroll.cue
def ins_59 : List (Nat × Instr × Nat) := [(0, .aload_n 0, 1), (1, .getfield 10, 3), (4, .iload_n 1, 1), (5, .invokevirtual 77, 3), (8, .ifCond .ne 5, 3), (11, .iconst (-1), 1), (12, .ireturn, 1), (13, .iload_n 2, 1), (14, .ifCond .eq 13, 3), (17, .iload_n 2, 1), (18, .invokestatic 80, 3), (21, .ifCond .ne 6, 3), (24, .bipush (-2), 2), (26, .ireturn, 1), (27, .aload_n 0, 1), (28, .getfield 41, 3), (31, .aload_n 0, 1), (32, .getfield 10, 3), (35, .invokevirtual 63, 3), (38, .aload_n 0, 1), (39, .getfield 10, 3), (42, .getfield 83, 3), (45, .iload_n 1, 1), (46, .iaload, 1), (47, .istore_n 3, 1), (48, .aload_n 0, 1), (49, .getfield 10, 3), (52, .getfield 83, 3), (55, .iload_n 1, 1), (56, .iload_n 2, 1), (57, .iastore, 1), (58, .iload_n 3, 1), (59, .ireturn, 1)]
set_option maxRecDepth 100000 in
theorem chk_59 : (ins_59).all (fun e => decide (decode cX5_cue e.1 = .ok e.2)) = true := by decide +kernel
-- 60 CreditScroll.move
def ins_60 : List (Nat × Instr × Nat) := [(0, .aload_n 0, 1), (1, .getfield 10, 3), (4, .iload_n 1, 1), (5, .invokevirtual 77, 3), (8, .ifCond .eq 14, 3), (11, .aload_n 0, 1), (12, .getfield 10, 3), (15, .iload_n 2, 1), (16, .invokevirtual 77, 3), (19, .ifCond .ne 5, 3), (22, .iconst (-1), 1), (23, .ireturn, 1), (24, .aload_n 0, 1), (25, .getfield 21, 3), (28, .invokevirtual 86, 3), (31, .aload_n 0, 1), (32, .getfield 21, 3), (35, .invokevirtual 89, 3), (38, .istore_n 3, 1), (39, .aload_n 0, 1), (40, .getfield 41, 3), (43, .aload_n 0, 1), (44, .getfield 10, 3), (47, .invokevirtual 63, 3), (50, .aload_n 0, 1), (51, .getfield 10, 3), (54, .iload_n 1, 1), (55, .iload_n 2, 1), (56, .invokevirtual 93, 3), (59, .aload_n 0, 1), (60, .getfield 21, 3), (63, .invokevirtual 86, 3), (66, .sipush 10000, 3), (69, .aload_n 0, 1), (70, .getfield 21, 3), (73, .invokevirtual 89, 3), (76, .iadd, 1), (77, .iload_n 3, 1), (78, .isub, 1), (79, .ireturn, 1)]
set_option maxRecDepth 100000 in
theorem chk_60 : (ins_60).all (fun e => decide (decode cX5_move e.1 = .ok e.2)) = true := by decide +kernel
-- 61 CreditScroll.drop
def ins_61 : List (Nat × Instr × Nat) := [(0, .aload_n 0, 1), (1, .getfield 10, 3), (4, .iload_n 1, 1), (5, .invokevirtual 77, 3), (8, .ifCond .ne 5, 3), (11, .iconst (-1), 1), (12, .ireturn, 1), (13, .aload_n 0, 1), (14, .getfield 41, 3), (17, .aload_n 0, 1), (18, .getfield 10, 3), (21, .invokevirtual 63, 3), (24, .aload_n 0, 1), (25, .getfield 10, 3), (28, .iload_n 1, 1), (29, .invokevirtual 97, 3), (32, .aload_n 0, 1), (33, .getfield 10, 3), (36, .getfield 101, 3), (39, .ireturn, 1)]
set_option maxRecDepth 100000 in
theorem chk_61 : (ins_61).all (fun e => decide (decode cX5_drop e.1 = .ok e.2)) = true := by decide +kernel
-- 62 CreditScroll.turn
def ins_62 : List (Nat × Instr × Nat) := [(0, .iload_n 1, 1), (1, .invokestatic 69, 3), (4, .ifCond .eq 13, 3), (7, .iload_n 2, 1), (8, .iconst 1, 1), (9, .bipush 40, 2), (11, .invokestatic 59, 3), (14, .ifCond .ne 6, 3), (17, .bipush (-2), 2), (19, .ireturn, 1), (20, .aload_n 0, 1), (21, .getfield 10, 3), (24, .iload_n 1, 1), (25, .invokevirtual 105, 3), (28, .istore_n 3, 1), (29, .aload_n 0, 1), (30, .getfield 10, 3), (33, .iload_n 3, 1), (34, .invokevirtual 77, 3), (37, .ifCond .ne 6, 3), (40, .bipush (-5), 2), (42, .ireturn, 1), (43, .aload_n 0, 1), (44, .getfield 41, 3), (47, .aload_n 0, 1), (48, .getfield 10, 3), (51, .invokevirtual 63, 3), (54, .iconst 0, 1), (55, .istore 4, 2), (57, .iload 4, 2), (59, .iload_n 2, 1), (60, .if_icmp .ge 17, 3), (63, .aload_n 0, 1), (64, .getfield 10, 3), (67, .iload_n 1, 1), (68, .invokevirtual 109, 3), (71, .iinc 4 1, 3), (74, .goto (-17), 3), (77, .aload_n 0, 1), (78, .getfield 10, 3), (81, .getfield 112, 3), (84, .iload_n 3, 1), (85, .iaload, 1), (86, .ireturn, 1)]
set_option maxRecDepth 100000 in
theorem chk_62 : (ins_62).all (fun e => decide (decode cX5_turn e.1 = .ok e.2)) = true := by decide +kernel
-- 63 CreditScroll.read
def ins_63 : List (Nat × Instr × Nat) := [(0, .aload_n 0, 1), (1, .getfield 25, 3), (4, .iconst 0, 1), (5, .putfield 101, 3), (8, .aload_n 0, 1), (9, .getfield 34, 3), (12, .aload_n 0, 1), (13, .getfield 25, 3), (16, .invokevirtual 115, 3), (19, .bipush (-6), 2), (21, .if_icmp .eq 6, 3), (24, .bipush (-3), 2), (26, .ireturn, 1), (27, .aload_n 0, 1), (28, .getfield 10, 3), (31, .getfield 101, 3), (34, .aload_n 0, 1), (35, .getfield 25, 3), (38, .getfield 101, 3), (41, .iadd, 1), (42, .bipush 40, 2), (44, .if_icmp .le 6, 3), (47, .bipush (-4), 2), (49, .ireturn, 1), (50, .aload_n 0, 1), (51, .getfield 41, 3), (54, .aload_n 0, 1), (55, .getfield 10, 3), (58, .invokevirtual 63, 3), (61, .aload_n 0, 1), (62, .getfield 10, 3), (65, .aload_n 0, 1), (66, .getfield 25, 3), (69, .invokevirtual 119, 3), (72, .aload_n 0, 1), (73, .getfield 34, 3), (76, .iconst 0, 1), (77, .putfield 122, 3), (80, .aload_n 0, 1), (81, .getfield 10, 3), (84, .getfield 101, 3), (87, .ireturn, 1)]
set_option maxRecDepth 100000 in
theorem chk_63 : (ins_63).all (fun e => decide (decode cX5_read e.1 = .ok e.2)) = true := by decide +kernel
-- 64 CreditScroll.of
def ins_64 : List (Nat × Instr × Nat) := [(0, .aload_n 0, 1), (1, .getfield 10, 3), (4, .iload_n 1, 1), (5, .invokevirtual 77, 3), (8, .ifCond .ne 5, 3), (11, .iconst (-1), 1), (12, .ireturn, 1), (13, .aload_n 0, 1), (14, .getfield 21, 3), (17, .invokevirtual 86, 3), (20, .iload_n 2, 1), (21, .tableswitch 186 0 8 #[51, 61, 71, 81, 91, 101, 110, 120, 147], 51), (72, .aload_n 0, 1), (73, .getfield 10, 3), (76, .getfield 125, 3), (79, .iload_n 1, 1), (80, .iaload, 1), (81, .ireturn, 1), (82, .aload_n 0, 1), (83, .getfield 10, 3), (86, .getfield 128, 3), (89, .iload_n 1, 1), (90, .iaload, 1), (91, .ireturn, 1), (92, .aload_n 0, 1), (93, .getfield 10, 3), (96, .getfield 112, 3), (99, .iload_n 1, 1), (100, .iaload, 1), (101, .ireturn, 1), (102, .aload_n 0, 1), (103, .getfield 10, 3), (106, .getfield 83, 3), (109, .iload_n 1, 1), (110, .iaload, 1), (111, .ireturn, 1), (112, .aload_n 0, 1), (113, .getfield 21, 3), (116, .getfield 131, 3), (119, .iload_n 1, 1), (120, .iaload, 1), (121, .ireturn, 1), (122, .aload_n 0, 1), (123, .getfield 10, 3), (126, .iload_n 1, 1), (127, .invokevirtual 134, 3), (130, .ireturn, 1), (131, .aload_n 0, 1), (132, .getfield 21, 3), (135, .getfield 137, 3), (138, .iload_n 1, 1), (139, .iaload, 1), (140, .ireturn, 1), (141, .aload_n 0, 1), (142, .getfield 21, 3), (145, .getfield 137, 3), (148, .iload_n 1, 1), (149, .iaload, 1), (150, .ifCond .ne 8, 3), (153, .bipush (-6), 2), (155, .goto 12, 3), (158, .aload_n 0, 1), (159, .getfield 21, 3), (162, .getfield 140, 3), (165, .iload_n 1, 1), (166, .iaload, 1), (167, .ireturn, 1), (168, .aload_n 0, 1), (169, .getfield 21, 3), (172, .getfield 137, 3), (175, .iload_n 1, 1), (176, .iaload, 1), (177, .ifCond .ne 8, 3), (180, .bipush (-6), 2), (182, .goto 24, 3), (185, .aload_n 0, 1), (186, .getfield 21, 3), (189, .getfield 140, 3), (192, .iload_n 1, 1), (193, .iaload, 1), (194, .aload_n 0, 1), (195, .getfield 21, 3), (198, .getfield 137, 3), (201, .iload_n 1, 1), (202, .iaload, 1), (203, .iadd, 1), (204, .iconst 1, 1), (205, .isub, 1), (206, .ireturn, 1), (207, .bipush (-2), 2), (209, .ireturn, 1)]
set_option maxRecDepth 100000 in
theorem chk_64 : (ins_64).all (fun e => decide (decode cX5_of e.1 = .ok e.2)) = true := by decide +kernel
-- 65 CreditScroll.group
def ins_65 : List (Nat × Instr × Nat) := [(0, .iload_n 1, 1), (1, .invokestatic 69, 3), (4, .ifCond .ne 6, 3), (7, .bipush (-2), 2), (9, .ireturn, 1), (10, .aload_n 0, 1), (11, .getfield 21, 3), (14, .invokevirtual 86, 3), (17, .iload_n 2, 1), (18, .tableswitch 92 0 4 #[34, 43, 52, 77, 86], 34), (52, .aload_n 0, 1), (53, .getfield 10, 3), (56, .iload_n 1, 1), (57, .invokevirtual 143, 3), (60, .ireturn, 1), (61, .aload_n 0, 1), (62, .getfield 21, 3), (65, .iload_n 1, 1), (66, .invokevirtual 146, 3), (69, .ireturn, 1), (70, .aload_n 0, 1), (71, .getfield 10, 3), (74, .iload_n 1, 1), (75, .invokevirtual 143, 3), (78, .ifCond .ne 8, 3), (81, .bipush (-6), 2), (83, .goto 11, 3), (86, .aload_n 0, 1), (87, .getfield 21, 3), (90, .iload_n 1, 1), (91, .invokevirtual 149, 3), (94, .ireturn, 1), (95, .aload_n 0, 1), (96, .getfield 21, 3), (99, .iload_n 1, 1), (100, .invokevirtual 152, 3), (103, .ireturn, 1), (104, .aload_n 0, 1), (105, .iload_n 1, 1), (106, .invokevirtual 155, 3), (109, .ireturn, 1), (110, .bipush (-2), 2), (112, .ireturn, 1)]
set_option maxRecDepth 100000 in
theorem chk_65 : (ins_65).all (fun e => decide (decode cX5_group e.1 = .ok e.2)) = true := by decide +kernel
-- 66 CreditScroll.at
def ins_66 : List (Nat × Instr × Nat) := [(0, .iload_n 1, 1), (1, .iconst 0, 1), (2, .sipush 9999, 3), (5, .invokestatic 59, 3), (8, .ifCond .ne 6, 3), (11, .bipush (-2), 2), (13, .ireturn, 1), (14, .aload_n 0, 1), (15, .getfield 21, 3), (18, .invokevirtual 86, 3), (21, .iload_n 2, 1), (22, .tableswitch 79 0 4 #[34, 43, 52, 61, 70], 34), (56, .aload_n 0, 1), (57, .getfield 21, 3), (60, .iload_n 1, 1), (61, .invokevirtual 158, 3), (64, .ireturn, 1), (65, .aload_n 0, 1), (66, .getfield 21, 3), (69, .iload_n 1, 1), (70, .invokevirtual 161, 3), (73, .ireturn, 1), (74, .aload_n 0, 1), (75, .getfield 21, 3), (78, .iload_n 1, 1), (79, .invokevirtual 164, 3), (82, .ireturn, 1), (83, .aload_n 0, 1), (84, .getfield 21, 3), (87, .iload_n 1, 1), (88, .invokevirtual 167, 3), (91, .ireturn, 1), (92, .aload_n 0, 1), (93, .getfield 21, 3), (96, .iload_n 1, 1), (97, .invokevirtual 170, 3), (100, .ireturn, 1), (101, .bipush (-2), 2), (103, .ireturn, 1)]
set_option maxRecDepth 100000 in
theorem chk_66 : (ins_66).all (fun e => decide (decode cX5_at e.1 = .ok e.2)) = true := by decide +kernel
-- 67 CreditScroll.count
def ins_67 : List (Nat × Instr × Nat) := [(0, .aload_n 0, 1), (1, .getfield 21, 3), (4, .invokevirtual 86, 3), (7, .iload_n 1, 1), (8, .tableswitch 166 0 11 #[64, 72, 80, 88, 96, 104, 112, 120, 130, 140, 150, 158], 64), (72, .aload_n 0, 1), (73, .getfield 10, 3), (76, .getfield 101, 3), (79, .ireturn, 1), (80, .aload_n 0, 1), (81, .getfield 10, 3), (84, .invokevirtual 173, 3), (87, .ireturn, 1), (88, .aload_n 0, 1), (89, .getfield 21, 3), (92, .getfield 176, 3), (95, .ireturn, 1), (96, .aload_n 0, 1), (97, .getfield 21, 3), (100, .invokevirtual 89, 3), (103, .ireturn, 1), (104, .aload_n 0, 1), (105, .getfield 21, 3), (108, .invokevirtual 179, 3), (111, .ireturn, 1), (112, .aload_n 0, 1), (113, .getfield 10, 3), (116, .invokevirtual 182, 3), (119, .ireturn, 1), (120, .aload_n 0, 1), (121, .getfield 21, 3), (124, .invokevirtual 185, 3), (127, .ireturn, 1), (128, .aload_n 0, 1), (129, .getfield 10, 3), (132, .getfield 66, 3), (135, .iconst 0, 1), (136, .iaload, 1), (137, .ireturn, 1), (138, .aload_n 0, 1), (139, .getfield 10, 3), (142, .getfield 66, 3), (145, .iconst 1, 1), (146, .iaload, 1), (147, .ireturn, 1), (148, .aload_n 0, 1), (149, .getfield 10, 3), (152, .getfield 66, 3), (155, .iconst 2, 1), (156, .iaload, 1), (157, .ireturn, 1), (158, .aload_n 0, 1), (159, .getfield 34, 3), (162, .getfield 122, 3), (165, .ireturn, 1), (166, .aload_n 0, 1), (167, .getfield 41, 3), (170, .getfield 188, 3), (173, .ireturn, 1), (174, .bipush (-2), 2), (176, .ireturn, 1)]
set_option maxRecDepth 100000 in
theorem chk_67 : (ins_67).all (fun e => decide (decode cX5_count e.1 = .ok e.2)) = true := by decide +kernel
-- 68 CreditScroll.blame
def ins_68 : List (Nat × Instr × Nat) := [(0, .iload_n 1, 1), (1, .iconst 0, 1), (2, .iconst 1, 1), (3, .invokestatic 59, 3), (6, .ifCond .ne 6, 3), (9, .bipush (-2), 2), (11, .ireturn, 1), (12, .aload_n 0, 1), (13, .getfield 25, 3), (16, .aload_n 0, 1), (17, .getfield 10, 3), (20, .invokevirtual 191, 3), (23, .bipush (-6), 2), (25, .istore_n 2, 1), (26, .bipush (-6), 2), (28, .istore_n 3, 1), (29, .iconst 0, 1), (30, .istore 4, 2), (32, .iload 4, 2), (34, .aload_n 0, 1), (35, .getfield 25, 3), (38, .getfield 101, 3), (41, .if_icmp .ge 83, 3), (44, .aload_n 0, 1), (45, .getfield 25, 3), (48, .getfield 83, 3), (51, .iload 4, 2), (53, .iaload, 1), (54, .istore 5, 2), (56, .iload 5, 2), (58, .ifCond .eq 60, 3), (61, .aload_n 0, 1), (62, .getfield 25, 3), (65, .getfield 83, 3), (68, .iload 4, 2), (70, .iconst 0, 1), (71, .iastore, 1), (72, .aload_n 0, 1), (73, .getfield 28, 3), (76, .invokevirtual 86, 3), (79, .aload_n 0, 1), (80, .getfield 28, 3), (83, .invokevirtual 194, 3), (86, .istore 6, 2), (88, .iload_n 2, 1), (89, .bipush (-6), 2), (91, .if_icmp .eq 9, 3), (94, .iload 6, 2), (96, .iload_n 3, 1), (97, .if_icmp .ge 9, 3), (100, .iload 4, 2), (102, .istore_n 2, 1), (103, .iload 6, 2), (105, .istore_n 3, 1), (106, .aload_n 0, 1), (107, .getfield 25, 3), (110, .getfield 83, 3), (113, .iload 4, 2), (115, .iload 5, 2), (117, .iastore, 1), (118, .iinc 4 1, 3), (121, .goto (-89), 3), (124, .iload_n 1, 1), (125, .ifCond .ne 7, 3), (128, .iload_n 2, 1), (129, .goto 4, 3), (132, .iload_n 3, 1), (133, .ireturn, 1)]
set_option maxRecDepth 100000 in
theorem chk_68 : (ins_68).all (fun e => decide (decode cX5_blame e.1 = .ok e.2)) = true := by decide +kernel
-- 69 CreditScroll.speedFor
def ins_69 : List (Nat × Instr × Nat) := [(0, .iload_n 1, 1), (1, .iconst 1, 1), (2, .sipush 200, 3), (5, .invokestatic 59, 3), (8, .ifCond .ne 6, 3), (11, .bipush (-2), 2), (13, .ireturn, 1), (14, .aload_n 0, 1), (15, .getfield 25, 3), (18, .aload_n 0, 1), (19, .getfield 10, 3), (22, .invokevirtual 191, 3), (25, .aload_n 0, 1), (26, .getfield 25, 3), (29, .invokevirtual 197, 3), (32, .bipush 30, 2), (34, .istore_n 2, 1), (35, .iload_n 2, 1), (36, .iconst 1, 1), (37, .if_icmp .lt 39, 3), (40, .aload_n 0, 1), (41, .getfield 25, 3), (44, .getfield 66, 3), (47, .iconst 1, 1), (48, .iload_n 2, 1), (49, .iastore, 1), (50, .aload_n 0, 1), (51, .getfield 28, 3), (54, .invokevirtual 86, 3), (57, .aload_n 0, 1), (58, .getfield 28, 3), (61, .iload_n 1, 1), (62, .invokevirtual 200, 3), (65, .ifCond .eq 5, 3), (68, .iload_n 2, 1), (69, .ireturn, 1), (70, .iinc 2 (-1), 3), (73, .goto (-38), 3), (76, .bipush (-6), 2), (78, .ireturn, 1)]
set_option maxRecDepth 100000 in
theorem chk_69 : (ins_69).all (fun e => decide (decode cX5_speedFor e.1 = .ok e.2)) = true := by decide +kernel
-- 70 CreditScroll.seenIf
def ins_70 : List (Nat × Instr × Nat) := [(0, .aload_n 0, 1), (1, .getfield 10, 3), (4, .iload_n 1, 1), (5, .invokevirtual 77, 3), (8, .ifCond .ne 5, 3), (11, .iconst (-1), 1), (12, .ireturn, 1), (13, .iload_n 2, 1), (14, .invokestatic 80, 3), (17, .ifCond .ne 6, 3), (20, .bipush (-2), 2), (22, .ireturn, 1), (23, .aload_n 0, 1), (24, .getfield 25, 3), (27, .aload_n 0, 1), (28, .getfield 10, 3), (31, .invokevirtual 191, 3), (34, .aload_n 0, 1), (35, .getfield 25, 3), (38, .getfield 66, 3), (41, .iconst 1, 1), (42, .iload_n 2, 1), (43, .iastore, 1), (44, .aload_n 0, 1), (45, .getfield 28, 3), (48, .invokevirtual 86, 3), (51, .aload_n 0, 1), (52, .getfield 28, 3), (55, .getfield 137, 3), (58, .iload_n 1, 1), (59, .iaload, 1), (60, .ireturn, 1)]
set_option maxRecDepth 100000 in
theorem chk_70 : (ins_70).all (fun e => decide (decode cX5_seenIf e.1 = .ok e.2)) = true := by decide +kernel
-- 71 CreditScroll.bestCue
def ins_71 : List (Nat × Instr × Nat) := [(0, .aload_n 0, 1), (1, .getfield 10, 3), (4, .iload_n 1, 1), (5, .invokevirtual 77, 3), (8, .ifCond .ne 5, 3), (11, .iconst (-1), 1), (12, .ireturn, 1), (13, .iload_n 2, 1), (14, .invokestatic 69, 3), (17, .ifCond .eq 12, 3), (20, .iload_n 3, 1), (21, .iconst 0, 1), (22, .iconst 1, 1), (23, .invokestatic 59, 3), (26, .ifCond .ne 6, 3), (29, .bipush (-2), 2), (31, .ireturn, 1), (32, .aload_n 0, 1), (33, .getfield 25, 3), (36, .aload_n 0, 1), (37, .getfield 10, 3), (40, .invokevirtual 191, 3), (43, .bipush (-6), 2), (45, .istore 4, 2), (47, .bipush (-6), 2), (49, .istore 5, 2), (51, .bipush 30, 2), (53, .istore 6, 2), (55, .iload 6, 2), (57, .iconst 1, 1), (58, .if_icmp .lt 59, 3), (61, .aload_n 0, 1), (62, .getfield 25, 3), (65, .getfield 83, 3), (68, .iload_n 1, 1), (69, .iload 6, 2), (71, .iastore, 1), (72, .aload_n 0, 1), (73, .getfield 28, 3), (76, .invokevirtual 86, 3), (79, .aload_n 0, 1), (80, .getfield 28, 3), (83, .iload_n 2, 1), (84, .invokevirtual 146, 3), (87, .istore 7, 2), (89, .iload 4, 2), (91, .bipush (-6), 2), (93, .if_icmp .eq 10, 3), (96, .iload 7, 2), (98, .iload 5, 2), (100, .if_icmp .ge 11, 3), (103, .iload 6, 2), (105, .istore 4, 2), (107, .iload 7, 2), (109, .istore 5, 2), (111, .iinc 6 (-1), 3), (114, .goto (-59), 3), (117, .iload_n 3, 1), (118, .ifCond .ne 8, 3), (121, .iload 4, 2), (123, .goto 5, 3), (126, .iload 5, 2), (128, .ireturn, 1)]
set_option maxRecDepth 100000 in
theorem chk_71 : (ins_71).all (fun e => decide (decode cX5_bestCue e.1 = .ok e.2)) = true := by decide +kernel
-- 72 CreditScroll.put
def ins_72 : List (Nat × Instr × Nat) := [(0, .aload_n 0, 1), (1, .getfield 34, 3), (4, .lload_n 1, 1), (5, .invokevirtual 203, 3), (8, .istore_n 3, 1), (9, .iload_n 3, 1), (10, .ifCond .ne 6, 3), (13, .bipush (-2), 2), (15, .ireturn, 1), (16, .aload_n 0, 1), (17, .getfield 34, 3), (20, .getfield 122, 3), (23, .iload_n 3, 1), (24, .iadd, 1), (25, .bipush 60, 2), (27, .if_icmp .le 6, 3), (30, .bipush (-4), 2), (32, .ireturn, 1), (33, .aload_n 0, 1), (34, .getfield 34, 3), (37, .lload_n 1, 1), (38, .iload_n 3, 1), (39, .invokevirtual 207, 3), (42, .aload_n 0, 1), (43, .getfield 34, 3), (46, .getfield 122, 3), (49, .ireturn, 1)]
set_option maxRecDepth 100000 in
theorem chk_72 : (ins_72).all (fun e => decide (decode cX5_put e.1 = .ok e.2)) = true := by decide +kernel
-- 73 CreditScroll.wipe
def ins_73 : List (Nat × Instr × Nat) := [(0, .aload_n 0, 1), (1, .getfield 34, 3), (4, .getfield 122, 3), (7, .istore_n 1, 1), (8, .aload_n 0, 1), (9, .getfield 34, 3), (12, .iconst 0, 1), (13, .putfield 122, 3), (16, .iload_n 1, 1), (17, .ireturn, 1)]
set_option maxRecDepth 100000 in
theorem chk_73 : (ins_73).all (fun e => decide (decode cX5_wipe e.1 = .ok e.2)) = true := by decide +kernel
-- 74 CreditScroll.fault
def ins_74 : List (Nat × Instr × Nat) := [(0, .aload_n 0, 1), (1, .getfield 25, 3), (4, .iconst 0, 1), (5, .putfield 101, 3), (8, .aload_n 0, 1), (9, .getfield 34, 3), (12, .aload_n 0, 1), (13, .getfield 25, 3), (16, .invokevirtual 115, 3), (19, .ireturn, 1)]
set_option maxRecDepth 100000 in
theorem chk_74 : (ins_74).all (fun e => decide (decode cX5_fault e.1 = .ok e.2)) = true := by decide +kernel
-- 75 CreditScroll.undo
def ins_75 : List (Nat × Instr × Nat) := [(0, .aload_n 0, 1), (1, .getfield 41, 3), (4, .getfield 188, 3), (7, .ifCond .ne 6, 3), (10, .bipush (-5), 2), (12, .ireturn, 1), (13, .aload_n 0, 1), (14, .getfield 41, 3), (17, .aload_n 0, 1), (18, .getfield 10, 3), (21, .invokevirtual 211, 3), (24, .aload_n 0, 1), (25, .getfield 41, 3), (28, .getfield 188, 3), (31, .ireturn, 1)]
set_option maxRecDepth 100000 in
theorem chk_75 : (ins_75).all (fun e => decide (decode cX5_undo e.1 = .ok e.2)) = true := by decide +kernel
-- 76 CreditScroll.save
def ins_76 : List (Nat × Instr × Nat) := [(0, .iload_n 1, 1), (1, .invokestatic 214, 3), (4, .ifCond .ne 6, 3), (7, .bipush (-2), 2), (9, .ireturn, 1), (10, .aload_n 0, 1), (11, .getfield 48, 3), (14, .getfield 217, 3), (17, .iload_n 1, 1), (18, .aaload, 1), (19, .aload_n 0, 1), (20, .getfield 10, 3), (23, .invokevirtual 191, 3), (26, .aload_n 0, 1), (27, .getfield 48, 3), (30, .getfield 221, 3), (33, .iload_n 1, 1), (34, .iconst 1, 1), (35, .bastore, 1), (36, .aload_n 0, 1), (37, .getfield 10, 3), (40, .getfield 101, 3), (43, .ireturn, 1)]
set_option maxRecDepth 100000 in
theorem chk_76 : (ins_76).all (fun e => decide (decode cX5_save e.1 = .ok e.2)) = true := by decide +kernel
-- 77 CreditScroll.restore
def ins_77 : List (Nat × Instr × Nat) := [(0, .iload_n 1, 1), (1, .invokestatic 214, 3), (4, .ifCond .ne 6, 3), (7, .bipush (-2), 2), (9, .ireturn, 1), (10, .aload_n 0, 1), (11, .getfield 48, 3), (14, .getfield 221, 3), (17, .iload_n 1, 1), (18, .baload, 1), (19, .ifCond .ne 6, 3), (22, .bipush (-5), 2), (24, .ireturn, 1), (25, .aload_n 0, 1), (26, .getfield 41, 3), (29, .aload_n 0, 1), (30, .getfield 10, 3), (33, .invokevirtual 63, 3), (36, .aload_n 0, 1), (37, .getfield 10, 3), (40, .aload_n 0, 1), (41, .getfield 48, 3), (44, .getfield 217, 3), (47, .iload_n 1, 1), (48, .aaload, 1), (49, .invokevirtual 191, 3), (52, .aload_n 0, 1), (53, .getfield 10, 3), (56, .getfield 101, 3), (59, .ireturn, 1)]
set_option maxRecDepth 100000 in
theorem chk_77 : (ins_77).all (fun e => decide (decode cX5_restore e.1 = .ok e.2)) = true := by decide +kernel
-- 78 CreditScroll.addAsChange
def ins_78 : List (Nat × Instr × Nat) := [(0, .aload_n 0, 1), (1, .getfield 10, 3), (4, .getfield 101, 3), (7, .bipush 40, 2), (9, .if_icmp .lt 6, 3), (12, .bipush (-4), 2), (14, .ireturn, 1), (15, .aload_n 0, 1), (16, .getfield 41, 3), (19, .aload_n 0, 1), (20, .getfield 10, 3), (23, .invokevirtual 63, 3), (26, .aload_n 0, 1), (27, .getfield 10, 3), (30, .iload_n 1, 1), (31, .iload_n 2, 1), (32, .iload_n 3, 1), (33, .iconst 0, 1), (34, .invokevirtual 225, 3), (37, .aload_n 0, 1), (38, .getfield 10, 3), (41, .getfield 101, 3), (44, .iconst 1, 1), (45, .isub, 1), (46, .ireturn, 1)]
set_option maxRecDepth 100000 in
theorem chk_78 : (ins_78).all (fun e => decide (decode cX5_addAsChange e.1 = .ok e.2)) = true := by decide +kernel
-- 79 CreditScroll.firstNumberOf
def ins_79 : List (Nat × Instr × Nat) := [(0, .aload_n 0, 1), (1, .getfield 10, 3), (4, .iload_n 1, 1), (5, .invokevirtual 105, 3), (8, .istore_n 2, 1), (9, .aload_n 0, 1), (10, .getfield 10, 3), (13, .iload_n 2, 1), (14, .invokevirtual 77, 3), (17, .ifCond .eq 15, 3), (20, .aload_n 0, 1), (21, .getfield 10, 3), (24, .getfield 112, 3), (27, .iload_n 2, 1), (28, .iaload, 1), (29, .goto 5, 3), (32, .bipush (-6), 2), (34, .ireturn, 1)]
set_option maxRecDepth 100000 in
theorem chk_79 : (ins_79).all (fun e => decide (decode cX5_firstNumberOf e.1 = .ok e.2)) = true := by decide +kernel
-- 80 CreditScroll.isWithin
def ins_80 : List (Nat × Instr × Nat) := [(0, .iload_n 0, 1), (1, .iload_n 1, 1), (2, .if_icmp .lt 12, 3), (5, .iload_n 0, 1), (6, .iload_n 2, 1), (7, .if_icmp .gt 7, 3), (10, .iconst 1, 1), (11, .goto 4, 3), (14, .iconst 0, 1), (15, .ireturn, 1)]
set_option maxRecDepth 100000 in
theorem chk_80 : (ins_80).all (fun e => decide (decode cX5_isWithin e.1 = .ok e.2)) = true := by decide +kernel
-- 81 CreditScroll.isGroup
def ins_81 : List (Nat × Instr × Nat) := [(0, .iload_n 0, 1), (1, .iconst 0, 1), (2, .bipush 7, 2), (4, .invokestatic 59, 3), (7, .ireturn, 1)]
set_option maxRecDepth 100000 in
theorem chk_81 : (ins_81).all (fun e => decide (decode cX5_isGroup e.1 = .ok e.2)) = true := by decide +kernel
-- 82 CreditScroll.isSpeed
def ins_82 : List (Nat × Instr × Nat) := [(0, .iload_n 0, 1), (1, .iconst 1, 1), (2, .bipush 30, 2), (4, .invokestatic 59, 3), (7, .ireturn, 1)]
set_option maxRecDepth 100000 in
theorem chk_82 : (ins_82).all (fun e => decide (decode cX5_isSpeed e.1 = .ok e.2)) = true := by decide +kernel
-- 83 CreditScroll.isSlot
def ins_83 : List (Nat × Instr × Nat) := [(0, .iload_n 0, 1), (1, .iconst 0, 1), (2, .iconst 1, 1), (3, .invokestatic 59, 3), (6, .ireturn, 1)]
set_option maxRecDepth 100000 in
theorem chk_83 : (ins_83).all (fun e => decide (decode cX5_isSlot e.1 = .ok e.2)) = true := by decide +kernel
-- 84 CreditScrollModel.init
def ins_84 : List (Nat × Instr × Nat) := [(0, .aload_n 0, 1), (1, .invokespecial 1, 3), (4, .aload_n 0, 1), (5, .sipush 164, 3), (8, .newarray .int, 2), (10, .putfield 7, 3), (13, .aload_n 0, 1), (14, .sipush 984, 3), (17, .newarray .int, 2), (19, .putfield 13, 3), (22, .aload_n 0, 1), (23, .sipush 328, 3), (26, .newarray .int, 2), (28, .putfield 16, 3), (31, .aload_n 0, 1), (32, .iconst 2, 1), (33, .newarray .boolean, 2), (35, .putfield 19, 3), (38, .aload_n 0, 1), (39, .bipush 60, 2), (41, .newarray .char, 2), (43, .putfield 23, 3), (46, .aload_n 0, 1), (47, .bipush 41, 2), (49, .newarray .int, 2), (51, .putfield 27, 3), (54, .aload_n 0, 1), (55, .bipush 40, 2), (57, .newarray .int, 2), (59, .putfield 30, 3), (62, .aload_n 0, 1), (63, .bipush 40, 2), (65, .newarray .int, 2), (67, .putfield 33, 3), (70, .aload_n 0, 1), (71, .bipush 40, 2), (73, .newarray .int, 2), (75, .putfield 36, 3), (78, .aload_n 0, 1), (79, .bipush 40, 2), (81, .newarray .int, 2), (83, .putfield 39, 3), (86, .aload_n 0, 1), (87, .sipush 128, 3), (90, .newarray .int, 2), (92, .putfield 42, 3), (95, .aload_n 0, 1), (96, .getfield 7, 3), (99, .iconst 0, 1), (100, .bipush 10, 2), (102, .iastore, 1), (103, .aload_n 0, 1), (104, .getfield 7, 3), (107, .iconst 1, 1), (108, .iconst 5, 1), (109, .iastore, 1), (110, .aload_n 0, 1), (111, .getfield 7, 3), (114, .iconst 2, 1), (115, .iconst 3, 1), (116, .iastore, 1), (117, .return_, 1)]
set_option maxRecDepth 100000 in
theorem chk_84 : (ins_84).all (fun e => decide (decode cX6_init e.1 = .ok e.2)) = true := by decide +kernel
-- 85 CreditScrollModel.in
def ins_85 : List (Nat × Instr × Nat) := [(0, .iload_n 0, 1), (1, .iload_n 1, 1), (2, .if_icmp .lt 12, 3), (5, .iload_n 0, 1), (6, .iload_n 2, 1), (7, .if_icmp .gt 7, 3), (10, .iconst 1, 1), (11, .goto 4, 3), (14, .iconst 0, 1), (15, .ireturn, 1)]
set_option maxRecDepth 100000 in
theorem chk_85 : (ins_85).all (fun e => decide (decode cX6_in e.1 = .ok e.2)) = true := by decide +kernel
-- 86 CreditScrollModel.isLine
def ins_86 : List (Nat × Instr × Nat) := [(0, .iload_n 1, 1), (1, .ifCond .lt 17, 3), (4, .iload_n 1, 1), (5, .aload_n 0, 1), (6, .getfield 7, 3), (9, .iconst 3, 1), (10, .iaload, 1), (11, .if_icmp .ge 7, 3), (14, .iconst 1, 1), (15, .goto 4, 3), (18, .iconst 0, 1), (19, .ireturn, 1)]
set_option maxRecDepth 100000 in
theorem chk_86 : (ins_86).all (fun e => decide (decode cX6_isLine e.1 = .ok e.2)) = true := by decide +kernel
-- 87 CreditScrollModel.isGroup
def ins_87 : List (Nat × Instr × Nat) := [(0, .iload_n 0, 1), (1, .iconst 0, 1), (2, .bipush 7, 2), (4, .invokestatic 45, 3), (7, .ireturn, 1)]
set_option maxRecDepth 100000 in
theorem chk_87 : (ins_87).all (fun e => decide (decode cX6_isGroup e.1 = .ok e.2)) = true := by decide +kernel
-- 88 CreditScrollModel.isSpeed
def ins_88 : List (Nat × Instr × Nat) := [(0, .iload_n 0, 1), (1, .iconst 1, 1), (2, .bipush 30, 2), (4, .invokestatic 45, 3), (7, .ireturn, 1)]
set_option maxRecDepth 100000 in
theorem chk_88 : (ins_88).all (fun e => decide (decode cX6_isSpeed e.1 = .ok e.2)) = true := by decide +kernel
-- 89 CreditScrollModel.its
def ins_89 : List (Nat × Instr × Nat) := [(0, .aload_n 0, 1), (1, .getfield 7, 3), (4, .iconst 4, 1), (5, .iconst 4, 1), (6, .iload_n 1, 1), (7, .imul, 1), (8, .iadd, 1), (9, .iload_n 2, 1), (10, .iadd, 1), (11, .iaload, 1), (12, .ireturn, 1)]
set_option maxRecDepth 100000 in
theorem chk_89 : (ins_89).all (fun e => decide (decode cX6_its e.1 = .ok e.2)) = true := by decide +kernel
-- 90 CreditScrollModel.isNameOf
def ins_90 : List (Nat × Instr × Nat) := [(0, .aload_n 0, 1), (1, .iload_n 1, 1), (2, .iconst 0, 1), (3, .invokevirtual 49, 3), (6, .ifCond .ne 17, 3), (9, .aload_n 0, 1), (10, .iload_n 1, 1), (11, .iconst 1, 1), (12, .invokevirtual 49, 3), (15, .iload_n 2, 1), (16, .if_icmp .ne 7, 3), (19, .iconst 1, 1), (20, .goto 4, 3), (23, .iconst 0, 1), (24, .ireturn, 1)]
set_option maxRecDepth 100000 in
theorem chk_90 : (ins_90).all (fun e => decide (decode cX6_isNameOf e.1 = .ok e.2)) = true := by decide +kernel
-- 91 CreditScrollModel.record
def ins_91 : List (Nat × Instr × Nat) := [(0, .aload_n 0, 1), (1, .getfield 53, 3), (4, .bipush 6, 2), (6, .if_icmp .ne 44, 3), (9, .iconst 0, 1), (10, .istore_n 1, 1), (11, .iload_n 1, 1), (12, .sipush 820, 3), (15, .if_icmp .ge 25, 3), (18, .aload_n 0, 1), (19, .getfield 13, 3), (22, .iload_n 1, 1), (23, .aload_n 0, 1), (24, .getfield 13, 3), (27, .iload_n 1, 1), (28, .sipush 164, 3), (31, .iadd, 1), (32, .iaload, 1), (33, .iastore, 1), (34, .iinc 1 1, 3), (37, .goto (-26), 3), (40, .aload_n 0, 1), (41, .dup, 1), (42, .getfield 53, 3), (45, .iconst 1, 1), (46, .isub, 1), (47, .putfield 53, 3), (50, .iconst 0, 1), (51, .istore_n 1, 1), (52, .iload_n 1, 1), (53, .sipush 164, 3), (56, .if_icmp .ge 30, 3), (59, .aload_n 0, 1), (60, .getfield 13, 3), (63, .aload_n 0, 1), (64, .getfield 53, 3), (67, .sipush 164, 3), (70, .imul, 1), (71, .iload_n 1, 1), (72, .iadd, 1), (73, .aload_n 0, 1), (74, .getfield 7, 3), (77, .iload_n 1, 1), (78, .iaload, 1), (79, .iastore, 1), (80, .iinc 1 1, 3), (83, .goto (-31), 3), (86, .aload_n 0, 1), (87, .dup, 1), (88, .getfield 53, 3), (91, .iconst 1, 1), (92, .iadd, 1), (93, .putfield 53, 3), (96, .return_, 1)]
set_option maxRecDepth 100000 in
theorem chk_91 : (ins_91).all (fun e => decide (decode cX6_record e.1 = .ok e.2)) = true := by decide +kernel
-- 92 CreditScrollModel.undo
def ins_92 : List (Nat × Instr × Nat) := [(0, .aload_n 0, 1), (1, .getfield 53, 3), (4, .ifCond .ne 6, 3), (7, .bipush (-5), 2), (9, .ireturn, 1), (10, .aload_n 0, 1), (11, .dup, 1), (12, .getfield 53, 3), (15, .iconst 1, 1), (16, .isub, 1), (17, .putfield 53, 3), (20, .iconst 0, 1), (21, .istore_n 1, 1), (22, .iload_n 1, 1), (23, .sipush 164, 3), (26, .if_icmp .ge 30, 3), (29, .aload_n 0, 1), (30, .getfield 7, 3), (33, .iload_n 1, 1), (34, .aload_n 0, 1), (35, .getfield 13, 3), (38, .aload_n 0, 1), (39, .getfield 53, 3), (42, .sipush 164, 3), (45, .imul, 1), (46, .iload_n 1, 1), (47, .iadd, 1), (48, .iaload, 1), (49, .iastore, 1), (50, .iinc 1 1, 3), (53, .goto (-31), 3), (56, .aload_n 0, 1), (57, .getfield 53, 3), (60, .ireturn, 1)]
set_option maxRecDepth 100000 in
theorem chk_92 : (ins_92).all (fun e => decide (decode cX6_undo e.1 = .ok e.2)) = true := by decide +kernel
-- 93 CreditScrollModel.save
def ins_93 : List (Nat × Instr × Nat) := [(0, .iload_n 1, 1), (1, .iconst 0, 1), (2, .iconst 1, 1), (3, .invokestatic 45, 3), (6, .ifCond .ne 6, 3), (9, .bipush (-2), 2), (11, .ireturn, 1), (12, .aload_n 0, 1), (13, .getfield 19, 3), (16, .iload_n 1, 1), (17, .iconst 1, 1), (18, .bastore, 1), (19, .iconst 0, 1), (20, .istore_n 2, 1), (21, .iload_n 2, 1), (22, .sipush 164, 3), (25, .if_icmp .ge 27, 3), (28, .aload_n 0, 1), (29, .getfield 16, 3), (32, .iload_n 1, 1), (33, .sipush 164, 3), (36, .imul, 1), (37, .iload_n 2, 1), (38, .iadd, 1), (39, .aload_n 0, 1), (40, .getfield 7, 3), (43, .iload_n 2, 1), (44, .iaload, 1), (45, .iastore, 1), (46, .iinc 2 1, 3), (49, .goto (-28), 3), (52, .aload_n 0, 1), (53, .getfield 7, 3), (56, .iconst 3, 1), (57, .iaload, 1), (58, .ireturn, 1)]
set_option maxRecDepth 100000 in
theorem chk_93 : (ins_93).all (fun e => decide (decode cX6_save e.1 = .ok e.2)) = true := by decide +kernel
-- 94 CreditScrollModel.restore
def ins_94 : List (Nat × Instr × Nat) := [(0, .iload_n 1, 1), (1, .iconst 0, 1), (2, .iconst 1, 1), (3, .invokestatic 45, 3), (6, .ifCond .ne 6, 3), (9, .bipush (-2), 2), (11, .ireturn, 1), (12, .aload_n 0, 1), (13, .getfield 19, 3), (16, .iload_n 1, 1), (17, .baload, 1), (18, .ifCond .ne 6, 3), (21, .bipush (-5), 2), (23, .ireturn, 1), (24, .aload_n 0, 1), (25, .invokevirtual 57, 3), (28, .iconst 0, 1), (29, .istore_n 2, 1), (30, .iload_n 2, 1), (31, .sipush 164, 3), (34, .if_icmp .ge 27, 3), (37, .aload_n 0, 1), (38, .getfield 7, 3), (41, .iload_n 2, 1), (42, .aload_n 0, 1), (43, .getfield 16, 3), (46, .iload_n 1, 1), (47, .sipush 164, 3), (50, .imul, 1), (51, .iload_n 2, 1), (52, .iadd, 1), (53, .iaload, 1), (54, .iastore, 1), (55, .iinc 2 1, 3), (58, .goto (-28), 3), (61, .aload_n 0, 1), (62, .getfield 7, 3), (65, .iconst 3, 1), (66, .iaload, 1), (67, .ireturn, 1)]
set_option maxRecDepth 100000 in
theorem chk_94 : (ins_94).all (fun e => decide (decode cX6_restore e.1 = .ok e.2)) = true := by decide +kernel
-- 95 CreditScrollModel.height
def ins_95 : List (Nat × Instr × Nat) := [(0, .aload_n 0, 1), (1, .iload_n 1, 1), (2, .iconst 0, 1), (3, .invokevirtual 49, 3), (6, .istore_n 2, 1), (7, .iload_n 2, 1), (8, .iconst 1, 1), (9, .if_icmp .ne 7, 3), (12, .iconst 2, 1), (13, .goto 18, 3), (16, .iload_n 2, 1), (17, .iconst 2, 1), (18, .if_icmp .ne 12, 3), (21, .aload_n 0, 1), (22, .getfield 7, 3), (25, .iconst 2, 1), (26, .iaload, 1), (27, .goto 4, 3), (30, .iconst 1, 1), (31, .ireturn, 1)]
set_option maxRecDepth 100000 in
theorem chk_95 : (ins_95).all (fun e => decide (decode cX6_height e.1 = .ok e.2)) = true := by decide +kernel
-- 96 CreditScrollModel.begin
def ins_96 : List (Nat × Instr × Nat) := [(0, .aload_n 0, 1), (1, .getfield 27, 3), (4, .iconst 0, 1), (5, .iconst 0, 1), (6, .iastore, 1), (7, .iconst 0, 1), (8, .istore_n 1, 1), (9, .iload_n 1, 1), (10, .aload_n 0, 1), (11, .getfield 7, 3), (14, .iconst 3, 1), (15, .iaload, 1), (16, .if_icmp .ge 52, 3), (19, .aload_n 0, 1), (20, .getfield 27, 3), (23, .iload_n 1, 1), (24, .iconst 1, 1), (25, .iadd, 1), (26, .aload_n 0, 1), (27, .getfield 27, 3), (30, .iload_n 1, 1), (31, .iaload, 1), (32, .aload_n 0, 1), (33, .iload_n 1, 1), (34, .invokevirtual 60, 3), (37, .iadd, 1), (38, .iastore, 1), (39, .aload_n 0, 1), (40, .getfield 30, 3), (43, .iload_n 1, 1), (44, .iconst 0, 1), (45, .iastore, 1), (46, .aload_n 0, 1), (47, .getfield 33, 3), (50, .iload_n 1, 1), (51, .bipush (-6), 2), (53, .iastore, 1), (54, .aload_n 0, 1), (55, .getfield 36, 3), (58, .iload_n 1, 1), (59, .bipush (-6), 2), (61, .iastore, 1), (62, .iinc 1 1, 3), (65, .goto (-56), 3), (68, .aload_n 0, 1), (69, .iconst 0, 1), (70, .putfield 64, 3), (73, .return_, 1)]
set_option maxRecDepth 100000 in
theorem chk_96 : (ins_96).all (fun e => decide (decode cX6_begin e.1 = .ok e.2)) = true := by decide +kernel
-- 97 CreditScrollModel.speedNow
def ins_97 : List (Nat × Instr × Nat) := [(0, .aload_n 0, 1), (1, .getfield 7, 3), (4, .iconst 1, 1), (5, .iaload, 1), (6, .istore_n 1, 1), (7, .iconst 0, 1), (8, .istore_n 2, 1), (9, .iload_n 2, 1), (10, .aload_n 0, 1), (11, .getfield 7, 3), (14, .iconst 3, 1), (15, .iaload, 1), (16, .if_icmp .ge 45, 3), (19, .aload_n 0, 1), (20, .iload_n 2, 1), (21, .iconst 3, 1), (22, .invokevirtual 49, 3), (25, .ifCond .le 28, 3), (28, .bipush 10, 2), (30, .aload_n 0, 1), (31, .getfield 27, 3), (34, .iload_n 2, 1), (35, .iaload, 1), (36, .imul, 1), (37, .aload_n 0, 1), (38, .getfield 64, 3), (41, .if_icmp .gt 12, 3), (44, .aload_n 0, 1), (45, .iload_n 2, 1), (46, .iconst 3, 1), (47, .invokevirtual 49, 3), (50, .goto 4, 3), (53, .iload_n 1, 1), (54, .istore_n 1, 1), (55, .iinc 2 1, 3), (58, .goto (-49), 3), (61, .iload_n 1, 1), (62, .ireturn, 1)]
set_option maxRecDepth 100000 in
theorem chk_97 : (ins_97).all (fun e => decide (decode cX6_speedNow e.1 = .ok e.2)) = true := by decide +kernel
-- 98 CreditScrollModel.isSeen
def ins_98 : List (Nat × Instr × Nat) := [(0, .aload_n 0, 1), (1, .getfield 64, 3), (4, .bipush 10, 2), (6, .aload_n 0, 1), (7, .getfield 27, 3), (10, .iload_n 1, 1), (11, .iconst 1, 1), (12, .iadd, 1), (13, .iaload, 1), (14, .imul, 1), (15, .if_icmp .lt 30, 3), (18, .aload_n 0, 1), (19, .getfield 64, 3), (22, .bipush 10, 2), (24, .aload_n 0, 1), (25, .getfield 27, 3), (28, .iload_n 1, 1), (29, .iaload, 1), (30, .aload_n 0, 1), (31, .getfield 7, 3), (34, .iconst 0, 1), (35, .iaload, 1), (36, .iadd, 1), (37, .imul, 1), (38, .if_icmp .gt 7, 3), (41, .iconst 1, 1), (42, .goto 4, 3), (45, .iconst 0, 1), (46, .ireturn, 1)]
set_option maxRecDepth 100000 in
theorem chk_98 : (ins_98).all (fun e => decide (decode cX6_isSeen e.1 = .ok e.2)) = true := by decide +kernel
-- 99 CreditScrollModel.run
def ins_99 : List (Nat × Instr × Nat) := [(0, .aload_n 0, 1), (1, .invokevirtual 67, 3), (4, .aload_n 0, 1), (5, .getfield 7, 3), (8, .iconst 3, 1), (9, .iaload, 1), (10, .ifCond .ne 7, 3), (13, .iconst 0, 1), (14, .goto 24, 3), (17, .bipush 10, 2), (19, .aload_n 0, 1), (20, .getfield 27, 3), (23, .aload_n 0, 1), (24, .getfield 7, 3), (27, .iconst 3, 1), (28, .iaload, 1), (29, .iaload, 1), (30, .aload_n 0, 1), (31, .getfield 7, 3), (34, .iconst 0, 1), (35, .iaload, 1), (36, .iadd, 1), (37, .imul, 1), (38, .istore_n 1, 1), (39, .iconst 0, 1), (40, .istore_n 2, 1), (41, .aload_n 0, 1), (42, .getfield 64, 3), (45, .iload_n 1, 1), (46, .if_icmp .ge 92, 3), (49, .aload_n 0, 1), (50, .dup, 1), (51, .getfield 64, 3), (54, .aload_n 0, 1), (55, .invokevirtual 70, 3), (58, .iadd, 1), (59, .putfield 64, 3), (62, .iinc 2 1, 3), (65, .iconst 0, 1), (66, .istore_n 3, 1), (67, .iload_n 3, 1), (68, .aload_n 0, 1), (69, .getfield 7, 3), (72, .iconst 3, 1), (73, .iaload, 1), (74, .if_icmp .ge 61, 3), (77, .aload_n 0, 1), (78, .iload_n 3, 1), (79, .invokevirtual 74, 3), (82, .ifCond .eq 47, 3), (85, .aload_n 0, 1), (86, .getfield 30, 3), (89, .iload_n 3, 1), (90, .dup2, 1), (91, .iaload, 1), (92, .iconst 1, 1), (93, .iadd, 1), (94, .iastore, 1), (95, .aload_n 0, 1), (96, .getfield 33, 3), (99, .iload_n 3, 1), (100, .aload_n 0, 1), (101, .getfield 33, 3), (104, .iload_n 3, 1), (105, .iaload, 1), (106, .bipush (-6), 2), (108, .if_icmp .ne 7, 3), (111, .iload_n 2, 1), (112, .goto 9, 3), (115, .aload_n 0, 1), (116, .getfield 33, 3), (119, .iload_n 3, 1), (120, .iaload, 1), (121, .iastore, 1), (122, .aload_n 0, 1), (123, .getfield 36, 3), (126, .iload_n 3, 1), (127, .iload_n 2, 1), (128, .iastore, 1), (129, .iinc 3 1, 3), (132, .goto (-65), 3), (135, .goto (-94), 3), (138, .iload_n 2, 1), (139, .ireturn, 1)]
set_option maxRecDepth 100000 in
theorem chk_99 : (ins_99).all (fun e => decide (decode cX6_run e.1 = .ok e.2)) = true := by decide +kernel
-- 100 CreditScrollModel.namesOf
def ins_100 : List (Nat × Instr × Nat) := [(0, .iconst 0, 1), (1, .istore_n 2, 1), (2, .iconst 0, 1), (3, .istore_n 3, 1), (4, .iload_n 3, 1), (5, .aload_n 0, 1), (6, .getfield 7, 3), (9, .iconst 3, 1), (10, .iaload, 1), (11, .if_icmp .ge 26, 3), (14, .iload_n 2, 1), (15, .aload_n 0, 1), (16, .iload_n 3, 1), (17, .iload_n 1, 1), (18, .invokevirtual 78, 3), (21, .ifCond .eq 7, 3), (24, .iconst 1, 1), (25, .goto 4, 3), (28, .iconst 0, 1), (29, .iadd, 1), (30, .istore_n 2, 1), (31, .iinc 3 1, 3), (34, .goto (-30), 3), (37, .iload_n 2, 1), (38, .ireturn, 1)]
set_option maxRecDepth 100000 in
theorem chk_100 : (ins_100).all (fun e => decide (decode cX6_namesOf e.1 = .ok e.2)) = true := by decide +kernel
-- 101 CreditScrollModel.shortest
def ins_101 : List (Nat × Instr × Nat) := [(0, .bipush (-6), 2), (2, .istore_n 2, 1), (3, .iconst 0, 1), (4, .istore_n 3, 1), (5, .iload_n 3, 1), (6, .aload_n 0, 1), (7, .getfield 7, 3), (10, .iconst 3, 1), (11, .iaload, 1), (12, .if_icmp .ge 45, 3), (15, .aload_n 0, 1), (16, .iload_n 3, 1), (17, .iload_n 1, 1), (18, .invokevirtual 78, 3), (21, .ifCond .eq 28, 3), (24, .iload_n 2, 1), (25, .bipush (-6), 2), (27, .if_icmp .eq 18, 3), (30, .aload_n 0, 1), (31, .getfield 30, 3), (34, .iload_n 3, 1), (35, .iaload, 1), (36, .aload_n 0, 1), (37, .getfield 30, 3), (40, .iload_n 2, 1), (41, .iaload, 1), (42, .if_icmp .ge 7, 3), (45, .iload_n 3, 1), (46, .goto 4, 3), (49, .iload_n 2, 1), (50, .istore_n 2, 1), (51, .iinc 3 1, 3), (54, .goto (-49), 3), (57, .iload_n 2, 1), (58, .ireturn, 1)]
set_option maxRecDepth 100000 in
theorem chk_101 : (ins_101).all (fun e => decide (decode cX6_shortest e.1 = .ok e.2)) = true := by decide +kernel
-- 102 CreditScrollModel.spread
def ins_102 : List (Nat × Instr × Nat) := [(0, .iconst 0, 1), (1, .istore_n 2, 1), (2, .iconst 0, 1), (3, .istore_n 3, 1), (4, .iload_n 3, 1), (5, .aload_n 0, 1), (6, .getfield 7, 3), (9, .iconst 3, 1), (10, .iaload, 1), (11, .if_icmp .ge 39, 3), (14, .aload_n 0, 1), (15, .iload_n 3, 1), (16, .iload_n 1, 1), (17, .invokevirtual 78, 3), (20, .ifCond .eq 22, 3), (23, .aload_n 0, 1), (24, .getfield 30, 3), (27, .iload_n 3, 1), (28, .iaload, 1), (29, .iload_n 2, 1), (30, .if_icmp .le 12, 3), (33, .aload_n 0, 1), (34, .getfield 30, 3), (37, .iload_n 3, 1), (38, .iaload, 1), (39, .goto 4, 3), (42, .iload_n 2, 1), (43, .istore_n 2, 1), (44, .iinc 3 1, 3), (47, .goto (-43), 3), (50, .aload_n 0, 1), (51, .iload_n 1, 1), (52, .invokevirtual 82, 3), (55, .istore_n 3, 1), (56, .iload_n 3, 1), (57, .bipush (-6), 2), (59, .if_icmp .ne 7, 3), (62, .iconst 0, 1), (63, .goto 11, 3), (66, .iload_n 2, 1), (67, .aload_n 0, 1), (68, .getfield 30, 3), (71, .iload_n 3, 1), (72, .iaload, 1), (73, .isub, 1), (74, .ireturn, 1)]
set_option maxRecDepth 100000 in
theorem chk_102 : (ins_102).all (fun e => decide (decode cX6_spread e.1 = .ok e.2)) = true := by decide +kernel
-- 103 CreditScrollModel.firstName
def ins_103 : List (Nat × Instr × Nat) := [(0, .iconst 0, 1), (1, .istore_n 2, 1), (2, .iload_n 2, 1), (3, .aload_n 0, 1), (4, .getfield 7, 3), (7, .iconst 3, 1), (8, .iaload, 1), (9, .if_icmp .ge 20, 3), (12, .aload_n 0, 1), (13, .iload_n 2, 1), (14, .iload_n 1, 1), (15, .invokevirtual 78, 3), (18, .ifCond .eq 5, 3), (21, .iload_n 2, 1), (22, .ireturn, 1), (23, .iinc 2 1, 3), (26, .goto (-24), 3), (29, .bipush (-6), 2), (31, .ireturn, 1)]
set_option maxRecDepth 100000 in
theorem chk_103 : (ins_103).all (fun e => decide (decode cX6_firstName e.1 = .ok e.2)) = true := by decide +kernel
-- 104 CreditScrollModel.leastOf
def ins_104 : List (Nat × Instr × Nat) := [(0, .iload_n 0, 1), (1, .ifCond .ne 7, 3), (4, .iconst 4, 1), (5, .goto 4, 3), (8, .iconst 1, 1), (9, .ireturn, 1)]
set_option maxRecDepth 100000 in
theorem chk_104 : (ins_104).all (fun e => decide (decode cX6_leastOf e.1 = .ok e.2)) = true := by decide +kernel
-- 105 CreditScrollModel.mostOf
def ins_105 : List (Nat × Instr × Nat) := [(0, .iload_n 0, 1), (1, .ifCond .ne 8, 3), (4, .bipush 20, 2), (6, .goto 14, 3), (9, .iload_n 0, 1), (10, .iconst 1, 1), (11, .if_icmp .ne 8, 3), (14, .bipush 30, 2), (16, .goto 4, 3), (19, .iconst 4, 1), (20, .ireturn, 1)]
set_option maxRecDepth 100000 in
theorem chk_105 : (ins_105).all (fun e => decide (decode cX6_mostOf e.1 = .ok e.2)) = true := by decide +kernel
-- 106 CreditScrollModel.set
def ins_106 : List (Nat × Instr × Nat) := [(0, .iload_n 1, 1), (1, .iconst 0, 1), (2, .iconst 2, 1), (3, .invokestatic 45, 3), (6, .ifCond .eq 18, 3), (9, .iload_n 2, 1), (10, .iload_n 1, 1), (11, .invokestatic 85, 3), (14, .iload_n 1, 1), (15, .invokestatic 88, 3), (18, .invokestatic 45, 3), (21, .ifCond .ne 6, 3), (24, .bipush (-2), 2), (26, .ireturn, 1), (27, .aload_n 0, 1), (28, .invokevirtual 57, 3), (31, .aload_n 0, 1), (32, .getfield 7, 3), (35, .iload_n 1, 1), (36, .iaload, 1), (37, .istore_n 3, 1), (38, .aload_n 0, 1), (39, .getfield 7, 3), (42, .iload_n 1, 1), (43, .iload_n 2, 1), (44, .iastore, 1), (45, .iload_n 3, 1), (46, .ireturn, 1)]
set_option maxRecDepth 100000 in
theorem chk_106 : (ins_106).all (fun e => decide (decode cX6_set e.1 = .ok e.2)) = true := by decide +kernel
-- 107 CreditScrollModel.add
def ins_107 : List (Nat × Instr × Nat) := [(0, .iconst 4, 1), (1, .iconst 4, 1), (2, .aload_n 0, 1), (3, .getfield 7, 3), (6, .iconst 3, 1), (7, .iaload, 1), (8, .imul, 1), (9, .iadd, 1), (10, .istore 5, 2), (12, .aload_n 0, 1), (13, .getfield 7, 3), (16, .iload 5, 2), (18, .iconst 0, 1), (19, .iadd, 1), (20, .iload_n 1, 1), (21, .iastore, 1), (22, .aload_n 0, 1), (23, .getfield 7, 3), (26, .iload 5, 2), (28, .iconst 1, 1), (29, .iadd, 1), (30, .iload_n 2, 1), (31, .iastore, 1), (32, .aload_n 0, 1), (33, .getfield 7, 3), (36, .iload 5, 2), (38, .iconst 2, 1), (39, .iadd, 1), (40, .iload_n 3, 1), (41, .iastore, 1), (42, .aload_n 0, 1), (43, .getfield 7, 3), (46, .iload 5, 2), (48, .iconst 3, 1), (49, .iadd, 1), (50, .iload 4, 2), (52, .iastore, 1), (53, .aload_n 0, 1), (54, .getfield 7, 3), (57, .iconst 3, 1), (58, .dup2, 1), (59, .iaload, 1), (60, .iconst 1, 1), (61, .iadd, 1), (62, .iastore, 1), (63, .aload_n 0, 1), (64, .getfield 7, 3), (67, .iconst 3, 1), (68, .iaload, 1), (69, .iconst 1, 1), (70, .isub, 1), (71, .ireturn, 1)]
set_option maxRecDepth 100000 in
theorem chk_107 : (ins_107).all (fun e => decide (decode cX6_add e.1 = .ok e.2)) = true := by decide +kernel
-- 108 CreditScrollModel.name
def ins_108 : List (Nat × Instr × Nat) := [(0, .iload_n 1, 1), (1, .invokestatic 91, 3), (4, .ifCond .eq 14, 3), (7, .iload_n 2, 1), (8, .iconst 0, 1), (9, .sipush 999, 3), (12, .invokestatic 45, 3), (15, .ifCond .ne 6, 3), (18, .bipush (-2), 2), (20, .ireturn, 1), (21, .aload_n 0, 1), (22, .getfield 7, 3), (25, .iconst 3, 1), (26, .iaload, 1), (27, .bipush 40, 2), (29, .if_icmp .ne 6, 3), (32, .bipush (-4), 2), (34, .ireturn, 1), (35, .aload_n 0, 1), (36, .invokevirtual 57, 3), (39, .aload_n 0, 1), (40, .iconst 0, 1), (41, .iload_n 1, 1), (42, .iload_n 2, 1), (43, .iconst 0, 1), (44, .invokevirtual 94, 3), (47, .ireturn, 1)]
set_option maxRecDepth 100000 in
theorem chk_108 : (ins_108).all (fun e => decide (decode cX6_name e.1 = .ok e.2)) = true := by decide +kernel
-- 109 CreditScrollModel.line
def ins_109 : List (Nat × Instr × Nat) := [(0, .iload_n 1, 1), (1, .iconst 1, 1), (2, .iconst 3, 1), (3, .invokestatic 45, 3), (6, .ifCond .ne 6, 3), (9, .bipush (-2), 2), (11, .ireturn, 1), (12, .aload_n 0, 1), (13, .getfield 7, 3), (16, .iconst 3, 1), (17, .iaload, 1), (18, .bipush 40, 2), (20, .if_icmp .ne 6, 3), (23, .bipush (-4), 2), (25, .ireturn, 1), (26, .aload_n 0, 1), (27, .invokevirtual 57, 3), (30, .aload_n 0, 1), (31, .iload_n 1, 1), (32, .bipush (-6), 2), (34, .bipush (-6), 2), (36, .iconst 0, 1), (37, .invokevirtual 94, 3), (40, .ireturn, 1)]
set_option maxRecDepth 100000 in
theorem chk_109 : (ins_109).all (fun e => decide (decode cX6_line e.1 = .ok e.2)) = true := by decide +kernel
-- 110 CreditScrollModel.cue
def ins_110 : List (Nat × Instr × Nat) := [(0, .aload_n 0, 1), (1, .iload_n 1, 1), (2, .invokevirtual 98, 3), (5, .ifCond .ne 5, 3), (8, .iconst (-1), 1), (9, .ireturn, 1), (10, .iload_n 2, 1), (11, .iconst 0, 1), (12, .bipush 30, 2), (14, .invokestatic 45, 3), (17, .ifCond .ne 6, 3), (20, .bipush (-2), 2), (22, .ireturn, 1), (23, .aload_n 0, 1), (24, .invokevirtual 57, 3), (27, .aload_n 0, 1), (28, .iload_n 1, 1), (29, .iconst 3, 1), (30, .invokevirtual 49, 3), (33, .istore_n 3, 1), (34, .aload_n 0, 1), (35, .getfield 7, 3), (38, .iconst 4, 1), (39, .iconst 4, 1), (40, .iload_n 1, 1), (41, .imul, 1), (42, .iadd, 1), (43, .iconst 3, 1), (44, .iadd, 1), (45, .iload_n 2, 1), (46, .iastore, 1), (47, .iload_n 3, 1), (48, .ireturn, 1)]
set_option maxRecDepth 100000 in
theorem chk_110 : (ins_110).all (fun e => decide (decode cX6_cue e.1 = .ok e.2)) = true := by decide +kernel
-- 111 CreditScrollModel.exchange
def ins_111 : List (Nat × Instr × Nat) := [(0, .iconst 0, 1), (1, .istore_n 2, 1), (2, .iload_n 2, 1), (3, .iconst 4, 1), (4, .if_icmp .ge 63, 3), (7, .aload_n 0, 1), (8, .getfield 7, 3), (11, .iconst 4, 1), (12, .iconst 4, 1), (13, .iload_n 1, 1), (14, .imul, 1), (15, .iadd, 1), (16, .iload_n 2, 1), (17, .iadd, 1), (18, .iaload, 1), (19, .istore_n 3, 1), (20, .aload_n 0, 1), (21, .getfield 7, 3), (24, .iconst 4, 1), (25, .iconst 4, 1), (26, .iload_n 1, 1), (27, .imul, 1), (28, .iadd, 1), (29, .iload_n 2, 1), (30, .iadd, 1), (31, .aload_n 0, 1), (32, .getfield 7, 3), (35, .iconst 4, 1), (36, .iconst 4, 1), (37, .iload_n 1, 1), (38, .imul, 1), (39, .iadd, 1), (40, .iconst 4, 1), (41, .iadd, 1), (42, .iload_n 2, 1), (43, .iadd, 1), (44, .iaload, 1), (45, .iastore, 1), (46, .aload_n 0, 1), (47, .getfield 7, 3), (50, .iconst 4, 1), (51, .iconst 4, 1), (52, .iload_n 1, 1), (53, .imul, 1), (54, .iadd, 1), (55, .iconst 4, 1), (56, .iadd, 1), (57, .iload_n 2, 1), (58, .iadd, 1), (59, .iload_n 3, 1), (60, .iastore, 1), (61, .iinc 2 1, 3), (64, .goto (-62), 3), (67, .return_, 1)]
set_option maxRecDepth 100000 in
theorem chk_111 : (ins_111).all (fun e => decide (decode cX6_exchange e.1 = .ok e.2)) = true := by decide +kernel
-- 112 CreditScrollModel.move
def ins_112 : List (Nat × Instr × Nat) := [(0, .aload_n 0, 1), (1, .iload_n 1, 1), (2, .invokevirtual 98, 3), (5, .ifCond .eq 11, 3), (8, .aload_n 0, 1), (9, .iload_n 2, 1), (10, .invokevirtual 98, 3), (13, .ifCond .ne 5, 3), (16, .iconst (-1), 1), (17, .ireturn, 1), (18, .aload_n 0, 1), (19, .invokevirtual 57, 3), (22, .aload_n 0, 1), (23, .invokevirtual 101, 3), (26, .istore_n 3, 1), (27, .iload_n 1, 1), (28, .istore 4, 2), (30, .iload 4, 2), (32, .iload_n 2, 1), (33, .if_icmp .ge 15, 3), (36, .aload_n 0, 1), (37, .iload 4, 2), (39, .invokevirtual 104, 3), (42, .iinc 4 1, 3), (45, .goto (-15), 3), (48, .iload_n 1, 1), (49, .istore 4, 2), (51, .iload 4, 2), (53, .iload_n 2, 1), (54, .if_icmp .le 17, 3), (57, .aload_n 0, 1), (58, .iload 4, 2), (60, .iconst 1, 1), (61, .isub, 1), (62, .invokevirtual 104, 3), (65, .iinc 4 (-1), 3), (68, .goto (-17), 3), (71, .aload_n 0, 1), (72, .invokevirtual 101, 3), (75, .iload_n 3, 1), (76, .isub, 1), (77, .sipush 10000, 3), (80, .iadd, 1), (81, .ireturn, 1)]
set_option maxRecDepth 100000 in
theorem chk_112 : (ins_112).all (fun e => decide (decode cX6_move e.1 = .ok e.2)) = true := by decide +kernel
-- 113 CreditScrollModel.drop
def ins_113 : List (Nat × Instr × Nat) := [(0, .aload_n 0, 1), (1, .iload_n 1, 1), (2, .invokevirtual 98, 3), (5, .ifCond .ne 5, 3), (8, .iconst (-1), 1), (9, .ireturn, 1), (10, .aload_n 0, 1), (11, .invokevirtual 57, 3), (14, .iload_n 1, 1), (15, .istore_n 2, 1), (16, .iload_n 2, 1), (17, .iconst 1, 1), (18, .iadd, 1), (19, .aload_n 0, 1), (20, .getfield 7, 3), (23, .iconst 3, 1), (24, .iaload, 1), (25, .if_icmp .ge 14, 3), (28, .aload_n 0, 1), (29, .iload_n 2, 1), (30, .invokevirtual 104, 3), (33, .iinc 2 1, 3), (36, .goto (-20), 3), (39, .aload_n 0, 1), (40, .getfield 7, 3), (43, .iconst 3, 1), (44, .dup2, 1), (45, .iaload, 1), (46, .iconst 1, 1), (47, .isub, 1), (48, .iastore, 1), (49, .iconst 0, 1), (50, .istore_n 2, 1), (51, .iload_n 2, 1), (52, .iconst 4, 1), (53, .if_icmp .ge 27, 3), (56, .aload_n 0, 1), (57, .getfield 7, 3), (60, .iconst 4, 1), (61, .iconst 4, 1), (62, .aload_n 0, 1), (63, .getfield 7, 3), (66, .iconst 3, 1), (67, .iaload, 1), (68, .imul, 1), (69, .iadd, 1), (70, .iload_n 2, 1), (71, .iadd, 1), (72, .iconst 0, 1), (73, .iastore, 1), (74, .iinc 2 1, 3), (77, .goto (-26), 3), (80, .aload_n 0, 1), (81, .getfield 7, 3), (84, .iconst 3, 1), (85, .iaload, 1), (86, .ireturn, 1)]
set_option maxRecDepth 100000 in
theorem chk_113 : (ins_113).all (fun e => decide (decode cX6_drop e.1 = .ok e.2)) = true := by decide +kernel
-- 114 CreditScrollModel.turnOnce
def ins_114 : List (Nat × Instr × Nat) := [(0, .aload_n 0, 1), (1, .iload_n 1, 1), (2, .invokevirtual 108, 3), (5, .istore_n 2, 1), (6, .aload_n 0, 1), (7, .iload_n 2, 1), (8, .iconst 2, 1), (9, .invokevirtual 49, 3), (12, .istore_n 3, 1), (13, .iload_n 2, 1), (14, .iconst 1, 1), (15, .iadd, 1), (16, .istore 4, 2), (18, .iload 4, 2), (20, .aload_n 0, 1), (21, .getfield 7, 3), (24, .iconst 3, 1), (25, .iaload, 1), (26, .if_icmp .ge 41, 3), (29, .aload_n 0, 1), (30, .iload 4, 2), (32, .iload_n 1, 1), (33, .invokevirtual 78, 3), (36, .ifCond .eq 25, 3), (39, .aload_n 0, 1), (40, .getfield 7, 3), (43, .iconst 4, 1), (44, .iconst 4, 1), (45, .iload_n 2, 1), (46, .imul, 1), (47, .iadd, 1), (48, .iconst 2, 1), (49, .iadd, 1), (50, .aload_n 0, 1), (51, .iload 4, 2), (53, .iconst 2, 1), (54, .invokevirtual 49, 3), (57, .iastore, 1), (58, .iload 4, 2), (60, .istore_n 2, 1), (61, .iinc 4 1, 3), (64, .goto (-46), 3), (67, .aload_n 0, 1), (68, .getfield 7, 3), (71, .iconst 4, 1), (72, .iconst 4, 1), (73, .iload_n 2, 1), (74, .imul, 1), (75, .iadd, 1), (76, .iconst 2, 1), (77, .iadd, 1), (78, .iload_n 3, 1), (79, .iastore, 1), (80, .return_, 1)]
set_option maxRecDepth 100000 in
theorem chk_114 : (ins_114).all (fun e => decide (decode cX6_turnOnce e.1 = .ok e.2)) = true := by decide +kernel
-- 115 CreditScrollModel.turn
def ins_115 : List (Nat × Instr × Nat) := [(0, .iload_n 1, 1), (1, .invokestatic 91, 3), (4, .ifCond .eq 13, 3), (7, .iload_n 2, 1), (8, .iconst 1, 1), (9, .bipush 40, 2), (11, .invokestatic 45, 3), (14, .ifCond .ne 6, 3), (17, .bipush (-2), 2), (19, .ireturn, 1), (20, .aload_n 0, 1), (21, .iload_n 1, 1), (22, .invokevirtual 111, 3), (25, .ifCond .ne 6, 3), (28, .bipush (-5), 2), (30, .ireturn, 1), (31, .aload_n 0, 1), (32, .invokevirtual 57, 3), (35, .iconst 0, 1), (36, .istore_n 3, 1), (37, .iload_n 3, 1), (38, .iload_n 2, 1), (39, .if_icmp .ge 14, 3), (42, .aload_n 0, 1), (43, .iload_n 1, 1), (44, .invokevirtual 114, 3), (47, .iinc 3 1, 3), (50, .goto (-13), 3), (53, .aload_n 0, 1), (54, .aload_n 0, 1), (55, .iload_n 1, 1), (56, .invokevirtual 108, 3), (59, .iconst 2, 1), (60, .invokevirtual 49, 3), (63, .ireturn, 1)]
set_option maxRecDepth 100000 in
theorem chk_115 : (ins_115).all (fun e => decide (decode cX6_turn e.1 = .ok e.2)) = true := by decide +kernel
-- 116 CreditScrollModel.of
def ins_116 : List (Nat × Instr × Nat) := [(0, .aload_n 0, 1), (1, .iload_n 1, 1), (2, .invokevirtual 98, 3), (5, .ifCond .ne 5, 3), (8, .iconst (-1), 1), (9, .ireturn, 1), (10, .iload_n 2, 1), (11, .bipush 6, 2), (13, .if_icmp .ge 10, 3), (16, .aload_n 0, 1), (17, .invokevirtual 67, 3), (20, .goto 8, 3), (23, .aload_n 0, 1), (24, .invokevirtual 101, 3), (27, .pop, 1), (28, .iload_n 2, 1), (29, .tableswitch 92 0 8 #[51, 51, 51, 51, 58, 65, 71, 78, 85], 51), (80, .aload_n 0, 1), (81, .iload_n 1, 1), (82, .iload_n 2, 1), (83, .invokevirtual 49, 3), (86, .ireturn, 1), (87, .aload_n 0, 1), (88, .getfield 27, 3), (91, .iload_n 1, 1), (92, .iaload, 1), (93, .ireturn, 1), (94, .aload_n 0, 1), (95, .iload_n 1, 1), (96, .invokevirtual 60, 3), (99, .ireturn, 1), (100, .aload_n 0, 1), (101, .getfield 30, 3), (104, .iload_n 1, 1), (105, .iaload, 1), (106, .ireturn, 1), (107, .aload_n 0, 1), (108, .getfield 33, 3), (111, .iload_n 1, 1), (112, .iaload, 1), (113, .ireturn, 1), (114, .aload_n 0, 1), (115, .getfield 36, 3), (118, .iload_n 1, 1), (119, .iaload, 1), (120, .ireturn, 1), (121, .bipush (-2), 2), (123, .ireturn, 1)]
set_option maxRecDepth 100000 in
theorem chk_116 : (ins_116).all (fun e => decide (decode cX6_of e.1 = .ok e.2)) = true := by decide +kernel
-- 117 CreditScrollModel.group
def ins_117 : List (Nat × Instr × Nat) := [(0, .iload_n 1, 1), (1, .invokestatic 91, 3), (4, .ifCond .eq 12, 3), (7, .iload_n 2, 1), (8, .iconst 0, 1), (9, .iconst 4, 1), (10, .invokestatic 45, 3), (13, .ifCond .ne 6, 3), (16, .bipush (-2), 2), (18, .ireturn, 1), (19, .aload_n 0, 1), (20, .invokevirtual 101, 3), (23, .pop, 1), (24, .aload_n 0, 1), (25, .iload_n 1, 1), (26, .invokevirtual 111, 3), (29, .istore_n 3, 1), (30, .iload_n 2, 1), (31, .iconst 2, 1), (32, .if_icmp .ge 17, 3), (35, .iload_n 2, 1), (36, .ifCond .ne 7, 3), (39, .iload_n 3, 1), (40, .goto 8, 3), (43, .aload_n 0, 1), (44, .iload_n 1, 1), (45, .invokevirtual 117, 3), (48, .ireturn, 1), (49, .iload_n 3, 1), (50, .ifCond .ne 6, 3), (53, .bipush (-6), 2), (55, .ireturn, 1), (56, .aload_n 0, 1), (57, .iload_n 1, 1), (58, .invokevirtual 82, 3), (61, .istore 4, 2), (63, .iload_n 2, 1), (64, .iconst 2, 1), (65, .if_icmp .ne 13, 3), (68, .aload_n 0, 1), (69, .getfield 30, 3), (72, .iload 4, 2), (74, .iaload, 1), (75, .goto 23, 3), (78, .iload_n 2, 1), (79, .iconst 3, 1), (80, .if_icmp .ne 8, 3), (83, .iload 4, 2), (85, .goto 13, 3), (88, .aload_n 0, 1), (89, .aload_n 0, 1), (90, .iload_n 1, 1), (91, .invokevirtual 108, 3), (94, .iconst 2, 1), (95, .invokevirtual 49, 3), (98, .ireturn, 1)]
set_option maxRecDepth 100000 in
theorem chk_117 : (ins_117).all (fun e => decide (decode cX6_group e.1 = .ok e.2)) = true := by decide +kernel
-- 118 CreditScrollModel.seenNow
def ins_118 : List (Nat × Instr × Nat) := [(0, .iconst 0, 1), (1, .istore_n 2, 1), (2, .bipush (-6), 2), (4, .istore_n 3, 1), (5, .bipush (-6), 2), (7, .istore 4, 2), (9, .iconst 0, 1), (10, .istore 5, 2), (12, .iload 5, 2), (14, .aload_n 0, 1), (15, .getfield 7, 3), (18, .iconst 3, 1), (19, .iaload, 1), (20, .if_icmp .ge 38, 3), (23, .aload_n 0, 1), (24, .iload 5, 2), (26, .invokevirtual 74, 3), (29, .ifCond .eq 23, 3), (32, .iinc 2 1, 3), (35, .iload_n 3, 1), (36, .bipush (-6), 2), (38, .if_icmp .ne 8, 3), (41, .iload 5, 2), (43, .goto 4, 3), (46, .iload_n 3, 1), (47, .istore_n 3, 1), (48, .iload 5, 2), (50, .istore 4, 2), (52, .iinc 5 1, 3), (55, .goto (-43), 3), (58, .iload_n 1, 1), (59, .ifCond .ne 7, 3), (62, .iload_n 3, 1), (63, .goto 14, 3), (66, .iload_n 1, 1), (67, .iconst 1, 1), (68, .if_icmp .ne 8, 3), (71, .iload 4, 2), (73, .goto 4, 3), (76, .iload_n 2, 1), (77, .ireturn, 1)]
set_option maxRecDepth 100000 in
theorem chk_118 : (ins_118).all (fun e => decide (decode cX6_seenNow e.1 = .ok e.2)) = true := by decide +kernel
-- 119 CreditScrollModel.at
def ins_119 : List (Nat × Instr × Nat) := [(0, .iload_n 1, 1), (1, .iconst 0, 1), (2, .sipush 9999, 3), (5, .invokestatic 45, 3), (8, .ifCond .eq 12, 3), (11, .iload_n 2, 1), (12, .iconst 0, 1), (13, .iconst 4, 1), (14, .invokestatic 45, 3), (17, .ifCond .ne 6, 3), (20, .bipush (-2), 2), (22, .ireturn, 1), (23, .aload_n 0, 1), (24, .invokevirtual 67, 3), (27, .iconst 0, 1), (28, .istore_n 3, 1), (29, .iload_n 3, 1), (30, .iload_n 1, 1), (31, .if_icmp .ge 22, 3), (34, .aload_n 0, 1), (35, .dup, 1), (36, .getfield 64, 3), (39, .aload_n 0, 1), (40, .invokevirtual 70, 3), (43, .iadd, 1), (44, .putfield 64, 3), (47, .iinc 3 1, 3), (50, .goto (-21), 3), (53, .iload_n 2, 1), (54, .iconst 3, 1), (55, .if_icmp .ge 11, 3), (58, .aload_n 0, 1), (59, .iload_n 2, 1), (60, .invokevirtual 120, 3), (63, .goto 19, 3), (66, .iload_n 2, 1), (67, .iconst 3, 1), (68, .if_icmp .ne 10, 3), (71, .aload_n 0, 1), (72, .invokevirtual 70, 3), (75, .goto 7, 3), (78, .aload_n 0, 1), (79, .getfield 64, 3), (82, .ireturn, 1)]
set_option maxRecDepth 100000 in
theorem chk_119 : (ins_119).all (fun e => decide (decode cX6_at e.1 = .ok e.2)) = true := by decide +kernel
-- 120 CreditScrollModel.unequal
def ins_120 : List (Nat × Instr × Nat) := [(0, .iconst 0, 1), (1, .istore_n 1, 1), (2, .iconst 0, 1), (3, .istore_n 2, 1), (4, .iload_n 2, 1), (5, .bipush 8, 2), (7, .if_icmp .ge 25, 3), (10, .iload_n 1, 1), (11, .aload_n 0, 1), (12, .iload_n 2, 1), (13, .invokevirtual 117, 3), (16, .ifCond .le 7, 3), (19, .iconst 1, 1), (20, .goto 4, 3), (23, .iconst 0, 1), (24, .iadd, 1), (25, .istore_n 1, 1), (26, .iinc 2 1, 3), (29, .goto (-25), 3), (32, .iload_n 1, 1), (33, .ireturn, 1)]
set_option maxRecDepth 100000 in
theorem chk_120 : (ins_120).all (fun e => decide (decode cX6_unequal e.1 = .ok e.2)) = true := by decide +kernel
-- 121 CreditScrollModel.names
def ins_121 : List (Nat × Instr × Nat) := [(0, .iconst 0, 1), (1, .istore_n 2, 1), (2, .iconst 0, 1), (3, .istore_n 3, 1), (4, .iload_n 3, 1), (5, .aload_n 0, 1), (6, .getfield 7, 3), (9, .iconst 3, 1), (10, .iaload, 1), (11, .if_icmp .ge 39, 3), (14, .iload_n 2, 1), (15, .aload_n 0, 1), (16, .iload_n 3, 1), (17, .iconst 0, 1), (18, .invokevirtual 49, 3), (21, .ifCond .ne 20, 3), (24, .iload_n 1, 1), (25, .ifCond .eq 12, 3), (28, .aload_n 0, 1), (29, .getfield 30, 3), (32, .iload_n 3, 1), (33, .iaload, 1), (34, .ifCond .gt 7, 3), (37, .iconst 1, 1), (38, .goto 4, 3), (41, .iconst 0, 1), (42, .iadd, 1), (43, .istore_n 2, 1), (44, .iinc 3 1, 3), (47, .goto (-43), 3), (50, .iload_n 2, 1), (51, .ireturn, 1)]
set_option maxRecDepth 100000 in
theorem chk_121 : (ins_121).all (fun e => decide (decode cX6_names e.1 = .ok e.2)) = true := by decide +kernel
-- 122 CreditScrollModel.cues
def ins_122 : List (Nat × Instr × Nat) := [(0, .iconst 0, 1), (1, .istore_n 1, 1), (2, .iconst 0, 1), (3, .istore_n 2, 1), (4, .iload_n 2, 1), (5, .aload_n 0, 1), (6, .getfield 7, 3), (9, .iconst 3, 1), (10, .iaload, 1), (11, .if_icmp .ge 26, 3), (14, .iload_n 1, 1), (15, .aload_n 0, 1), (16, .iload_n 2, 1), (17, .iconst 3, 1), (18, .invokevirtual 49, 3), (21, .ifCond .le 7, 3), (24, .iconst 1, 1), (25, .goto 4, 3), (28, .iconst 0, 1), (29, .iadd, 1), (30, .istore_n 1, 1), (31, .iinc 2 1, 3), (34, .goto (-30), 3), (37, .iload_n 1, 1), (38, .ireturn, 1)]
set_option maxRecDepth 100000 in
theorem chk_122 : (ins_122).all (fun e => decide (decode cX6_cues e.1 = .ok e.2)) = true := by decide +kernel
-- 123 CreditScrollModel.count
def ins_123 : List (Nat × Instr × Nat) := [(0, .iload_n 1, 1), (1, .iconst 2, 1), (2, .bipush 6, 2), (4, .invokestatic 45, 3), (7, .ifCond .eq 10, 3), (10, .aload_n 0, 1), (11, .invokevirtual 101, 3), (14, .goto 4, 3), (17, .iconst 0, 1), (18, .istore_n 2, 1), (19, .iload_n 1, 1), (20, .tableswitch 127 0 11 #[64, 71, 77, 89, 91, 96, 101, 107, 107, 107, 117, 122], 64), (84, .aload_n 0, 1), (85, .getfield 7, 3), (88, .iconst 3, 1), (89, .iaload, 1), (90, .ireturn, 1), (91, .aload_n 0, 1), (92, .iconst 0, 1), (93, .invokevirtual 123, 3), (96, .ireturn, 1), (97, .aload_n 0, 1), (98, .getfield 27, 3), (101, .aload_n 0, 1), (102, .getfield 7, 3), (105, .iconst 3, 1), (106, .iaload, 1), (107, .iaload, 1), (108, .ireturn, 1), (109, .iload_n 2, 1), (110, .ireturn, 1), (111, .aload_n 0, 1), (112, .invokevirtual 127, 3), (115, .ireturn, 1), (116, .aload_n 0, 1), (117, .invokevirtual 130, 3), (120, .ireturn, 1), (121, .aload_n 0, 1), (122, .iconst 1, 1), (123, .invokevirtual 123, 3), (126, .ireturn, 1), (127, .aload_n 0, 1), (128, .getfield 7, 3), (131, .iload_n 1, 1), (132, .bipush 7, 2), (134, .isub, 1), (135, .iaload, 1), (136, .ireturn, 1), (137, .aload_n 0, 1), (138, .getfield 133, 3), (141, .ireturn, 1), (142, .aload_n 0, 1), (143, .getfield 53, 3), (146, .ireturn, 1), (147, .bipush (-2), 2), (149, .ireturn, 1)]
set_option maxRecDepth 100000 in
theorem chk_123 : (ins_123).all (fun e => decide (decode cX6_count e.1 = .ok e.2)) = true := by decide +kernel
-- 124 CreditScrollModel.allSpreads
def ins_124 : List (Nat × Instr × Nat) := [(0, .aload_n 0, 1), (1, .invokevirtual 101, 3), (4, .pop, 1), (5, .iconst 0, 1), (6, .istore_n 1, 1), (7, .iconst 0, 1), (8, .istore_n 2, 1), (9, .iload_n 2, 1), (10, .bipush 8, 2), (12, .if_icmp .ge 17, 3), (15, .iload_n 1, 1), (16, .aload_n 0, 1), (17, .iload_n 2, 1), (18, .invokevirtual 117, 3), (21, .iadd, 1), (22, .istore_n 1, 1), (23, .iinc 2 1, 3), (26, .goto (-17), 3), (29, .iload_n 1, 1), (30, .ireturn, 1)]
set_option maxRecDepth 100000 in
theorem chk_124 : (ins_124).all (fun e => decide (decode cX6_allSpreads e.1 = .ok e.2)) = true := by decide +kernel
-- 125 CreditScrollModel.blame
def ins_125 : List (Nat × Instr × Nat) := [(0, .iload_n 1, 1), (1, .iconst 0, 1), (2, .iconst 1, 1), (3, .invokestatic 45, 3), (6, .ifCond .ne 6, 3), (9, .bipush (-2), 2), (11, .ireturn, 1), (12, .bipush (-6), 2), (14, .istore_n 2, 1), (15, .bipush (-6), 2), (17, .istore_n 3, 1), (18, .iconst 0, 1), (19, .istore 4, 2), (21, .iload 4, 2), (23, .aload_n 0, 1), (24, .getfield 7, 3), (27, .iconst 3, 1), (28, .iaload, 1), (29, .if_icmp .ge 101, 3), (32, .aload_n 0, 1), (33, .iload 4, 2), (35, .iconst 3, 1), (36, .invokevirtual 49, 3), (39, .istore 5, 2), (41, .iload 5, 2), (43, .ifCond .le 81, 3), (46, .aload_n 0, 1), (47, .getfield 7, 3), (50, .iconst 4, 1), (51, .iconst 4, 1), (52, .iload 4, 2), (54, .imul, 1), (55, .iadd, 1), (56, .iconst 3, 1), (57, .iadd, 1), (58, .iconst 0, 1), (59, .iastore, 1), (60, .aload_n 0, 1), (61, .invokevirtual 136, 3), (64, .istore 6, 2), (66, .aload_n 0, 1), (67, .getfield 7, 3), (70, .iconst 4, 1), (71, .iconst 4, 1), (72, .iload 4, 2), (74, .imul, 1), (75, .iadd, 1), (76, .iconst 3, 1), (77, .iadd, 1), (78, .iload 5, 2), (80, .iastore, 1), (81, .iload_n 2, 1), (82, .bipush (-6), 2), (84, .if_icmp .eq 9, 3), (87, .iload 6, 2), (89, .iload_n 3, 1), (90, .if_icmp .ge 7, 3), (93, .iconst 1, 1), (94, .goto 4, 3), (97, .iconst 0, 1), (98, .istore 7, 2), (100, .iload 7, 2), (102, .ifCond .eq 8, 3), (105, .iload 4, 2), (107, .goto 4, 3), (110, .iload_n 2, 1), (111, .istore_n 2, 1), (112, .iload 7, 2), (114, .ifCond .eq 8, 3), (117, .iload 6, 2), (119, .goto 4, 3), (122, .iload_n 3, 1), (123, .istore_n 3, 1), (124, .iinc 4 1, 3), (127, .goto (-106), 3), (130, .iload_n 1, 1), (131, .ifCond .ne 7, 3), (134, .iload_n 2, 1), (135, .goto 4, 3), (138, .iload_n 3, 1), (139, .ireturn, 1)]
set_option maxRecDepth 100000 in
theorem chk_125 : (ins_125).all (fun e => decide (decode cX6_blame e.1 = .ok e.2)) = true := by decide +kernel
-- 126 CreditScrollModel.areSeenFor
def ins_126 : List (Nat × Instr × Nat) := [(0, .aload_n 0, 1), (1, .invokevirtual 101, 3), (4, .pop, 1), (5, .iconst 1, 1), (6, .istore_n 2, 1), (7, .iconst 0, 1), (8, .istore_n 3, 1), (9, .iload_n 3, 1), (10, .aload_n 0, 1), (11, .getfield 7, 3), (14, .iconst 3, 1), (15, .iaload, 1), (16, .if_icmp .ge 38, 3), (19, .iload_n 2, 1), (20, .ifCond .eq 26, 3), (23, .aload_n 0, 1), (24, .iload_n 3, 1), (25, .iconst 0, 1), (26, .invokevirtual 49, 3), (29, .ifCond .ne 13, 3), (32, .aload_n 0, 1), (33, .getfield 30, 3), (36, .iload_n 3, 1), (37, .iaload, 1), (38, .iload_n 1, 1), (39, .if_icmp .lt 7, 3), (42, .iconst 1, 1), (43, .goto 4, 3), (46, .iconst 0, 1), (47, .istore_n 2, 1), (48, .iinc 3 1, 3), (51, .goto (-42), 3), (54, .iload_n 2, 1), (55, .ireturn, 1)]
set_option maxRecDepth 100000 in
theorem chk_126 : (ins_126).all (fun e => decide (decode cX6_areSeenFor e.1 = .ok e.2)) = true := by decide +kernel
-- 127 CreditScrollModel.speedFor
def ins_127 : List (Nat × Instr × Nat) := [(0, .iload_n 1, 1), (1, .iconst 1, 1), (2, .sipush 200, 3), (5, .invokestatic 45, 3), (8, .ifCond .ne 6, 3), (11, .bipush (-2), 2), (13, .ireturn, 1), (14, .aload_n 0, 1), (15, .getfield 7, 3), (18, .iconst 1, 1), (19, .iaload, 1), (20, .istore_n 2, 1), (21, .iconst 0, 1), (22, .istore_n 3, 1), (23, .iload_n 3, 1), (24, .aload_n 0, 1), (25, .getfield 7, 3), (28, .iconst 3, 1), (29, .iaload, 1), (30, .if_icmp .ge 34, 3), (33, .aload_n 0, 1), (34, .getfield 39, 3), (37, .iload_n 3, 1), (38, .aload_n 0, 1), (39, .iload_n 3, 1), (40, .iconst 3, 1), (41, .invokevirtual 49, 3), (44, .iastore, 1), (45, .aload_n 0, 1), (46, .getfield 7, 3), (49, .iconst 4, 1), (50, .iconst 4, 1), (51, .iload_n 3, 1), (52, .imul, 1), (53, .iadd, 1), (54, .iconst 3, 1), (55, .iadd, 1), (56, .iconst 0, 1), (57, .iastore, 1), (58, .iinc 3 1, 3), (61, .goto (-38), 3), (64, .bipush (-6), 2), (66, .istore_n 3, 1), (67, .bipush 30, 2), (69, .istore 4, 2), (71, .iload 4, 2), (73, .iconst 1, 1), (74, .if_icmp .lt 39, 3), (77, .iload_n 3, 1), (78, .bipush (-6), 2), (80, .if_icmp .ne 33, 3), (83, .aload_n 0, 1), (84, .getfield 7, 3), (87, .iconst 1, 1), (88, .iload 4, 2), (90, .iastore, 1), (91, .aload_n 0, 1), (92, .iload_n 1, 1), (93, .invokevirtual 139, 3), (96, .ifCond .eq 8, 3), (99, .iload 4, 2), (101, .goto 5, 3), (104, .bipush (-6), 2), (106, .istore_n 3, 1), (107, .iinc 4 (-1), 3), (110, .goto (-39), 3), (113, .aload_n 0, 1), (114, .getfield 7, 3), (117, .iconst 1, 1), (118, .iload_n 2, 1), (119, .iastore, 1), (120, .iconst 0, 1), (121, .istore 4, 2), (123, .iload 4, 2), (125, .aload_n 0, 1), (126, .getfield 7, 3), (129, .iconst 3, 1), (130, .iaload, 1), (131, .if_icmp .ge 29, 3), (134, .aload_n 0, 1), (135, .getfield 7, 3), (138, .iconst 4, 1), (139, .iconst 4, 1), (140, .iload 4, 2), (142, .imul, 1), (143, .iadd, 1), (144, .iconst 3, 1), (145, .iadd, 1), (146, .aload_n 0, 1), (147, .getfield 39, 3), (150, .iload 4, 2), (152, .iaload, 1), (153, .iastore, 1), (154, .iinc 4 1, 3), (157, .goto (-34), 3), (160, .iload_n 3, 1), (161, .ireturn, 1)]
set_option maxRecDepth 100000 in
theorem chk_127 : (ins_127).all (fun e => decide (decode cX6_speedFor e.1 = .ok e.2)) = true := by decide +kernel
-- 128 CreditScrollModel.seenIf
def ins_128 : List (Nat × Instr × Nat) := [(0, .aload_n 0, 1), (1, .iload_n 1, 1), (2, .invokevirtual 98, 3), (5, .ifCond .ne 5, 3), (8, .iconst (-1), 1), (9, .ireturn, 1), (10, .iload_n 2, 1), (11, .invokestatic 142, 3), (14, .ifCond .ne 6, 3), (17, .bipush (-2), 2), (19, .ireturn, 1), (20, .aload_n 0, 1), (21, .getfield 7, 3), (24, .iconst 1, 1), (25, .iaload, 1), (26, .istore_n 3, 1), (27, .aload_n 0, 1), (28, .getfield 7, 3), (31, .iconst 1, 1), (32, .iload_n 2, 1), (33, .iastore, 1), (34, .aload_n 0, 1), (35, .invokevirtual 101, 3), (38, .pop, 1), (39, .aload_n 0, 1), (40, .getfield 7, 3), (43, .iconst 1, 1), (44, .iload_n 3, 1), (45, .iastore, 1), (46, .aload_n 0, 1), (47, .getfield 30, 3), (50, .iload_n 1, 1), (51, .iaload, 1), (52, .ireturn, 1)]
set_option maxRecDepth 100000 in
theorem chk_128 : (ins_128).all (fun e => decide (decode cX6_seenIf e.1 = .ok e.2)) = true := by decide +kernel
-- 129 CreditScrollModel.bestCue
def ins_129 : List (Nat × Instr × Nat) := [(0, .aload_n 0, 1), (1, .iload_n 1, 1), (2, .invokevirtual 98, 3), (5, .ifCond .ne 5, 3), (8, .iconst (-1), 1), (9, .ireturn, 1), (10, .iload_n 2, 1), (11, .invokestatic 91, 3), (14, .ifCond .eq 12, 3), (17, .iload_n 3, 1), (18, .iconst 0, 1), (19, .iconst 1, 1), (20, .invokestatic 45, 3), (23, .ifCond .ne 6, 3), (26, .bipush (-2), 2), (28, .ireturn, 1), (29, .aload_n 0, 1), (30, .iload_n 1, 1), (31, .iconst 3, 1), (32, .invokevirtual 49, 3), (35, .istore 4, 2), (37, .bipush (-6), 2), (39, .istore 5, 2), (41, .bipush (-6), 2), (43, .istore 6, 2), (45, .bipush 30, 2), (47, .istore 7, 2), (49, .iload 7, 2), (51, .iconst 1, 1), (52, .if_icmp .lt 84, 3), (55, .aload_n 0, 1), (56, .getfield 7, 3), (59, .iconst 4, 1), (60, .iconst 4, 1), (61, .iload_n 1, 1), (62, .imul, 1), (63, .iadd, 1), (64, .iconst 3, 1), (65, .iadd, 1), (66, .iload 7, 2), (68, .iastore, 1), (69, .aload_n 0, 1), (70, .invokevirtual 101, 3), (73, .pop, 1), (74, .aload_n 0, 1), (75, .iload_n 2, 1), (76, .invokevirtual 117, 3), (79, .istore 8, 2), (81, .iload 5, 2), (83, .bipush (-6), 2), (85, .if_icmp .eq 10, 3), (88, .iload 8, 2), (90, .iload 6, 2), (92, .if_icmp .ge 7, 3), (95, .iconst 1, 1), (96, .goto 4, 3), (99, .iconst 0, 1), (100, .istore 9, 2), (102, .iload 9, 2), (104, .ifCond .eq 8, 3), (107, .iload 7, 2), (109, .goto 5, 3), (112, .iload 5, 2), (114, .istore 5, 2), (116, .iload 9, 2), (118, .ifCond .eq 8, 3), (121, .iload 8, 2), (123, .goto 5, 3), (126, .iload 6, 2), (128, .istore 6, 2), (130, .iinc 7 (-1), 3), (133, .goto (-84), 3), (136, .aload_n 0, 1), (137, .getfield 7, 3), (140, .iconst 4, 1), (141, .iconst 4, 1), (142, .iload_n 1, 1), (143, .imul, 1), (144, .iadd, 1), (145, .iconst 3, 1), (146, .iadd, 1), (147, .iload 4, 2), (149, .iastore, 1), (150, .iload_n 3, 1), (151, .ifCond .ne 8, 3), (154, .iload 5, 2), (156, .goto 5, 3), (159, .iload 6, 2), (161, .ireturn, 1)]
set_option maxRecDepth 100000 in
theorem chk_129 : (ins_129).all (fun e => decide (decode cX6_bestCue e.1 = .ok e.2)) = true := by decide +kernel
-- 130 CreditScrollModel.put
def ins_130 : List (Nat × Instr × Nat) := [(0, .iconst 0, 1), (1, .istore_n 3, 1), (2, .lload_n 1, 1), (3, .lstore 4, 2), (5, .iconst 1, 1), (6, .istore 6, 2), (8, .lload 4, 2), (10, .lconst 0, 1), (11, .lcmp, 1), (12, .ifCond .eq 37, 3), (15, .iload 6, 2), (17, .ifCond .eq 32, 3), (20, .lload 4, 2), (22, .ldc2_w 145, 3), (25, .land, 1), (26, .l2i, 1), (27, .bipush 33, 2), (29, .bipush 126, 2), (31, .invokestatic 45, 3), (34, .istore 6, 2), (36, .lload 4, 2), (38, .bipush 8, 2), (40, .lushr, 1), (41, .lstore 4, 2), (43, .iinc 3 1, 3), (46, .goto (-38), 3), (49, .iload_n 3, 1), (50, .ifCond .eq 8, 3), (53, .iload 6, 2), (55, .ifCond .ne 6, 3), (58, .bipush (-2), 2), (60, .ireturn, 1), (61, .aload_n 0, 1), (62, .getfield 133, 3), (65, .iload_n 3, 1), (66, .iadd, 1), (67, .bipush 60, 2), (69, .if_icmp .le 6, 3), (72, .bipush (-4), 2), (74, .ireturn, 1), (75, .iload_n 3, 1), (76, .iconst 1, 1), (77, .isub, 1), (78, .istore 7, 2), (80, .iload 7, 2), (82, .ifCond .lt 41, 3), (85, .aload_n 0, 1), (86, .getfield 23, 3), (89, .aload_n 0, 1), (90, .getfield 133, 3), (93, .lload_n 1, 1), (94, .bipush 8, 2), (96, .iload 7, 2), (98, .imul, 1), (99, .lushr, 1), (100, .ldc2_w 145, 3), (103, .land, 1), (104, .l2i, 1), (105, .i2c, 1), (106, .castore, 1), (107, .aload_n 0, 1), (108, .dup, 1), (109, .getfield 133, 3), (112, .iconst 1, 1), (113, .iadd, 1), (114, .putfield 133, 3), (117, .iinc 7 (-1), 3), (120, .goto (-40), 3), (123, .aload_n 0, 1), (124, .getfield 133, 3), (127, .ireturn, 1)]
set_option maxRecDepth 100000 in
theorem chk_130 : (ins_130).all (fun e => decide (decode cX6_put e.1 = .ok e.2)) = true := by decide +kernel
-- 131 CreditScrollModel.wipe
def ins_131 : List (Nat × Instr × Nat) := [(0, .aload_n 0, 1), (1, .getfield 133, 3), (4, .istore_n 1, 1), (5, .aload_n 0, 1), (6, .iconst 0, 1), (7, .putfield 133, 3), (10, .iload_n 1, 1), (11, .ireturn, 1)]
set_option maxRecDepth 100000 in
theorem chk_131 : (ins_131).all (fun e => decide (decode cX6_wipe e.1 = .ok e.2)) = true := by decide +kernel
-- 132 CreditScrollModel.letter
def ins_132 : List (Nat × Instr × Nat) := [(0, .aload_n 0, 1), (1, .getfield 147, 3), (4, .aload_n 0, 1), (5, .getfield 133, 3), (8, .if_icmp .ge 15, 3), (11, .aload_n 0, 1), (12, .getfield 23, 3), (15, .aload_n 0, 1), (16, .getfield 147, 3), (19, .caload, 1), (20, .goto 5, 3), (23, .bipush (-6), 2), (25, .ireturn, 1)]
set_option maxRecDepth 100000 in
theorem chk_132 : (ins_132).all (fun e => decide (decode cX6_letter e.1 = .ok e.2)) = true := by decide +kernel
-- 133 CreditScrollModel.wants
def ins_133 : List (Nat × Instr × Nat) := [(0, .aload_n 0, 1), (1, .getfield 150, 3), (4, .bipush (-6), 2), (6, .if_icmp .ne 30, 3), (9, .aload_n 0, 1), (10, .iload_n 1, 1), (11, .ifCond .eq 8, 3), (14, .bipush (-6), 2), (16, .goto 7, 3), (19, .aload_n 0, 1), (20, .getfield 147, 3), (23, .putfield 150, 3), (26, .aload_n 0, 1), (27, .dup, 1), (28, .getfield 147, 3), (31, .iconst 1, 1), (32, .iadd, 1), (33, .putfield 147, 3), (36, .return_, 1)]
set_option maxRecDepth 100000 in
theorem chk_133 : (ins_133).all (fun e => decide (decode cX6_wants e.1 = .ok e.2)) = true := by decide +kernel
-- 134 CreditScrollModel.number
def ins_134 : List (Nat × Instr × Nat) := [(0, .aload_n 0, 1), (1, .invokevirtual 153, 3), (4, .bipush 48, 2), (6, .isub, 1), (7, .istore_n 3, 1), (8, .aload_n 0, 1), (9, .iload_n 3, 1), (10, .iload_n 1, 1), (11, .bipush 9, 2), (13, .invokestatic 45, 3), (16, .invokevirtual 156, 3), (19, .aload_n 0, 1), (20, .invokevirtual 153, 3), (23, .bipush 48, 2), (25, .isub, 1), (26, .istore 4, 2), (28, .aload_n 0, 1), (29, .getfield 150, 3), (32, .bipush (-6), 2), (34, .if_icmp .ne 59, 3), (37, .iload_n 3, 1), (38, .ifCond .le 55, 3), (41, .iload 4, 2), (43, .iconst 0, 1), (44, .bipush 9, 2), (46, .invokestatic 45, 3), (49, .ifCond .eq 44, 3), (52, .bipush 10, 2), (54, .iload_n 3, 1), (55, .imul, 1), (56, .iload 4, 2), (58, .iadd, 1), (59, .iload_n 2, 1), (60, .if_icmp .gt 33, 3), (63, .bipush 10, 2), (65, .iload_n 3, 1), (66, .imul, 1), (67, .iload 4, 2), (69, .iadd, 1), (70, .istore_n 3, 1), (71, .aload_n 0, 1), (72, .dup, 1), (73, .getfield 147, 3), (76, .iconst 1, 1), (77, .iadd, 1), (78, .putfield 147, 3), (81, .aload_n 0, 1), (82, .invokevirtual 153, 3), (85, .bipush 48, 2), (87, .isub, 1), (88, .istore 4, 2), (90, .goto (-62), 3), (93, .iload_n 3, 1), (94, .ireturn, 1)]
set_option maxRecDepth 100000 in
theorem chk_134 : (ins_134).all (fun e => decide (decode cX6_number e.1 = .ok e.2)) = true := by decide +kernel
-- 135 CreditScrollModel.readLine
def ins_135 : List (Nat × Instr × Nat) := [(0, .iconst 4, 1), (1, .aload_n 0, 1), (2, .getfield 160, 3), (5, .imul, 1), (6, .istore_n 1, 1), (7, .aload_n 0, 1), (8, .invokevirtual 153, 3), (11, .istore_n 2, 1), (12, .aload_n 0, 1), (13, .iload_n 2, 1), (14, .bipush 110, 2), (16, .if_icmp .eq 21, 3), (19, .iload_n 2, 1), (20, .bipush 116, 2), (22, .if_icmp .eq 15, 3), (25, .iload_n 2, 1), (26, .bipush 108, 2), (28, .if_icmp .eq 9, 3), (31, .iload_n 2, 1), (32, .bipush 98, 2), (34, .if_icmp .ne 7, 3), (37, .iconst 1, 1), (38, .goto 4, 3), (41, .iconst 0, 1), (42, .invokevirtual 156, 3), (45, .aload_n 0, 1), (46, .getfield 42, 3), (49, .iload_n 1, 1), (50, .iconst 0, 1), (51, .iadd, 1), (52, .iload_n 2, 1), (53, .bipush 110, 2), (55, .if_icmp .ne 7, 3), (58, .iconst 0, 1), (59, .goto 24, 3), (62, .iload_n 2, 1), (63, .bipush 116, 2), (65, .if_icmp .ne 7, 3), (68, .iconst 1, 1), (69, .goto 14, 3), (72, .iload_n 2, 1), (73, .bipush 108, 2), (75, .if_icmp .ne 7, 3), (78, .iconst 2, 1), (79, .goto 4, 3), (82, .iconst 3, 1), (83, .iastore, 1), (84, .aload_n 0, 1), (85, .getfield 42, 3), (88, .iload_n 1, 1), (89, .iconst 1, 1), (90, .iadd, 1), (91, .bipush (-6), 2), (93, .iastore, 1), (94, .aload_n 0, 1), (95, .getfield 42, 3), (98, .iload_n 1, 1), (99, .iconst 2, 1), (100, .iadd, 1), (101, .bipush (-6), 2), (103, .iastore, 1), (104, .aload_n 0, 1), (105, .getfield 42, 3), (108, .iload_n 1, 1), (109, .iconst 3, 1), (110, .iadd, 1), (111, .iconst 0, 1), (112, .iastore, 1), (113, .iload_n 2, 1), (114, .bipush 110, 2), (116, .if_icmp .ne 52, 3), (119, .aload_n 0, 1), (120, .getfield 42, 3), (123, .iload_n 1, 1), (124, .iconst 1, 1), (125, .iadd, 1), (126, .aload_n 0, 1), (127, .invokevirtual 153, 3), (130, .bipush 48, 2), (132, .isub, 1), (133, .iastore, 1), (134, .aload_n 0, 1), (135, .aload_n 0, 1), (136, .getfield 42, 3), (139, .iload_n 1, 1), (140, .iconst 1, 1), (141, .iadd, 1), (142, .iaload, 1), (143, .iconst 0, 1), (144, .bipush 7, 2), (146, .invokestatic 45, 3), (149, .invokevirtual 156, 3), (152, .aload_n 0, 1), (153, .getfield 42, 3), (156, .iload_n 1, 1), (157, .iconst 2, 1), (158, .iadd, 1), (159, .aload_n 0, 1), (160, .iconst 0, 1), (161, .sipush 999, 3), (164, .invokevirtual 163, 3), (167, .iastore, 1), (168, .aload_n 0, 1), (169, .getfield 150, 3), (172, .bipush (-6), 2), (174, .if_icmp .ne 37, 3), (177, .aload_n 0, 1), (178, .invokevirtual 153, 3), (181, .bipush 64, 2), (183, .if_icmp .ne 28, 3), (186, .aload_n 0, 1), (187, .dup, 1), (188, .getfield 147, 3), (191, .iconst 1, 1), (192, .iadd, 1), (193, .putfield 147, 3), (196, .aload_n 0, 1), (197, .getfield 42, 3), (200, .iload_n 1, 1), (201, .iconst 3, 1), (202, .iadd, 1), (203, .aload_n 0, 1), (204, .iconst 1, 1), (205, .bipush 30, 2), (207, .invokevirtual 163, 3), (210, .iastore, 1), (211, .aload_n 0, 1), (212, .dup, 1), (213, .getfield 160, 3), (216, .iconst 1, 1), (217, .iadd, 1), (218, .putfield 160, 3), (221, .return_, 1)]
set_option maxRecDepth 100000 in
theorem chk_135 : (ins_135).all (fun e => decide (decode cX6_readLine e.1 = .ok e.2)) = true := by decide +kernel
-- 136 CreditScrollModel.readPad
def ins_136 : List (Nat × Instr × Nat) := [(0, .aload_n 0, 1), (1, .iconst 0, 1), (2, .putfield 160, 3), (5, .aload_n 0, 1), (6, .iconst 0, 1), (7, .putfield 147, 3), (10, .aload_n 0, 1), (11, .bipush (-6), 2), (13, .putfield 150, 3), (16, .iconst 1, 1), (17, .istore_n 1, 1), (18, .iload_n 1, 1), (19, .ifCond .eq 73, 3), (22, .aload_n 0, 1), (23, .invokevirtual 166, 3), (26, .aload_n 0, 1), (27, .getfield 150, 3), (30, .bipush (-6), 2), (32, .if_icmp .ne 18, 3), (35, .aload_n 0, 1), (36, .getfield 147, 3), (39, .aload_n 0, 1), (40, .getfield 133, 3), (43, .if_icmp .ge 7, 3), (46, .iconst 1, 1), (47, .goto 4, 3), (50, .iconst 0, 1), (51, .istore_n 1, 1), (52, .iload_n 1, 1), (53, .ifCond .eq (-35), 3), (56, .aload_n 0, 1), (57, .aload_n 0, 1), (58, .invokevirtual 153, 3), (61, .bipush 44, 2), (63, .if_icmp .ne 7, 3), (66, .iconst 1, 1), (67, .goto 4, 3), (70, .iconst 0, 1), (71, .invokevirtual 156, 3), (74, .aload_n 0, 1), (75, .getfield 150, 3), (78, .bipush (-6), 2), (80, .if_icmp .ne 7, 3), (83, .iconst 1, 1), (84, .goto 4, 3), (87, .iconst 0, 1), (88, .istore_n 1, 1), (89, .goto (-71), 3), (92, .aload_n 0, 1), (93, .getfield 150, 3), (96, .ireturn, 1)]
set_option maxRecDepth 100000 in
theorem chk_136 : (ins_136).all (fun e => decide (decode cX6_readPad e.1 = .ok e.2)) = true := by decide +kernel
-- 137 CreditScrollModel.fault
def ins_137 : List (Nat × Instr × Nat) := [(0, .aload_n 0, 1), (1, .invokevirtual 169, 3), (4, .ireturn, 1)]
set_option maxRecDepth 100000 in
theorem chk_137 : (ins_137).all (fun e => decide (decode cX6_fault e.1 = .ok e.2)) = true := by decide +kernel
-- 138 CreditScrollModel.read
def ins_138 : List (Nat × Instr × Nat) := [(0, .aload_n 0, 1), (1, .invokevirtual 169, 3), (4, .bipush (-6), 2), (6, .if_icmp .eq 6, 3), (9, .bipush (-3), 2), (11, .ireturn, 1), (12, .aload_n 0, 1), (13, .getfield 7, 3), (16, .iconst 3, 1), (17, .iaload, 1), (18, .aload_n 0, 1), (19, .getfield 160, 3), (22, .iadd, 1), (23, .bipush 40, 2), (25, .if_icmp .le 6, 3), (28, .bipush (-4), 2), (30, .ireturn, 1), (31, .aload_n 0, 1), (32, .invokevirtual 57, 3), (35, .iconst 0, 1), (36, .istore_n 1, 1), (37, .iload_n 1, 1), (38, .aload_n 0, 1), (39, .getfield 160, 3), (42, .if_icmp .ge 54, 3), (45, .aload_n 0, 1), (46, .aload_n 0, 1), (47, .getfield 42, 3), (50, .iconst 4, 1), (51, .iload_n 1, 1), (52, .imul, 1), (53, .iconst 0, 1), (54, .iadd, 1), (55, .iaload, 1), (56, .aload_n 0, 1), (57, .getfield 42, 3), (60, .iconst 4, 1), (61, .iload_n 1, 1), (62, .imul, 1), (63, .iconst 1, 1), (64, .iadd, 1), (65, .iaload, 1), (66, .aload_n 0, 1), (67, .getfield 42, 3), (70, .iconst 4, 1), (71, .iload_n 1, 1), (72, .imul, 1), (73, .iconst 2, 1), (74, .iadd, 1), (75, .iaload, 1), (76, .aload_n 0, 1), (77, .getfield 42, 3), (80, .iconst 4, 1), (81, .iload_n 1, 1), (82, .imul, 1), (83, .iconst 3, 1), (84, .iadd, 1), (85, .iaload, 1), (86, .invokevirtual 94, 3), (89, .pop, 1), (90, .iinc 1 1, 3), (93, .goto (-56), 3), (96, .aload_n 0, 1), (97, .iconst 0, 1), (98, .putfield 133, 3), (101, .aload_n 0, 1), (102, .getfield 7, 3), (105, .iconst 3, 1), (106, .iaload, 1), (107, .ireturn, 1)]
set_option maxRecDepth 100000 in
theorem chk_138 : (ins_138).all (fun e => decide (decode cX6_read e.1 = .ok e.2)) = true := by decide +kernel
-- 139 CreditScrollLaw.law
def ins_139 : List (Nat × Instr × Nat) := [(0, .new 7, 3), (3, .dup, 1), (4, .invokespecial 9, 3), (7, .astore_n 1, 1), (8, .new 10, 3), (11, .dup, 1), (12, .invokespecial 12, 3), (15, .astore_n 2, 1), (16, .iconst 0, 1), (17, .istore_n 3, 1), (18, .iload_n 3, 1), (19, .aload_n 0, 1), (20, .arraylength, 1), (21, .iconst 4, 1), (22, .isub, 1), (23, .if_icmp .gt 725, 3), (26, .aload_n 0, 1), (27, .iload_n 3, 1), (28, .iaload, 1), (29, .bipush 31, 2), (31, .iand, 1), (32, .tableswitch 710 0 21 #[104, 137, 170, 193, 226, 259, 282, 315, 328, 361, 394, 427, 450, 473, 496, 529, 572, 625, 638, 651, 664, 687], 104), (136, .aload_n 1, 1), (137, .aload_n 0, 1), (138, .iload_n 3, 1), (139, .iconst 1, 1), (140, .iadd, 1), (141, .iaload, 1), (142, .aload_n 0, 1), (143, .iload_n 3, 1), (144, .iconst 2, 1), (145, .iadd, 1), (146, .iaload, 1), (147, .invokevirtual 13, 3), (150, .aload_n 2, 1), (151, .aload_n 0, 1), (152, .iload_n 3, 1), (153, .iconst 1, 1), (154, .iadd, 1), (155, .iaload, 1), (156, .aload_n 0, 1), (157, .iload_n 3, 1), (158, .iconst 2, 1), (159, .iadd, 1), (160, .iaload, 1), (161, .invokevirtual 17, 3), (164, .if_icmp .eq 578, 3), (167, .iconst 0, 1), (168, .ireturn, 1), (169, .aload_n 1, 1), (170, .aload_n 0, 1), (171, .iload_n 3, 1), (172, .iconst 1, 1), (173, .iadd, 1), (174, .iaload, 1), (175, .aload_n 0, 1), (176, .iload_n 3, 1), (177, .iconst 2, 1), (178, .iadd, 1), (179, .iaload, 1), (180, .invokevirtual 18, 3), (183, .aload_n 2, 1), (184, .aload_n 0, 1), (185, .iload_n 3, 1), (186, .iconst 1, 1), (187, .iadd, 1), (188, .iaload, 1), (189, .aload_n 0, 1), (190, .iload_n 3, 1), (191, .iconst 2, 1), (192, .iadd, 1), (193, .iaload, 1), (194, .invokevirtual 21, 3), (197, .if_icmp .eq 545, 3), (200, .iconst 0, 1), (201, .ireturn, 1), (202, .aload_n 1, 1), (203, .aload_n 0, 1), (204, .iload_n 3, 1), (205, .iconst 1, 1), (206, .iadd, 1), (207, .iaload, 1), (208, .invokevirtual 22, 3), (211, .aload_n 2, 1), (212, .aload_n 0, 1), (213, .iload_n 3, 1), (214, .iconst 1, 1), (215, .iadd, 1), (216, .iaload, 1), (217, .invokevirtual 26, 3), (220, .if_icmp .eq 522, 3), (223, .iconst 0, 1), (224, .ireturn, 1), (225, .aload_n 1, 1), (226, .aload_n 0, 1), (227, .iload_n 3, 1), (228, .iconst 1, 1), (229, .iadd, 1), (230, .iaload, 1), (231, .aload_n 0, 1), (232, .iload_n 3, 1), (233, .iconst 2, 1), (234, .iadd, 1), (235, .iaload, 1), (236, .invokevirtual 27, 3), (239, .aload_n 2, 1), (240, .aload_n 0, 1), (241, .iload_n 3, 1), (242, .iconst 1, 1), (243, .iadd, 1), (244, .iaload, 1), (245, .aload_n 0, 1), (246, .iload_n 3, 1), (247, .iconst 2, 1), (248, .iadd, 1), (249, .iaload, 1), (250, .invokevirtual 30, 3), (253, .if_icmp .eq 489, 3), (256, .iconst 0, 1), (257, .ireturn, 1), (258, .aload_n 1, 1), (259, .aload_n 0, 1), (260, .iload_n 3, 1), (261, .iconst 1, 1), (262, .iadd, 1), (263, .iaload, 1), (264, .aload_n 0, 1), (265, .iload_n 3, 1), (266, .iconst 2, 1), (267, .iadd, 1), (268, .iaload, 1), (269, .invokevirtual 31, 3), (272, .aload_n 2, 1), (273, .aload_n 0, 1), (274, .iload_n 3, 1), (275, .iconst 1, 1), (276, .iadd, 1), (277, .iaload, 1), (278, .aload_n 0, 1), (279, .iload_n 3, 1), (280, .iconst 2, 1), (281, .iadd, 1), (282, .iaload, 1), (283, .invokevirtual 34, 3), (286, .if_icmp .eq 456, 3), (289, .iconst 0, 1), (290, .ireturn, 1), (291, .aload_n 1, 1), (292, .aload_n 0, 1), (293, .iload_n 3, 1), (294, .iconst 1, 1), (295, .iadd, 1), (296, .iaload, 1), (297, .invokevirtual 35, 3), (300, .aload_n 2, 1), (301, .aload_n 0, 1), (302, .iload_n 3, 1), (303, .iconst 1, 1), (304, .iadd, 1), (305, .iaload, 1), (306, .invokevirtual 38, 3), (309, .if_icmp .eq 433, 3), (312, .iconst 0, 1), (313, .ireturn, 1), (314, .aload_n 1, 1), (315, .aload_n 0, 1), (316, .iload_n 3, 1), (317, .iconst 1, 1), (318, .iadd, 1), (319, .iaload, 1), (320, .aload_n 0, 1), (321, .iload_n 3, 1), (322, .iconst 2, 1), (323, .iadd, 1), (324, .iaload, 1), (325, .invokevirtual 39, 3), (328, .aload_n 2, 1), (329, .aload_n 0, 1), (330, .iload_n 3, 1), (331, .iconst 1, 1), (332, .iadd, 1), (333, .iaload, 1), (334, .aload_n 0, 1), (335, .iload_n 3, 1), (336, .iconst 2, 1), (337, .iadd, 1), (338, .iaload, 1), (339, .invokevirtual 42, 3), (342, .if_icmp .eq 400, 3), (345, .iconst 0, 1), (346, .ireturn, 1), (347, .aload_n 1, 1), (348, .invokevirtual 43, 3), (351, .aload_n 2, 1), (352, .invokevirtual 47, 3), (355, .if_icmp .eq 387, 3), (358, .iconst 0, 1), (359, .ireturn, 1), (360, .aload_n 1, 1), (361, .aload_n 0, 1), (362, .iload_n 3, 1), (363, .iconst 1, 1), (364, .iadd, 1), (365, .iaload, 1), (366, .aload_n 0, 1), (367, .iload_n 3, 1), (368, .iconst 2, 1), (369, .iadd, 1), (370, .iaload, 1), (371, .invokevirtual 48, 3), (374, .aload_n 2, 1), (375, .aload_n 0, 1), (376, .iload_n 3, 1), (377, .iconst 1, 1), (378, .iadd, 1), (379, .iaload, 1), (380, .aload_n 0, 1), (381, .iload_n 3, 1), (382, .iconst 2, 1), (383, .iadd, 1), (384, .iaload, 1), (385, .invokevirtual 51, 3), (388, .if_icmp .eq 354, 3), (391, .iconst 0, 1), (392, .ireturn, 1), (393, .aload_n 1, 1), (394, .aload_n 0, 1), (395, .iload_n 3, 1), (396, .iconst 1, 1), (397, .iadd, 1), (398, .iaload, 1), (399, .aload_n 0, 1), (400, .iload_n 3, 1), (401, .iconst 2, 1), (402, .iadd, 1), (403, .iaload, 1), (404, .invokevirtual 52, 3), (407, .aload_n 2, 1), (408, .aload_n 0, 1), (409, .iload_n 3, 1), (410, .iconst 1, 1), (411, .iadd, 1), (412, .iaload, 1), (413, .aload_n 0, 1), (414, .iload_n 3, 1), (415, .iconst 2, 1), (416, .iadd, 1), (417, .iaload, 1), (418, .invokevirtual 55, 3), (421, .if_icmp .eq 321, 3), (424, .iconst 0, 1), (425, .ireturn, 1), (426, .aload_n 1, 1), (427, .aload_n 0, 1), (428, .iload_n 3, 1), (429, .iconst 1, 1), (430, .iadd, 1), (431, .iaload, 1), (432, .aload_n 0, 1), (433, .iload_n 3, 1), (434, .iconst 2, 1), (435, .iadd, 1), (436, .iaload, 1), (437, .invokevirtual 56, 3), (440, .aload_n 2, 1), (441, .aload_n 0, 1), (442, .iload_n 3, 1), (443, .iconst 1, 1), (444, .iadd, 1), (445, .iaload, 1), (446, .aload_n 0, 1), (447, .iload_n 3, 1), (448, .iconst 2, 1), (449, .iadd, 1), (450, .iaload, 1), (451, .invokevirtual 59, 3), (454, .if_icmp .eq 288, 3), (457, .iconst 0, 1), (458, .ireturn, 1), (459, .aload_n 1, 1), (460, .aload_n 0, 1), (461, .iload_n 3, 1), (462, .iconst 1, 1), (463, .iadd, 1), (464, .iaload, 1), (465, .invokevirtual 60, 3), (468, .aload_n 2, 1), (469, .aload_n 0, 1), (470, .iload_n 3, 1), (471, .iconst 1, 1), (472, .iadd, 1), (473, .iaload, 1), (474, .invokevirtual 63, 3), (477, .if_icmp .eq 265, 3), (480, .iconst 0, 1), (481, .ireturn, 1), (482, .aload_n 1, 1), (483, .aload_n 0, 1), (484, .iload_n 3, 1), (485, .iconst 1, 1), (486, .iadd, 1), (487, .iaload, 1), (488, .invokevirtual 64, 3), (491, .aload_n 2, 1), (492, .aload_n 0, 1), (493, .iload_n 3, 1), (494, .iconst 1, 1), (495, .iadd, 1), (496, .iaload, 1), (497, .invokevirtual 67, 3), (500, .if_icmp .eq 242, 3), (503, .iconst 0, 1), (504, .ireturn, 1), (505, .aload_n 1, 1), (506, .aload_n 0, 1), (507, .iload_n 3, 1), (508, .iconst 1, 1), (509, .iadd, 1), (510, .iaload, 1), (511, .invokevirtual 68, 3), (514, .aload_n 2, 1), (515, .aload_n 0, 1), (516, .iload_n 3, 1), (517, .iconst 1, 1), (518, .iadd, 1), (519, .iaload, 1), (520, .invokevirtual 71, 3), (523, .if_icmp .eq 219, 3), (526, .iconst 0, 1), (527, .ireturn, 1), (528, .aload_n 1, 1), (529, .aload_n 0, 1), (530, .iload_n 3, 1), (531, .iconst 1, 1), (532, .iadd, 1), (533, .iaload, 1), (534, .aload_n 0, 1), (535, .iload_n 3, 1), (536, .iconst 2, 1), (537, .iadd, 1), (538, .iaload, 1), (539, .invokevirtual 72, 3), (542, .aload_n 2, 1), (543, .aload_n 0, 1), (544, .iload_n 3, 1), (545, .iconst 1, 1), (546, .iadd, 1), (547, .iaload, 1), (548, .aload_n 0, 1), (549, .iload_n 3, 1), (550, .iconst 2, 1), (551, .iadd, 1), (552, .iaload, 1), (553, .invokevirtual 75, 3), (556, .if_icmp .eq 186, 3), (559, .iconst 0, 1), (560, .ireturn, 1), (561, .aload_n 1, 1), (562, .aload_n 0, 1), (563, .iload_n 3, 1), (564, .iconst 1, 1), (565, .iadd, 1), (566, .iaload, 1), (567, .aload_n 0, 1), (568, .iload_n 3, 1), (569, .iconst 2, 1), (570, .iadd, 1), (571, .iaload, 1), (572, .aload_n 0, 1), (573, .iload_n 3, 1), (574, .iconst 3, 1), (575, .iadd, 1), (576, .iaload, 1), (577, .invokevirtual 76, 3), (580, .aload_n 2, 1), (581, .aload_n 0, 1), (582, .iload_n 3, 1), (583, .iconst 1, 1), (584, .iadd, 1), (585, .iaload, 1), (586, .aload_n 0, 1), (587, .iload_n 3, 1), (588, .iconst 2, 1), (589, .iadd, 1), (590, .iaload, 1), (591, .aload_n 0, 1), (592, .iload_n 3, 1), (593, .iconst 3, 1), (594, .iadd, 1), (595, .iaload, 1), (596, .invokevirtual 80, 3), (599, .if_icmp .eq 143, 3), (602, .iconst 0, 1), (603, .ireturn, 1), (604, .aload_n 1, 1), (605, .aload_n 0, 1), (606, .iload_n 3, 1), (607, .iconst 1, 1), (608, .iadd, 1), (609, .iaload, 1), (610, .i2l, 1), (611, .bipush 32, 2), (613, .lshl, 1), (614, .aload_n 0, 1), (615, .iload_n 3, 1), (616, .iconst 2, 1), (617, .iadd, 1), (618, .iaload, 1), (619, .i2l, 1), (620, .ldc2_w 81, 3), (623, .land, 1), (624, .lor, 1), (625, .invokevirtual 83, 3), (628, .aload_n 2, 1), (629, .aload_n 0, 1), (630, .iload_n 3, 1), (631, .iconst 1, 1), (632, .iadd, 1), (633, .iaload, 1), (634, .i2l, 1), (635, .bipush 32, 2), (637, .lshl, 1), (638, .aload_n 0, 1), (639, .iload_n 3, 1), (640, .iconst 2, 1), (641, .iadd, 1), (642, .iaload, 1), (643, .i2l, 1), (644, .ldc2_w 81, 3), (647, .land, 1), (648, .lor, 1), (649, .invokevirtual 87, 3), (652, .if_icmp .eq 90, 3), (655, .iconst 0, 1), (656, .ireturn, 1), (657, .aload_n 1, 1), (658, .invokevirtual 88, 3), (661, .aload_n 2, 1), (662, .invokevirtual 91, 3), (665, .if_icmp .eq 77, 3), (668, .iconst 0, 1), (669, .ireturn, 1), (670, .aload_n 1, 1), (671, .invokevirtual 92, 3), (674, .aload_n 2, 1), (675, .invokevirtual 95, 3), (678, .if_icmp .eq 64, 3), (681, .iconst 0, 1), (682, .ireturn, 1), (683, .aload_n 1, 1), (684, .invokevirtual 96, 3), (687, .aload_n 2, 1), (688, .invokevirtual 99, 3), (691, .if_icmp .eq 51, 3), (694, .iconst 0, 1), (695, .ireturn, 1), (696, .aload_n 1, 1), (697, .aload_n 0, 1), (698, .iload_n 3, 1), (699, .iconst 1, 1), (700, .iadd, 1), (701, .iaload, 1), (702, .invokevirtual 100, 3), (705, .aload_n 2, 1), (706, .aload_n 0, 1), (707, .iload_n 3, 1), (708, .iconst 1, 1), (709, .iadd, 1), (710, .iaload, 1), (711, .invokevirtual 103, 3), (714, .if_icmp .eq 28, 3), (717, .iconst 0, 1), (718, .ireturn, 1), (719, .aload_n 1, 1), (720, .aload_n 0, 1), (721, .iload_n 3, 1), (722, .iconst 1, 1), (723, .iadd, 1), (724, .iaload, 1), (725, .invokevirtual 104, 3), (728, .aload_n 2, 1), (729, .aload_n 0, 1), (730, .iload_n 3, 1), (731, .iconst 1, 1), (732, .iadd, 1), (733, .iaload, 1), (734, .invokevirtual 107, 3), (737, .if_icmp .eq 5, 3), (740, .iconst 0, 1), (741, .ireturn, 1), (742, .iinc 3 4, 3), (745, .goto (-727), 3), (748, .iconst 1, 1), (749, .ireturn, 1)]
set_option maxRecDepth 100000 in
theorem chk_139 : (ins_139).all (fun e => decide (decode cL_law e.1 = .ok e.2)) = true := by decide +kernel
end
