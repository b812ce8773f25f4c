section
-- ===== PART A: goes FIRST, ahead of the names: the tables' words, and 'selects' of the private methods out of them =====
/-- a private method of a class that the tables say can be made, by its rows of tables_1 -/
def lw_okq (q : MethodName × Nat) : Prop := (q.1.cls ≠ "java/lang/invoke/MethodHandle" ∧ q.1.cls ≠ "java/lang/invoke/VarHandle") ∧ Cond.instantiable q.1.cls q.2 ∈ tables_1 ∧ Cond.privateMethod q.1 ∈ tables_1 ∧ Cond.instanceMethod q.1 ∈ tables_1
theorem lw_p0 : lw_okq (⟨"CreditScroll", "addAsChange", "(III)I"⟩, 7) := ⟨⟨by decide +kernel, by decide +kernel⟩, List.mem_of_getElem? (i := 11) (by decide +kernel), List.mem_of_getElem? (i := 211) (by decide +kernel), List.mem_of_getElem? (i := 212) (by decide +kernel)⟩
theorem lw_p1 : lw_okq (⟨"CreditScroll$Course", "layOut", "()V"⟩, 9) := ⟨⟨by decide +kernel, by decide +kernel⟩, List.mem_of_getElem? (i := 61) (by decide +kernel), List.mem_of_getElem? (i := 239) (by decide +kernel), List.mem_of_getElem? (i := 240) (by decide +kernel)⟩
theorem lw_p2 : lw_okq (⟨"CreditScroll$Course", "pace", "()V"⟩, 9) := ⟨⟨by decide +kernel, by decide +kernel⟩, List.mem_of_getElem? (i := 61) (by decide +kernel), List.mem_of_getElem? (i := 247) (by decide +kernel), List.mem_of_getElem? (i := 248) (by decide +kernel)⟩
theorem lw_p3 : lw_okq (⟨"CreditScroll$Course", "begin", "(III)V"⟩, 9) := ⟨⟨by decide +kernel, by decide +kernel⟩, List.mem_of_getElem? (i := 61) (by decide +kernel), List.mem_of_getElem? (i := 251) (by decide +kernel), List.mem_of_getElem? (i := 252) (by decide +kernel)⟩
theorem lw_p4 : lw_okq (⟨"CreditScroll$Course", "changeSpeed", "(II)V"⟩, 9) := ⟨⟨by decide +kernel, by decide +kernel⟩, List.mem_of_getElem? (i := 61) (by decide +kernel), List.mem_of_getElem? (i := 255) (by decide +kernel), List.mem_of_getElem? (i := 256) (by decide +kernel)⟩
theorem lw_p5 : lw_okq (⟨"CreditScroll$Course", "ticksIn", "(II)I"⟩, 9) := ⟨⟨by decide +kernel, by decide +kernel⟩, List.mem_of_getElem? (i := 61) (by decide +kernel), List.mem_of_getElem? (i := 259) (by decide +kernel), List.mem_of_getElem? (i := 260) (by decide +kernel)⟩
theorem lw_p6 : lw_okq (⟨"CreditScroll$Course", "watch", "()V"⟩, 9) := ⟨⟨by decide +kernel, by decide +kernel⟩, List.mem_of_getElem? (i := 61) (by decide +kernel), List.mem_of_getElem? (i := 263) (by decide +kernel), List.mem_of_getElem? (i := 264) (by decide +kernel)⟩
theorem lw_p7 : lw_okq (⟨"CreditScroll$Course", "stretchReaching", "(II)I"⟩, 9) := ⟨⟨by decide +kernel, by decide +kernel⟩, List.mem_of_getElem? (i := 61) (by decide +kernel), List.mem_of_getElem? (i := 267) (by decide +kernel), List.mem_of_getElem? (i := 268) (by decide +kernel)⟩
theorem lw_p8 : lw_okq (⟨"CreditScroll$Course", "timeIn", "(II)I"⟩, 9) := ⟨⟨by decide +kernel, by decide +kernel⟩, List.mem_of_getElem? (i := 61) (by decide +kernel), List.mem_of_getElem? (i := 271) (by decide +kernel), List.mem_of_getElem? (i := 272) (by decide +kernel)⟩
theorem lw_p9 : lw_okq (⟨"CreditScroll$Credits", "exchange", "(II)V"⟩, 6) := ⟨⟨by decide +kernel, by decide +kernel⟩, List.mem_of_getElem? (i := 19) (by decide +kernel), List.mem_of_getElem? (i := 283) (by decide +kernel), List.mem_of_getElem? (i := 284) (by decide +kernel)⟩
theorem lw_p10 : lw_okq (⟨"CreditScroll$Pad", "parseLineInto", "(LCreditScroll$Credits;)Z"⟩, 3) := ⟨⟨by decide +kernel, by decide +kernel⟩, List.mem_of_getElem? (i := 99) (by decide +kernel), List.mem_of_getElem? (i := 319) (by decide +kernel), List.mem_of_getElem? (i := 320) (by decide +kernel)⟩
theorem lw_p11 : lw_okq (⟨"CreditScroll$Pad", "kindHere", "()I"⟩, 3) := ⟨⟨by decide +kernel, by decide +kernel⟩, List.mem_of_getElem? (i := 99) (by decide +kernel), List.mem_of_getElem? (i := 323) (by decide +kernel), List.mem_of_getElem? (i := 324) (by decide +kernel)⟩
theorem lw_p12 : lw_okq (⟨"CreditScroll$Pad", "character", "()I"⟩, 3) := ⟨⟨by decide +kernel, by decide +kernel⟩, List.mem_of_getElem? (i := 99) (by decide +kernel), List.mem_of_getElem? (i := 327) (by decide +kernel), List.mem_of_getElem? (i := 328) (by decide +kernel)⟩
theorem lw_p13 : lw_okq (⟨"CreditScroll$Pad", "digit", "()I"⟩, 3) := ⟨⟨by decide +kernel, by decide +kernel⟩, List.mem_of_getElem? (i := 99) (by decide +kernel), List.mem_of_getElem? (i := 331) (by decide +kernel), List.mem_of_getElem? (i := 332) (by decide +kernel)⟩
theorem lw_p14 : lw_okq (⟨"CreditScroll$Pad", "parseNumber", "(II)I"⟩, 3) := ⟨⟨by decide +kernel, by decide +kernel⟩, List.mem_of_getElem? (i := 99) (by decide +kernel), List.mem_of_getElem? (i := 337) (by decide +kernel), List.mem_of_getElem? (i := 338) (by decide +kernel)⟩
theorem lw_p15 : lw_okq (⟨"CreditScroll$Course", "mostSeenOf", "(I)I"⟩, 9) := ⟨⟨by decide +kernel, by decide +kernel⟩, List.mem_of_getElem? (i := 61) (by decide +kernel), List.mem_of_getElem? (i := 360) (by decide +kernel), List.mem_of_getElem? (i := 361) (by decide +kernel)⟩
def lw_privs_1 : List (MethodName × Nat) := [(⟨"CreditScroll", "addAsChange", "(III)I"⟩, 7), (⟨"CreditScroll$Course", "layOut", "()V"⟩, 9), (⟨"CreditScroll$Course", "pace", "()V"⟩, 9), (⟨"CreditScroll$Course", "begin", "(III)V"⟩, 9), (⟨"CreditScroll$Course", "changeSpeed", "(II)V"⟩, 9), (⟨"CreditScroll$Course", "ticksIn", "(II)I"⟩, 9), (⟨"CreditScroll$Course", "watch", "()V"⟩, 9), (⟨"CreditScroll$Course", "stretchReaching", "(II)I"⟩, 9), (⟨"CreditScroll$Course", "timeIn", "(II)I"⟩, 9), (⟨"CreditScroll$Credits", "exchange", "(II)V"⟩, 6), (⟨"CreditScroll$Pad", "parseLineInto", "(LCreditScroll$Credits;)Z"⟩, 3), (⟨"CreditScroll$Pad", "kindHere", "()I"⟩, 3), (⟨"CreditScroll$Pad", "character", "()I"⟩, 3), (⟨"CreditScroll$Pad", "digit", "()I"⟩, 3), (⟨"CreditScroll$Pad", "parseNumber", "(II)I"⟩, 3), (⟨"CreditScroll$Course", "mostSeenOf", "(I)I"⟩, 9)]
theorem lw_r1 : ∀ q ∈ lw_privs_1, lw_okq q := List.forall_mem_cons.mpr ⟨lw_p0, List.forall_mem_cons.mpr ⟨lw_p1, List.forall_mem_cons.mpr ⟨lw_p2, List.forall_mem_cons.mpr ⟨lw_p3, List.forall_mem_cons.mpr ⟨lw_p4, List.forall_mem_cons.mpr ⟨lw_p5, List.forall_mem_cons.mpr ⟨lw_p6, List.forall_mem_cons.mpr ⟨lw_p7, List.forall_mem_cons.mpr ⟨lw_p8, List.forall_mem_cons.mpr ⟨lw_p9, List.forall_mem_cons.mpr ⟨lw_p10, List.forall_mem_cons.mpr ⟨lw_p11, List.forall_mem_cons.mpr ⟨lw_p12, List.forall_mem_cons.mpr ⟨lw_p13, List.forall_mem_cons.mpr ⟨lw_p14, List.forall_mem_cons.mpr ⟨lw_p15, fun _ h => absurd h List.not_mem_nil⟩⟩⟩⟩⟩⟩⟩⟩⟩⟩⟩⟩⟩⟩⟩⟩
theorem lw_p16 : lw_okq (⟨"CreditScroll", "firstNumberOf", "(I)I"⟩, 7) := ⟨⟨by decide +kernel, by decide +kernel⟩, List.mem_of_getElem? (i := 11) (by decide +kernel), List.mem_of_getElem? (i := 377) (by decide +kernel), List.mem_of_getElem? (i := 378) (by decide +kernel)⟩
theorem lw_p17 : lw_okq (⟨"CreditScroll$Course", "isSeenAt", "(II)Z"⟩, 9) := ⟨⟨by decide +kernel, by decide +kernel⟩, List.mem_of_getElem? (i := 61) (by decide +kernel), List.mem_of_getElem? (i := 389) (by decide +kernel), List.mem_of_getElem? (i := 390) (by decide +kernel)⟩
theorem lw_p18 : lw_okq (⟨"CreditScroll$Course", "stretchAt", "(I)I"⟩, 9) := ⟨⟨by decide +kernel, by decide +kernel⟩, List.mem_of_getElem? (i := 61) (by decide +kernel), List.mem_of_getElem? (i := 405) (by decide +kernel), List.mem_of_getElem? (i := 406) (by decide +kernel)⟩
theorem lw_p19 : lw_okq (⟨"CreditScrollModel", "record", "()V"⟩, 17) := ⟨⟨by decide +kernel, by decide +kernel⟩, List.mem_of_getElem? (i := 503) (by decide +kernel), List.mem_of_getElem? (i := 576) (by decide +kernel), List.mem_of_getElem? (i := 577) (by decide +kernel)⟩
theorem lw_p20 : lw_okq (⟨"CreditScrollModel", "add", "(IIII)I"⟩, 17) := ⟨⟨by decide +kernel, by decide +kernel⟩, List.mem_of_getElem? (i := 503) (by decide +kernel), List.mem_of_getElem? (i := 597) (by decide +kernel), List.mem_of_getElem? (i := 598) (by decide +kernel)⟩
theorem lw_p21 : lw_okq (⟨"CreditScrollModel", "isLine", "(I)Z"⟩, 17) := ⟨⟨by decide +kernel, by decide +kernel⟩, List.mem_of_getElem? (i := 503) (by decide +kernel), List.mem_of_getElem? (i := 609) (by decide +kernel), List.mem_of_getElem? (i := 610) (by decide +kernel)⟩
theorem lw_p22 : lw_okq (⟨"CreditScrollModel", "its", "(II)I"⟩, 17) := ⟨⟨by decide +kernel, by decide +kernel⟩, List.mem_of_getElem? (i := 503) (by decide +kernel), List.mem_of_getElem? (i := 613) (by decide +kernel), List.mem_of_getElem? (i := 614) (by decide +kernel)⟩
theorem lw_p23 : lw_okq (⟨"CreditScrollModel", "run", "()I"⟩, 17) := ⟨⟨by decide +kernel, by decide +kernel⟩, List.mem_of_getElem? (i := 503) (by decide +kernel), List.mem_of_getElem? (i := 621) (by decide +kernel), List.mem_of_getElem? (i := 622) (by decide +kernel)⟩
theorem lw_p24 : lw_okq (⟨"CreditScrollModel", "begin", "()V"⟩, 17) := ⟨⟨by decide +kernel, by decide +kernel⟩, List.mem_of_getElem? (i := 503) (by decide +kernel), List.mem_of_getElem? (i := 625) (by decide +kernel), List.mem_of_getElem? (i := 626) (by decide +kernel)⟩
theorem lw_p25 : lw_okq (⟨"CreditScrollModel", "height", "(I)I"⟩, 17) := ⟨⟨by decide +kernel, by decide +kernel⟩, List.mem_of_getElem? (i := 503) (by decide +kernel), List.mem_of_getElem? (i := 629) (by decide +kernel), List.mem_of_getElem? (i := 630) (by decide +kernel)⟩
theorem lw_p26 : lw_okq (⟨"CreditScrollModel", "speedNow", "()I"⟩, 17) := ⟨⟨by decide +kernel, by decide +kernel⟩, List.mem_of_getElem? (i := 503) (by decide +kernel), List.mem_of_getElem? (i := 633) (by decide +kernel), List.mem_of_getElem? (i := 634) (by decide +kernel)⟩
theorem lw_p27 : lw_okq (⟨"CreditScrollModel", "isSeen", "(I)Z"⟩, 17) := ⟨⟨by decide +kernel, by decide +kernel⟩, List.mem_of_getElem? (i := 503) (by decide +kernel), List.mem_of_getElem? (i := 637) (by decide +kernel), List.mem_of_getElem? (i := 638) (by decide +kernel)⟩
theorem lw_p28 : lw_okq (⟨"CreditScrollModel", "exchange", "(I)V"⟩, 17) := ⟨⟨by decide +kernel, by decide +kernel⟩, List.mem_of_getElem? (i := 503) (by decide +kernel), List.mem_of_getElem? (i := 641) (by decide +kernel), List.mem_of_getElem? (i := 642) (by decide +kernel)⟩
theorem lw_p29 : lw_okq (⟨"CreditScrollModel", "namesOf", "(I)I"⟩, 17) := ⟨⟨by decide +kernel, by decide +kernel⟩, List.mem_of_getElem? (i := 503) (by decide +kernel), List.mem_of_getElem? (i := 653) (by decide +kernel), List.mem_of_getElem? (i := 654) (by decide +kernel)⟩
theorem lw_p30 : lw_okq (⟨"CreditScrollModel", "isNameOf", "(II)Z"⟩, 17) := ⟨⟨by decide +kernel, by decide +kernel⟩, List.mem_of_getElem? (i := 503) (by decide +kernel), List.mem_of_getElem? (i := 657) (by decide +kernel), List.mem_of_getElem? (i := 658) (by decide +kernel)⟩
theorem lw_p31 : lw_okq (⟨"CreditScrollModel", "turnOnce", "(I)V"⟩, 17) := ⟨⟨by decide +kernel, by decide +kernel⟩, List.mem_of_getElem? (i := 503) (by decide +kernel), List.mem_of_getElem? (i := 661) (by decide +kernel), List.mem_of_getElem? (i := 662) (by decide +kernel)⟩
def lw_privs_2 : List (MethodName × Nat) := [(⟨"CreditScroll", "firstNumberOf", "(I)I"⟩, 7), (⟨"CreditScroll$Course", "isSeenAt", "(II)Z"⟩, 9), (⟨"CreditScroll$Course", "stretchAt", "(I)I"⟩, 9), (⟨"CreditScrollModel", "record", "()V"⟩, 17), (⟨"CreditScrollModel", "add", "(IIII)I"⟩, 17), (⟨"CreditScrollModel", "isLine", "(I)Z"⟩, 17), (⟨"CreditScrollModel", "its", "(II)I"⟩, 17), (⟨"CreditScrollModel", "run", "()I"⟩, 17), (⟨"CreditScrollModel", "begin", "()V"⟩, 17), (⟨"CreditScrollModel", "height", "(I)I"⟩, 17), (⟨"CreditScrollModel", "speedNow", "()I"⟩, 17), (⟨"CreditScrollModel", "isSeen", "(I)Z"⟩, 17), (⟨"CreditScrollModel", "exchange", "(I)V"⟩, 17), (⟨"CreditScrollModel", "namesOf", "(I)I"⟩, 17), (⟨"CreditScrollModel", "isNameOf", "(II)Z"⟩, 17), (⟨"CreditScrollModel", "turnOnce", "(I)V"⟩, 17)]
theorem lw_r2 : ∀ q ∈ lw_privs_2, lw_okq q := List.forall_mem_cons.mpr ⟨lw_p16, List.forall_mem_cons.mpr ⟨lw_p17, List.forall_mem_cons.mpr ⟨lw_p18, List.forall_mem_cons.mpr ⟨lw_p19, List.forall_mem_cons.mpr ⟨lw_p20, List.forall_mem_cons.mpr ⟨lw_p21, List.forall_mem_cons.mpr ⟨lw_p22, List.forall_mem_cons.mpr ⟨lw_p23, List.forall_mem_cons.mpr ⟨lw_p24, List.forall_mem_cons.mpr ⟨lw_p25, List.forall_mem_cons.mpr ⟨lw_p26, List.forall_mem_cons.mpr ⟨lw_p27, List.forall_mem_cons.mpr ⟨lw_p28, List.forall_mem_cons.mpr ⟨lw_p29, List.forall_mem_cons.mpr ⟨lw_p30, List.forall_mem_cons.mpr ⟨lw_p31, fun _ h => absurd h List.not_mem_nil⟩⟩⟩⟩⟩⟩⟩⟩⟩⟩⟩⟩⟩⟩⟩⟩
theorem lw_p32 : lw_okq (⟨"CreditScrollModel", "firstName", "(I)I"⟩, 17) := ⟨⟨by decide +kernel, by decide +kernel⟩, List.mem_of_getElem? (i := 503) (by decide +kernel), List.mem_of_getElem? (i := 665) (by decide +kernel), List.mem_of_getElem? (i := 666) (by decide +kernel)⟩
theorem lw_p33 : lw_okq (⟨"CreditScrollModel", "spread", "(I)I"⟩, 17) := ⟨⟨by decide +kernel, by decide +kernel⟩, List.mem_of_getElem? (i := 503) (by decide +kernel), List.mem_of_getElem? (i := 677) (by decide +kernel), List.mem_of_getElem? (i := 678) (by decide +kernel)⟩
theorem lw_p34 : lw_okq (⟨"CreditScrollModel", "shortest", "(I)I"⟩, 17) := ⟨⟨by decide +kernel, by decide +kernel⟩, List.mem_of_getElem? (i := 503) (by decide +kernel), List.mem_of_getElem? (i := 681) (by decide +kernel), List.mem_of_getElem? (i := 682) (by decide +kernel)⟩
theorem lw_p35 : lw_okq (⟨"CreditScrollModel", "seenNow", "(I)I"⟩, 17) := ⟨⟨by decide +kernel, by decide +kernel⟩, List.mem_of_getElem? (i := 503) (by decide +kernel), List.mem_of_getElem? (i := 689) (by decide +kernel), List.mem_of_getElem? (i := 690) (by decide +kernel)⟩
theorem lw_p36 : lw_okq (⟨"CreditScrollModel", "names", "(Z)I"⟩, 17) := ⟨⟨by decide +kernel, by decide +kernel⟩, List.mem_of_getElem? (i := 503) (by decide +kernel), List.mem_of_getElem? (i := 697) (by decide +kernel), List.mem_of_getElem? (i := 698) (by decide +kernel)⟩
theorem lw_p37 : lw_okq (⟨"CreditScrollModel", "unequal", "()I"⟩, 17) := ⟨⟨by decide +kernel, by decide +kernel⟩, List.mem_of_getElem? (i := 503) (by decide +kernel), List.mem_of_getElem? (i := 701) (by decide +kernel), List.mem_of_getElem? (i := 702) (by decide +kernel)⟩
theorem lw_p38 : lw_okq (⟨"CreditScrollModel", "cues", "()I"⟩, 17) := ⟨⟨by decide +kernel, by decide +kernel⟩, List.mem_of_getElem? (i := 503) (by decide +kernel), List.mem_of_getElem? (i := 705) (by decide +kernel), List.mem_of_getElem? (i := 706) (by decide +kernel)⟩
theorem lw_p39 : lw_okq (⟨"CreditScrollModel", "allSpreads", "()I"⟩, 17) := ⟨⟨by decide +kernel, by decide +kernel⟩, List.mem_of_getElem? (i := 503) (by decide +kernel), List.mem_of_getElem? (i := 713) (by decide +kernel), List.mem_of_getElem? (i := 714) (by decide +kernel)⟩
theorem lw_p40 : lw_okq (⟨"CreditScrollModel", "areSeenFor", "(I)Z"⟩, 17) := ⟨⟨by decide +kernel, by decide +kernel⟩, List.mem_of_getElem? (i := 503) (by decide +kernel), List.mem_of_getElem? (i := 721) (by decide +kernel), List.mem_of_getElem? (i := 722) (by decide +kernel)⟩
theorem lw_p41 : lw_okq (⟨"CreditScrollModel", "readPad", "()I"⟩, 17) := ⟨⟨by decide +kernel, by decide +kernel⟩, List.mem_of_getElem? (i := 503) (by decide +kernel), List.mem_of_getElem? (i := 749) (by decide +kernel), List.mem_of_getElem? (i := 750) (by decide +kernel)⟩
theorem lw_p42 : lw_okq (⟨"CreditScrollModel", "readLine", "()V"⟩, 17) := ⟨⟨by decide +kernel, by decide +kernel⟩, List.mem_of_getElem? (i := 503) (by decide +kernel), List.mem_of_getElem? (i := 753) (by decide +kernel), List.mem_of_getElem? (i := 754) (by decide +kernel)⟩
theorem lw_p43 : lw_okq (⟨"CreditScrollModel", "letter", "()I"⟩, 17) := ⟨⟨by decide +kernel, by decide +kernel⟩, List.mem_of_getElem? (i := 503) (by decide +kernel), List.mem_of_getElem? (i := 757) (by decide +kernel), List.mem_of_getElem? (i := 758) (by decide +kernel)⟩
theorem lw_p44 : lw_okq (⟨"CreditScrollModel", "wants", "(Z)V"⟩, 17) := ⟨⟨by decide +kernel, by decide +kernel⟩, List.mem_of_getElem? (i := 503) (by decide +kernel), List.mem_of_getElem? (i := 761) (by decide +kernel), List.mem_of_getElem? (i := 762) (by decide +kernel)⟩
theorem lw_p45 : lw_okq (⟨"CreditScrollModel", "number", "(II)I"⟩, 17) := ⟨⟨by decide +kernel, by decide +kernel⟩, List.mem_of_getElem? (i := 503) (by decide +kernel), List.mem_of_getElem? (i := 765) (by decide +kernel), List.mem_of_getElem? (i := 766) (by decide +kernel)⟩
def lw_privs_3 : List (MethodName × Nat) := [(⟨"CreditScrollModel", "firstName", "(I)I"⟩, 17), (⟨"CreditScrollModel", "spread", "(I)I"⟩, 17), (⟨"CreditScrollModel", "shortest", "(I)I"⟩, 17), (⟨"CreditScrollModel", "seenNow", "(I)I"⟩, 17), (⟨"CreditScrollModel", "names", "(Z)I"⟩, 17), (⟨"CreditScrollModel", "unequal", "()I"⟩, 17), (⟨"CreditScrollModel", "cues", "()I"⟩, 17), (⟨"CreditScrollModel", "allSpreads", "()I"⟩, 17), (⟨"CreditScrollModel", "areSeenFor", "(I)Z"⟩, 17), (⟨"CreditScrollModel", "readPad", "()I"⟩, 17), (⟨"CreditScrollModel", "readLine", "()V"⟩, 17), (⟨"CreditScrollModel", "letter", "()I"⟩, 17), (⟨"CreditScrollModel", "wants", "(Z)V"⟩, 17), (⟨"CreditScrollModel", "number", "(II)I"⟩, 17)]
theorem lw_r3 : ∀ q ∈ lw_privs_3, lw_okq q := List.forall_mem_cons.mpr ⟨lw_p32, List.forall_mem_cons.mpr ⟨lw_p33, List.forall_mem_cons.mpr ⟨lw_p34, List.forall_mem_cons.mpr ⟨lw_p35, List.forall_mem_cons.mpr ⟨lw_p36, List.forall_mem_cons.mpr ⟨lw_p37, List.forall_mem_cons.mpr ⟨lw_p38, List.forall_mem_cons.mpr ⟨lw_p39, List.forall_mem_cons.mpr ⟨lw_p40, List.forall_mem_cons.mpr ⟨lw_p41, List.forall_mem_cons.mpr ⟨lw_p42, List.forall_mem_cons.mpr ⟨lw_p43, List.forall_mem_cons.mpr ⟨lw_p44, List.forall_mem_cons.mpr ⟨lw_p45, fun _ h => absurd h List.not_mem_nil⟩⟩⟩⟩⟩⟩⟩⟩⟩⟩⟩⟩⟩⟩
def lw_privs : List (MethodName × Nat) := lw_privs_1 ++ (lw_privs_2 ++ (lw_privs_3))
def lw_tbl : List Cond := k2_sels lw_privs ++ tables_1
theorem lw_privs_ok : ∀ q ∈ lw_privs, lw_okq q := by
  show ∀ q ∈ lw_privs_1 ++ (lw_privs_2 ++ (lw_privs_3)), lw_okq q
  exact List.forall_mem_append.mpr ⟨lw_r1, List.forall_mem_append.mpr ⟨lw_r2, lw_r3⟩⟩
-- ===== names =====
def RX0 : String := "CreditScroll$Course"
def TX0 : u_T := fun k => match k with
  | 0 => ("CreditScroll$Course", "credits", "LCreditScroll$Credits;", true)
  | 1 => ("CreditScroll$Course", "tops", "[I", true)
  | 2 => ("CreditScroll$Course", "firsts", "[I", true)
  | 3 => ("CreditScroll$Course", "seen", "[I", true)
  | 4 => ("CreditScroll$Course", "rows", "I", false)
  | 5 => ("CreditScroll$Course", "times", "[I", true)
  | 6 => ("CreditScroll$Course", "heights", "[I", true)
  | 7 => ("CreditScroll$Course", "speeds", "[I", true)
  | _ => ("CreditScroll$Course", "stretches", "I", false)
def tyX0 : Nat → FieldType := fun k => match k with
  | 0 => .object "CreditScroll$Credits"
  | 1 => .array .int
  | 2 => .array .int
  | 3 => .array .int
  | 4 => .int
  | 5 => .array .int
  | 6 => .array .int
  | 7 => .array .int
  | _ => .int
abbrev wsX00 : List Cond := u_ws RX0 TX0 9
theorem nmX0 : ∀ a, a < 9 → ∀ b, b < 9 → a ≠ b → (TX0 a).2.1 ≠ (TX0 b).2.1 := by decide +kernel
theorem tyX0_ok : ∀ k, k < 9 → parseFieldDescriptor (TX0 k).2.2.1 = some (tyX0 k) := by decide +kernel
abbrev cX0_init : ByteArray := prog_2_method_1_code
def yX0_init : MethodName := ⟨RX0, "<init>", "(LCreditScroll$Credits;)V"⟩
abbrev cX0_follow : ByteArray := prog_2_method_2_code
def yX0_follow : MethodName := ⟨RX0, "follow", "()V"⟩
abbrev cX0_layOut : ByteArray := prog_2_method_3_code
def yX0_layOut : MethodName := ⟨RX0, "layOut", "()V"⟩
abbrev cX0_pace : ByteArray := prog_2_method_4_code
def yX0_pace : MethodName := ⟨RX0, "pace", "()V"⟩
abbrev cX0_changeSpeed : ByteArray := prog_2_method_5_code
def yX0_changeSpeed : MethodName := ⟨RX0, "changeSpeed", "(II)V"⟩
abbrev cX0_begin : ByteArray := prog_2_method_6_code
def yX0_begin : MethodName := ⟨RX0, "begin", "(III)V"⟩
abbrev cX0_watch : ByteArray := prog_2_method_7_code
def yX0_watch : MethodName := ⟨RX0, "watch", "()V"⟩
abbrev cX0_stretchReaching : ByteArray := prog_2_method_8_code
def yX0_stretchReaching : MethodName := ⟨RX0, "stretchReaching", "(II)I"⟩
abbrev cX0_timeIn : ByteArray := prog_2_method_9_code
def yX0_timeIn : MethodName := ⟨RX0, "timeIn", "(II)I"⟩
abbrev cX0_ticksIn : ByteArray := prog_2_method_10_code
def yX0_ticksIn : MethodName := ⟨RX0, "ticksIn", "(II)I"⟩
abbrev cX0_ticksInAll : ByteArray := prog_2_method_11_code
def yX0_ticksInAll : MethodName := ⟨RX0, "ticksInAll", "()I"⟩
abbrev cX0_stretchAt : ByteArray := prog_2_method_12_code
def yX0_stretchAt : MethodName := ⟨RX0, "stretchAt", "(I)I"⟩
abbrev cX0_speedAt : ByteArray := prog_2_method_13_code
def yX0_speedAt : MethodName := ⟨RX0, "speedAt", "(I)I"⟩
abbrev cX0_movedAt : ByteArray := prog_2_method_14_code
def yX0_movedAt : MethodName := ⟨RX0, "movedAt", "(I)I"⟩
abbrev cX0_isSeenAt : ByteArray := prog_2_method_15_code
def yX0_isSeenAt : MethodName := ⟨RX0, "isSeenAt", "(II)Z"⟩
abbrev cX0_firstSeenAt : ByteArray := prog_2_method_16_code
def yX0_firstSeenAt : MethodName := ⟨RX0, "firstSeenAt", "(I)I"⟩
abbrev cX0_lastSeenAt : ByteArray := prog_2_method_17_code
def yX0_lastSeenAt : MethodName := ⟨RX0, "lastSeenAt", "(I)I"⟩
abbrev cX0_howManySeenAt : ByteArray := prog_2_method_18_code
def yX0_howManySeenAt : MethodName := ⟨RX0, "howManySeenAt", "(I)I"⟩
abbrev cX0_leastSeenLineOf : ByteArray := prog_2_method_19_code
def yX0_leastSeenLineOf : MethodName := ⟨RX0, "leastSeenLineOf", "(I)I"⟩
abbrev cX0_leastSeenOf : ByteArray := prog_2_method_20_code
def yX0_leastSeenOf : MethodName := ⟨RX0, "leastSeenOf", "(I)I"⟩
abbrev cX0_mostSeenOf : ByteArray := prog_2_method_21_code
def yX0_mostSeenOf : MethodName := ⟨RX0, "mostSeenOf", "(I)I"⟩
abbrev cX0_spreadOf : ByteArray := prog_2_method_22_code
def yX0_spreadOf : MethodName := ⟨RX0, "spreadOf", "(I)I"⟩
abbrev cX0_spreadsInAll : ByteArray := prog_2_method_23_code
def yX0_spreadsInAll : MethodName := ⟨RX0, "spreadsInAll", "()I"⟩
abbrev cX0_unequalGroups : ByteArray := prog_2_method_24_code
def yX0_unequalGroups : MethodName := ⟨RX0, "unequalGroups", "()I"⟩
abbrev cX0_neverSeenNames : ByteArray := prog_2_method_25_code
def yX0_neverSeenNames : MethodName := ⟨RX0, "neverSeenNames", "()I"⟩
abbrev cX0_showsNamesFor : ByteArray := prog_2_method_26_code
def yX0_showsNamesFor : MethodName := ⟨RX0, "showsNamesFor", "(I)Z"⟩
def RX1 : String := "CreditScroll$Credits"
def TX1 : u_T := fun k => match k with
  | 0 => ("CreditScroll$Credits", "settings", "[I", true)
  | 1 => ("CreditScroll$Credits", "kinds", "[I", true)
  | 2 => ("CreditScroll$Credits", "groups", "[I", true)
  | 3 => ("CreditScroll$Credits", "numbers", "[I", true)
  | 4 => ("CreditScroll$Credits", "cues", "[I", true)
  | _ => ("CreditScroll$Credits", "lines", "I", false)
def tyX1 : Nat → FieldType := fun k => match k with
  | 0 => .array .int
  | 1 => .array .int
  | 2 => .array .int
  | 3 => .array .int
  | 4 => .array .int
  | _ => .int
abbrev wsX10 : List Cond := u_ws RX1 TX1 6
theorem nmX1 : ∀ a, a < 6 → ∀ b, b < 6 → a ≠ b → (TX1 a).2.1 ≠ (TX1 b).2.1 := by decide +kernel
theorem tyX1_ok : ∀ k, k < 6 → parseFieldDescriptor (TX1 k).2.2.1 = some (tyX1 k) := by decide +kernel
abbrev cX1_init : ByteArray := prog_3_method_1_code
def yX1_init : MethodName := ⟨RX1, "<init>", "()V"⟩
abbrev cX1_takeFrom : ByteArray := prog_3_method_2_code
def yX1_takeFrom : MethodName := ⟨RX1, "takeFrom", "(LCreditScroll$Credits;)V"⟩
abbrev cX1_addAll : ByteArray := prog_3_method_3_code
def yX1_addAll : MethodName := ⟨RX1, "addAll", "(LCreditScroll$Credits;)V"⟩
abbrev cX1_add : ByteArray := prog_3_method_4_code
def yX1_add : MethodName := ⟨RX1, "add", "(IIII)V"⟩
abbrev cX1_holds : ByteArray := prog_3_method_5_code
def yX1_holds : MethodName := ⟨RX1, "holds", "(I)Z"⟩
abbrev cX1_heightOf : ByteArray := prog_3_method_6_code
def yX1_heightOf : MethodName := ⟨RX1, "heightOf", "(I)I"⟩
abbrev cX1_carry : ByteArray := prog_3_method_7_code
def yX1_carry : MethodName := ⟨RX1, "carry", "(II)V"⟩
abbrev cX1_remove : ByteArray := prog_3_method_8_code
def yX1_remove : MethodName := ⟨RX1, "remove", "(I)V"⟩
abbrev cX1_exchange : ByteArray := prog_3_method_9_code
def yX1_exchange : MethodName := ⟨RX1, "exchange", "(II)V"⟩
abbrev cX1_exchangeIn : ByteArray := prog_3_method_10_code
def yX1_exchangeIn : MethodName := ⟨RX1, "exchangeIn", "([III)V"⟩
abbrev cX1_rotateNumbers : ByteArray := prog_3_method_11_code
def yX1_rotateNumbers : MethodName := ⟨RX1, "rotateNumbers", "(I)V"⟩
abbrev cX1_firstNameOf : ByteArray := prog_3_method_12_code
def yX1_firstNameOf : MethodName := ⟨RX1, "firstNameOf", "(I)I"⟩
abbrev cX1_namesOf : ByteArray := prog_3_method_13_code
def yX1_namesOf : MethodName := ⟨RX1, "namesOf", "(I)I"⟩
abbrev cX1_namesInAll : ByteArray := prog_3_method_14_code
def yX1_namesInAll : MethodName := ⟨RX1, "namesInAll", "()I"⟩
abbrev cX1_cuesInAll : ByteArray := prog_3_method_15_code
def yX1_cuesInAll : MethodName := ⟨RX1, "cuesInAll", "()I"⟩
abbrev cX1_dropCues : ByteArray := prog_3_method_16_code
def yX1_dropCues : MethodName := ⟨RX1, "dropCues", "()V"⟩
def RX2 : String := "CreditScroll$History"
def TX2 : u_T := fun k => match k with
  | 0 => ("CreditScroll$History", "states", "[LCreditScroll$Credits;", true)
  | 1 => ("CreditScroll$History", "kept", "I", false)
  | _ => ("CreditScroll$History", "oldest", "I", false)
def tyX2 : Nat → FieldType := fun k => match k with
  | 0 => .array (.object "CreditScroll$Credits")
  | 1 => .int
  | _ => .int
abbrev wsX20 : List Cond := u_ws RX2 TX2 3
theorem nmX2 : ∀ a, a < 3 → ∀ b, b < 3 → a ≠ b → (TX2 a).2.1 ≠ (TX2 b).2.1 := by decide +kernel
theorem tyX2_ok : ∀ k, k < 3 → parseFieldDescriptor (TX2 k).2.2.1 = some (tyX2 k) := by decide +kernel
abbrev cX2_init : ByteArray := prog_4_method_1_code
def yX2_init : MethodName := ⟨RX2, "<init>", "()V"⟩
abbrev cX2_remember : ByteArray := prog_4_method_2_code
def yX2_remember : MethodName := ⟨RX2, "remember", "(LCreditScroll$Credits;)V"⟩
abbrev cX2_takeBack : ByteArray := prog_4_method_3_code
def yX2_takeBack : MethodName := ⟨RX2, "takeBack", "(LCreditScroll$Credits;)V"⟩
def RX3 : String := "CreditScroll$Pad"
def TX3 : u_T := fun k => match k with
  | 0 => ("CreditScroll$Pad", "characters", "[C", true)
  | 1 => ("CreditScroll$Pad", "length", "I", false)
  | _ => ("CreditScroll$Pad", "place", "I", false)
def tyX3 : Nat → FieldType := fun k => match k with
  | 0 => .array .char
  | 1 => .int
  | _ => .int
abbrev wsX30 : List Cond := u_ws RX3 TX3 3
theorem nmX3 : ∀ a, a < 3 → ∀ b, b < 3 → a ≠ b → (TX3 a).2.1 ≠ (TX3 b).2.1 := by decide +kernel
theorem tyX3_ok : ∀ k, k < 3 → parseFieldDescriptor (TX3 k).2.2.1 = some (tyX3 k) := by decide +kernel
abbrev cX3_init : ByteArray := prog_5_method_1_code
def yX3_init : MethodName := ⟨RX3, "<init>", "()V"⟩
abbrev cX3_charactersIn : ByteArray := prog_5_method_2_code
def yX3_charactersIn : MethodName := ⟨RX3, "charactersIn", "(J)I"⟩
abbrev cX3_append : ByteArray := prog_5_method_3_code
def yX3_append : MethodName := ⟨RX3, "append", "(JI)V"⟩
abbrev cX3_parseInto : ByteArray := prog_5_method_4_code
def yX3_parseInto : MethodName := ⟨RX3, "parseInto", "(LCreditScroll$Credits;)I"⟩
abbrev cX3_parseLineInto : ByteArray := prog_5_method_5_code
def yX3_parseLineInto : MethodName := ⟨RX3, "parseLineInto", "(LCreditScroll$Credits;)Z"⟩
abbrev cX3_parseNumber : ByteArray := prog_5_method_6_code
def yX3_parseNumber : MethodName := ⟨RX3, "parseNumber", "(II)I"⟩
abbrev cX3_kindHere : ByteArray := prog_5_method_7_code
def yX3_kindHere : MethodName := ⟨RX3, "kindHere", "()I"⟩
abbrev cX3_digit : ByteArray := prog_5_method_8_code
def yX3_digit : MethodName := ⟨RX3, "digit", "()I"⟩
abbrev cX3_character : ByteArray := prog_5_method_9_code
def yX3_character : MethodName := ⟨RX3, "character", "()I"⟩
def RX4 : String := "CreditScroll$Slots"
def TX4 : u_T := fun k => match k with
  | 0 => ("CreditScroll$Slots", "states", "[LCreditScroll$Credits;", true)
  | _ => ("CreditScroll$Slots", "filled", "[Z", true)
def tyX4 : Nat → FieldType := fun k => match k with
  | 0 => .array (.object "CreditScroll$Credits")
  | _ => .array .boolean
abbrev wsX40 : List Cond := u_ws RX4 TX4 2
theorem nmX4 : ∀ a, a < 2 → ∀ b, b < 2 → a ≠ b → (TX4 a).2.1 ≠ (TX4 b).2.1 := by decide +kernel
theorem tyX4_ok : ∀ k, k < 2 → parseFieldDescriptor (TX4 k).2.2.1 = some (tyX4 k) := by decide +kernel
abbrev cX4_init : ByteArray := prog_6_method_1_code
def yX4_init : MethodName := ⟨RX4, "<init>", "()V"⟩
def RX5 : String := "CreditScroll"
def TX5 : u_T := fun k => match k with
  | 0 => ("CreditScroll", "credits", "LCreditScroll$Credits;", true)
  | 1 => ("CreditScroll", "course", "LCreditScroll$Course;", true)
  | 2 => ("CreditScroll", "trial", "LCreditScroll$Credits;", true)
  | 3 => ("CreditScroll", "trialCourse", "LCreditScroll$Course;", true)
  | 4 => ("CreditScroll", "pad", "LCreditScroll$Pad;", true)
  | 5 => ("CreditScroll", "history", "LCreditScroll$History;", true)
  | _ => ("CreditScroll", "slots", "LCreditScroll$Slots;", true)
def tyX5 : Nat → FieldType := fun k => match k with
  | 0 => .object "CreditScroll$Credits"
  | 1 => .object "CreditScroll$Course"
  | 2 => .object "CreditScroll$Credits"
  | 3 => .object "CreditScroll$Course"
  | 4 => .object "CreditScroll$Pad"
  | 5 => .object "CreditScroll$History"
  | _ => .object "CreditScroll$Slots"
abbrev wsX50 : List Cond := u_ws RX5 TX5 7
theorem nmX5 : ∀ a, a < 7 → ∀ b, b < 7 → a ≠ b → (TX5 a).2.1 ≠ (TX5 b).2.1 := by decide +kernel
theorem tyX5_ok : ∀ k, k < 7 → parseFieldDescriptor (TX5 k).2.2.1 = some (tyX5 k) := by decide +kernel
abbrev cX5_init : ByteArray := prog_1_method_1_code
def yX5_init : MethodName := ⟨RX5, "<init>", "()V"⟩
abbrev cX5_set : ByteArray := prog_1_method_2_code
def yX5_set : MethodName := ⟨RX5, "set", "(II)I"⟩
abbrev cX5_name : ByteArray := prog_1_method_3_code
def yX5_name : MethodName := ⟨RX5, "name", "(II)I"⟩
abbrev cX5_line : ByteArray := prog_1_method_4_code
def yX5_line : MethodName := ⟨RX5, "line", "(I)I"⟩
abbrev cX5_cue : ByteArray := prog_1_method_5_code
def yX5_cue : MethodName := ⟨RX5, "cue", "(II)I"⟩
abbrev cX5_move : ByteArray := prog_1_method_6_code
def yX5_move : MethodName := ⟨RX5, "move", "(II)I"⟩
abbrev cX5_drop : ByteArray := prog_1_method_7_code
def yX5_drop : MethodName := ⟨RX5, "drop", "(I)I"⟩
abbrev cX5_turn : ByteArray := prog_1_method_8_code
def yX5_turn : MethodName := ⟨RX5, "turn", "(II)I"⟩
abbrev cX5_read : ByteArray := prog_1_method_9_code
def yX5_read : MethodName := ⟨RX5, "read", "()I"⟩
abbrev cX5_of : ByteArray := prog_1_method_10_code
def yX5_of : MethodName := ⟨RX5, "of", "(II)I"⟩
abbrev cX5_group : ByteArray := prog_1_method_11_code
def yX5_group : MethodName := ⟨RX5, "group", "(II)I"⟩
abbrev cX5_at : ByteArray := prog_1_method_12_code
def yX5_at : MethodName := ⟨RX5, "at", "(II)I"⟩
abbrev cX5_count : ByteArray := prog_1_method_13_code
def yX5_count : MethodName := ⟨RX5, "count", "(I)I"⟩
abbrev cX5_blame : ByteArray := prog_1_method_14_code
def yX5_blame : MethodName := ⟨RX5, "blame", "(I)I"⟩
abbrev cX5_speedFor : ByteArray := prog_1_method_15_code
def yX5_speedFor : MethodName := ⟨RX5, "speedFor", "(I)I"⟩
abbrev cX5_seenIf : ByteArray := prog_1_method_16_code
def yX5_seenIf : MethodName := ⟨RX5, "seenIf", "(II)I"⟩
abbrev cX5_bestCue : ByteArray := prog_1_method_17_code
def yX5_bestCue : MethodName := ⟨RX5, "bestCue", "(III)I"⟩
abbrev cX5_put : ByteArray := prog_1_method_18_code
def yX5_put : MethodName := ⟨RX5, "put", "(J)I"⟩
abbrev cX5_wipe : ByteArray := prog_1_method_19_code
def yX5_wipe : MethodName := ⟨RX5, "wipe", "()I"⟩
abbrev cX5_fault : ByteArray := prog_1_method_20_code
def yX5_fault : MethodName := ⟨RX5, "fault", "()I"⟩
abbrev cX5_undo : ByteArray := prog_1_method_21_code
def yX5_undo : MethodName := ⟨RX5, "undo", "()I"⟩
abbrev cX5_save : ByteArray := prog_1_method_22_code
def yX5_save : MethodName := ⟨RX5, "save", "(I)I"⟩
abbrev cX5_restore : ByteArray := prog_1_method_23_code
def yX5_restore : MethodName := ⟨RX5, "restore", "(I)I"⟩
abbrev cX5_addAsChange : ByteArray := prog_1_method_24_code
def yX5_addAsChange : MethodName := ⟨RX5, "addAsChange", "(III)I"⟩
abbrev cX5_firstNumberOf : ByteArray := prog_1_method_25_code
def yX5_firstNumberOf : MethodName := ⟨RX5, "firstNumberOf", "(I)I"⟩
abbrev cX5_isWithin : ByteArray := prog_1_method_26_code
def yX5_isWithin : MethodName := ⟨RX5, "isWithin", "(III)Z"⟩
abbrev cX5_isGroup : ByteArray := prog_1_method_27_code
def yX5_isGroup : MethodName := ⟨RX5, "isGroup", "(I)Z"⟩
abbrev cX5_isSpeed : ByteArray := prog_1_method_28_code
def yX5_isSpeed : MethodName := ⟨RX5, "isSpeed", "(I)Z"⟩
abbrev cX5_isSlot : ByteArray := prog_1_method_29_code
def yX5_isSlot : MethodName := ⟨RX5, "isSlot", "(I)Z"⟩
def RX6 : String := "CreditScrollModel"
def TX6 : u_T := fun k => match k with
  | 0 => ("CreditScrollModel", "z", "[I", true)
  | 1 => ("CreditScrollModel", "past", "[I", true)
  | 2 => ("CreditScrollModel", "slots", "[I", true)
  | 3 => ("CreditScrollModel", "isSaved", "[Z", true)
  | 4 => ("CreditScrollModel", "pastMany", "I", false)
  | 5 => ("CreditScrollModel", "pad", "[C", true)
  | 6 => ("CreditScrollModel", "typed", "I", false)
  | 7 => ("CreditScrollModel", "above", "[I", true)
  | 8 => ("CreditScrollModel", "ticks", "[I", true)
  | 9 => ("CreditScrollModel", "first", "[I", true)
  | 10 => ("CreditScrollModel", "last", "[I", true)
  | 11 => ("CreditScrollModel", "moved", "I", false)
  | 12 => ("CreditScrollModel", "cuesBefore", "[I", true)
  | 13 => ("CreditScrollModel", "read", "[I", true)
  | 14 => ("CreditScrollModel", "readMany", "I", false)
  | 15 => ("CreditScrollModel", "spot", "I", false)
  | _ => ("CreditScrollModel", "wrong", "I", false)
def tyX6 : Nat → FieldType := fun k => match k with
  | 0 => .array .int
  | 1 => .array .int
  | 2 => .array .int
  | 3 => .array .boolean
  | 4 => .int
  | 5 => .array .char
  | 6 => .int
  | 7 => .array .int
  | 8 => .array .int
  | 9 => .array .int
  | 10 => .array .int
  | 11 => .int
  | 12 => .array .int
  | 13 => .array .int
  | 14 => .int
  | 15 => .int
  | _ => .int
abbrev wsX60 : List Cond := u_ws RX6 TX6 17
theorem nmX6 : ∀ a, a < 17 → ∀ b, b < 17 → a ≠ b → (TX6 a).2.1 ≠ (TX6 b).2.1 := by decide +kernel
theorem tyX6_ok : ∀ k, k < 17 → parseFieldDescriptor (TX6 k).2.2.1 = some (tyX6 k) := by decide +kernel
abbrev cX6_init : ByteArray := prog_8_method_1_code
def yX6_init : MethodName := ⟨RX6, "<init>", "()V"⟩
abbrev cX6_in : ByteArray := prog_8_method_2_code
def yX6_in : MethodName := ⟨RX6, "in", "(III)Z"⟩
abbrev cX6_isLine : ByteArray := prog_8_method_3_code
def yX6_isLine : MethodName := ⟨RX6, "isLine", "(I)Z"⟩
abbrev cX6_isGroup : ByteArray := prog_8_method_4_code
def yX6_isGroup : MethodName := ⟨RX6, "isGroup", "(I)Z"⟩
abbrev cX6_isSpeed : ByteArray := prog_8_method_5_code
def yX6_isSpeed : MethodName := ⟨RX6, "isSpeed", "(I)Z"⟩
abbrev cX6_its : ByteArray := prog_8_method_6_code
def yX6_its : MethodName := ⟨RX6, "its", "(II)I"⟩
abbrev cX6_isNameOf : ByteArray := prog_8_method_7_code
def yX6_isNameOf : MethodName := ⟨RX6, "isNameOf", "(II)Z"⟩
abbrev cX6_record : ByteArray := prog_8_method_8_code
def yX6_record : MethodName := ⟨RX6, "record", "()V"⟩
abbrev cX6_undo : ByteArray := prog_8_method_9_code
def yX6_undo : MethodName := ⟨RX6, "undo", "()I"⟩
abbrev cX6_save : ByteArray := prog_8_method_10_code
def yX6_save : MethodName := ⟨RX6, "save", "(I)I"⟩
abbrev cX6_restore : ByteArray := prog_8_method_11_code
def yX6_restore : MethodName := ⟨RX6, "restore", "(I)I"⟩
abbrev cX6_height : ByteArray := prog_8_method_12_code
def yX6_height : MethodName := ⟨RX6, "height", "(I)I"⟩
abbrev cX6_begin : ByteArray := prog_8_method_13_code
def yX6_begin : MethodName := ⟨RX6, "begin", "()V"⟩
abbrev cX6_speedNow : ByteArray := prog_8_method_14_code
def yX6_speedNow : MethodName := ⟨RX6, "speedNow", "()I"⟩
abbrev cX6_isSeen : ByteArray := prog_8_method_15_code
def yX6_isSeen : MethodName := ⟨RX6, "isSeen", "(I)Z"⟩
abbrev cX6_run : ByteArray := prog_8_method_16_code
def yX6_run : MethodName := ⟨RX6, "run", "()I"⟩
abbrev cX6_namesOf : ByteArray := prog_8_method_17_code
def yX6_namesOf : MethodName := ⟨RX6, "namesOf", "(I)I"⟩
abbrev cX6_shortest : ByteArray := prog_8_method_18_code
def yX6_shortest : MethodName := ⟨RX6, "shortest", "(I)I"⟩
abbrev cX6_spread : ByteArray := prog_8_method_19_code
def yX6_spread : MethodName := ⟨RX6, "spread", "(I)I"⟩
abbrev cX6_firstName : ByteArray := prog_8_method_20_code
def yX6_firstName : MethodName := ⟨RX6, "firstName", "(I)I"⟩
abbrev cX6_leastOf : ByteArray := prog_8_method_21_code
def yX6_leastOf : MethodName := ⟨RX6, "leastOf", "(I)I"⟩
abbrev cX6_mostOf : ByteArray := prog_8_method_22_code
def yX6_mostOf : MethodName := ⟨RX6, "mostOf", "(I)I"⟩
abbrev cX6_set : ByteArray := prog_8_method_23_code
def yX6_set : MethodName := ⟨RX6, "set", "(II)I"⟩
abbrev cX6_add : ByteArray := prog_8_method_24_code
def yX6_add : MethodName := ⟨RX6, "add", "(IIII)I"⟩
abbrev cX6_name : ByteArray := prog_8_method_25_code
def yX6_name : MethodName := ⟨RX6, "name", "(II)I"⟩
abbrev cX6_line : ByteArray := prog_8_method_26_code
def yX6_line : MethodName := ⟨RX6, "line", "(I)I"⟩
abbrev cX6_cue : ByteArray := prog_8_method_27_code
def yX6_cue : MethodName := ⟨RX6, "cue", "(II)I"⟩
abbrev cX6_exchange : ByteArray := prog_8_method_28_code
def yX6_exchange : MethodName := ⟨RX6, "exchange", "(I)V"⟩
abbrev cX6_move : ByteArray := prog_8_method_29_code
def yX6_move : MethodName := ⟨RX6, "move", "(II)I"⟩
abbrev cX6_drop : ByteArray := prog_8_method_30_code
def yX6_drop : MethodName := ⟨RX6, "drop", "(I)I"⟩
abbrev cX6_turnOnce : ByteArray := prog_8_method_31_code
def yX6_turnOnce : MethodName := ⟨RX6, "turnOnce", "(I)V"⟩
abbrev cX6_turn : ByteArray := prog_8_method_32_code
def yX6_turn : MethodName := ⟨RX6, "turn", "(II)I"⟩
abbrev cX6_of : ByteArray := prog_8_method_33_code
def yX6_of : MethodName := ⟨RX6, "of", "(II)I"⟩
abbrev cX6_group : ByteArray := prog_8_method_34_code
def yX6_group : MethodName := ⟨RX6, "group", "(II)I"⟩
abbrev cX6_seenNow : ByteArray := prog_8_method_35_code
def yX6_seenNow : MethodName := ⟨RX6, "seenNow", "(I)I"⟩
abbrev cX6_at : ByteArray := prog_8_method_36_code
def yX6_at : MethodName := ⟨RX6, "at", "(II)I"⟩
abbrev cX6_unequal : ByteArray := prog_8_method_37_code
def yX6_unequal : MethodName := ⟨RX6, "unequal", "()I"⟩
abbrev cX6_names : ByteArray := prog_8_method_38_code
def yX6_names : MethodName := ⟨RX6, "names", "(Z)I"⟩
abbrev cX6_cues : ByteArray := prog_8_method_39_code
def yX6_cues : MethodName := ⟨RX6, "cues", "()I"⟩
abbrev cX6_count : ByteArray := prog_8_method_40_code
def yX6_count : MethodName := ⟨RX6, "count", "(I)I"⟩
abbrev cX6_allSpreads : ByteArray := prog_8_method_41_code
def yX6_allSpreads : MethodName := ⟨RX6, "allSpreads", "()I"⟩
abbrev cX6_blame : ByteArray := prog_8_method_42_code
def yX6_blame : MethodName := ⟨RX6, "blame", "(I)I"⟩
abbrev cX6_areSeenFor : ByteArray := prog_8_method_43_code
def yX6_areSeenFor : MethodName := ⟨RX6, "areSeenFor", "(I)Z"⟩
abbrev cX6_speedFor : ByteArray := prog_8_method_44_code
def yX6_speedFor : MethodName := ⟨RX6, "speedFor", "(I)I"⟩
abbrev cX6_seenIf : ByteArray := prog_8_method_45_code
def yX6_seenIf : MethodName := ⟨RX6, "seenIf", "(II)I"⟩
abbrev cX6_bestCue : ByteArray := prog_8_method_46_code
def yX6_bestCue : MethodName := ⟨RX6, "bestCue", "(III)I"⟩
abbrev cX6_put : ByteArray := prog_8_method_47_code
def yX6_put : MethodName := ⟨RX6, "put", "(J)I"⟩
abbrev cX6_wipe : ByteArray := prog_8_method_48_code
def yX6_wipe : MethodName := ⟨RX6, "wipe", "()I"⟩
abbrev cX6_letter : ByteArray := prog_8_method_49_code
def yX6_letter : MethodName := ⟨RX6, "letter", "()I"⟩
abbrev cX6_wants : ByteArray := prog_8_method_50_code
def yX6_wants : MethodName := ⟨RX6, "wants", "(Z)V"⟩
abbrev cX6_number : ByteArray := prog_8_method_51_code
def yX6_number : MethodName := ⟨RX6, "number", "(II)I"⟩
abbrev cX6_readLine : ByteArray := prog_8_method_52_code
def yX6_readLine : MethodName := ⟨RX6, "readLine", "()V"⟩
abbrev cX6_readPad : ByteArray := prog_8_method_53_code
def yX6_readPad : MethodName := ⟨RX6, "readPad", "()I"⟩
abbrev cX6_fault : ByteArray := prog_8_method_54_code
def yX6_fault : MethodName := ⟨RX6, "fault", "()I"⟩
abbrev cX6_read : ByteArray := prog_8_method_55_code
def yX6_read : MethodName := ⟨RX6, "read", "()I"⟩
def RL : String := "CreditScrollLaw"
abbrev cL_law : ByteArray := code
def yL_law : MethodName := ⟨RL, "law", "([I)Z"⟩
abbrev vwCl : List vw_C := [(RX0, TX0, 9), (RX1, TX1, 6), (RX2, TX2, 3), (RX3, TX3, 3), (RX4, TX4, 2), (RX5, TX5, 7), (RX6, TX6, 17)]
end
section
-- 0 CreditScroll$Course.init
def ins_0 : List (Nat × Instr × Nat) := [(0, .aload_n 0, 1), (1, .invokespecial 3, 3), (4, .aload_n 0, 1), (5, .bipush 40, 2), (7, .newarray .int, 2), (9, .putfield 9, 3), (12, .aload_n 0, 1), (13, .bipush 40, 2), (15, .newarray .int, 2), (17, .putfield 15, 3), (20, .aload_n 0, 1), (21, .bipush 40, 2), (23, .newarray .int, 2), (25, .putfield 18, 3), (28, .aload_n 0, 1), (29, .bipush 41, 2), (31, .newarray .int, 2), (33, .putfield 21, 3), (36, .aload_n 0, 1), (37, .bipush 41, 2), (39, .newarray .int, 2), (41, .putfield 24, 3), (44, .aload_n 0, 1), (45, .bipush 41, 2), (47, .newarray .int, 2), (49, .putfield 27, 3), (52, .aload_n 0, 1), (53, .aload_n 1, 1), (54, .putfield 30, 3), (57, .return_, 1)]
set_option maxRecDepth 100000 in
theorem chk_0 : (ins_0).all (fun e => decide (decode cX0_init e.1 = .ok e.2)) = true := by decide +kernel
-- 1 CreditScroll$Course.follow
def ins_1 : List (Nat × Instr × Nat) := [(0, .aload_n 0, 1), (1, .invokevirtual 34, 3), (4, .aload_n 0, 1), (5, .invokevirtual 37, 3), (8, .aload_n 0, 1), (9, .invokevirtual 40, 3), (12, .return_, 1)]
set_option maxRecDepth 100000 in
theorem chk_1 : (ins_1).all (fun e => decide (decode cX0_follow e.1 = .ok e.2)) = true := by decide +kernel
-- 2 CreditScroll$Course.layOut
def ins_2 : List (Nat × Instr × Nat) := [(0, .aload_n 0, 1), (1, .iconst 0, 1), (2, .putfield 43, 3), (5, .iconst 0, 1), (6, .istore_n 1, 1), (7, .iload_n 1, 1), (8, .aload_n 0, 1), (9, .getfield 30, 3), (12, .getfield 47, 3), (15, .if_icmp .ge 36, 3), (18, .aload_n 0, 1), (19, .getfield 9, 3), (22, .iload_n 1, 1), (23, .aload_n 0, 1), (24, .getfield 43, 3), (27, .iastore, 1), (28, .aload_n 0, 1), (29, .dup, 1), (30, .getfield 43, 3), (33, .aload_n 0, 1), (34, .getfield 30, 3), (37, .iload_n 1, 1), (38, .invokevirtual 52, 3), (41, .iadd, 1), (42, .putfield 43, 3), (45, .iinc 1 1, 3), (48, .goto (-41), 3), (51, .return_, 1)]
set_option maxRecDepth 100000 in
theorem chk_2 : (ins_2).all (fun e => decide (decode cX0_layOut e.1 = .ok e.2)) = true := by decide +kernel
-- 3 CreditScroll$Course.pace
def ins_3 : List (Nat × Instr × Nat) := [(0, .aload_n 0, 1), (1, .iconst 0, 1), (2, .putfield 56, 3), (5, .aload_n 0, 1), (6, .iconst 0, 1), (7, .iconst 0, 1), (8, .aload_n 0, 1), (9, .getfield 30, 3), (12, .getfield 59, 3), (15, .iconst 1, 1), (16, .iaload, 1), (17, .invokevirtual 62, 3), (20, .iconst 0, 1), (21, .istore_n 1, 1), (22, .iload_n 1, 1), (23, .aload_n 0, 1), (24, .getfield 30, 3), (27, .getfield 47, 3), (30, .if_icmp .ge 43, 3), (33, .aload_n 0, 1), (34, .getfield 30, 3), (37, .getfield 66, 3), (40, .iload_n 1, 1), (41, .iaload, 1), (42, .ifCond .eq 25, 3), (45, .aload_n 0, 1), (46, .bipush 10, 2), (48, .aload_n 0, 1), (49, .getfield 9, 3), (52, .iload_n 1, 1), (53, .iaload, 1), (54, .imul, 1), (55, .aload_n 0, 1), (56, .getfield 30, 3), (59, .getfield 66, 3), (62, .iload_n 1, 1), (63, .iaload, 1), (64, .invokevirtual 69, 3), (67, .iinc 1 1, 3), (70, .goto (-48), 3), (73, .return_, 1)]
set_option maxRecDepth 100000 in
theorem chk_3 : (ins_3).all (fun e => decide (decode cX0_pace e.1 = .ok e.2)) = true := by decide +kernel
-- 4 CreditScroll$Course.changeSpeed
def ins_4 : List (Nat × Instr × Nat) := [(0, .aload_n 0, 1), (1, .getfield 56, 3), (4, .iconst 1, 1), (5, .isub, 1), (6, .istore_n 3, 1), (7, .iload_n 3, 1), (8, .ifCond .ge 4, 3), (11, .return_, 1), (12, .aload_n 0, 1), (13, .iload_n 3, 1), (14, .iload_n 1, 1), (15, .invokevirtual 73, 3), (18, .istore 4, 2), (20, .iload 4, 2), (22, .ifCond .le 36, 3), (25, .aload_n 0, 1), (26, .aload_n 0, 1), (27, .getfield 21, 3), (30, .iload_n 3, 1), (31, .iaload, 1), (32, .iload 4, 2), (34, .iadd, 1), (35, .aload_n 0, 1), (36, .getfield 24, 3), (39, .iload_n 3, 1), (40, .iaload, 1), (41, .iload 4, 2), (43, .aload_n 0, 1), (44, .getfield 27, 3), (47, .iload_n 3, 1), (48, .iaload, 1), (49, .imul, 1), (50, .iadd, 1), (51, .iload_n 2, 1), (52, .invokevirtual 62, 3), (55, .goto 10, 3), (58, .aload_n 0, 1), (59, .getfield 27, 3), (62, .iload_n 3, 1), (63, .iload_n 2, 1), (64, .iastore, 1), (65, .return_, 1)]
set_option maxRecDepth 100000 in
theorem chk_4 : (ins_4).all (fun e => decide (decode cX0_changeSpeed e.1 = .ok e.2)) = true := by decide +kernel
-- 5 CreditScroll$Course.begin
def ins_5 : List (Nat × Instr × Nat) := [(0, .aload_n 0, 1), (1, .getfield 56, 3), (4, .bipush 40, 2), (6, .if_icmp .gt 43, 3), (9, .aload_n 0, 1), (10, .getfield 21, 3), (13, .aload_n 0, 1), (14, .getfield 56, 3), (17, .iload_n 1, 1), (18, .iastore, 1), (19, .aload_n 0, 1), (20, .getfield 24, 3), (23, .aload_n 0, 1), (24, .getfield 56, 3), (27, .iload_n 2, 1), (28, .iastore, 1), (29, .aload_n 0, 1), (30, .getfield 27, 3), (33, .aload_n 0, 1), (34, .getfield 56, 3), (37, .iload_n 3, 1), (38, .iastore, 1), (39, .aload_n 0, 1), (40, .dup, 1), (41, .getfield 56, 3), (44, .iconst 1, 1), (45, .iadd, 1), (46, .putfield 56, 3), (49, .return_, 1)]
set_option maxRecDepth 100000 in
theorem chk_5 : (ins_5).all (fun e => decide (decode cX0_begin e.1 = .ok e.2)) = true := by decide +kernel
-- 6 CreditScroll$Course.watch
def ins_6 : List (Nat × Instr × Nat) := [(0, .iconst 0, 1), (1, .istore_n 1, 1), (2, .iconst 0, 1), (3, .istore_n 2, 1), (4, .iconst 0, 1), (5, .istore_n 3, 1), (6, .iload_n 3, 1), (7, .aload_n 0, 1), (8, .getfield 30, 3), (11, .getfield 47, 3), (14, .if_icmp .ge 101, 3), (17, .bipush 10, 2), (19, .aload_n 0, 1), (20, .getfield 9, 3), (23, .iload_n 3, 1), (24, .iaload, 1), (25, .aload_n 0, 1), (26, .getfield 30, 3), (29, .iload_n 3, 1), (30, .invokevirtual 52, 3), (33, .iadd, 1), (34, .imul, 1), (35, .istore 4, 2), (37, .bipush 10, 2), (39, .aload_n 0, 1), (40, .getfield 9, 3), (43, .iload_n 3, 1), (44, .iaload, 1), (45, .aload_n 0, 1), (46, .getfield 30, 3), (49, .getfield 59, 3), (52, .iconst 0, 1), (53, .iaload, 1), (54, .iadd, 1), (55, .imul, 1), (56, .iconst 1, 1), (57, .iadd, 1), (58, .istore 5, 2), (60, .aload_n 0, 1), (61, .iload 4, 2), (63, .iload_n 1, 1), (64, .invokevirtual 77, 3), (67, .istore_n 1, 1), (68, .aload_n 0, 1), (69, .iload 5, 2), (71, .iload_n 2, 1), (72, .invokevirtual 77, 3), (75, .istore_n 2, 1), (76, .aload_n 0, 1), (77, .getfield 15, 3), (80, .iload_n 3, 1), (81, .aload_n 0, 1), (82, .iload_n 1, 1), (83, .iload 4, 2), (85, .invokevirtual 80, 3), (88, .iastore, 1), (89, .aload_n 0, 1), (90, .getfield 18, 3), (93, .iload_n 3, 1), (94, .aload_n 0, 1), (95, .iload_n 2, 1), (96, .iload 5, 2), (98, .invokevirtual 80, 3), (101, .aload_n 0, 1), (102, .getfield 15, 3), (105, .iload_n 3, 1), (106, .iaload, 1), (107, .isub, 1), (108, .iastore, 1), (109, .iinc 3 1, 3), (112, .goto (-106), 3), (115, .return_, 1)]
set_option maxRecDepth 100000 in
theorem chk_6 : (ins_6).all (fun e => decide (decode cX0_watch e.1 = .ok e.2)) = true := by decide +kernel
-- 7 CreditScroll$Course.stretchReaching
def ins_7 : List (Nat × Instr × Nat) := [(0, .iload_n 2, 1), (1, .istore_n 3, 1), (2, .iload_n 2, 1), (3, .iconst 1, 1), (4, .iadd, 1), (5, .istore 4, 2), (7, .iload 4, 2), (9, .aload_n 0, 1), (10, .getfield 56, 3), (13, .if_icmp .ge 23, 3), (16, .aload_n 0, 1), (17, .getfield 24, 3), (20, .iload 4, 2), (22, .iaload, 1), (23, .iload_n 1, 1), (24, .if_icmp .ge 12, 3), (27, .iload 4, 2), (29, .istore_n 3, 1), (30, .iinc 4 1, 3), (33, .goto (-26), 3), (36, .iload_n 3, 1), (37, .ireturn, 1)]
set_option maxRecDepth 100000 in
theorem chk_7 : (ins_7).all (fun e => decide (decode cX0_stretchReaching e.1 = .ok e.2)) = true := by decide +kernel
-- 8 CreditScroll$Course.timeIn
def ins_8 : List (Nat × Instr × Nat) := [(0, .aload_n 0, 1), (1, .getfield 21, 3), (4, .iload_n 1, 1), (5, .iaload, 1), (6, .aload_n 0, 1), (7, .iload_n 1, 1), (8, .iload_n 2, 1), (9, .invokevirtual 73, 3), (12, .iadd, 1), (13, .ireturn, 1)]
set_option maxRecDepth 100000 in
theorem chk_8 : (ins_8).all (fun e => decide (decode cX0_timeIn e.1 = .ok e.2)) = true := by decide +kernel
-- 9 CreditScroll$Course.ticksIn
def ins_9 : List (Nat × Instr × Nat) := [(0, .iload_n 2, 1), (1, .aload_n 0, 1), (2, .getfield 24, 3), (5, .iload_n 1, 1), (6, .iaload, 1), (7, .isub, 1), (8, .istore_n 3, 1), (9, .aload_n 0, 1), (10, .getfield 27, 3), (13, .iload_n 1, 1), (14, .iaload, 1), (15, .istore 4, 2), (17, .iload_n 3, 1), (18, .ifCond .le 8, 3), (21, .iload 4, 2), (23, .ifCond .gt 7, 3), (26, .iconst 0, 1), (27, .goto 12, 3), (30, .iload_n 3, 1), (31, .iload 4, 2), (33, .iadd, 1), (34, .iconst 1, 1), (35, .isub, 1), (36, .iload 4, 2), (38, .idiv, 1), (39, .ireturn, 1)]
set_option maxRecDepth 100000 in
theorem chk_9 : (ins_9).all (fun e => decide (decode cX0_ticksIn e.1 = .ok e.2)) = true := by decide +kernel
-- 10 CreditScroll$Course.ticksInAll
def ins_10 : List (Nat × Instr × Nat) := [(0, .aload_n 0, 1), (1, .getfield 30, 3), (4, .getfield 47, 3), (7, .ifCond .ne 5, 3), (10, .iconst 0, 1), (11, .ireturn, 1), (12, .bipush 10, 2), (14, .aload_n 0, 1), (15, .getfield 43, 3), (18, .aload_n 0, 1), (19, .getfield 30, 3), (22, .getfield 59, 3), (25, .iconst 0, 1), (26, .iaload, 1), (27, .iadd, 1), (28, .imul, 1), (29, .istore_n 1, 1), (30, .aload_n 0, 1), (31, .aload_n 0, 1), (32, .iload_n 1, 1), (33, .iconst 0, 1), (34, .invokevirtual 77, 3), (37, .iload_n 1, 1), (38, .invokevirtual 80, 3), (41, .ireturn, 1)]
set_option maxRecDepth 100000 in
theorem chk_10 : (ins_10).all (fun e => decide (decode cX0_ticksInAll e.1 = .ok e.2)) = true := by decide +kernel
-- 11 CreditScroll$Course.stretchAt
def ins_11 : List (Nat × Instr × Nat) := [(0, .iconst 0, 1), (1, .istore_n 2, 1), (2, .iconst 1, 1), (3, .istore_n 3, 1), (4, .iload_n 3, 1), (5, .aload_n 0, 1), (6, .getfield 56, 3), (9, .if_icmp .ge 21, 3), (12, .aload_n 0, 1), (13, .getfield 21, 3), (16, .iload_n 3, 1), (17, .iaload, 1), (18, .iload_n 1, 1), (19, .if_icmp .gt 11, 3), (22, .iload_n 3, 1), (23, .istore_n 2, 1), (24, .iinc 3 1, 3), (27, .goto (-23), 3), (30, .iload_n 2, 1), (31, .ireturn, 1)]
set_option maxRecDepth 100000 in
theorem chk_11 : (ins_11).all (fun e => decide (decode cX0_stretchAt e.1 = .ok e.2)) = true := by decide +kernel
-- 12 CreditScroll$Course.speedAt
def ins_12 : List (Nat × Instr × Nat) := [(0, .aload_n 0, 1), (1, .getfield 27, 3), (4, .aload_n 0, 1), (5, .iload_n 1, 1), (6, .invokevirtual 83, 3), (9, .iaload, 1), (10, .ireturn, 1)]
set_option maxRecDepth 100000 in
theorem chk_12 : (ins_12).all (fun e => decide (decode cX0_speedAt e.1 = .ok e.2)) = true := by decide +kernel
-- 13 CreditScroll$Course.movedAt
def ins_13 : List (Nat × Instr × Nat) := [(0, .aload_n 0, 1), (1, .iload_n 1, 1), (2, .invokevirtual 83, 3), (5, .istore_n 2, 1), (6, .aload_n 0, 1), (7, .getfield 24, 3), (10, .iload_n 2, 1), (11, .iaload, 1), (12, .iload_n 1, 1), (13, .aload_n 0, 1), (14, .getfield 21, 3), (17, .iload_n 2, 1), (18, .iaload, 1), (19, .isub, 1), (20, .aload_n 0, 1), (21, .getfield 27, 3), (24, .iload_n 2, 1), (25, .iaload, 1), (26, .imul, 1), (27, .iadd, 1), (28, .ireturn, 1)]
set_option maxRecDepth 100000 in
theorem chk_13 : (ins_13).all (fun e => decide (decode cX0_movedAt e.1 = .ok e.2)) = true := by decide +kernel
-- 14 CreditScroll$Course.isSeenAt
def ins_14 : List (Nat × Instr × Nat) := [(0, .iload_n 2, 1), (1, .aload_n 0, 1), (2, .getfield 15, 3), (5, .iload_n 1, 1), (6, .iaload, 1), (7, .if_icmp .lt 24, 3), (10, .iload_n 2, 1), (11, .aload_n 0, 1), (12, .getfield 15, 3), (15, .iload_n 1, 1), (16, .iaload, 1), (17, .aload_n 0, 1), (18, .getfield 18, 3), (21, .iload_n 1, 1), (22, .iaload, 1), (23, .iadd, 1), (24, .if_icmp .ge 7, 3), (27, .iconst 1, 1), (28, .goto 4, 3), (31, .iconst 0, 1), (32, .ireturn, 1)]
set_option maxRecDepth 100000 in
theorem chk_14 : (ins_14).all (fun e => decide (decode cX0_isSeenAt e.1 = .ok e.2)) = true := by decide +kernel
-- 15 CreditScroll$Course.firstSeenAt
def ins_15 : List (Nat × Instr × Nat) := [(0, .iconst 0, 1), (1, .istore_n 2, 1), (2, .iload_n 2, 1), (3, .aload_n 0, 1), (4, .getfield 30, 3), (7, .getfield 47, 3), (10, .if_icmp .ge 20, 3), (13, .aload_n 0, 1), (14, .iload_n 2, 1), (15, .iload_n 1, 1), (16, .invokevirtual 86, 3), (19, .ifCond .eq 5, 3), (22, .iload_n 2, 1), (23, .ireturn, 1), (24, .iinc 2 1, 3), (27, .goto (-25), 3), (30, .bipush (-6), 2), (32, .ireturn, 1)]
set_option maxRecDepth 100000 in
theorem chk_15 : (ins_15).all (fun e => decide (decode cX0_firstSeenAt e.1 = .ok e.2)) = true := by decide +kernel
-- 16 CreditScroll$Course.lastSeenAt
def ins_16 : List (Nat × Instr × Nat) := [(0, .aload_n 0, 1), (1, .getfield 30, 3), (4, .getfield 47, 3), (7, .iconst 1, 1), (8, .isub, 1), (9, .istore_n 2, 1), (10, .iload_n 2, 1), (11, .ifCond .lt 20, 3), (14, .aload_n 0, 1), (15, .iload_n 2, 1), (16, .iload_n 1, 1), (17, .invokevirtual 86, 3), (20, .ifCond .eq 5, 3), (23, .iload_n 2, 1), (24, .ireturn, 1), (25, .iinc 2 (-1), 3), (28, .goto (-18), 3), (31, .bipush (-6), 2), (33, .ireturn, 1)]
set_option maxRecDepth 100000 in
theorem chk_16 : (ins_16).all (fun e => decide (decode cX0_lastSeenAt e.1 = .ok e.2)) = true := by decide +kernel
-- 17 CreditScroll$Course.howManySeenAt
def ins_17 : List (Nat × Instr × Nat) := [(0, .iconst 0, 1), (1, .istore_n 2, 1), (2, .iconst 0, 1), (3, .istore_n 3, 1), (4, .iload_n 3, 1), (5, .aload_n 0, 1), (6, .getfield 30, 3), (9, .getfield 47, 3), (12, .if_icmp .ge 21, 3), (15, .aload_n 0, 1), (16, .iload_n 3, 1), (17, .iload_n 1, 1), (18, .invokevirtual 86, 3), (21, .ifCond .eq 6, 3), (24, .iinc 2 1, 3), (27, .iinc 3 1, 3), (30, .goto (-26), 3), (33, .iload_n 2, 1), (34, .ireturn, 1)]
set_option maxRecDepth 100000 in
theorem chk_17 : (ins_17).all (fun e => decide (decode cX0_howManySeenAt e.1 = .ok e.2)) = true := by decide +kernel
-- 18 CreditScroll$Course.leastSeenLineOf
def ins_18 : List (Nat × Instr × Nat) := [(0, .bipush (-6), 2), (2, .istore_n 2, 1), (3, .iconst 0, 1), (4, .istore_n 3, 1), (5, .iload_n 3, 1), (6, .aload_n 0, 1), (7, .getfield 30, 3), (10, .getfield 47, 3), (13, .if_icmp .ge 45, 3), (16, .aload_n 0, 1), (17, .getfield 30, 3), (20, .getfield 90, 3), (23, .iload_n 3, 1), (24, .iaload, 1), (25, .iload_n 1, 1), (26, .if_icmp .ne 26, 3), (29, .iload_n 2, 1), (30, .bipush (-6), 2), (32, .if_icmp .eq 18, 3), (35, .aload_n 0, 1), (36, .getfield 18, 3), (39, .iload_n 3, 1), (40, .iaload, 1), (41, .aload_n 0, 1), (42, .getfield 18, 3), (45, .iload_n 2, 1), (46, .iaload, 1), (47, .if_icmp .ge 5, 3), (50, .iload_n 3, 1), (51, .istore_n 2, 1), (52, .iinc 3 1, 3), (55, .goto (-50), 3), (58, .iload_n 2, 1), (59, .ireturn, 1)]
set_option maxRecDepth 100000 in
theorem chk_18 : (ins_18).all (fun e => decide (decode cX0_leastSeenLineOf e.1 = .ok e.2)) = true := by decide +kernel
-- 19 CreditScroll$Course.leastSeenOf
def ins_19 : List (Nat × Instr × Nat) := [(0, .aload_n 0, 1), (1, .iload_n 1, 1), (2, .invokevirtual 93, 3), (5, .istore_n 2, 1), (6, .iload_n 2, 1), (7, .bipush (-6), 2), (9, .if_icmp .ne 7, 3), (12, .iconst 0, 1), (13, .goto 9, 3), (16, .aload_n 0, 1), (17, .getfield 18, 3), (20, .iload_n 2, 1), (21, .iaload, 1), (22, .ireturn, 1)]
set_option maxRecDepth 100000 in
theorem chk_19 : (ins_19).all (fun e => decide (decode cX0_leastSeenOf e.1 = .ok e.2)) = true := by decide +kernel
-- 20 CreditScroll$Course.mostSeenOf
def ins_20 : List (Nat × Instr × Nat) := [(0, .iconst 0, 1), (1, .istore_n 2, 1), (2, .iconst 0, 1), (3, .istore_n 3, 1), (4, .iload_n 3, 1), (5, .aload_n 0, 1), (6, .getfield 30, 3), (9, .getfield 47, 3), (12, .if_icmp .ge 33, 3), (15, .aload_n 0, 1), (16, .getfield 30, 3), (19, .getfield 90, 3), (22, .iload_n 3, 1), (23, .iaload, 1), (24, .iload_n 1, 1), (25, .if_icmp .ne 14, 3), (28, .iload_n 2, 1), (29, .aload_n 0, 1), (30, .getfield 18, 3), (33, .iload_n 3, 1), (34, .iaload, 1), (35, .invokestatic 96, 3), (38, .istore_n 2, 1), (39, .iinc 3 1, 3), (42, .goto (-38), 3), (45, .iload_n 2, 1), (46, .ireturn, 1)]
set_option maxRecDepth 100000 in
theorem chk_20 : (ins_20).all (fun e => decide (decode cX0_mostSeenOf e.1 = .ok e.2)) = true := by decide +kernel
-- 21 CreditScroll$Course.spreadOf
def ins_21 : List (Nat × Instr × Nat) := [(0, .aload_n 0, 1), (1, .iload_n 1, 1), (2, .invokevirtual 101, 3), (5, .aload_n 0, 1), (6, .iload_n 1, 1), (7, .invokevirtual 104, 3), (10, .isub, 1), (11, .ireturn, 1)]
set_option maxRecDepth 100000 in
theorem chk_21 : (ins_21).all (fun e => decide (decode cX0_spreadOf e.1 = .ok e.2)) = true := by decide +kernel
-- 22 CreditScroll$Course.spreadsInAll
def ins_22 : List (Nat × Instr × Nat) := [(0, .iconst 0, 1), (1, .istore_n 1, 1), (2, .iconst 0, 1), (3, .istore_n 2, 1), (4, .iload_n 2, 1), (5, .bipush 8, 2), (7, .if_icmp .ge 17, 3), (10, .iload_n 1, 1), (11, .aload_n 0, 1), (12, .iload_n 2, 1), (13, .invokevirtual 107, 3), (16, .iadd, 1), (17, .istore_n 1, 1), (18, .iinc 2 1, 3), (21, .goto (-17), 3), (24, .iload_n 1, 1), (25, .ireturn, 1)]
set_option maxRecDepth 100000 in
theorem chk_22 : (ins_22).all (fun e => decide (decode cX0_spreadsInAll e.1 = .ok e.2)) = true := by decide +kernel
-- 23 CreditScroll$Course.unequalGroups
def ins_23 : List (Nat × Instr × Nat) := [(0, .iconst 0, 1), (1, .istore_n 1, 1), (2, .iconst 0, 1), (3, .istore_n 2, 1), (4, .iload_n 2, 1), (5, .bipush 8, 2), (7, .if_icmp .ge 20, 3), (10, .aload_n 0, 1), (11, .iload_n 2, 1), (12, .invokevirtual 107, 3), (15, .ifCond .eq 6, 3), (18, .iinc 1 1, 3), (21, .iinc 2 1, 3), (24, .goto (-20), 3), (27, .iload_n 1, 1), (28, .ireturn, 1)]
set_option maxRecDepth 100000 in
theorem chk_23 : (ins_23).all (fun e => decide (decode cX0_unequalGroups e.1 = .ok e.2)) = true := by decide +kernel
-- 24 CreditScroll$Course.neverSeenNames
def ins_24 : List (Nat × Instr × Nat) := [(0, .iconst 0, 1), (1, .istore_n 1, 1), (2, .iconst 0, 1), (3, .istore_n 2, 1), (4, .iload_n 2, 1), (5, .aload_n 0, 1), (6, .getfield 30, 3), (9, .getfield 47, 3), (12, .if_icmp .ge 33, 3), (15, .aload_n 0, 1), (16, .getfield 30, 3), (19, .getfield 110, 3), (22, .iload_n 2, 1), (23, .iaload, 1), (24, .ifCond .ne 15, 3), (27, .aload_n 0, 1), (28, .getfield 18, 3), (31, .iload_n 2, 1), (32, .iaload, 1), (33, .ifCond .ne 6, 3), (36, .iinc 1 1, 3), (39, .iinc 2 1, 3), (42, .goto (-38), 3), (45, .iload_n 1, 1), (46, .ireturn, 1)]
set_option maxRecDepth 100000 in
theorem chk_24 : (ins_24).all (fun e => decide (decode cX0_neverSeenNames e.1 = .ok e.2)) = true := by decide +kernel
-- 25 CreditScroll$Course.showsNamesFor
def ins_25 : List (Nat × Instr × Nat) := [(0, .iconst 0, 1), (1, .istore_n 2, 1), (2, .iload_n 2, 1), (3, .aload_n 0, 1), (4, .getfield 30, 3), (7, .getfield 47, 3), (10, .if_icmp .ge 33, 3), (13, .aload_n 0, 1), (14, .getfield 30, 3), (17, .getfield 110, 3), (20, .iload_n 2, 1), (21, .iaload, 1), (22, .ifCond .ne 15, 3), (25, .aload_n 0, 1), (26, .getfield 18, 3), (29, .iload_n 2, 1), (30, .iaload, 1), (31, .iload_n 1, 1), (32, .if_icmp .ge 5, 3), (35, .iconst 0, 1), (36, .ireturn, 1), (37, .iinc 2 1, 3), (40, .goto (-38), 3), (43, .iconst 1, 1), (44, .ireturn, 1)]
set_option maxRecDepth 100000 in
theorem chk_25 : (ins_25).all (fun e => decide (decode cX0_showsNamesFor e.1 = .ok e.2)) = true := by decide +kernel
-- 26 CreditScroll$Credits.init
def ins_26 : List (Nat × Instr × Nat) := [(0, .aload_n 0, 1), (1, .invokespecial 3, 3), (4, .aload_n 0, 1), (5, .iconst 3, 1), (6, .newarray .int, 2), (8, .putfield 9, 3), (11, .aload_n 0, 1), (12, .bipush 40, 2), (14, .newarray .int, 2), (16, .putfield 15, 3), (19, .aload_n 0, 1), (20, .bipush 40, 2), (22, .newarray .int, 2), (24, .putfield 18, 3), (27, .aload_n 0, 1), (28, .bipush 40, 2), (30, .newarray .int, 2), (32, .putfield 21, 3), (35, .aload_n 0, 1), (36, .bipush 40, 2), (38, .newarray .int, 2), (40, .putfield 24, 3), (43, .getstatic 27, 3), (46, .iconst 0, 1), (47, .aload_n 0, 1), (48, .getfield 9, 3), (51, .iconst 0, 1), (52, .iconst 3, 1), (53, .invokestatic 30, 3), (56, .return_, 1)]
set_option maxRecDepth 100000 in
theorem chk_26 : (ins_26).all (fun e => decide (decode cX1_init e.1 = .ok e.2)) = true := by decide +kernel
-- 27 CreditScroll$Credits.takeFrom
def ins_27 : List (Nat × Instr × Nat) := [(0, .aload_n 1, 1), (1, .getfield 9, 3), (4, .iconst 0, 1), (5, .aload_n 0, 1), (6, .getfield 9, 3), (9, .iconst 0, 1), (10, .iconst 3, 1), (11, .invokestatic 30, 3), (14, .aload_n 0, 1), (15, .iconst 0, 1), (16, .putfield 36, 3), (19, .aload_n 0, 1), (20, .aload_n 1, 1), (21, .invokevirtual 40, 3), (24, .return_, 1)]
set_option maxRecDepth 100000 in
theorem chk_27 : (ins_27).all (fun e => decide (decode cX1_takeFrom e.1 = .ok e.2)) = true := by decide +kernel
-- 28 CreditScroll$Credits.addAll
def ins_28 : List (Nat × Instr × Nat) := [(0, .iconst 0, 1), (1, .istore_n 2, 1), (2, .iload_n 2, 1), (3, .aload_n 1, 1), (4, .getfield 36, 3), (7, .if_icmp .ge 37, 3), (10, .aload_n 0, 1), (11, .aload_n 1, 1), (12, .getfield 15, 3), (15, .iload_n 2, 1), (16, .iaload, 1), (17, .aload_n 1, 1), (18, .getfield 18, 3), (21, .iload_n 2, 1), (22, .iaload, 1), (23, .aload_n 1, 1), (24, .getfield 21, 3), (27, .iload_n 2, 1), (28, .iaload, 1), (29, .aload_n 1, 1), (30, .getfield 24, 3), (33, .iload_n 2, 1), (34, .iaload, 1), (35, .invokevirtual 44, 3), (38, .iinc 2 1, 3), (41, .goto (-39), 3), (44, .return_, 1)]
set_option maxRecDepth 100000 in
theorem chk_28 : (ins_28).all (fun e => decide (decode cX1_addAll e.1 = .ok e.2)) = true := by decide +kernel
-- 29 CreditScroll$Credits.add
def ins_29 : List (Nat × Instr × Nat) := [(0, .aload_n 0, 1), (1, .getfield 36, 3), (4, .bipush 40, 2), (6, .if_icmp .ge 54, 3), (9, .aload_n 0, 1), (10, .getfield 15, 3), (13, .aload_n 0, 1), (14, .getfield 36, 3), (17, .iload_n 1, 1), (18, .iastore, 1), (19, .aload_n 0, 1), (20, .getfield 18, 3), (23, .aload_n 0, 1), (24, .getfield 36, 3), (27, .iload_n 2, 1), (28, .iastore, 1), (29, .aload_n 0, 1), (30, .getfield 21, 3), (33, .aload_n 0, 1), (34, .getfield 36, 3), (37, .iload_n 3, 1), (38, .iastore, 1), (39, .aload_n 0, 1), (40, .getfield 24, 3), (43, .aload_n 0, 1), (44, .getfield 36, 3), (47, .iload 4, 2), (49, .iastore, 1), (50, .aload_n 0, 1), (51, .dup, 1), (52, .getfield 36, 3), (55, .iconst 1, 1), (56, .iadd, 1), (57, .putfield 36, 3), (60, .return_, 1)]
set_option maxRecDepth 100000 in
theorem chk_29 : (ins_29).all (fun e => decide (decode cX1_add e.1 = .ok e.2)) = true := by decide +kernel
-- 30 CreditScroll$Credits.holds
def ins_30 : List (Nat × Instr × Nat) := [(0, .iload_n 1, 1), (1, .ifCond .lt 15, 3), (4, .iload_n 1, 1), (5, .aload_n 0, 1), (6, .getfield 36, 3), (9, .if_icmp .ge 7, 3), (12, .iconst 1, 1), (13, .goto 4, 3), (16, .iconst 0, 1), (17, .ireturn, 1)]
set_option maxRecDepth 100000 in
theorem chk_30 : (ins_30).all (fun e => decide (decode cX1_holds e.1 = .ok e.2)) = true := by decide +kernel
-- 31 CreditScroll$Credits.heightOf
def ins_31 : List (Nat × Instr × Nat) := [(0, .aload_n 0, 1), (1, .getfield 15, 3), (4, .iload_n 1, 1), (5, .iaload, 1), (6, .lookupswitch 35 #[(1, 26), (2, 28)], 26), (32, .iconst 2, 1), (33, .ireturn, 1), (34, .aload_n 0, 1), (35, .getfield 9, 3), (38, .iconst 2, 1), (39, .iaload, 1), (40, .ireturn, 1), (41, .iconst 1, 1), (42, .ireturn, 1)]
set_option maxRecDepth 100000 in
theorem chk_31 : (ins_31).all (fun e => decide (decode cX1_heightOf e.1 = .ok e.2)) = true := by decide +kernel
-- 32 CreditScroll$Credits.carry
def ins_32 : List (Nat × Instr × Nat) := [(0, .iload_n 1, 1), (1, .istore_n 3, 1), (2, .iload_n 3, 1), (3, .iload_n 2, 1), (4, .if_icmp .ge 17, 3), (7, .aload_n 0, 1), (8, .iload_n 3, 1), (9, .iload_n 3, 1), (10, .iconst 1, 1), (11, .iadd, 1), (12, .invokevirtual 48, 3), (15, .iinc 3 1, 3), (18, .goto (-16), 3), (21, .iload_n 1, 1), (22, .istore_n 3, 1), (23, .iload_n 3, 1), (24, .iload_n 2, 1), (25, .if_icmp .le 17, 3), (28, .aload_n 0, 1), (29, .iload_n 3, 1), (30, .iload_n 3, 1), (31, .iconst 1, 1), (32, .isub, 1), (33, .invokevirtual 48, 3), (36, .iinc 3 (-1), 3), (39, .goto (-16), 3), (42, .return_, 1)]
set_option maxRecDepth 100000 in
theorem chk_32 : (ins_32).all (fun e => decide (decode cX1_carry e.1 = .ok e.2)) = true := by decide +kernel
-- 33 CreditScroll$Credits.remove
def ins_33 : List (Nat × Instr × Nat) := [(0, .aload_n 0, 1), (1, .iload_n 1, 1), (2, .aload_n 0, 1), (3, .getfield 36, 3), (6, .iconst 1, 1), (7, .isub, 1), (8, .invokevirtual 52, 3), (11, .aload_n 0, 1), (12, .dup, 1), (13, .getfield 36, 3), (16, .iconst 1, 1), (17, .isub, 1), (18, .putfield 36, 3), (21, .return_, 1)]
set_option maxRecDepth 100000 in
theorem chk_33 : (ins_33).all (fun e => decide (decode cX1_remove e.1 = .ok e.2)) = true := by decide +kernel
-- 34 CreditScroll$Credits.exchange
def ins_34 : List (Nat × Instr × Nat) := [(0, .aload_n 0, 1), (1, .getfield 15, 3), (4, .iload_n 1, 1), (5, .iload_n 2, 1), (6, .invokestatic 55, 3), (9, .aload_n 0, 1), (10, .getfield 18, 3), (13, .iload_n 1, 1), (14, .iload_n 2, 1), (15, .invokestatic 55, 3), (18, .aload_n 0, 1), (19, .getfield 21, 3), (22, .iload_n 1, 1), (23, .iload_n 2, 1), (24, .invokestatic 55, 3), (27, .aload_n 0, 1), (28, .getfield 24, 3), (31, .iload_n 1, 1), (32, .iload_n 2, 1), (33, .invokestatic 55, 3), (36, .return_, 1)]
set_option maxRecDepth 100000 in
theorem chk_34 : (ins_34).all (fun e => decide (decode cX1_exchange e.1 = .ok e.2)) = true := by decide +kernel
-- 35 CreditScroll$Credits.exchangeIn
def ins_35 : List (Nat × Instr × Nat) := [(0, .aload_n 0, 1), (1, .iload_n 1, 1), (2, .iaload, 1), (3, .istore_n 3, 1), (4, .aload_n 0, 1), (5, .iload_n 1, 1), (6, .aload_n 0, 1), (7, .iload_n 2, 1), (8, .iaload, 1), (9, .iastore, 1), (10, .aload_n 0, 1), (11, .iload_n 2, 1), (12, .iload_n 3, 1), (13, .iastore, 1), (14, .return_, 1)]
set_option maxRecDepth 100000 in
theorem chk_35 : (ins_35).all (fun e => decide (decode cX1_exchangeIn e.1 = .ok e.2)) = true := by decide +kernel
-- 36 CreditScroll$Credits.rotateNumbers
def ins_36 : List (Nat × Instr × Nat) := [(0, .bipush (-6), 2), (2, .istore_n 2, 1), (3, .iconst 0, 1), (4, .istore_n 3, 1), (5, .iload_n 3, 1), (6, .aload_n 0, 1), (7, .getfield 36, 3), (10, .if_icmp .ge 36, 3), (13, .aload_n 0, 1), (14, .getfield 18, 3), (17, .iload_n 3, 1), (18, .iaload, 1), (19, .iload_n 1, 1), (20, .if_icmp .ne 20, 3), (23, .iload_n 2, 1), (24, .bipush (-6), 2), (26, .if_icmp .eq 12, 3), (29, .aload_n 0, 1), (30, .getfield 21, 3), (33, .iload_n 2, 1), (34, .iload_n 3, 1), (35, .invokestatic 55, 3), (38, .iload_n 3, 1), (39, .istore_n 2, 1), (40, .iinc 3 1, 3), (43, .goto (-38), 3), (46, .return_, 1)]
set_option maxRecDepth 100000 in
theorem chk_36 : (ins_36).all (fun e => decide (decode cX1_rotateNumbers e.1 = .ok e.2)) = true := by decide +kernel
-- 37 CreditScroll$Credits.firstNameOf
def ins_37 : List (Nat × Instr × Nat) := [(0, .iconst 0, 1), (1, .istore_n 2, 1), (2, .iload_n 2, 1), (3, .aload_n 0, 1), (4, .getfield 36, 3), (7, .if_icmp .ge 21, 3), (10, .aload_n 0, 1), (11, .getfield 18, 3), (14, .iload_n 2, 1), (15, .iaload, 1), (16, .iload_n 1, 1), (17, .if_icmp .ne 5, 3), (20, .iload_n 2, 1), (21, .ireturn, 1), (22, .iinc 2 1, 3), (25, .goto (-23), 3), (28, .bipush (-6), 2), (30, .ireturn, 1)]
set_option maxRecDepth 100000 in
theorem chk_37 : (ins_37).all (fun e => decide (decode cX1_firstNameOf e.1 = .ok e.2)) = true := by decide +kernel
-- 38 CreditScroll$Credits.namesOf
def ins_38 : List (Nat × Instr × Nat) := [(0, .iconst 0, 1), (1, .istore_n 2, 1), (2, .iconst 0, 1), (3, .istore_n 3, 1), (4, .iload_n 3, 1), (5, .aload_n 0, 1), (6, .getfield 36, 3), (9, .if_icmp .ge 22, 3), (12, .aload_n 0, 1), (13, .getfield 18, 3), (16, .iload_n 3, 1), (17, .iaload, 1), (18, .iload_n 1, 1), (19, .if_icmp .ne 6, 3), (22, .iinc 2 1, 3), (25, .iinc 3 1, 3), (28, .goto (-24), 3), (31, .iload_n 2, 1), (32, .ireturn, 1)]
set_option maxRecDepth 100000 in
theorem chk_38 : (ins_38).all (fun e => decide (decode cX1_namesOf e.1 = .ok e.2)) = true := by decide +kernel
-- 39 CreditScroll$Credits.namesInAll
def ins_39 : List (Nat × Instr × Nat) := [(0, .iconst 0, 1), (1, .istore_n 1, 1), (2, .iconst 0, 1), (3, .istore_n 2, 1), (4, .iload_n 2, 1), (5, .aload_n 0, 1), (6, .getfield 36, 3), (9, .if_icmp .ge 21, 3), (12, .aload_n 0, 1), (13, .getfield 15, 3), (16, .iload_n 2, 1), (17, .iaload, 1), (18, .ifCond .ne 6, 3), (21, .iinc 1 1, 3), (24, .iinc 2 1, 3), (27, .goto (-23), 3), (30, .iload_n 1, 1), (31, .ireturn, 1)]
set_option maxRecDepth 100000 in
theorem chk_39 : (ins_39).all (fun e => decide (decode cX1_namesInAll e.1 = .ok e.2)) = true := by decide +kernel
-- 40 CreditScroll$Credits.cuesInAll
def ins_40 : List (Nat × Instr × Nat) := [(0, .iconst 0, 1), (1, .istore_n 1, 1), (2, .iconst 0, 1), (3, .istore_n 2, 1), (4, .iload_n 2, 1), (5, .aload_n 0, 1), (6, .getfield 36, 3), (9, .if_icmp .ge 21, 3), (12, .aload_n 0, 1), (13, .getfield 24, 3), (16, .iload_n 2, 1), (17, .iaload, 1), (18, .ifCond .eq 6, 3), (21, .iinc 1 1, 3), (24, .iinc 2 1, 3), (27, .goto (-23), 3), (30, .iload_n 1, 1), (31, .ireturn, 1)]
set_option maxRecDepth 100000 in
theorem chk_40 : (ins_40).all (fun e => decide (decode cX1_cuesInAll e.1 = .ok e.2)) = true := by decide +kernel
-- 41 CreditScroll$Credits.dropCues
def ins_41 : List (Nat × Instr × Nat) := [(0, .iconst 0, 1), (1, .istore_n 1, 1), (2, .iload_n 1, 1), (3, .aload_n 0, 1), (4, .getfield 36, 3), (7, .if_icmp .ge 16, 3), (10, .aload_n 0, 1), (11, .getfield 24, 3), (14, .iload_n 1, 1), (15, .iconst 0, 1), (16, .iastore, 1), (17, .iinc 1 1, 3), (20, .goto (-18), 3), (23, .return_, 1)]
set_option maxRecDepth 100000 in
theorem chk_41 : (ins_41).all (fun e => decide (decode cX1_dropCues e.1 = .ok e.2)) = true := by decide +kernel
-- 42 CreditScroll$History.init
def ins_42 : List (Nat × Instr × Nat) := [(0, .aload_n 0, 1), (1, .invokespecial 3, 3), (4, .aload_n 0, 1), (5, .bipush 6, 2), (7, .anewarray 9, 3), (10, .putfield 11, 3), (13, .iconst 0, 1), (14, .istore_n 1, 1), (15, .iload_n 1, 1), (16, .bipush 6, 2), (18, .if_icmp .ge 22, 3), (21, .aload_n 0, 1), (22, .getfield 11, 3), (25, .iload_n 1, 1), (26, .new 9, 3), (29, .dup, 1), (30, .invokespecial 17, 3), (33, .aastore, 1), (34, .iinc 1 1, 3), (37, .goto (-22), 3), (40, .return_, 1)]
set_option maxRecDepth 100000 in
theorem chk_42 : (ins_42).all (fun e => decide (decode cX2_init e.1 = .ok e.2)) = true := by decide +kernel
-- 43 CreditScroll$History.remember
def ins_43 : List (Nat × Instr × Nat) := [(0, .aload_n 0, 1), (1, .getfield 11, 3), (4, .aload_n 0, 1), (5, .getfield 18, 3), (8, .aload_n 0, 1), (9, .getfield 22, 3), (12, .iadd, 1), (13, .bipush 6, 2), (15, .irem, 1), (16, .aaload, 1), (17, .aload_n 1, 1), (18, .invokevirtual 25, 3), (21, .aload_n 0, 1), (22, .getfield 22, 3), (25, .bipush 6, 2), (27, .if_icmp .ge 16, 3), (30, .aload_n 0, 1), (31, .dup, 1), (32, .getfield 22, 3), (35, .iconst 1, 1), (36, .iadd, 1), (37, .putfield 22, 3), (40, .goto 16, 3), (43, .aload_n 0, 1), (44, .aload_n 0, 1), (45, .getfield 18, 3), (48, .iconst 1, 1), (49, .iadd, 1), (50, .bipush 6, 2), (52, .irem, 1), (53, .putfield 18, 3), (56, .return_, 1)]
set_option maxRecDepth 100000 in
theorem chk_43 : (ins_43).all (fun e => decide (decode cX2_remember e.1 = .ok e.2)) = true := by decide +kernel
-- 44 CreditScroll$History.takeBack
def ins_44 : List (Nat × Instr × Nat) := [(0, .aload_n 0, 1), (1, .getfield 22, 3), (4, .ifCond .le 34, 3), (7, .aload_n 0, 1), (8, .dup, 1), (9, .getfield 22, 3), (12, .iconst 1, 1), (13, .isub, 1), (14, .putfield 22, 3), (17, .aload_n 1, 1), (18, .aload_n 0, 1), (19, .getfield 11, 3), (22, .aload_n 0, 1), (23, .getfield 18, 3), (26, .aload_n 0, 1), (27, .getfield 22, 3), (30, .iadd, 1), (31, .bipush 6, 2), (33, .irem, 1), (34, .aaload, 1), (35, .invokevirtual 25, 3), (38, .return_, 1)]
set_option maxRecDepth 100000 in
theorem chk_44 : (ins_44).all (fun e => decide (decode cX2_takeBack e.1 = .ok e.2)) = true := by decide +kernel
-- 45 CreditScroll$Pad.init
def ins_45 : List (Nat × Instr × Nat) := [(0, .aload_n 0, 1), (1, .invokespecial 3, 3), (4, .aload_n 0, 1), (5, .bipush 60, 2), (7, .newarray .char, 2), (9, .putfield 9, 3), (12, .return_, 1)]
set_option maxRecDepth 100000 in
theorem chk_45 : (ins_45).all (fun e => decide (decode cX3_init e.1 = .ok e.2)) = true := by decide +kernel
-- 46 CreditScroll$Pad.charactersIn
def ins_46 : List (Nat × Instr × Nat) := [(0, .iconst 0, 1), (1, .istore_n 3, 1), (2, .lload_n 1, 1), (3, .lstore 4, 2), (5, .iload_n 3, 1), (6, .bipush 8, 2), (8, .if_icmp .ge 42, 3), (11, .lload 4, 2), (13, .lconst 0, 1), (14, .lcmp, 1), (15, .ifCond .eq 35, 3), (18, .lload 4, 2), (20, .ldc2_w 15, 3), (23, .land, 1), (24, .l2i, 1), (25, .bipush 33, 2), (27, .bipush 126, 2), (29, .invokestatic 17, 3), (32, .ifCond .ne 5, 3), (35, .iconst 0, 1), (36, .ireturn, 1), (37, .iinc 3 1, 3), (40, .lload 4, 2), (42, .bipush 8, 2), (44, .lushr, 1), (45, .lstore 4, 2), (47, .goto (-42), 3), (50, .iload_n 3, 1), (51, .ireturn, 1)]
set_option maxRecDepth 100000 in
theorem chk_46 : (ins_46).all (fun e => decide (decode cX3_charactersIn e.1 = .ok e.2)) = true := by decide +kernel
-- 47 CreditScroll$Pad.append
def ins_47 : List (Nat × Instr × Nat) := [(0, .iload_n 3, 1), (1, .iconst 1, 1), (2, .isub, 1), (3, .istore 4, 2), (5, .iload 4, 2), (7, .ifCond .lt 50, 3), (10, .aload_n 0, 1), (11, .getfield 21, 3), (14, .bipush 60, 2), (16, .if_icmp .ge 35, 3), (19, .aload_n 0, 1), (20, .getfield 9, 3), (23, .aload_n 0, 1), (24, .getfield 21, 3), (27, .lload_n 1, 1), (28, .bipush 8, 2), (30, .iload 4, 2), (32, .imul, 1), (33, .lushr, 1), (34, .ldc2_w 15, 3), (37, .land, 1), (38, .l2i, 1), (39, .i2c, 1), (40, .castore, 1), (41, .aload_n 0, 1), (42, .dup, 1), (43, .getfield 21, 3), (46, .iconst 1, 1), (47, .iadd, 1), (48, .putfield 21, 3), (51, .iinc 4 (-1), 3), (54, .goto (-49), 3), (57, .return_, 1)]
set_option maxRecDepth 100000 in
theorem chk_47 : (ins_47).all (fun e => decide (decode cX3_append e.1 = .ok e.2)) = true := by decide +kernel
-- 48 CreditScroll$Pad.parseInto
def ins_48 : List (Nat × Instr × Nat) := [(0, .aload_n 0, 1), (1, .iconst 0, 1), (2, .putfield 25, 3), (5, .iconst 0, 1), (6, .istore_n 2, 1), (7, .iload_n 2, 1), (8, .aload_n 0, 1), (9, .getfield 21, 3), (12, .if_icmp .gt 60, 3), (15, .aload_n 0, 1), (16, .aload_n 1, 1), (17, .invokevirtual 28, 3), (20, .ifCond .ne 8, 3), (23, .aload_n 0, 1), (24, .getfield 25, 3), (27, .ireturn, 1), (28, .aload_n 0, 1), (29, .getfield 25, 3), (32, .aload_n 0, 1), (33, .getfield 21, 3), (36, .if_icmp .ne 6, 3), (39, .bipush (-6), 2), (41, .ireturn, 1), (42, .aload_n 0, 1), (43, .invokevirtual 32, 3), (46, .bipush 44, 2), (48, .if_icmp .eq 8, 3), (51, .aload_n 0, 1), (52, .getfield 25, 3), (55, .ireturn, 1), (56, .aload_n 0, 1), (57, .dup, 1), (58, .getfield 25, 3), (61, .iconst 1, 1), (62, .iadd, 1), (63, .putfield 25, 3), (66, .iinc 2 1, 3), (69, .goto (-62), 3), (72, .aload_n 0, 1), (73, .getfield 25, 3), (76, .ireturn, 1)]
set_option maxRecDepth 100000 in
theorem chk_48 : (ins_48).all (fun e => decide (decode cX3_parseInto e.1 = .ok e.2)) = true := by decide +kernel
-- 49 CreditScroll$Pad.parseLineInto
def ins_49 : List (Nat × Instr × Nat) := [(0, .aload_n 0, 1), (1, .invokevirtual 36, 3), (4, .istore_n 2, 1), (5, .iload_n 2, 1), (6, .iconst (-1), 1), (7, .if_icmp .ne 5, 3), (10, .iconst 0, 1), (11, .ireturn, 1), (12, .aload_n 0, 1), (13, .dup, 1), (14, .getfield 25, 3), (17, .iconst 1, 1), (18, .iadd, 1), (19, .putfield 25, 3), (22, .bipush (-6), 2), (24, .istore_n 3, 1), (25, .bipush (-6), 2), (27, .istore 4, 2), (29, .iload_n 2, 1), (30, .ifCond .ne 45, 3), (33, .aload_n 0, 1), (34, .invokevirtual 39, 3), (37, .istore_n 3, 1), (38, .iload_n 3, 1), (39, .invokestatic 42, 3), (42, .ifCond .ne 5, 3), (45, .iconst 0, 1), (46, .ireturn, 1), (47, .aload_n 0, 1), (48, .dup, 1), (49, .getfield 25, 3), (52, .iconst 1, 1), (53, .iadd, 1), (54, .putfield 25, 3), (57, .aload_n 0, 1), (58, .iconst 0, 1), (59, .sipush 999, 3), (62, .invokevirtual 46, 3), (65, .istore 4, 2), (67, .iload 4, 2), (69, .iconst (-1), 1), (70, .if_icmp .ne 5, 3), (73, .iconst 0, 1), (74, .ireturn, 1), (75, .iconst 0, 1), (76, .istore 5, 2), (78, .aload_n 0, 1), (79, .invokevirtual 32, 3), (82, .bipush 64, 2), (84, .if_icmp .ne 30, 3), (87, .aload_n 0, 1), (88, .dup, 1), (89, .getfield 25, 3), (92, .iconst 1, 1), (93, .iadd, 1), (94, .putfield 25, 3), (97, .aload_n 0, 1), (98, .iconst 1, 1), (99, .bipush 30, 2), (101, .invokevirtual 46, 3), (104, .istore 5, 2), (106, .iload 5, 2), (108, .iconst (-1), 1), (109, .if_icmp .ne 5, 3), (112, .iconst 0, 1), (113, .ireturn, 1), (114, .aload_n 1, 1), (115, .iload_n 2, 1), (116, .iload_n 3, 1), (117, .iload 4, 2), (119, .iload 5, 2), (121, .invokevirtual 50, 3), (124, .iconst 1, 1), (125, .ireturn, 1)]
set_option maxRecDepth 100000 in
theorem chk_49 : (ins_49).all (fun e => decide (decode cX3_parseLineInto e.1 = .ok e.2)) = true := by decide +kernel
-- 50 CreditScroll$Pad.parseNumber
def ins_50 : List (Nat × Instr × Nat) := [(0, .aload_n 0, 1), (1, .invokevirtual 39, 3), (4, .istore_n 3, 1), (5, .iload_n 3, 1), (6, .iload_n 1, 1), (7, .if_icmp .ge 5, 3), (10, .iconst (-1), 1), (11, .ireturn, 1), (12, .aload_n 0, 1), (13, .dup, 1), (14, .getfield 25, 3), (17, .iconst 1, 1), (18, .iadd, 1), (19, .putfield 25, 3), (22, .aload_n 0, 1), (23, .getfield 25, 3), (26, .istore 4, 2), (28, .iload 4, 2), (30, .aload_n 0, 1), (31, .getfield 21, 3), (34, .if_icmp .ge 56, 3), (37, .aload_n 0, 1), (38, .invokevirtual 39, 3), (41, .istore 5, 2), (43, .iload_n 3, 1), (44, .ifCond .eq 20, 3), (47, .iload 5, 2), (49, .iconst (-1), 1), (50, .if_icmp .eq 14, 3), (53, .bipush 10, 2), (55, .iload_n 3, 1), (56, .imul, 1), (57, .iload 5, 2), (59, .iadd, 1), (60, .iload_n 2, 1), (61, .if_icmp .le 5, 3), (64, .iload_n 3, 1), (65, .ireturn, 1), (66, .bipush 10, 2), (68, .iload_n 3, 1), (69, .imul, 1), (70, .iload 5, 2), (72, .iadd, 1), (73, .istore_n 3, 1), (74, .aload_n 0, 1), (75, .dup, 1), (76, .getfield 25, 3), (79, .iconst 1, 1), (80, .iadd, 1), (81, .putfield 25, 3), (84, .iinc 4 1, 3), (87, .goto (-59), 3), (90, .iload_n 3, 1), (91, .ireturn, 1)]
set_option maxRecDepth 100000 in
theorem chk_50 : (ins_50).all (fun e => decide (decode cX3_parseNumber e.1 = .ok e.2)) = true := by decide +kernel
-- 51 CreditScroll$Pad.kindHere
def ins_51 : List (Nat × Instr × Nat) := [(0, .aload_n 0, 1), (1, .invokevirtual 32, 3), (4, .lookupswitch 52 #[(98, 50), (108, 48), (110, 44), (116, 46)], 44), (48, .iconst 0, 1), (49, .ireturn, 1), (50, .iconst 1, 1), (51, .ireturn, 1), (52, .iconst 2, 1), (53, .ireturn, 1), (54, .iconst 3, 1), (55, .ireturn, 1), (56, .iconst (-1), 1), (57, .ireturn, 1)]
set_option maxRecDepth 100000 in
theorem chk_51 : (ins_51).all (fun e => decide (decode cX3_kindHere e.1 = .ok e.2)) = true := by decide +kernel
-- 52 CreditScroll$Pad.digit
def ins_52 : List (Nat × Instr × Nat) := [(0, .aload_n 0, 1), (1, .invokevirtual 32, 3), (4, .istore_n 1, 1), (5, .iload_n 1, 1), (6, .bipush 48, 2), (8, .bipush 57, 2), (10, .invokestatic 17, 3), (13, .ifCond .eq 10, 3), (16, .iload_n 1, 1), (17, .bipush 48, 2), (19, .isub, 1), (20, .goto 4, 3), (23, .iconst (-1), 1), (24, .ireturn, 1)]
set_option maxRecDepth 100000 in
theorem chk_52 : (ins_52).all (fun e => decide (decode cX3_digit e.1 = .ok e.2)) = true := by decide +kernel
-- 53 CreditScroll$Pad.character
def ins_53 : List (Nat × Instr × Nat) := [(0, .aload_n 0, 1), (1, .getfield 25, 3), (4, .aload_n 0, 1), (5, .getfield 21, 3), (8, .if_icmp .ge 15, 3), (11, .aload_n 0, 1), (12, .getfield 9, 3), (15, .aload_n 0, 1), (16, .getfield 25, 3), (19, .caload, 1), (20, .goto 4, 3), (23, .iconst 0, 1), (24, .ireturn, 1)]
set_option maxRecDepth 100000 in
theorem chk_53 : (ins_53).all (fun e => decide (decode cX3_character e.1 = .ok e.2)) = true := by decide +kernel
-- 54 CreditScroll$Slots.init
def ins_54 : List (Nat × Instr × Nat) := [(0, .aload_n 0, 1), (1, .invokespecial 3, 3), (4, .aload_n 0, 1), (5, .iconst 2, 1), (6, .anewarray 9, 3), (9, .putfield 11, 3), (12, .aload_n 0, 1), (13, .iconst 2, 1), (14, .newarray .boolean, 2), (16, .putfield 17, 3), (19, .iconst 0, 1), (20, .istore_n 1, 1), (21, .iload_n 1, 1), (22, .iconst 2, 1), (23, .if_icmp .ge 22, 3), (26, .aload_n 0, 1), (27, .getfield 11, 3), (30, .iload_n 1, 1), (31, .new 9, 3), (34, .dup, 1), (35, .invokespecial 21, 3), (38, .aastore, 1), (39, .iinc 1 1, 3), (42, .goto (-21), 3), (45, .return_, 1)]
set_option maxRecDepth 100000 in
theorem chk_54 : (ins_54).all (fun e => decide (decode cX4_init e.1 = .ok e.2)) = true := by decide +kernel
-- 55 CreditScroll.init
def ins_55 : List (Nat × Instr × Nat) := [(0, .aload_n 0, 1), (1, .invokespecial 1, 3), (4, .aload_n 0, 1), (5, .new 7, 3), (8, .dup, 1), (9, .invokespecial 9, 3), (12, .putfield 10, 3), (15, .aload_n 0, 1), (16, .new 16, 3), (19, .dup, 1), (20, .aload_n 0, 1), (21, .getfield 10, 3), (24, .invokespecial 18, 3), (27, .putfield 21, 3), (30, .aload_n 0, 1), (31, .new 7, 3), (34, .dup, 1), (35, .invokespecial 9, 3), (38, .putfield 25, 3), (41, .aload_n 0, 1), (42, .new 16, 3), (45, .dup, 1), (46, .aload_n 0, 1), (47, .getfield 25, 3), (50, .invokespecial 18, 3), (53, .putfield 28, 3), (56, .aload_n 0, 1), (57, .new 31, 3), (60, .dup, 1), (61, .invokespecial 33, 3), (64, .putfield 34, 3), (67, .aload_n 0, 1), (68, .new 38, 3), (71, .dup, 1), (72, .invokespecial 40, 3), (75, .putfield 41, 3), (78, .aload_n 0, 1), (79, .new 45, 3), (82, .dup, 1), (83, .invokespecial 47, 3), (86, .putfield 48, 3), (89, .return_, 1)]
set_option maxRecDepth 100000 in
theorem chk_55 : (ins_55).all (fun e => decide (decode cX5_init e.1 = .ok e.2)) = true := by decide +kernel
-- 56 CreditScroll.set
def ins_56 : List (Nat × Instr × Nat) := [(0, .iload_n 1, 1), (1, .ifCond .lt 8, 3), (4, .iload_n 1, 1), (5, .iconst 3, 1), (6, .if_icmp .lt 6, 3), (9, .bipush (-2), 2), (11, .ireturn, 1), (12, .iload_n 2, 1), (13, .getstatic 52, 3), (16, .iload_n 1, 1), (17, .iaload, 1), (18, .getstatic 56, 3), (21, .iload_n 1, 1), (22, .iaload, 1), (23, .invokestatic 59, 3), (26, .ifCond .ne 6, 3), (29, .bipush (-2), 2), (31, .ireturn, 1), (32, .aload_n 0, 1), (33, .getfield 41, 3), (36, .aload_n 0, 1), (37, .getfield 10, 3), (40, .invokevirtual 63, 3), (43, .aload_n 0, 1), (44, .getfield 10, 3), (47, .getfield 66, 3), (50, .iload_n 1, 1), (51, .iaload, 1), (52, .istore_n 3, 1), (53, .aload_n 0, 1), (54, .getfield 10, 3), (57, .getfield 66, 3), (60, .iload_n 1, 1), (61, .iload_n 2, 1), (62, .iastore, 1), (63, .iload_n 3, 1), (64, .ireturn, 1)]
set_option maxRecDepth 100000 in
theorem chk_56 : (ins_56).all (fun e => decide (decode cX5_set e.1 = .ok e.2)) = true := by decide +kernel
-- 57 CreditScroll.name
def ins_57 : List (Nat × Instr × Nat) := [(0, .iload_n 1, 1), (1, .invokestatic 69, 3), (4, .ifCond .eq 14, 3), (7, .iload_n 2, 1), (8, .iconst 0, 1), (9, .sipush 999, 3), (12, .invokestatic 59, 3), (15, .ifCond .ne 6, 3), (18, .bipush (-2), 2), (20, .ireturn, 1), (21, .aload_n 0, 1), (22, .iconst 0, 1), (23, .iload_n 1, 1), (24, .iload_n 2, 1), (25, .invokevirtual 73, 3), (28, .ireturn, 1)]
set_option maxRecDepth 100000 in
theorem chk_57 : (ins_57).all (fun e => decide (decode cX5_name e.1 = .ok e.2)) = true := by decide +kernel
-- 58 CreditScroll.line
def ins_58 : List (Nat × Instr × Nat) := [(0, .iload_n 1, 1), (1, .iconst 1, 1), (2, .iconst 3, 1), (3, .invokestatic 59, 3), (6, .ifCond .ne 6, 3), (9, .bipush (-2), 2), (11, .ireturn, 1), (12, .aload_n 0, 1), (13, .iload_n 1, 1), (14, .bipush (-6), 2), (16, .bipush (-6), 2), (18, .invokevirtual 73, 3), (21, .ireturn, 1)]
set_option maxRecDepth 100000 in
theorem chk_58 : (ins_58).all (fun e => decide (decode cX5_line e.1 = .ok e.2)) = true := by decide +kernel
-- 59 CreditScroll.cue
def ins_59 : List (Nat × Instr × Nat) := [(0, .aload_n 0, 1), (1, .getfield 10, 3), (4, .iload_n 1, 1), (5, .invokevirtual 77, 3), (8, .ifCond .ne 5, 3), (11, .iconst (-1), 1), (12, .ireturn, 1), (13, .iload_n 2, 1), (14, .ifCond .eq 13, 3), (17, .iload_n 2, 1), (18, .invokestatic 80, 3), (21, .ifCond .ne 6, 3), (24, .bipush (-2), 2), (26, .ireturn, 1), (27, .aload_n 0, 1), (28, .getfield 41, 3), (31, .aload_n 0, 1), (32, .getfield 10, 3), (35, .invokevirtual 63, 3), (38, .aload_n 0, 1), (39, .getfield 10, 3), (42, .getfield 83, 3), (45, .iload_n 1, 1), (46, .iaload, 1), (47, .istore_n 3, 1), (48, .aload_n 0, 1), (49, .getfield 10, 3), (52, .getfield 83, 3), (55, .iload_n 1, 1), (56, .iload_n 2, 1), (57, .iastore, 1), (58, .iload_n 3, 1), (59, .ireturn, 1)]
set_option maxRecDepth 100000 in
theorem chk_59 : (ins_59).all (fun e => decide (decode cX5_cue e.1 = .ok e.2)) = true := by decide +kernel
-- 60 CreditScroll.move
def ins_60 : List (Nat × Instr × Nat) := [(0, .aload_n 0, 1), (1, .getfield 10, 3), (4, .iload_n 1, 1), (5, .invokevirtual 77, 3), (8, .ifCond .eq 14, 3), (11, .aload_n 0, 1), (12, .getfield 10, 3), (15, .iload_n 2, 1), (16, .invokevirtual 77, 3), (19, .ifCond .ne 5, 3), (22, .iconst (-1), 1), (23, .ireturn, 1), (24, .aload_n 0, 1), (25, .getfield 21, 3), (28, .invokevirtual 86, 3), (31, .aload_n 0, 1), (32, .getfield 21, 3), (35, .invokevirtual 89, 3), (38, .istore_n 3, 1), (39, .aload_n 0, 1), (40, .getfield 41, 3), (43, .aload_n 0, 1), (44, .getfield 10, 3), (47, .invokevirtual 63, 3), (50, .aload_n 0, 1), (51, .getfield 10, 3), (54, .iload_n 1, 1), (55, .iload_n 2, 1), (56, .invokevirtual 93, 3), (59, .aload_n 0, 1), (60, .getfield 21, 3), (63, .invokevirtual 86, 3), (66, .sipush 10000, 3), (69, .aload_n 0, 1), (70, .getfield 21, 3), (73, .invokevirtual 89, 3), (76, .iadd, 1), (77, .iload_n 3, 1), (78, .isub, 1), (79, .ireturn, 1)]
set_option maxRecDepth 100000 in
theorem chk_60 : (ins_60).all (fun e => decide (decode cX5_move e.1 = .ok e.2)) = true := by decide +kernel
-- 61 CreditScroll.drop
def ins_61 : List (Nat × Instr × Nat) := [(0, .aload_n 0, 1), (1, .getfield 10, 3), (4, .iload_n 1, 1), (5, .invokevirtual 77, 3), (8, .ifCond .ne 5, 3), (11, .iconst (-1), 1), (12, .ireturn, 1), (13, .aload_n 0, 1), (14, .getfield 41, 3), (17, .aload_n 0, 1), (18, .getfield 10, 3), (21, .invokevirtual 63, 3), (24, .aload_n 0, 1), (25, .getfield 10, 3), (28, .iload_n 1, 1), (29, .invokevirtual 97, 3), (32, .aload_n 0, 1), (33, .getfield 10, 3), (36, .getfield 101, 3), (39, .ireturn, 1)]
set_option maxRecDepth 100000 in
theorem chk_61 : (ins_61).all (fun e => decide (decode cX5_drop e.1 = .ok e.2)) = true := by decide +kernel
-- 62 CreditScroll.turn
def ins_62 : List (Nat × Instr × Nat) := [(0, .iload_n 1, 1), (1, .invokestatic 69, 3), (4, .ifCond .eq 13, 3), (7, .iload_n 2, 1), (8, .iconst 1, 1), (9, .bipush 40, 2), (11, .invokestatic 59, 3), (14, .ifCond .ne 6, 3), (17, .bipush (-2), 2), (19, .ireturn, 1), (20, .aload_n 0, 1), (21, .getfield 10, 3), (24, .iload_n 1, 1), (25, .invokevirtual 105, 3), (28, .istore_n 3, 1), (29, .aload_n 0, 1), (30, .getfield 10, 3), (33, .iload_n 3, 1), (34, .invokevirtual 77, 3), (37, .ifCond .ne 6, 3), (40, .bipush (-5), 2), (42, .ireturn, 1), (43, .aload_n 0, 1), (44, .getfield 41, 3), (47, .aload_n 0, 1), (48, .getfield 10, 3), (51, .invokevirtual 63, 3), (54, .iconst 0, 1), (55, .istore 4, 2), (57, .iload 4, 2), (59, .iload_n 2, 1), (60, .if_icmp .ge 17, 3), (63, .aload_n 0, 1), (64, .getfield 10, 3), (67, .iload_n 1, 1), (68, .invokevirtual 109, 3), (71, .iinc 4 1, 3), (74, .goto (-17), 3), (77, .aload_n 0, 1), (78, .getfield 10, 3), (81, .getfield 112, 3), (84, .iload_n 3, 1), (85, .iaload, 1), (86, .ireturn, 1)]
set_option maxRecDepth 100000 in
theorem chk_62 : (ins_62).all (fun e => decide (decode cX5_turn e.1 = .ok e.2)) = true := by decide +kernel
-- 63 CreditScroll.read
def ins_63 : List (Nat × Instr × Nat) := [(0, .aload_n 0, 1), (1, .getfield 25, 3), (4, .iconst 0, 1), (5, .putfield 101, 3), (8, .aload_n 0, 1), (9, .getfield 34, 3), (12, .aload_n 0, 1), (13, .getfield 25, 3), (16, .invokevirtual 115, 3), (19, .bipush (-6), 2), (21, .if_icmp .eq 6, 3), (24, .bipush (-3), 2), (26, .ireturn, 1), (27, .aload_n 0, 1), (28, .getfield 10, 3), (31, .getfield 101, 3), (34, .aload_n 0, 1), (35, .getfield 25, 3), (38, .getfield 101, 3), (41, .iadd, 1), (42, .bipush 40, 2), (44, .if_icmp .le 6, 3), (47, .bipush (-4), 2), (49, .ireturn, 1), (50, .aload_n 0, 1), (51, .getfield 41, 3), (54, .aload_n 0, 1), (55, .getfield 10, 3), (58, .invokevirtual 63, 3), (61, .aload_n 0, 1), (62, .getfield 10, 3), (65, .aload_n 0, 1), (66, .getfield 25, 3), (69, .invokevirtual 119, 3), (72, .aload_n 0, 1), (73, .getfield 34, 3), (76, .iconst 0, 1), (77, .putfield 122, 3), (80, .aload_n 0, 1), (81, .getfield 10, 3), (84, .getfield 101, 3), (87, .ireturn, 1)]
set_option maxRecDepth 100000 in
theorem chk_63 : (ins_63).all (fun e => decide (decode cX5_read e.1 = .ok e.2)) = true := by decide +kernel
-- 64 CreditScroll.of
def ins_64 : List (Nat × Instr × Nat) := [(0, .aload_n 0, 1), (1, .getfield 10, 3), (4, .iload_n 1, 1), (5, .invokevirtual 77, 3), (8, .ifCond .ne 5, 3), (11, .iconst (-1), 1), (12, .ireturn, 1), (13, .aload_n 0, 1), (14, .getfield 21, 3), (17, .invokevirtual 86, 3), (20, .iload_n 2, 1), (21, .tableswitch 186 0 8 #[51, 61, 71, 81, 91, 101, 110, 120, 147], 51), (72, .aload_n 0, 1), (73, .getfield 10, 3), (76, .getfield 125, 3), (79, .iload_n 1, 1), (80, .iaload, 1), (81, .ireturn, 1), (82, .aload_n 0, 1), (83, .getfield 10, 3), (86, .getfield 128, 3), (89, .iload_n 1, 1), (90, .iaload, 1), (91, .ireturn, 1), (92, .aload_n 0, 1), (93, .getfield 10, 3), (96, .getfield 112, 3), (99, .iload_n 1, 1), (100, .iaload, 1), (101, .ireturn, 1), (102, .aload_n 0, 1), (103, .getfield 10, 3), (106, .getfield 83, 3), (109, .iload_n 1, 1), (110, .iaload, 1), (111, .ireturn, 1), (112, .aload_n 0, 1), (113, .getfield 21, 3), (116, .getfield 131, 3), (119, .iload_n 1, 1), (120, .iaload, 1), (121, .ireturn, 1), (122, .aload_n 0, 1), (123, .getfield 10, 3), (126, .iload_n 1, 1), (127, .invokevirtual 134, 3), (130, .ireturn, 1), (131, .aload_n 0, 1), (132, .getfield 21, 3), (135, .getfield 137, 3), (138, .iload_n 1, 1), (139, .iaload, 1), (140, .ireturn, 1), (141, .aload_n 0, 1), (142, .getfield 21, 3), (145, .getfield 137, 3), (148, .iload_n 1, 1), (149, .iaload, 1), (150, .ifCond .ne 8, 3), (153, .bipush (-6), 2), (155, .goto 12, 3), (158, .aload_n 0, 1), (159, .getfield 21, 3), (162, .getfield 140, 3), (165, .iload_n 1, 1), (166, .iaload, 1), (167, .ireturn, 1), (168, .aload_n 0, 1), (169, .getfield 21, 3), (172, .getfield 137, 3), (175, .iload_n 1, 1), (176, .iaload, 1), (177, .ifCond .ne 8, 3), (180, .bipush (-6), 2), (182, .goto 24, 3), (185, .aload_n 0, 1), (186, .getfield 21, 3), (189, .getfield 140, 3), (192, .iload_n 1, 1), (193, .iaload, 1), (194, .aload_n 0, 1), (195, .getfield 21, 3), (198, .getfield 137, 3), (201, .iload_n 1, 1), (202, .iaload, 1), (203, .iadd, 1), (204, .iconst 1, 1), (205, .isub, 1), (206, .ireturn, 1), (207, .bipush (-2), 2), (209, .ireturn, 1)]
set_option maxRecDepth 100000 in
theorem chk_64 : (ins_64).all (fun e => decide (decode cX5_of e.1 = .ok e.2)) = true := by decide +kernel
-- 65 CreditScroll.group
def ins_65 : List (Nat × Instr × Nat) := [(0, .iload_n 1, 1), (1, .invokestatic 69, 3), (4, .ifCond .ne 6, 3), (7, .bipush (-2), 2), (9, .ireturn, 1), (10, .aload_n 0, 1), (11, .getfield 21, 3), (14, .invokevirtual 86, 3), (17, .iload_n 2, 1), (18, .tableswitch 92 0 4 #[34, 43, 52, 77, 86], 34), (52, .aload_n 0, 1), (53, .getfield 10, 3), (56, .iload_n 1, 1), (57, .invokevirtual 143, 3), (60, .ireturn, 1), (61, .aload_n 0, 1), (62, .getfield 21, 3), (65, .iload_n 1, 1), (66, .invokevirtual 146, 3), (69, .ireturn, 1), (70, .aload_n 0, 1), (71, .getfield 10, 3), (74, .iload_n 1, 1), (75, .invokevirtual 143, 3), (78, .ifCond .ne 8, 3), (81, .bipush (-6), 2), (83, .goto 11, 3), (86, .aload_n 0, 1), (87, .getfield 21, 3), (90, .iload_n 1, 1), (91, .invokevirtual 149, 3), (94, .ireturn, 1), (95, .aload_n 0, 1), (96, .getfield 21, 3), (99, .iload_n 1, 1), (100, .invokevirtual 152, 3), (103, .ireturn, 1), (104, .aload_n 0, 1), (105, .iload_n 1, 1), (106, .invokevirtual 155, 3), (109, .ireturn, 1), (110, .bipush (-2), 2), (112, .ireturn, 1)]
set_option maxRecDepth 100000 in
theorem chk_65 : (ins_65).all (fun e => decide (decode cX5_group e.1 = .ok e.2)) = true := by decide +kernel
-- 66 CreditScroll.at
def ins_66 : List (Nat × Instr × Nat) := [(0, .iload_n 1, 1), (1, .iconst 0, 1), (2, .sipush 9999, 3), (5, .invokestatic 59, 3), (8, .ifCond .ne 6, 3), (11, .bipush (-2), 2), (13, .ireturn, 1), (14, .aload_n 0, 1), (15, .getfield 21, 3), (18, .invokevirtual 86, 3), (21, .iload_n 2, 1), (22, .tableswitch 79 0 4 #[34, 43, 52, 61, 70], 34), (56, .aload_n 0, 1), (57, .getfield 21, 3), (60, .iload_n 1, 1), (61, .invokevirtual 158, 3), (64, .ireturn, 1), (65, .aload_n 0, 1), (66, .getfield 21, 3), (69, .iload_n 1, 1), (70, .invokevirtual 161, 3), (73, .ireturn, 1), (74, .aload_n 0, 1), (75, .getfield 21, 3), (78, .iload_n 1, 1), (79, .invokevirtual 164, 3), (82, .ireturn, 1), (83, .aload_n 0, 1), (84, .getfield 21, 3), (87, .iload_n 1, 1), (88, .invokevirtual 167, 3), (91, .ireturn, 1), (92, .aload_n 0, 1), (93, .getfield 21, 3), (96, .iload_n 1, 1), (97, .invokevirtual 170, 3), (100, .ireturn, 1), (101, .bipush (-2), 2), (103, .ireturn, 1)]
set_option maxRecDepth 100000 in
theorem chk_66 : (ins_66).all (fun e => decide (decode cX5_at e.1 = .ok e.2)) = true := by decide +kernel
-- 67 CreditScroll.count
def ins_67 : List (Nat × Instr × Nat) := [(0, .aload_n 0, 1), (1, .getfield 21, 3), (4, .invokevirtual 86, 3), (7, .iload_n 1, 1), (8, .tableswitch 166 0 11 #[64, 72, 80, 88, 96, 104, 112, 120, 130, 140, 150, 158], 64), (72, .aload_n 0, 1), (73, .getfield 10, 3), (76, .getfield 101, 3), (79, .ireturn, 1), (80, .aload_n 0, 1), (81, .getfield 10, 3), (84, .invokevirtual 173, 3), (87, .ireturn, 1), (88, .aload_n 0, 1), (89, .getfield 21, 3), (92, .getfield 176, 3), (95, .ireturn, 1), (96, .aload_n 0, 1), (97, .getfield 21, 3), (100, .invokevirtual 89, 3), (103, .ireturn, 1), (104, .aload_n 0, 1), (105, .getfield 21, 3), (108, .invokevirtual 179, 3), (111, .ireturn, 1), (112, .aload_n 0, 1), (113, .getfield 10, 3), (116, .invokevirtual 182, 3), (119, .ireturn, 1), (120, .aload_n 0, 1), (121, .getfield 21, 3), (124, .invokevirtual 185, 3), (127, .ireturn, 1), (128, .aload_n 0, 1), (129, .getfield 10, 3), (132, .getfield 66, 3), (135, .iconst 0, 1), (136, .iaload, 1), (137, .ireturn, 1), (138, .aload_n 0, 1), (139, .getfield 10, 3), (142, .getfield 66, 3), (145, .iconst 1, 1), (146, .iaload, 1), (147, .ireturn, 1), (148, .aload_n 0, 1), (149, .getfield 10, 3), (152, .getfield 66, 3), (155, .iconst 2, 1), (156, .iaload, 1), (157, .ireturn, 1), (158, .aload_n 0, 1), (159, .getfield 34, 3), (162, .getfield 122, 3), (165, .ireturn, 1), (166, .aload_n 0, 1), (167, .getfield 41, 3), (170, .getfield 188, 3), (173, .ireturn, 1), (174, .bipush (-2), 2), (176, .ireturn, 1)]
set_option maxRecDepth 100000 in
theorem chk_67 : (ins_67).all (fun e => decide (decode cX5_count e.1 = .ok e.2)) = true := by decide +kernel
-- 68 CreditScroll.blame
def ins_68 : List (Nat × Instr × Nat) := [(0, .iload_n 1, 1), (1, .iconst 0, 1), (2, .iconst 1, 1), (3, .invokestatic 59, 3), (6, .ifCond .ne 6, 3), (9, .bipush (-2), 2), (11, .ireturn, 1), (12, .aload_n 0, 1), (13, .getfield 25, 3), (16, .aload_n 0, 1), (17, .getfield 10, 3), (20, .invokevirtual 191, 3), (23, .bipush (-6), 2), (25, .istore_n 2, 1), (26, .bipush (-6), 2), (28, .istore_n 3, 1), (29, .iconst 0, 1), (30, .istore 4, 2), (32, .iload 4, 2), (34, .aload_n 0, 1), (35, .getfield 25, 3), (38, .getfield 101, 3), (41, .if_icmp .ge 83, 3), (44, .aload_n 0, 1), (45, .getfield 25, 3), (48, .getfield 83, 3), (51, .iload 4, 2), (53, .iaload, 1), (54, .istore 5, 2), (56, .iload 5, 2), (58, .ifCond .eq 60, 3), (61, .aload_n 0, 1), (62, .getfield 25, 3), (65, .getfield 83, 3), (68, .iload 4, 2), (70, .iconst 0, 1), (71, .iastore, 1), (72, .aload_n 0, 1), (73, .getfield 28, 3), (76, .invokevirtual 86, 3), (79, .aload_n 0, 1), (80, .getfield 28, 3), (83, .invokevirtual 194, 3), (86, .istore 6, 2), (88, .iload_n 2, 1), (89, .bipush (-6), 2), (91, .if_icmp .eq 9, 3), (94, .iload 6, 2), (96, .iload_n 3, 1), (97, .if_icmp .ge 9, 3), (100, .iload 4, 2), (102, .istore_n 2, 1), (103, .iload 6, 2), (105, .istore_n 3, 1), (106, .aload_n 0, 1), (107, .getfield 25, 3), (110, .getfield 83, 3), (113, .iload 4, 2), (115, .iload 5, 2), (117, .iastore, 1), (118, .iinc 4 1, 3), (121, .goto (-89), 3), (124, .iload_n 1, 1), (125, .ifCond .ne 7, 3), (128, .iload_n 2, 1), (129, .goto 4, 3), (132, .iload_n 3, 1), (133, .ireturn, 1)]
set_option maxRecDepth 100000 in
theorem chk_68 : (ins_68).all (fun e => decide (decode cX5_blame e.1 = .ok e.2)) = true := by decide +kernel
-- 69 CreditScroll.speedFor
def ins_69 : List (Nat × Instr × Nat) := [(0, .iload_n 1, 1), (1, .iconst 1, 1), (2, .sipush 200, 3), (5, .invokestatic 59, 3), (8, .ifCond .ne 6, 3), (11, .bipush (-2), 2), (13, .ireturn, 1), (14, .aload_n 0, 1), (15, .getfield 25, 3), (18, .aload_n 0, 1), (19, .getfield 10, 3), (22, .invokevirtual 191, 3), (25, .aload_n 0, 1), (26, .getfield 25, 3), (29, .invokevirtual 197, 3), (32, .bipush 30, 2), (34, .istore_n 2, 1), (35, .iload_n 2, 1), (36, .iconst 1, 1), (37, .if_icmp .lt 39, 3), (40, .aload_n 0, 1), (41, .getfield 25, 3), (44, .getfield 66, 3), (47, .iconst 1, 1), (48, .iload_n 2, 1), (49, .iastore, 1), (50, .aload_n 0, 1), (51, .getfield 28, 3), (54, .invokevirtual 86, 3), (57, .aload_n 0, 1), (58, .getfield 28, 3), (61, .iload_n 1, 1), (62, .invokevirtual 200, 3), (65, .ifCond .eq 5, 3), (68, .iload_n 2, 1), (69, .ireturn, 1), (70, .iinc 2 (-1), 3), (73, .goto (-38), 3), (76, .bipush (-6), 2), (78, .ireturn, 1)]
set_option maxRecDepth 100000 in
theorem chk_69 : (ins_69).all (fun e => decide (decode cX5_speedFor e.1 = .ok e.2)) = true := by decide +kernel
-- 70 CreditScroll.seenIf
def ins_70 : List (Nat × Instr × Nat) := [(0, .aload_n 0, 1), (1, .getfield 10, 3), (4, .iload_n 1, 1), (5, .invokevirtual 77, 3), (8, .ifCond .ne 5, 3), (11, .iconst (-1), 1), (12, .ireturn, 1), (13, .iload_n 2, 1), (14, .invokestatic 80, 3), (17, .ifCond .ne 6, 3), (20, .bipush (-2), 2), (22, .ireturn, 1), (23, .aload_n 0, 1), (24, .getfield 25, 3), (27, .aload_n 0, 1), (28, .getfield 10, 3), (31, .invokevirtual 191, 3), (34, .aload_n 0, 1), (35, .getfield 25, 3), (38, .getfield 66, 3), (41, .iconst 1, 1), (42, .iload_n 2, 1), (43, .iastore, 1), (44, .aload_n 0, 1), (45, .getfield 28, 3), (48, .invokevirtual 86, 3), (51, .aload_n 0, 1), (52, .getfield 28, 3), (55, .getfield 137, 3), (58, .iload_n 1, 1), (59, .iaload, 1), (60, .ireturn, 1)]
set_option maxRecDepth 100000 in
theorem chk_70 : (ins_70).all (fun e => decide (decode cX5_seenIf e.1 = .ok e.2)) = true := by decide +kernel
-- 71 CreditScroll.bestCue
def ins_71 : List (Nat × Instr × Nat) := [(0, .aload_n 0, 1), (1, .getfield 10, 3), (4, .iload_n 1, 1), (5, .invokevirtual 77, 3), (8, .ifCond .ne 5, 3), (11, .iconst (-1), 1), (12, .ireturn, 1), (13, .iload_n 2, 1), (14, .invokestatic 69, 3), (17, .ifCond .eq 12, 3), (20, .iload_n 3, 1), (21, .iconst 0, 1), (22, .iconst 1, 1), (23, .invokestatic 59, 3), (26, .ifCond .ne 6, 3), (29, .bipush (-2), 2), (31, .ireturn, 1), (32, .aload_n 0, 1), (33, .getfield 25, 3), (36, .aload_n 0, 1), (37, .getfield 10, 3), (40, .invokevirtual 191, 3), (43, .bipush (-6), 2), (45, .istore 4, 2), (47, .bipush (-6), 2), (49, .istore 5, 2), (51, .bipush 30, 2), (53, .istore 6, 2), (55, .iload 6, 2), (57, .iconst 1, 1), (58, .if_icmp .lt 59, 3), (61, .aload_n 0, 1), (62, .getfield 25, 3), (65, .getfield 83, 3), (68, .iload_n 1, 1), (69, .iload 6, 2), (71, .iastore, 1), (72, .aload_n 0, 1), (73, .getfield 28, 3), (76, .invokevirtual 86, 3), (79, .aload_n 0, 1), (80, .getfield 28, 3), (83, .iload_n 2, 1), (84, .invokevirtual 146, 3), (87, .istore 7, 2), (89, .iload 4, 2), (91, .bipush (-6), 2), (93, .if_icmp .eq 10, 3), (96, .iload 7, 2), (98, .iload 5, 2), (100, .if_icmp .ge 11, 3), (103, .iload 6, 2), (105, .istore 4, 2), (107, .iload 7, 2), (109, .istore 5, 2), (111, .iinc 6 (-1), 3), (114, .goto (-59), 3), (117, .iload_n 3, 1), (118, .ifCond .ne 8, 3), (121, .iload 4, 2), (123, .goto 5, 3), (126, .iload 5, 2), (128, .ireturn, 1)]
set_option maxRecDepth 100000 in
theorem chk_71 : (ins_71).all (fun e => decide (decode cX5_bestCue e.1 = .ok e.2)) = true := by decide +kernel
-- 72 CreditScroll.put
def ins_72 : List (Nat × Instr × Nat) := [(0, .aload_n 0, 1), (1, .getfield 34, 3), (4, .lload_n 1, 1), (5, .invokevirtual 203, 3), (8, .istore_n 3, 1), (9, .iload_n 3, 1), (10, .ifCond .ne 6, 3), (13, .bipush (-2), 2), (15, .ireturn, 1), (16, .aload_n 0, 1), (17, .getfield 34, 3), (20, .getfield 122, 3), (23, .iload_n 3, 1), (24, .iadd, 1), (25, .bipush 60, 2), (27, .if_icmp .le 6, 3), (30, .bipush (-4), 2), (32, .ireturn, 1), (33, .aload_n 0, 1), (34, .getfield 34, 3), (37, .lload_n 1, 1), (38, .iload_n 3, 1), (39, .invokevirtual 207, 3), (42, .aload_n 0, 1), (43, .getfield 34, 3), (46, .getfield 122, 3), (49, .ireturn, 1)]
set_option maxRecDepth 100000 in
theorem chk_72 : (ins_72).all (fun e => decide (decode cX5_put e.1 = .ok e.2)) = true := by decide +kernel
-- 73 CreditScroll.wipe
def ins_73 : List (Nat × Instr × Nat) := [(0, .aload_n 0, 1), (1, .getfield 34, 3), (4, .getfield 122, 3), (7, .istore_n 1, 1), (8, .aload_n 0, 1), (9, .getfield 34, 3), (12, .iconst 0, 1), (13, .putfield 122, 3), (16, .iload_n 1, 1), (17, .ireturn, 1)]
set_option maxRecDepth 100000 in
theorem chk_73 : (ins_73).all (fun e => decide (decode cX5_wipe e.1 = .ok e.2)) = true := by decide +kernel
-- 74 CreditScroll.fault
def ins_74 : List (Nat × Instr × Nat) := [(0, .aload_n 0, 1), (1, .getfield 25, 3), (4, .iconst 0, 1), (5, .putfield 101, 3), (8, .aload_n 0, 1), (9, .getfield 34, 3), (12, .aload_n 0, 1), (13, .getfield 25, 3), (16, .invokevirtual 115, 3), (19, .ireturn, 1)]
set_option maxRecDepth 100000 in
theorem chk_74 : (ins_74).all (fun e => decide (decode cX5_fault e.1 = .ok e.2)) = true := by decide +kernel
-- 75 CreditScroll.undo
def ins_75 : List (Nat × Instr × Nat) := [(0, .aload_n 0, 1), (1, .getfield 41, 3), (4, .getfield 188, 3), (7, .ifCond .ne 6, 3), (10, .bipush (-5), 2), (12, .ireturn, 1), (13, .aload_n 0, 1), (14, .getfield 41, 3), (17, .aload_n 0, 1), (18, .getfield 10, 3), (21, .invokevirtual 211, 3), (24, .aload_n 0, 1), (25, .getfield 41, 3), (28, .getfield 188, 3), (31, .ireturn, 1)]
set_option maxRecDepth 100000 in
theorem chk_75 : (ins_75).all (fun e => decide (decode cX5_undo e.1 = .ok e.2)) = true := by decide +kernel
-- 76 CreditScroll.save
def ins_76 : List (Nat × Instr × Nat) := [(0, .iload_n 1, 1), (1, .invokestatic 214, 3), (4, .ifCond .ne 6, 3), (7, .bipush (-2), 2), (9, .ireturn, 1), (10, .aload_n 0, 1), (11, .getfield 48, 3), (14, .getfield 217, 3), (17, .iload_n 1, 1), (18, .aaload, 1), (19, .aload_n 0, 1), (20, .getfield 10, 3), (23, .invokevirtual 191, 3), (26, .aload_n 0, 1), (27, .getfield 48, 3), (30, .getfield 221, 3), (33, .iload_n 1, 1), (34, .iconst 1, 1), (35, .bastore, 1), (36, .aload_n 0, 1), (37, .getfield 10, 3), (40, .getfield 101, 3), (43, .ireturn, 1)]
set_option maxRecDepth 100000 in
theorem chk_76 : (ins_76).all (fun e => decide (decode cX5_save e.1 = .ok e.2)) = true := by decide +kernel
-- 77 CreditScroll.restore
def ins_77 : List (Nat × Instr × Nat) := [(0, .iload_n 1, 1), (1, .invokestatic 214, 3), (4, .ifCond .ne 6, 3), (7, .bipush (-2), 2), (9, .ireturn, 1), (10, .aload_n 0, 1), (11, .getfield 48, 3), (14, .getfield 221, 3), (17, .iload_n 1, 1), (18, .baload, 1), (19, .ifCond .ne 6, 3), (22, .bipush (-5), 2), (24, .ireturn, 1), (25, .aload_n 0, 1), (26, .getfield 41, 3), (29, .aload_n 0, 1), (30, .getfield 10, 3), (33, .invokevirtual 63, 3), (36, .aload_n 0, 1), (37, .getfield 10, 3), (40, .aload_n 0, 1), (41, .getfield 48, 3), (44, .getfield 217, 3), (47, .iload_n 1, 1), (48, .aaload, 1), (49, .invokevirtual 191, 3), (52, .aload_n 0, 1), (53, .getfield 10, 3), (56, .getfield 101, 3), (59, .ireturn, 1)]
set_option maxRecDepth 100000 in
theorem chk_77 : (ins_77).all (fun e => decide (decode cX5_restore e.1 = .ok e.2)) = true := by decide +kernel
-- 78 CreditScroll.addAsChange
def ins_78 : List (Nat × Instr × Nat) := [(0, .aload_n 0, 1), (1, .getfield 10, 3), (4, .getfield 101, 3), (7, .bipush 40, 2), (9, .if_icmp .lt 6, 3), (12, .bipush (-4), 2), (14, .ireturn, 1), (15, .aload_n 0, 1), (16, .getfield 41, 3), (19, .aload_n 0, 1), (20, .getfield 10, 3), (23, .invokevirtual 63, 3), (26, .aload_n 0, 1), (27, .getfield 10, 3), (30, .iload_n 1, 1), (31, .iload_n 2, 1), (32, .iload_n 3, 1), (33, .iconst 0, 1), (34, .invokevirtual 225, 3), (37, .aload_n 0, 1), (38, .getfield 10, 3), (41, .getfield 101, 3), (44, .iconst 1, 1), (45, .isub, 1), (46, .ireturn, 1)]
set_option maxRecDepth 100000 in
theorem chk_78 : (ins_78).all (fun e => decide (decode cX5_addAsChange e.1 = .ok e.2)) = true := by decide +kernel
-- 79 CreditScroll.firstNumberOf
def ins_79 : List (Nat × Instr × Nat) := [(0, .aload_n 0, 1), (1, .getfield 10, 3), (4, .iload_n 1, 1), (5, .invokevirtual 105, 3), (8, .istore_n 2, 1), (9, .aload_n 0, 1), (10, .getfield 10, 3), (13, .iload_n 2, 1), (14, .invokevirtual 77, 3), (17, .ifCond .eq 15, 3), (20, .aload_n 0, 1), (21, .getfield 10, 3), (24, .getfield 112, 3), (27, .iload_n 2, 1), (28, .iaload, 1), (29, .goto 5, 3), (32, .bipush (-6), 2), (34, .ireturn, 1)]
set_option maxRecDepth 100000 in
theorem chk_79 : (ins_79).all (fun e => decide (decode cX5_firstNumberOf e.1 = .ok e.2)) = true := by decide +kernel
-- 80 CreditScroll.isWithin
def ins_80 : List (Nat × Instr × Nat) := [(0, .iload_n 0, 1), (1, .iload_n 1, 1), (2, .if_icmp .lt 12, 3), (5, .iload_n 0, 1), (6, .iload_n 2, 1), (7, .if_icmp .gt 7, 3), (10, .iconst 1, 1), (11, .goto 4, 3), (14, .iconst 0, 1), (15, .ireturn, 1)]
set_option maxRecDepth 100000 in
theorem chk_80 : (ins_80).all (fun e => decide (decode cX5_isWithin e.1 = .ok e.2)) = true := by decide +kernel
-- 81 CreditScroll.isGroup
def ins_81 : List (Nat × Instr × Nat) := [(0, .iload_n 0, 1), (1, .iconst 0, 1), (2, .bipush 7, 2), (4, .invokestatic 59, 3), (7, .ireturn, 1)]
set_option maxRecDepth 100000 in
theorem chk_81 : (ins_81).all (fun e => decide (decode cX5_isGroup e.1 = .ok e.2)) = true := by decide +kernel
-- 82 CreditScroll.isSpeed
def ins_82 : List (Nat × Instr × Nat) := [(0, .iload_n 0, 1), (1, .iconst 1, 1), (2, .bipush 30, 2), (4, .invokestatic 59, 3), (7, .ireturn, 1)]
set_option maxRecDepth 100000 in
theorem chk_82 : (ins_82).all (fun e => decide (decode cX5_isSpeed e.1 = .ok e.2)) = true := by decide +kernel
-- 83 CreditScroll.isSlot
def ins_83 : List (Nat × Instr × Nat) := [(0, .iload_n 0, 1), (1, .iconst 0, 1), (2, .iconst 1, 1), (3, .invokestatic 59, 3), (6, .ireturn, 1)]
set_option maxRecDepth 100000 in
theorem chk_83 : (ins_83).all (fun e => decide (decode cX5_isSlot e.1 = .ok e.2)) = true := by decide +kernel
-- 84 CreditScrollModel.init
def ins_84 : List (Nat × Instr × Nat) := [(0, .aload_n 0, 1), (1, .invokespecial 1, 3), (4, .aload_n 0, 1), (5, .sipush 164, 3), (8, .newarray .int, 2), (10, .putfield 7, 3), (13, .aload_n 0, 1), (14, .sipush 984, 3), (17, .newarray .int, 2), (19, .putfield 13, 3), (22, .aload_n 0, 1), (23, .sipush 328, 3), (26, .newarray .int, 2), (28, .putfield 16, 3), (31, .aload_n 0, 1), (32, .iconst 2, 1), (33, .newarray .boolean, 2), (35, .putfield 19, 3), (38, .aload_n 0, 1), (39, .bipush 60, 2), (41, .newarray .char, 2), (43, .putfield 23, 3), (46, .aload_n 0, 1), (47, .bipush 41, 2), (49, .newarray .int, 2), (51, .putfield 27, 3), (54, .aload_n 0, 1), (55, .bipush 40, 2), (57, .newarray .int, 2), (59, .putfield 30, 3), (62, .aload_n 0, 1), (63, .bipush 40, 2), (65, .newarray .int, 2), (67, .putfield 33, 3), (70, .aload_n 0, 1), (71, .bipush 40, 2), (73, .newarray .int, 2), (75, .putfield 36, 3), (78, .aload_n 0, 1), (79, .bipush 40, 2), (81, .newarray .int, 2), (83, .putfield 39, 3), (86, .aload_n 0, 1), (87, .sipush 128, 3), (90, .newarray .int, 2), (92, .putfield 42, 3), (95, .aload_n 0, 1), (96, .getfield 7, 3), (99, .iconst 0, 1), (100, .bipush 10, 2), (102, .iastore, 1), (103, .aload_n 0, 1), (104, .getfield 7, 3), (107, .iconst 1, 1), (108, .iconst 5, 1), (109, .iastore, 1), (110, .aload_n 0, 1), (111, .getfield 7, 3), (114, .iconst 2, 1), (115, .iconst 3, 1), (116, .iastore, 1), (117, .return_, 1)]
set_option maxRecDepth 100000 in
theorem chk_84 : (ins_84).all (fun e => decide (decode cX6_init e.1 = .ok e.2)) = true := by decide +kernel
-- 85 CreditScrollModel.in
def ins_85 : List (Nat × Instr × Nat) := [(0, .iload_n 0, 1), (1, .iload_n 1, 1), (2, .if_icmp .lt 12, 3), (5, .iload_n 0, 1), (6, .iload_n 2, 1), (7, .if_icmp .gt 7, 3), (10, .iconst 1, 1), (11, .goto 4, 3), (14, .iconst 0, 1), (15, .ireturn, 1)]
set_option maxRecDepth 100000 in
theorem chk_85 : (ins_85).all (fun e => decide (decode cX6_in e.1 = .ok e.2)) = true := by decide +kernel
-- 86 CreditScrollModel.isLine
def ins_86 : List (Nat × Instr × Nat) := [(0, .iload_n 1, 1), (1, .ifCond .lt 17, 3), (4, .iload_n 1, 1), (5, .aload_n 0, 1), (6, .getfield 7, 3), (9, .iconst 3, 1), (10, .iaload, 1), (11, .if_icmp .ge 7, 3), (14, .iconst 1, 1), (15, .goto 4, 3), (18, .iconst 0, 1), (19, .ireturn, 1)]
set_option maxRecDepth 100000 in
theorem chk_86 : (ins_86).all (fun e => decide (decode cX6_isLine e.1 = .ok e.2)) = true := by decide +kernel
-- 87 CreditScrollModel.isGroup
def ins_87 : List (Nat × Instr × Nat) := [(0, .iload_n 0, 1), (1, .iconst 0, 1), (2, .bipush 7, 2), (4, .invokestatic 45, 3), (7, .ireturn, 1)]
set_option maxRecDepth 100000 in
theorem chk_87 : (ins_87).all (fun e => decide (decode cX6_isGroup e.1 = .ok e.2)) = true := by decide +kernel
-- 88 CreditScrollModel.isSpeed
def ins_88 : List (Nat × Instr × Nat) := [(0, .iload_n 0, 1), (1, .iconst 1, 1), (2, .bipush 30, 2), (4, .invokestatic 45, 3), (7, .ireturn, 1)]
set_option maxRecDepth 100000 in
theorem chk_88 : (ins_88).all (fun e => decide (decode cX6_isSpeed e.1 = .ok e.2)) = true := by decide +kernel
-- 89 CreditScrollModel.its
def ins_89 : List (Nat × Instr × Nat) := [(0, .aload_n 0, 1), (1, .getfield 7, 3), (4, .iconst 4, 1), (5, .iconst 4, 1), (6, .iload_n 1, 1), (7, .imul, 1), (8, .iadd, 1), (9, .iload_n 2, 1), (10, .iadd, 1), (11, .iaload, 1), (12, .ireturn, 1)]
set_option maxRecDepth 100000 in
theorem chk_89 : (ins_89).all (fun e => decide (decode cX6_its e.1 = .ok e.2)) = true := by decide +kernel
-- 90 CreditScrollModel.isNameOf
def ins_90 : List (Nat × Instr × Nat) := [(0, .aload_n 0, 1), (1, .iload_n 1, 1), (2, .iconst 0, 1), (3, .invokevirtual 49, 3), (6, .ifCond .ne 17, 3), (9, .aload_n 0, 1), (10, .iload_n 1, 1), (11, .iconst 1, 1), (12, .invokevirtual 49, 3), (15, .iload_n 2, 1), (16, .if_icmp .ne 7, 3), (19, .iconst 1, 1), (20, .goto 4, 3), (23, .iconst 0, 1), (24, .ireturn, 1)]
set_option maxRecDepth 100000 in
theorem chk_90 : (ins_90).all (fun e => decide (decode cX6_isNameOf e.1 = .ok e.2)) = true := by decide +kernel
-- 91 CreditScrollModel.record
def ins_91 : List (Nat × Instr × Nat) := [(0, .aload_n 0, 1), (1, .getfield 53, 3), (4, .bipush 6, 2), (6, .if_icmp .ne 44, 3), (9, .iconst 0, 1), (10, .istore_n 1, 1), (11, .iload_n 1, 1), (12, .sipush 820, 3), (15, .if_icmp .ge 25, 3), (18, .aload_n 0, 1), (19, .getfield 13, 3), (22, .iload_n 1, 1), (23, .aload_n 0, 1), (24, .getfield 13, 3), (27, .iload_n 1, 1), (28, .sipush 164, 3), (31, .iadd, 1), (32, .iaload, 1), (33, .iastore, 1), (34, .iinc 1 1, 3), (37, .goto (-26), 3), (40, .aload_n 0, 1), (41, .dup, 1), (42, .getfield 53, 3), (45, .iconst 1, 1), (46, .isub, 1), (47, .putfield 53, 3), (50, .iconst 0, 1), (51, .istore_n 1, 1), (52, .iload_n 1, 1), (53, .sipush 164, 3), (56, .if_icmp .ge 30, 3), (59, .aload_n 0, 1), (60, .getfield 13, 3), (63, .aload_n 0, 1), (64, .getfield 53, 3), (67, .sipush 164, 3), (70, .imul, 1), (71, .iload_n 1, 1), (72, .iadd, 1), (73, .aload_n 0, 1), (74, .getfield 7, 3), (77, .iload_n 1, 1), (78, .iaload, 1), (79, .iastore, 1), (80, .iinc 1 1, 3), (83, .goto (-31), 3), (86, .aload_n 0, 1), (87, .dup, 1), (88, .getfield 53, 3), (91, .iconst 1, 1), (92, .iadd, 1), (93, .putfield 53, 3), (96, .return_, 1)]
set_option maxRecDepth 100000 in
theorem chk_91 : (ins_91).all (fun e => decide (decode cX6_record e.1 = .ok e.2)) = true := by decide +kernel
-- 92 CreditScrollModel.undo
def ins_92 : List (Nat × Instr × Nat) := [(0, .aload_n 0, 1), (1, .getfield 53, 3), (4, .ifCond .ne 6, 3), (7, .bipush (-5), 2), (9, .ireturn, 1), (10, .aload_n 0, 1), (11, .dup, 1), (12, .getfield 53, 3), (15, .iconst 1, 1), (16, .isub, 1), (17, .putfield 53, 3), (20, .iconst 0, 1), (21, .istore_n 1, 1), (22, .iload_n 1, 1), (23, .sipush 164, 3), (26, .if_icmp .ge 30, 3), (29, .aload_n 0, 1), (30, .getfield 7, 3), (33, .iload_n 1, 1), (34, .aload_n 0, 1), (35, .getfield 13, 3), (38, .aload_n 0, 1), (39, .getfield 53, 3), (42, .sipush 164, 3), (45, .imul, 1), (46, .iload_n 1, 1), (47, .iadd, 1), (48, .iaload, 1), (49, .iastore, 1), (50, .iinc 1 1, 3), (53, .goto (-31), 3), (56, .aload_n 0, 1), (57, .getfield 53, 3), (60, .ireturn, 1)]
set_option maxRecDepth 100000 in
theorem chk_92 : (ins_92).all (fun e => decide (decode cX6_undo e.1 = .ok e.2)) = true := by decide +kernel
-- 93 CreditScrollModel.save
def ins_93 : List (Nat × Instr × Nat) := [(0, .iload_n 1, 1), (1, .iconst 0, 1), (2, .iconst 1, 1), (3, .invokestatic 45, 3), (6, .ifCond .ne 6, 3), (9, .bipush (-2), 2), (11, .ireturn, 1), (12, .aload_n 0, 1), (13, .getfield 19, 3), (16, .iload_n 1, 1), (17, .iconst 1, 1), (18, .bastore, 1), (19, .iconst 0, 1), (20, .istore_n 2, 1), (21, .iload_n 2, 1), (22, .sipush 164, 3), (25, .if_icmp .ge 27, 3), (28, .aload_n 0, 1), (29, .getfield 16, 3), (32, .iload_n 1, 1), (33, .sipush 164, 3), (36, .imul, 1), (37, .iload_n 2, 1), (38, .iadd, 1), (39, .aload_n 0, 1), (40, .getfield 7, 3), (43, .iload_n 2, 1), (44, .iaload, 1), (45, .iastore, 1), (46, .iinc 2 1, 3), (49, .goto (-28), 3), (52, .aload_n 0, 1), (53, .getfield 7, 3), (56, .iconst 3, 1), (57, .iaload, 1), (58, .ireturn, 1)]
set_option maxRecDepth 100000 in
theorem chk_93 : (ins_93).all (fun e => decide (decode cX6_save e.1 = .ok e.2)) = true := by decide +kernel
-- 94 CreditScrollModel.restore
def ins_94 : List (Nat × Instr × Nat) := [(0, .iload_n 1, 1), (1, .iconst 0, 1), (2, .iconst 1, 1), (3, .invokestatic 45, 3), (6, .ifCond .ne 6, 3), (9, .bipush (-2), 2), (11, .ireturn, 1), (12, .aload_n 0, 1), (13, .getfield 19, 3), (16, .iload_n 1, 1), (17, .baload, 1), (18, .ifCond .ne 6, 3), (21, .bipush (-5), 2), (23, .ireturn, 1), (24, .aload_n 0, 1), (25, .invokevirtual 57, 3), (28, .iconst 0, 1), (29, .istore_n 2, 1), (30, .iload_n 2, 1), (31, .sipush 164, 3), (34, .if_icmp .ge 27, 3), (37, .aload_n 0, 1), (38, .getfield 7, 3), (41, .iload_n 2, 1), (42, .aload_n 0, 1), (43, .getfield 16, 3), (46, .iload_n 1, 1), (47, .sipush 164, 3), (50, .imul, 1), (51, .iload_n 2, 1), (52, .iadd, 1), (53, .iaload, 1), (54, .iastore, 1), (55, .iinc 2 1, 3), (58, .goto (-28), 3), (61, .aload_n 0, 1), (62, .getfield 7, 3), (65, .iconst 3, 1), (66, .iaload, 1), (67, .ireturn, 1)]
set_option maxRecDepth 100000 in
theorem chk_94 : (ins_94).all (fun e => decide (decode cX6_restore e.1 = .ok e.2)) = true := by decide +kernel
-- 95 CreditScrollModel.height
def ins_95 : List (Nat × Instr × Nat) := [(0, .aload_n 0, 1), (1, .iload_n 1, 1), (2, .iconst 0, 1), (3, .invokevirtual 49, 3), (6, .istore_n 2, 1), (7, .iload_n 2, 1), (8, .iconst 1, 1), (9, .if_icmp .ne 7, 3), (12, .iconst 2, 1), (13, .goto 18, 3), (16, .iload_n 2, 1), (17, .iconst 2, 1), (18, .if_icmp .ne 12, 3), (21, .aload_n 0, 1), (22, .getfield 7, 3), (25, .iconst 2, 1), (26, .iaload, 1), (27, .goto 4, 3), (30, .iconst 1, 1), (31, .ireturn, 1)]
set_option maxRecDepth 100000 in
theorem chk_95 : (ins_95).all (fun e => decide (decode cX6_height e.1 = .ok e.2)) = true := by decide +kernel
-- 96 CreditScrollModel.begin
def ins_96 : List (Nat × Instr × Nat) := [(0, .aload_n 0, 1), (1, .getfield 27, 3), (4, .iconst 0, 1), (5, .iconst 0, 1), (6, .iastore, 1), (7, .iconst 0, 1), (8, .istore_n 1, 1), (9, .iload_n 1, 1), (10, .aload_n 0, 1), (11, .getfield 7, 3), (14, .iconst 3, 1), (15, .iaload, 1), (16, .if_icmp .ge 52, 3), (19, .aload_n 0, 1), (20, .getfield 27, 3), (23, .iload_n 1, 1), (24, .iconst 1, 1), (25, .iadd, 1), (26, .aload_n 0, 1), (27, .getfield 27, 3), (30, .iload_n 1, 1), (31, .iaload, 1), (32, .aload_n 0, 1), (33, .iload_n 1, 1), (34, .invokevirtual 60, 3), (37, .iadd, 1), (38, .iastore, 1), (39, .aload_n 0, 1), (40, .getfield 30, 3), (43, .iload_n 1, 1), (44, .iconst 0, 1), (45, .iastore, 1), (46, .aload_n 0, 1), (47, .getfield 33, 3), (50, .iload_n 1, 1), (51, .bipush (-6), 2), (53, .iastore, 1), (54, .aload_n 0, 1), (55, .getfield 36, 3), (58, .iload_n 1, 1), (59, .bipush (-6), 2), (61, .iastore, 1), (62, .iinc 1 1, 3), (65, .goto (-56), 3), (68, .aload_n 0, 1), (69, .iconst 0, 1), (70, .putfield 64, 3), (73, .return_, 1)]
set_option maxRecDepth 100000 in
theorem chk_96 : (ins_96).all (fun e => decide (decode cX6_begin e.1 = .ok e.2)) = true := by decide +kernel
-- 97 CreditScrollModel.speedNow
def ins_97 : List (Nat × Instr × Nat) := [(0, .aload_n 0, 1), (1, .getfield 7, 3), (4, .iconst 1, 1), (5, .iaload, 1), (6, .istore_n 1, 1), (7, .iconst 0, 1), (8, .istore_n 2, 1), (9, .iload_n 2, 1), (10, .aload_n 0, 1), (11, .getfield 7, 3), (14, .iconst 3, 1), (15, .iaload, 1), (16, .if_icmp .ge 45, 3), (19, .aload_n 0, 1), (20, .iload_n 2, 1), (21, .iconst 3, 1), (22, .invokevirtual 49, 3), (25, .ifCond .le 28, 3), (28, .bipush 10, 2), (30, .aload_n 0, 1), (31, .getfield 27, 3), (34, .iload_n 2, 1), (35, .iaload, 1), (36, .imul, 1), (37, .aload_n 0, 1), (38, .getfield 64, 3), (41, .if_icmp .gt 12, 3), (44, .aload_n 0, 1), (45, .iload_n 2, 1), (46, .iconst 3, 1), (47, .invokevirtual 49, 3), (50, .goto 4, 3), (53, .iload_n 1, 1), (54, .istore_n 1, 1), (55, .iinc 2 1, 3), (58, .goto (-49), 3), (61, .iload_n 1, 1), (62, .ireturn, 1)]
set_option maxRecDepth 100000 in
theorem chk_97 : (ins_97).all (fun e => decide (decode cX6_speedNow e.1 = .ok e.2)) = true := by decide +kernel
-- 98 CreditScrollModel.isSeen
def ins_98 : List (Nat × Instr × Nat) := [(0, .aload_n 0, 1), (1, .getfield 64, 3), (4, .bipush 10, 2), (6, .aload_n 0, 1), (7, .getfield 27, 3), (10, .iload_n 1, 1), (11, .iconst 1, 1), (12, .iadd, 1), (13, .iaload, 1), (14, .imul, 1), (15, .if_icmp .lt 30, 3), (18, .aload_n 0, 1), (19, .getfield 64, 3), (22, .bipush 10, 2), (24, .aload_n 0, 1), (25, .getfield 27, 3), (28, .iload_n 1, 1), (29, .iaload, 1), (30, .aload_n 0, 1), (31, .getfield 7, 3), (34, .iconst 0, 1), (35, .iaload, 1), (36, .iadd, 1), (37, .imul, 1), (38, .if_icmp .gt 7, 3), (41, .iconst 1, 1), (42, .goto 4, 3), (45, .iconst 0, 1), (46, .ireturn, 1)]
set_option maxRecDepth 100000 in
theorem chk_98 : (ins_98).all (fun e => decide (decode cX6_isSeen e.1 = .ok e.2)) = true := by decide +kernel
-- 99 CreditScrollModel.run
def ins_99 : List (Nat × Instr × Nat) := [(0, .aload_n 0, 1), (1, .invokevirtual 67, 3), (4, .aload_n 0, 1), (5, .getfield 7, 3), (8, .iconst 3, 1), (9, .iaload, 1), (10, .ifCond .ne 7, 3), (13, .iconst 0, 1), (14, .goto 24, 3), (17, .bipush 10, 2), (19, .aload_n 0, 1), (20, .getfield 27, 3), (23, .aload_n 0, 1), (24, .getfield 7, 3), (27, .iconst 3, 1), (28, .iaload, 1), (29, .iaload, 1), (30, .aload_n 0, 1), (31, .getfield 7, 3), (34, .iconst 0, 1), (35, .iaload, 1), (36, .iadd, 1), (37, .imul, 1), (38, .istore_n 1, 1), (39, .iconst 0, 1), (40, .istore_n 2, 1), (41, .aload_n 0, 1), (42, .getfield 64, 3), (45, .iload_n 1, 1), (46, .if_icmp .ge 92, 3), (49, .aload_n 0, 1), (50, .dup, 1), (51, .getfield 64, 3), (54, .aload_n 0, 1), (55, .invokevirtual 70, 3), (58, .iadd, 1), (59, .putfield 64, 3), (62, .iinc 2 1, 3), (65, .iconst 0, 1), (66, .istore_n 3, 1), (67, .iload_n 3, 1), (68, .aload_n 0, 1), (69, .getfield 7, 3), (72, .iconst 3, 1), (73, .iaload, 1), (74, .if_icmp .ge 61, 3), (77, .aload_n 0, 1), (78, .iload_n 3, 1), (79, .invokevirtual 74, 3), (82, .ifCond .eq 47, 3), (85, .aload_n 0, 1), (86, .getfield 30, 3), (89, .iload_n 3, 1), (90, .dup2, 1), (91, .iaload, 1), (92, .iconst 1, 1), (93, .iadd, 1), (94, .iastore, 1), (95, .aload_n 0, 1), (96, .getfield 33, 3), (99, .iload_n 3, 1), (100, .aload_n 0, 1), (101, .getfield 33, 3), (104, .iload_n 3, 1), (105, .iaload, 1), (106, .bipush (-6), 2), (108, .if_icmp .ne 7, 3), (111, .iload_n 2, 1), (112, .goto 9, 3), (115, .aload_n 0, 1), (116, .getfield 33, 3), (119, .iload_n 3, 1), (120, .iaload, 1), (121, .iastore, 1), (122, .aload_n 0, 1), (123, .getfield 36, 3), (126, .iload_n 3, 1), (127, .iload_n 2, 1), (128, .iastore, 1), (129, .iinc 3 1, 3), (132, .goto (-65), 3), (135, .goto (-94), 3), (138, .iload_n 2, 1), (139, .ireturn, 1)]
set_option maxRecDepth 100000 in
theorem chk_99 : (ins_99).all (fun e => decide (decode cX6_run e.1 = .ok e.2)) = true := by decide +kernel
-- 100 CreditScrollModel.namesOf
def ins_100 : List (Nat × Instr × Nat) := [(0, .iconst 0, 1), (1, .istore_n 2, 1), (2, .iconst 0, 1), (3, .istore_n 3, 1), (4, .iload_n 3, 1), (5, .aload_n 0, 1), (6, .getfield 7, 3), (9, .iconst 3, 1), (10, .iaload, 1), (11, .if_icmp .ge 26, 3), (14, .iload_n 2, 1), (15, .aload_n 0, 1), (16, .iload_n 3, 1), (17, .iload_n 1, 1), (18, .invokevirtual 78, 3), (21, .ifCond .eq 7, 3), (24, .iconst 1, 1), (25, .goto 4, 3), (28, .iconst 0, 1), (29, .iadd, 1), (30, .istore_n 2, 1), (31, .iinc 3 1, 3), (34, .goto (-30), 3), (37, .iload_n 2, 1), (38, .ireturn, 1)]
set_option maxRecDepth 100000 in
theorem chk_100 : (ins_100).all (fun e => decide (decode cX6_namesOf e.1 = .ok e.2)) = true := by decide +kernel
-- 101 CreditScrollModel.shortest
def ins_101 : List (Nat × Instr × Nat) := [(0, .bipush (-6), 2), (2, .istore_n 2, 1), (3, .iconst 0, 1), (4, .istore_n 3, 1), (5, .iload_n 3, 1), (6, .aload_n 0, 1), (7, .getfield 7, 3), (10, .iconst 3, 1), (11, .iaload, 1), (12, .if_icmp .ge 45, 3), (15, .aload_n 0, 1), (16, .iload_n 3, 1), (17, .iload_n 1, 1), (18, .invokevirtual 78, 3), (21, .ifCond .eq 28, 3), (24, .iload_n 2, 1), (25, .bipush (-6), 2), (27, .if_icmp .eq 18, 3), (30, .aload_n 0, 1), (31, .getfield 30, 3), (34, .iload_n 3, 1), (35, .iaload, 1), (36, .aload_n 0, 1), (37, .getfield 30, 3), (40, .iload_n 2, 1), (41, .iaload, 1), (42, .if_icmp .ge 7, 3), (45, .iload_n 3, 1), (46, .goto 4, 3), (49, .iload_n 2, 1), (50, .istore_n 2, 1), (51, .iinc 3 1, 3), (54, .goto (-49), 3), (57, .iload_n 2, 1), (58, .ireturn, 1)]
set_option maxRecDepth 100000 in
theorem chk_101 : (ins_101).all (fun e => decide (decode cX6_shortest e.1 = .ok e.2)) = true := by decide +kernel
-- 102 CreditScrollModel.spread
def ins_102 : List (Nat × Instr × Nat) := [(0, .iconst 0, 1), (1, .istore_n 2, 1), (2, .iconst 0, 1), (3, .istore_n 3, 1), (4, .iload_n 3, 1), (5, .aload_n 0, 1), (6, .getfield 7, 3), (9, .iconst 3, 1), (10, .iaload, 1), (11, .if_icmp .ge 39, 3), (14, .aload_n 0, 1), (15, .iload_n 3, 1), (16, .iload_n 1, 1), (17, .invokevirtual 78, 3), (20, .ifCond .eq 22, 3), (23, .aload_n 0, 1), (24, .getfield 30, 3), (27, .iload_n 3, 1), (28, .iaload, 1), (29, .iload_n 2, 1), (30, .if_icmp .le 12, 3), (33, .aload_n 0, 1), (34, .getfield 30, 3), (37, .iload_n 3, 1), (38, .iaload, 1), (39, .goto 4, 3), (42, .iload_n 2, 1), (43, .istore_n 2, 1), (44, .iinc 3 1, 3), (47, .goto (-43), 3), (50, .aload_n 0, 1), (51, .iload_n 1, 1), (52, .invokevirtual 82, 3), (55, .istore_n 3, 1), (56, .iload_n 3, 1), (57, .bipush (-6), 2), (59, .if_icmp .ne 7, 3), (62, .iconst 0, 1), (63, .goto 11, 3), (66, .iload_n 2, 1), (67, .aload_n 0, 1), (68, .getfield 30, 3), (71, .iload_n 3, 1), (72, .iaload, 1), (73, .isub, 1), (74, .ireturn, 1)]
set_option maxRecDepth 100000 in
theorem chk_102 : (ins_102).all (fun e => decide (decode cX6_spread e.1 = .ok e.2)) = true := by decide +kernel
-- 103 CreditScrollModel.firstName
def ins_103 : List (Nat × Instr × Nat) := [(0, .iconst 0, 1), (1, .istore_n 2, 1), (2, .iload_n 2, 1), (3, .aload_n 0, 1), (4, .getfield 7, 3), (7, .iconst 3, 1), (8, .iaload, 1), (9, .if_icmp .ge 20, 3), (12, .aload_n 0, 1), (13, .iload_n 2, 1), (14, .iload_n 1, 1), (15, .invokevirtual 78, 3), (18, .ifCond .eq 5, 3), (21, .iload_n 2, 1), (22, .ireturn, 1), (23, .iinc 2 1, 3), (26, .goto (-24), 3), (29, .bipush (-6), 2), (31, .ireturn, 1)]
set_option maxRecDepth 100000 in
theorem chk_103 : (ins_103).all (fun e => decide (decode cX6_firstName e.1 = .ok e.2)) = true := by decide +kernel
-- 104 CreditScrollModel.leastOf
def ins_104 : List (Nat × Instr × Nat) := [(0, .iload_n 0, 1), (1, .ifCond .ne 7, 3), (4, .iconst 4, 1), (5, .goto 4, 3), (8, .iconst 1, 1), (9, .ireturn, 1)]
set_option maxRecDepth 100000 in
theorem chk_104 : (ins_104).all (fun e => decide (decode cX6_leastOf e.1 = .ok e.2)) = true := by decide +kernel
-- 105 CreditScrollModel.mostOf
def ins_105 : List (Nat × Instr × Nat) := [(0, .iload_n 0, 1), (1, .ifCond .ne 8, 3), (4, .bipush 20, 2), (6, .goto 14, 3), (9, .iload_n 0, 1), (10, .iconst 1, 1), (11, .if_icmp .ne 8, 3), (14, .bipush 30, 2), (16, .goto 4, 3), (19, .iconst 4, 1), (20, .ireturn, 1)]
set_option maxRecDepth 100000 in
theorem chk_105 : (ins_105).all (fun e => decide (decode cX6_mostOf e.1 = .ok e.2)) = true := by decide +kernel
-- 106 CreditScrollModel.set
def ins_106 : List (Nat × Instr × Nat) := [(0, .iload_n 1, 1), (1, .iconst 0, 1), (2, .iconst 2, 1), (3, .invokestatic 45, 3), (6, .ifCond .eq 18, 3), (9, .iload_n 2, 1), (10, .iload_n 1, 1), (11, .invokestatic 85, 3), (14, .iload_n 1, 1), (15, .invokestatic 88, 3), (18, .invokestatic 45, 3), (21, .ifCond .ne 6, 3), (24, .bipush (-2), 2), (26, .ireturn, 1), (27, .aload_n 0, 1), (28, .invokevirtual 57, 3), (31, .aload_n 0, 1), (32, .getfield 7, 3), (35, .iload_n 1, 1), (36, .iaload, 1), (37, .istore_n 3, 1), (38, .aload_n 0, 1), (39, .getfield 7, 3), (42, .iload_n 1, 1), (43, .iload_n 2, 1), (44, .iastore, 1), (45, .iload_n 3, 1), (46, .ireturn, 1)]
set_option maxRecDepth 100000 in
theorem chk_106 : (ins_106).all (fun e => decide (decode cX6_set e.1 = .ok e.2)) = true := by decide +kernel
-- 107 CreditScrollModel.add
def ins_107 : List (Nat × Instr × Nat) := [(0, .iconst 4, 1), (1, .iconst 4, 1), (2, .aload_n 0, 1), (3, .getfield 7, 3), (6, .iconst 3, 1), (7, .iaload, 1), (8, .imul, 1), (9, .iadd, 1), (10, .istore 5, 2), (12, .aload_n 0, 1), (13, .getfield 7, 3), (16, .iload 5, 2), (18, .iconst 0, 1), (19, .iadd, 1), (20, .iload_n 1, 1), (21, .iastore, 1), (22, .aload_n 0, 1), (23, .getfield 7, 3), (26, .iload 5, 2), (28, .iconst 1, 1), (29, .iadd, 1), (30, .iload_n 2, 1), (31, .iastore, 1), (32, .aload_n 0, 1), (33, .getfield 7, 3), (36, .iload 5, 2), (38, .iconst 2, 1), (39, .iadd, 1), (40, .iload_n 3, 1), (41, .iastore, 1), (42, .aload_n 0, 1), (43, .getfield 7, 3), (46, .iload 5, 2), (48, .iconst 3, 1), (49, .iadd, 1), (50, .iload 4, 2), (52, .iastore, 1), (53, .aload_n 0, 1), (54, .getfield 7, 3), (57, .iconst 3, 1), (58, .dup2, 1), (59, .iaload, 1), (60, .iconst 1, 1), (61, .iadd, 1), (62, .iastore, 1), (63, .aload_n 0, 1), (64, .getfield 7, 3), (67, .iconst 3, 1), (68, .iaload, 1), (69, .iconst 1, 1), (70, .isub, 1), (71, .ireturn, 1)]
set_option maxRecDepth 100000 in
theorem chk_107 : (ins_107).all (fun e => decide (decode cX6_add e.1 = .ok e.2)) = true := by decide +kernel
-- 108 CreditScrollModel.name
def ins_108 : List (Nat × Instr × Nat) := [(0, .iload_n 1, 1), (1, .invokestatic 91, 3), (4, .ifCond .eq 14, 3), (7, .iload_n 2, 1), (8, .iconst 0, 1), (9, .sipush 999, 3), (12, .invokestatic 45, 3), (15, .ifCond .ne 6, 3), (18, .bipush (-2), 2), (20, .ireturn, 1), (21, .aload_n 0, 1), (22, .getfield 7, 3), (25, .iconst 3, 1), (26, .iaload, 1), (27, .bipush 40, 2), (29, .if_icmp .ne 6, 3), (32, .bipush (-4), 2), (34, .ireturn, 1), (35, .aload_n 0, 1), (36, .invokevirtual 57, 3), (39, .aload_n 0, 1), (40, .iconst 0, 1), (41, .iload_n 1, 1), (42, .iload_n 2, 1), (43, .iconst 0, 1), (44, .invokevirtual 94, 3), (47, .ireturn, 1)]
set_option maxRecDepth 100000 in
theorem chk_108 : (ins_108).all (fun e => decide (decode cX6_name e.1 = .ok e.2)) = true := by decide +kernel
-- 109 CreditScrollModel.line
def ins_109 : List (Nat × Instr × Nat) := [(0, .iload_n 1, 1), (1, .iconst 1, 1), (2, .iconst 3, 1), (3, .invokestatic 45, 3), (6, .ifCond .ne 6, 3), (9, .bipush (-2), 2), (11, .ireturn, 1), (12, .aload_n 0, 1), (13, .getfield 7, 3), (16, .iconst 3, 1), (17, .iaload, 1), (18, .bipush 40, 2), (20, .if_icmp .ne 6, 3), (23, .bipush (-4), 2), (25, .ireturn, 1), (26, .aload_n 0, 1), (27, .invokevirtual 57, 3), (30, .aload_n 0, 1), (31, .iload_n 1, 1), (32, .bipush (-6), 2), (34, .bipush (-6), 2), (36, .iconst 0, 1), (37, .invokevirtual 94, 3), (40, .ireturn, 1)]
set_option maxRecDepth 100000 in
theorem chk_109 : (ins_109).all (fun e => decide (decode cX6_line e.1 = .ok e.2)) = true := by decide +kernel
-- 110 CreditScrollModel.cue
def ins_110 : List (Nat × Instr × Nat) := [(0, .aload_n 0, 1), (1, .iload_n 1, 1), (2, .invokevirtual 98, 3), (5, .ifCond .ne 5, 3), (8, .iconst (-1), 1), (9, .ireturn, 1), (10, .iload_n 2, 1), (11, .iconst 0, 1), (12, .bipush 30, 2), (14, .invokestatic 45, 3), (17, .ifCond .ne 6, 3), (20, .bipush (-2), 2), (22, .ireturn, 1), (23, .aload_n 0, 1), (24, .invokevirtual 57, 3), (27, .aload_n 0, 1), (28, .iload_n 1, 1), (29, .iconst 3, 1), (30, .invokevirtual 49, 3), (33, .istore_n 3, 1), (34, .aload_n 0, 1), (35, .getfield 7, 3), (38, .iconst 4, 1), (39, .iconst 4, 1), (40, .iload_n 1, 1), (41, .imul, 1), (42, .iadd, 1), (43, .iconst 3, 1), (44, .iadd, 1), (45, .iload_n 2, 1), (46, .iastore, 1), (47, .iload_n 3, 1), (48, .ireturn, 1)]
set_option maxRecDepth 100000 in
theorem chk_110 : (ins_110).all (fun e => decide (decode cX6_cue e.1 = .ok e.2)) = true := by decide +kernel
-- 111 CreditScrollModel.exchange
def ins_111 : List (Nat × Instr × Nat) := [(0, .iconst 0, 1), (1, .istore_n 2, 1), (2, .iload_n 2, 1), (3, .iconst 4, 1), (4, .if_icmp .ge 63, 3), (7, .aload_n 0, 1), (8, .getfield 7, 3), (11, .iconst 4, 1), (12, .iconst 4, 1), (13, .iload_n 1, 1), (14, .imul, 1), (15, .iadd, 1), (16, .iload_n 2, 1), (17, .iadd, 1), (18, .iaload, 1), (19, .istore_n 3, 1), (20, .aload_n 0, 1), (21, .getfield 7, 3), (24, .iconst 4, 1), (25, .iconst 4, 1), (26, .iload_n 1, 1), (27, .imul, 1), (28, .iadd, 1), (29, .iload_n 2, 1), (30, .iadd, 1), (31, .aload_n 0, 1), (32, .getfield 7, 3), (35, .iconst 4, 1), (36, .iconst 4, 1), (37, .iload_n 1, 1), (38, .imul, 1), (39, .iadd, 1), (40, .iconst 4, 1), (41, .iadd, 1), (42, .iload_n 2, 1), (43, .iadd, 1), (44, .iaload, 1), (45, .iastore, 1), (46, .aload_n 0, 1), (47, .getfield 7, 3), (50, .iconst 4, 1), (51, .iconst 4, 1), (52, .iload_n 1, 1), (53, .imul, 1), (54, .iadd, 1), (55, .iconst 4, 1), (56, .iadd, 1), (57, .iload_n 2, 1), (58, .iadd, 1), (59, .iload_n 3, 1), (60, .iastore, 1), (61, .iinc 2 1, 3), (64, .goto (-62), 3), (67, .return_, 1)]
set_option maxRecDepth 100000 in
theorem chk_111 : (ins_111).all (fun e => decide (decode cX6_exchange e.1 = .ok e.2)) = true := by decide +kernel
-- 112 CreditScrollModel.move
def ins_112 : List (Nat × Instr × Nat) := [(0, .aload_n 0, 1), (1, .iload_n 1, 1), (2, .invokevirtual 98, 3), (5, .ifCond .eq 11, 3), (8, .aload_n 0, 1), (9, .iload_n 2, 1), (10, .invokevirtual 98, 3), (13, .ifCond .ne 5, 3), (16, .iconst (-1), 1), (17, .ireturn, 1), (18, .aload_n 0, 1), (19, .invokevirtual 57, 3), (22, .aload_n 0, 1), (23, .invokevirtual 101, 3), (26, .istore_n 3, 1), (27, .iload_n 1, 1), (28, .istore 4, 2), (30, .iload 4, 2), (32, .iload_n 2, 1), (33, .if_icmp .ge 15, 3), (36, .aload_n 0, 1), (37, .iload 4, 2), (39, .invokevirtual 104, 3), (42, .iinc 4 1, 3), (45, .goto (-15), 3), (48, .iload_n 1, 1), (49, .istore 4, 2), (51, .iload 4, 2), (53, .iload_n 2, 1), (54, .if_icmp .le 17, 3), (57, .aload_n 0, 1), (58, .iload 4, 2), (60, .iconst 1, 1), (61, .isub, 1), (62, .invokevirtual 104, 3), (65, .iinc 4 (-1), 3), (68, .goto (-17), 3), (71, .aload_n 0, 1), (72, .invokevirtual 101, 3), (75, .iload_n 3, 1), (76, .isub, 1), (77, .sipush 10000, 3), (80, .iadd, 1), (81, .ireturn, 1)]
set_option maxRecDepth 100000 in
theorem chk_112 : (ins_112).all (fun e => decide (decode cX6_move e.1 = .ok e.2)) = true := by decide +kernel
-- 113 CreditScrollModel.drop
def ins_113 : List (Nat × Instr × Nat) := [(0, .aload_n 0, 1), (1, .iload_n 1, 1), (2, .invokevirtual 98, 3), (5, .ifCond .ne 5, 3), (8, .iconst (-1), 1), (9, .ireturn, 1), (10, .aload_n 0, 1), (11, .invokevirtual 57, 3), (14, .iload_n 1, 1), (15, .istore_n 2, 1), (16, .iload_n 2, 1), (17, .iconst 1, 1), (18, .iadd, 1), (19, .aload_n 0, 1), (20, .getfield 7, 3), (23, .iconst 3, 1), (24, .iaload, 1), (25, .if_icmp .ge 14, 3), (28, .aload_n 0, 1), (29, .iload_n 2, 1), (30, .invokevirtual 104, 3), (33, .iinc 2 1, 3), (36, .goto (-20), 3), (39, .aload_n 0, 1), (40, .getfield 7, 3), (43, .iconst 3, 1), (44, .dup2, 1), (45, .iaload, 1), (46, .iconst 1, 1), (47, .isub, 1), (48, .iastore, 1), (49, .iconst 0, 1), (50, .istore_n 2, 1), (51, .iload_n 2, 1), (52, .iconst 4, 1), (53, .if_icmp .ge 27, 3), (56, .aload_n 0, 1), (57, .getfield 7, 3), (60, .iconst 4, 1), (61, .iconst 4, 1), (62, .aload_n 0, 1), (63, .getfield 7, 3), (66, .iconst 3, 1), (67, .iaload, 1), (68, .imul, 1), (69, .iadd, 1), (70, .iload_n 2, 1), (71, .iadd, 1), (72, .iconst 0, 1), (73, .iastore, 1), (74, .iinc 2 1, 3), (77, .goto (-26), 3), (80, .aload_n 0, 1), (81, .getfield 7, 3), (84, .iconst 3, 1), (85, .iaload, 1), (86, .ireturn, 1)]
set_option maxRecDepth 100000 in
theorem chk_113 : (ins_113).all (fun e => decide (decode cX6_drop e.1 = .ok e.2)) = true := by decide +kernel
-- 114 CreditScrollModel.turnOnce
def ins_114 : List (Nat × Instr × Nat) := [(0, .aload_n 0, 1), (1, .iload_n 1, 1), (2, .invokevirtual 108, 3), (5, .istore_n 2, 1), (6, .aload_n 0, 1), (7, .iload_n 2, 1), (8, .iconst 2, 1), (9, .invokevirtual 49, 3), (12, .istore_n 3, 1), (13, .iload_n 2, 1), (14, .iconst 1, 1), (15, .iadd, 1), (16, .istore 4, 2), (18, .iload 4, 2), (20, .aload_n 0, 1), (21, .getfield 7, 3), (24, .iconst 3, 1), (25, .iaload, 1), (26, .if_icmp .ge 41, 3), (29, .aload_n 0, 1), (30, .iload 4, 2), (32, .iload_n 1, 1), (33, .invokevirtual 78, 3), (36, .ifCond .eq 25, 3), (39, .aload_n 0, 1), (40, .getfield 7, 3), (43, .iconst 4, 1), (44, .iconst 4, 1), (45, .iload_n 2, 1), (46, .imul, 1), (47, .iadd, 1), (48, .iconst 2, 1), (49, .iadd, 1), (50, .aload_n 0, 1), (51, .iload 4, 2), (53, .iconst 2, 1), (54, .invokevirtual 49, 3), (57, .iastore, 1), (58, .iload 4, 2), (60, .istore_n 2, 1), (61, .iinc 4 1, 3), (64, .goto (-46), 3), (67, .aload_n 0, 1), (68, .getfield 7, 3), (71, .iconst 4, 1), (72, .iconst 4, 1), (73, .iload_n 2, 1), (74, .imul, 1), (75, .iadd, 1), (76, .iconst 2, 1), (77, .iadd, 1), (78, .iload_n 3, 1), (79, .iastore, 1), (80, .return_, 1)]
set_option maxRecDepth 100000 in
theorem chk_114 : (ins_114).all (fun e => decide (decode cX6_turnOnce e.1 = .ok e.2)) = true := by decide +kernel
-- 115 CreditScrollModel.turn
def ins_115 : List (Nat × Instr × Nat) := [(0, .iload_n 1, 1), (1, .invokestatic 91, 3), (4, .ifCond .eq 13, 3), (7, .iload_n 2, 1), (8, .iconst 1, 1), (9, .bipush 40, 2), (11, .invokestatic 45, 3), (14, .ifCond .ne 6, 3), (17, .bipush (-2), 2), (19, .ireturn, 1), (20, .aload_n 0, 1), (21, .iload_n 1, 1), (22, .invokevirtual 111, 3), (25, .ifCond .ne 6, 3), (28, .bipush (-5), 2), (30, .ireturn, 1), (31, .aload_n 0, 1), (32, .invokevirtual 57, 3), (35, .iconst 0, 1), (36, .istore_n 3, 1), (37, .iload_n 3, 1), (38, .iload_n 2, 1), (39, .if_icmp .ge 14, 3), (42, .aload_n 0, 1), (43, .iload_n 1, 1), (44, .invokevirtual 114, 3), (47, .iinc 3 1, 3), (50, .goto (-13), 3), (53, .aload_n 0, 1), (54, .aload_n 0, 1), (55, .iload_n 1, 1), (56, .invokevirtual 108, 3), (59, .iconst 2, 1), (60, .invokevirtual 49, 3), (63, .ireturn, 1)]
set_option maxRecDepth 100000 in
theorem chk_115 : (ins_115).all (fun e => decide (decode cX6_turn e.1 = .ok e.2)) = true := by decide +kernel
-- 116 CreditScrollModel.of
def ins_116 : List (Nat × Instr × Nat) := [(0, .aload_n 0, 1), (1, .iload_n 1, 1), (2, .invokevirtual 98, 3), (5, .ifCond .ne 5, 3), (8, .iconst (-1), 1), (9, .ireturn, 1), (10, .iload_n 2, 1), (11, .bipush 6, 2), (13, .if_icmp .ge 10, 3), (16, .aload_n 0, 1), (17, .invokevirtual 67, 3), (20, .goto 8, 3), (23, .aload_n 0, 1), (24, .invokevirtual 101, 3), (27, .pop, 1), (28, .iload_n 2, 1), (29, .tableswitch 92 0 8 #[51, 51, 51, 51, 58, 65, 71, 78, 85], 51), (80, .aload_n 0, 1), (81, .iload_n 1, 1), (82, .iload_n 2, 1), (83, .invokevirtual 49, 3), (86, .ireturn, 1), (87, .aload_n 0, 1), (88, .getfield 27, 3), (91, .iload_n 1, 1), (92, .iaload, 1), (93, .ireturn, 1), (94, .aload_n 0, 1), (95, .iload_n 1, 1), (96, .invokevirtual 60, 3), (99, .ireturn, 1), (100, .aload_n 0, 1), (101, .getfield 30, 3), (104, .iload_n 1, 1), (105, .iaload, 1), (106, .ireturn, 1), (107, .aload_n 0, 1), (108, .getfield 33, 3), (111, .iload_n 1, 1), (112, .iaload, 1), (113, .ireturn, 1), (114, .aload_n 0, 1), (115, .getfield 36, 3), (118, .iload_n 1, 1), (119, .iaload, 1), (120, .ireturn, 1), (121, .bipush (-2), 2), (123, .ireturn, 1)]
set_option maxRecDepth 100000 in
theorem chk_116 : (ins_116).all (fun e => decide (decode cX6_of e.1 = .ok e.2)) = true := by decide +kernel
-- 117 CreditScrollModel.group
def ins_117 : List (Nat × Instr × Nat) := [(0, .iload_n 1, 1), (1, .invokestatic 91, 3), (4, .ifCond .eq 12, 3), (7, .iload_n 2, 1), (8, .iconst 0, 1), (9, .iconst 4, 1), (10, .invokestatic 45, 3), (13, .ifCond .ne 6, 3), (16, .bipush (-2), 2), (18, .ireturn, 1), (19, .aload_n 0, 1), (20, .invokevirtual 101, 3), (23, .pop, 1), (24, .aload_n 0, 1), (25, .iload_n 1, 1), (26, .invokevirtual 111, 3), (29, .istore_n 3, 1), (30, .iload_n 2, 1), (31, .iconst 2, 1), (32, .if_icmp .ge 17, 3), (35, .iload_n 2, 1), (36, .ifCond .ne 7, 3), (39, .iload_n 3, 1), (40, .goto 8, 3), (43, .aload_n 0, 1), (44, .iload_n 1, 1), (45, .invokevirtual 117, 3), (48, .ireturn, 1), (49, .iload_n 3, 1), (50, .ifCond .ne 6, 3), (53, .bipush (-6), 2), (55, .ireturn, 1), (56, .aload_n 0, 1), (57, .iload_n 1, 1), (58, .invokevirtual 82, 3), (61, .istore 4, 2), (63, .iload_n 2, 1), (64, .iconst 2, 1), (65, .if_icmp .ne 13, 3), (68, .aload_n 0, 1), (69, .getfield 30, 3), (72, .iload 4, 2), (74, .iaload, 1), (75, .goto 23, 3), (78, .iload_n 2, 1), (79, .iconst 3, 1), (80, .if_icmp .ne 8, 3), (83, .iload 4, 2), (85, .goto 13, 3), (88, .aload_n 0, 1), (89, .aload_n 0, 1), (90, .iload_n 1, 1), (91, .invokevirtual 108, 3), (94, .iconst 2, 1), (95, .invokevirtual 49, 3), (98, .ireturn, 1)]
set_option maxRecDepth 100000 in
theorem chk_117 : (ins_117).all (fun e => decide (decode cX6_group e.1 = .ok e.2)) = true := by decide +kernel
-- 118 CreditScrollModel.seenNow
def ins_118 : List (Nat × Instr × Nat) := [(0, .iconst 0, 1), (1, .istore_n 2, 1), (2, .bipush (-6), 2), (4, .istore_n 3, 1), (5, .bipush (-6), 2), (7, .istore 4, 2), (9, .iconst 0, 1), (10, .istore 5, 2), (12, .iload 5, 2), (14, .aload_n 0, 1), (15, .getfield 7, 3), (18, .iconst 3, 1), (19, .iaload, 1), (20, .if_icmp .ge 38, 3), (23, .aload_n 0, 1), (24, .iload 5, 2), (26, .invokevirtual 74, 3), (29, .ifCond .eq 23, 3), (32, .iinc 2 1, 3), (35, .iload_n 3, 1), (36, .bipush (-6), 2), (38, .if_icmp .ne 8, 3), (41, .iload 5, 2), (43, .goto 4, 3), (46, .iload_n 3, 1), (47, .istore_n 3, 1), (48, .iload 5, 2), (50, .istore 4, 2), (52, .iinc 5 1, 3), (55, .goto (-43), 3), (58, .iload_n 1, 1), (59, .ifCond .ne 7, 3), (62, .iload_n 3, 1), (63, .goto 14, 3), (66, .iload_n 1, 1), (67, .iconst 1, 1), (68, .if_icmp .ne 8, 3), (71, .iload 4, 2), (73, .goto 4, 3), (76, .iload_n 2, 1), (77, .ireturn, 1)]
set_option maxRecDepth 100000 in
theorem chk_118 : (ins_118).all (fun e => decide (decode cX6_seenNow e.1 = .ok e.2)) = true := by decide +kernel
-- 119 CreditScrollModel.at
def ins_119 : List (Nat × Instr × Nat) := [(0, .iload_n 1, 1), (1, .iconst 0, 1), (2, .sipush 9999, 3), (5, .invokestatic 45, 3), (8, .ifCond .eq 12, 3), (11, .iload_n 2, 1), (12, .iconst 0, 1), (13, .iconst 4, 1), (14, .invokestatic 45, 3), (17, .ifCond .ne 6, 3), (20, .bipush (-2), 2), (22, .ireturn, 1), (23, .aload_n 0, 1), (24, .invokevirtual 67, 3), (27, .iconst 0, 1), (28, .istore_n 3, 1), (29, .iload_n 3, 1), (30, .iload_n 1, 1), (31, .if_icmp .ge 22, 3), (34, .aload_n 0, 1), (35, .dup, 1), (36, .getfield 64, 3), (39, .aload_n 0, 1), (40, .invokevirtual 70, 3), (43, .iadd, 1), (44, .putfield 64, 3), (47, .iinc 3 1, 3), (50, .goto (-21), 3), (53, .iload_n 2, 1), (54, .iconst 3, 1), (55, .if_icmp .ge 11, 3), (58, .aload_n 0, 1), (59, .iload_n 2, 1), (60, .invokevirtual 120, 3), (63, .goto 19, 3), (66, .iload_n 2, 1), (67, .iconst 3, 1), (68, .if_icmp .ne 10, 3), (71, .aload_n 0, 1), (72, .invokevirtual 70, 3), (75, .goto 7, 3), (78, .aload_n 0, 1), (79, .getfield 64, 3), (82, .ireturn, 1)]
set_option maxRecDepth 100000 in
theorem chk_119 : (ins_119).all (fun e => decide (decode cX6_at e.1 = .ok e.2)) = true := by decide +kernel
-- 120 CreditScrollModel.unequal
def ins_120 : List (Nat × Instr × Nat) := [(0, .iconst 0, 1), (1, .istore_n 1, 1), (2, .iconst 0, 1), (3, .istore_n 2, 1), (4, .iload_n 2, 1), (5, .bipush 8, 2), (7, .if_icmp .ge 25, 3), (10, .iload_n 1, 1), (11, .aload_n 0, 1), (12, .iload_n 2, 1), (13, .invokevirtual 117, 3), (16, .ifCond .le 7, 3), (19, .iconst 1, 1), (20, .goto 4, 3), (23, .iconst 0, 1), (24, .iadd, 1), (25, .istore_n 1, 1), (26, .iinc 2 1, 3), (29, .goto (-25), 3), (32, .iload_n 1, 1), (33, .ireturn, 1)]
set_option maxRecDepth 100000 in
theorem chk_120 : (ins_120).all (fun e => decide (decode cX6_unequal e.1 = .ok e.2)) = true := by decide +kernel
-- 121 CreditScrollModel.names
def ins_121 : List (Nat × Instr × Nat) := [(0, .iconst 0, 1), (1, .istore_n 2, 1), (2, .iconst 0, 1), (3, .istore_n 3, 1), (4, .iload_n 3, 1), (5, .aload_n 0, 1), (6, .getfield 7, 3), (9, .iconst 3, 1), (10, .iaload, 1), (11, .if_icmp .ge 39, 3), (14, .iload_n 2, 1), (15, .aload_n 0, 1), (16, .iload_n 3, 1), (17, .iconst 0, 1), (18, .invokevirtual 49, 3), (21, .ifCond .ne 20, 3), (24, .iload_n 1, 1), (25, .ifCond .eq 12, 3), (28, .aload_n 0, 1), (29, .getfield 30, 3), (32, .iload_n 3, 1), (33, .iaload, 1), (34, .ifCond .gt 7, 3), (37, .iconst 1, 1), (38, .goto 4, 3), (41, .iconst 0, 1), (42, .iadd, 1), (43, .istore_n 2, 1), (44, .iinc 3 1, 3), (47, .goto (-43), 3), (50, .iload_n 2, 1), (51, .ireturn, 1)]
set_option maxRecDepth 100000 in
theorem chk_121 : (ins_121).all (fun e => decide (decode cX6_names e.1 = .ok e.2)) = true := by decide +kernel
-- 122 CreditScrollModel.cues
def ins_122 : List (Nat × Instr × Nat) := [(0, .iconst 0, 1), (1, .istore_n 1, 1), (2, .iconst 0, 1), (3, .istore_n 2, 1), (4, .iload_n 2, 1), (5, .aload_n 0, 1), (6, .getfield 7, 3), (9, .iconst 3, 1), (10, .iaload, 1), (11, .if_icmp .ge 26, 3), (14, .iload_n 1, 1), (15, .aload_n 0, 1), (16, .iload_n 2, 1), (17, .iconst 3, 1), (18, .invokevirtual 49, 3), (21, .ifCond .le 7, 3), (24, .iconst 1, 1), (25, .goto 4, 3), (28, .iconst 0, 1), (29, .iadd, 1), (30, .istore_n 1, 1), (31, .iinc 2 1, 3), (34, .goto (-30), 3), (37, .iload_n 1, 1), (38, .ireturn, 1)]
set_option maxRecDepth 100000 in
theorem chk_122 : (ins_122).all (fun e => decide (decode cX6_cues e.1 = .ok e.2)) = true := by decide +kernel
-- 123 CreditScrollModel.count
def ins_123 : List (Nat × Instr × Nat) := [(0, .iload_n 1, 1), (1, .iconst 2, 1), (2, .bipush 6, 2), (4, .invokestatic 45, 3), (7, .ifCond .eq 10, 3), (10, .aload_n 0, 1), (11, .invokevirtual 101, 3), (14, .goto 4, 3), (17, .iconst 0, 1), (18, .istore_n 2, 1), (19, .iload_n 1, 1), (20, .tableswitch 127 0 11 #[64, 71, 77, 89, 91, 96, 101, 107, 107, 107, 117, 122], 64), (84, .aload_n 0, 1), (85, .getfield 7, 3), (88, .iconst 3, 1), (89, .iaload, 1), (90, .ireturn, 1), (91, .aload_n 0, 1), (92, .iconst 0, 1), (93, .invokevirtual 123, 3), (96, .ireturn, 1), (97, .aload_n 0, 1), (98, .getfield 27, 3), (101, .aload_n 0, 1), (102, .getfield 7, 3), (105, .iconst 3, 1), (106, .iaload, 1), (107, .iaload, 1), (108, .ireturn, 1), (109, .iload_n 2, 1), (110, .ireturn, 1), (111, .aload_n 0, 1), (112, .invokevirtual 127, 3), (115, .ireturn, 1), (116, .aload_n 0, 1), (117, .invokevirtual 130, 3), (120, .ireturn, 1), (121, .aload_n 0, 1), (122, .iconst 1, 1), (123, .invokevirtual 123, 3), (126, .ireturn, 1), (127, .aload_n 0, 1), (128, .getfield 7, 3), (131, .iload_n 1, 1), (132, .bipush 7, 2), (134, .isub, 1), (135, .iaload, 1), (136, .ireturn, 1), (137, .aload_n 0, 1), (138, .getfield 133, 3), (141, .ireturn, 1), (142, .aload_n 0, 1), (143, .getfield 53, 3), (146, .ireturn, 1), (147, .bipush (-2), 2), (149, .ireturn, 1)]
set_option maxRecDepth 100000 in
theorem chk_123 : (ins_123).all (fun e => decide (decode cX6_count e.1 = .ok e.2)) = true := by decide +kernel
-- 124 CreditScrollModel.allSpreads
def ins_124 : List (Nat × Instr × Nat) := [(0, .aload_n 0, 1), (1, .invokevirtual 101, 3), (4, .pop, 1), (5, .iconst 0, 1), (6, .istore_n 1, 1), (7, .iconst 0, 1), (8, .istore_n 2, 1), (9, .iload_n 2, 1), (10, .bipush 8, 2), (12, .if_icmp .ge 17, 3), (15, .iload_n 1, 1), (16, .aload_n 0, 1), (17, .iload_n 2, 1), (18, .invokevirtual 117, 3), (21, .iadd, 1), (22, .istore_n 1, 1), (23, .iinc 2 1, 3), (26, .goto (-17), 3), (29, .iload_n 1, 1), (30, .ireturn, 1)]
set_option maxRecDepth 100000 in
theorem chk_124 : (ins_124).all (fun e => decide (decode cX6_allSpreads e.1 = .ok e.2)) = true := by decide +kernel
-- 125 CreditScrollModel.blame
def ins_125 : List (Nat × Instr × Nat) := [(0, .iload_n 1, 1), (1, .iconst 0, 1), (2, .iconst 1, 1), (3, .invokestatic 45, 3), (6, .ifCond .ne 6, 3), (9, .bipush (-2), 2), (11, .ireturn, 1), (12, .bipush (-6), 2), (14, .istore_n 2, 1), (15, .bipush (-6), 2), (17, .istore_n 3, 1), (18, .iconst 0, 1), (19, .istore 4, 2), (21, .iload 4, 2), (23, .aload_n 0, 1), (24, .getfield 7, 3), (27, .iconst 3, 1), (28, .iaload, 1), (29, .if_icmp .ge 101, 3), (32, .aload_n 0, 1), (33, .iload 4, 2), (35, .iconst 3, 1), (36, .invokevirtual 49, 3), (39, .istore 5, 2), (41, .iload 5, 2), (43, .ifCond .le 81, 3), (46, .aload_n 0, 1), (47, .getfield 7, 3), (50, .iconst 4, 1), (51, .iconst 4, 1), (52, .iload 4, 2), (54, .imul, 1), (55, .iadd, 1), (56, .iconst 3, 1), (57, .iadd, 1), (58, .iconst 0, 1), (59, .iastore, 1), (60, .aload_n 0, 1), (61, .invokevirtual 136, 3), (64, .istore 6, 2), (66, .aload_n 0, 1), (67, .getfield 7, 3), (70, .iconst 4, 1), (71, .iconst 4, 1), (72, .iload 4, 2), (74, .imul, 1), (75, .iadd, 1), (76, .iconst 3, 1), (77, .iadd, 1), (78, .iload 5, 2), (80, .iastore, 1), (81, .iload_n 2, 1), (82, .bipush (-6), 2), (84, .if_icmp .eq 9, 3), (87, .iload 6, 2), (89, .iload_n 3, 1), (90, .if_icmp .ge 7, 3), (93, .iconst 1, 1), (94, .goto 4, 3), (97, .iconst 0, 1), (98, .istore 7, 2), (100, .iload 7, 2), (102, .ifCond .eq 8, 3), (105, .iload 4, 2), (107, .goto 4, 3), (110, .iload_n 2, 1), (111, .istore_n 2, 1), (112, .iload 7, 2), (114, .ifCond .eq 8, 3), (117, .iload 6, 2), (119, .goto 4, 3), (122, .iload_n 3, 1), (123, .istore_n 3, 1), (124, .iinc 4 1, 3), (127, .goto (-106), 3), (130, .iload_n 1, 1), (131, .ifCond .ne 7, 3), (134, .iload_n 2, 1), (135, .goto 4, 3), (138, .iload_n 3, 1), (139, .ireturn, 1)]
set_option maxRecDepth 100000 in
theorem chk_125 : (ins_125).all (fun e => decide (decode cX6_blame e.1 = .ok e.2)) = true := by decide +kernel
-- 126 CreditScrollModel.areSeenFor
def ins_126 : List (Nat × Instr × Nat) := [(0, .aload_n 0, 1), (1, .invokevirtual 101, 3), (4, .pop, 1), (5, .iconst 1, 1), (6, .istore_n 2, 1), (7, .iconst 0, 1), (8, .istore_n 3, 1), (9, .iload_n 3, 1), (10, .aload_n 0, 1), (11, .getfield 7, 3), (14, .iconst 3, 1), (15, .iaload, 1), (16, .if_icmp .ge 38, 3), (19, .iload_n 2, 1), (20, .ifCond .eq 26, 3), (23, .aload_n 0, 1), (24, .iload_n 3, 1), (25, .iconst 0, 1), (26, .invokevirtual 49, 3), (29, .ifCond .ne 13, 3), (32, .aload_n 0, 1), (33, .getfield 30, 3), (36, .iload_n 3, 1), (37, .iaload, 1), (38, .iload_n 1, 1), (39, .if_icmp .lt 7, 3), (42, .iconst 1, 1), (43, .goto 4, 3), (46, .iconst 0, 1), (47, .istore_n 2, 1), (48, .iinc 3 1, 3), (51, .goto (-42), 3), (54, .iload_n 2, 1), (55, .ireturn, 1)]
set_option maxRecDepth 100000 in
theorem chk_126 : (ins_126).all (fun e => decide (decode cX6_areSeenFor e.1 = .ok e.2)) = true := by decide +kernel
-- 127 CreditScrollModel.speedFor
def ins_127 : List (Nat × Instr × Nat) := [(0, .iload_n 1, 1), (1, .iconst 1, 1), (2, .sipush 200, 3), (5, .invokestatic 45, 3), (8, .ifCond .ne 6, 3), (11, .bipush (-2), 2), (13, .ireturn, 1), (14, .aload_n 0, 1), (15, .getfield 7, 3), (18, .iconst 1, 1), (19, .iaload, 1), (20, .istore_n 2, 1), (21, .iconst 0, 1), (22, .istore_n 3, 1), (23, .iload_n 3, 1), (24, .aload_n 0, 1), (25, .getfield 7, 3), (28, .iconst 3, 1), (29, .iaload, 1), (30, .if_icmp .ge 34, 3), (33, .aload_n 0, 1), (34, .getfield 39, 3), (37, .iload_n 3, 1), (38, .aload_n 0, 1), (39, .iload_n 3, 1), (40, .iconst 3, 1), (41, .invokevirtual 49, 3), (44, .iastore, 1), (45, .aload_n 0, 1), (46, .getfield 7, 3), (49, .iconst 4, 1), (50, .iconst 4, 1), (51, .iload_n 3, 1), (52, .imul, 1), (53, .iadd, 1), (54, .iconst 3, 1), (55, .iadd, 1), (56, .iconst 0, 1), (57, .iastore, 1), (58, .iinc 3 1, 3), (61, .goto (-38), 3), (64, .bipush (-6), 2), (66, .istore_n 3, 1), (67, .bipush 30, 2), (69, .istore 4, 2), (71, .iload 4, 2), (73, .iconst 1, 1), (74, .if_icmp .lt 39, 3), (77, .iload_n 3, 1), (78, .bipush (-6), 2), (80, .if_icmp .ne 33, 3), (83, .aload_n 0, 1), (84, .getfield 7, 3), (87, .iconst 1, 1), (88, .iload 4, 2), (90, .iastore, 1), (91, .aload_n 0, 1), (92, .iload_n 1, 1), (93, .invokevirtual 139, 3), (96, .ifCond .eq 8, 3), (99, .iload 4, 2), (101, .goto 5, 3), (104, .bipush (-6), 2), (106, .istore_n 3, 1), (107, .iinc 4 (-1), 3), (110, .goto (-39), 3), (113, .aload_n 0, 1), (114, .getfield 7, 3), (117, .iconst 1, 1), (118, .iload_n 2, 1), (119, .iastore, 1), (120, .iconst 0, 1), (121, .istore 4, 2), (123, .iload 4, 2), (125, .aload_n 0, 1), (126, .getfield 7, 3), (129, .iconst 3, 1), (130, .iaload, 1), (131, .if_icmp .ge 29, 3), (134, .aload_n 0, 1), (135, .getfield 7, 3), (138, .iconst 4, 1), (139, .iconst 4, 1), (140, .iload 4, 2), (142, .imul, 1), (143, .iadd, 1), (144, .iconst 3, 1), (145, .iadd, 1), (146, .aload_n 0, 1), (147, .getfield 39, 3), (150, .iload 4, 2), (152, .iaload, 1), (153, .iastore, 1), (154, .iinc 4 1, 3), (157, .goto (-34), 3), (160, .iload_n 3, 1), (161, .ireturn, 1)]
set_option maxRecDepth 100000 in
theorem chk_127 : (ins_127).all (fun e => decide (decode cX6_speedFor e.1 = .ok e.2)) = true := by decide +kernel
-- 128 CreditScrollModel.seenIf
def ins_128 : List (Nat × Instr × Nat) := [(0, .aload_n 0, 1), (1, .iload_n 1, 1), (2, .invokevirtual 98, 3), (5, .ifCond .ne 5, 3), (8, .iconst (-1), 1), (9, .ireturn, 1), (10, .iload_n 2, 1), (11, .invokestatic 142, 3), (14, .ifCond .ne 6, 3), (17, .bipush (-2), 2), (19, .ireturn, 1), (20, .aload_n 0, 1), (21, .getfield 7, 3), (24, .iconst 1, 1), (25, .iaload, 1), (26, .istore_n 3, 1), (27, .aload_n 0, 1), (28, .getfield 7, 3), (31, .iconst 1, 1), (32, .iload_n 2, 1), (33, .iastore, 1), (34, .aload_n 0, 1), (35, .invokevirtual 101, 3), (38, .pop, 1), (39, .aload_n 0, 1), (40, .getfield 7, 3), (43, .iconst 1, 1), (44, .iload_n 3, 1), (45, .iastore, 1), (46, .aload_n 0, 1), (47, .getfield 30, 3), (50, .iload_n 1, 1), (51, .iaload, 1), (52, .ireturn, 1)]
set_option maxRecDepth 100000 in
theorem chk_128 : (ins_128).all (fun e => decide (decode cX6_seenIf e.1 = .ok e.2)) = true := by decide +kernel
-- 129 CreditScrollModel.bestCue
def ins_129 : List (Nat × Instr × Nat) := [(0, .aload_n 0, 1), (1, .iload_n 1, 1), (2, .invokevirtual 98, 3), (5, .ifCond .ne 5, 3), (8, .iconst (-1), 1), (9, .ireturn, 1), (10, .iload_n 2, 1), (11, .invokestatic 91, 3), (14, .ifCond .eq 12, 3), (17, .iload_n 3, 1), (18, .iconst 0, 1), (19, .iconst 1, 1), (20, .invokestatic 45, 3), (23, .ifCond .ne 6, 3), (26, .bipush (-2), 2), (28, .ireturn, 1), (29, .aload_n 0, 1), (30, .iload_n 1, 1), (31, .iconst 3, 1), (32, .invokevirtual 49, 3), (35, .istore 4, 2), (37, .bipush (-6), 2), (39, .istore 5, 2), (41, .bipush (-6), 2), (43, .istore 6, 2), (45, .bipush 30, 2), (47, .istore 7, 2), (49, .iload 7, 2), (51, .iconst 1, 1), (52, .if_icmp .lt 84, 3), (55, .aload_n 0, 1), (56, .getfield 7, 3), (59, .iconst 4, 1), (60, .iconst 4, 1), (61, .iload_n 1, 1), (62, .imul, 1), (63, .iadd, 1), (64, .iconst 3, 1), (65, .iadd, 1), (66, .iload 7, 2), (68, .iastore, 1), (69, .aload_n 0, 1), (70, .invokevirtual 101, 3), (73, .pop, 1), (74, .aload_n 0, 1), (75, .iload_n 2, 1), (76, .invokevirtual 117, 3), (79, .istore 8, 2), (81, .iload 5, 2), (83, .bipush (-6), 2), (85, .if_icmp .eq 10, 3), (88, .iload 8, 2), (90, .iload 6, 2), (92, .if_icmp .ge 7, 3), (95, .iconst 1, 1), (96, .goto 4, 3), (99, .iconst 0, 1), (100, .istore 9, 2), (102, .iload 9, 2), (104, .ifCond .eq 8, 3), (107, .iload 7, 2), (109, .goto 5, 3), (112, .iload 5, 2), (114, .istore 5, 2), (116, .iload 9, 2), (118, .ifCond .eq 8, 3), (121, .iload 8, 2), (123, .goto 5, 3), (126, .iload 6, 2), (128, .istore 6, 2), (130, .iinc 7 (-1), 3), (133, .goto (-84), 3), (136, .aload_n 0, 1), (137, .getfield 7, 3), (140, .iconst 4, 1), (141, .iconst 4, 1), (142, .iload_n 1, 1), (143, .imul, 1), (144, .iadd, 1), (145, .iconst 3, 1), (146, .iadd, 1), (147, .iload 4, 2), (149, .iastore, 1), (150, .iload_n 3, 1), (151, .ifCond .ne 8, 3), (154, .iload 5, 2), (156, .goto 5, 3), (159, .iload 6, 2), (161, .ireturn, 1)]
set_option maxRecDepth 100000 in
theorem chk_129 : (ins_129).all (fun e => decide (decode cX6_bestCue e.1 = .ok e.2)) = true := by decide +kernel
-- 130 CreditScrollModel.put
def ins_130 : List (Nat × Instr × Nat) := [(0, .iconst 0, 1), (1, .istore_n 3, 1), (2, .lload_n 1, 1), (3, .lstore 4, 2), (5, .iconst 1, 1), (6, .istore 6, 2), (8, .lload 4, 2), (10, .lconst 0, 1), (11, .lcmp, 1), (12, .ifCond .eq 37, 3), (15, .iload 6, 2), (17, .ifCond .eq 32, 3), (20, .lload 4, 2), (22, .ldc2_w 145, 3), (25, .land, 1), (26, .l2i, 1), (27, .bipush 33, 2), (29, .bipush 126, 2), (31, .invokestatic 45, 3), (34, .istore 6, 2), (36, .lload 4, 2), (38, .bipush 8, 2), (40, .lushr, 1), (41, .lstore 4, 2), (43, .iinc 3 1, 3), (46, .goto (-38), 3), (49, .iload_n 3, 1), (50, .ifCond .eq 8, 3), (53, .iload 6, 2), (55, .ifCond .ne 6, 3), (58, .bipush (-2), 2), (60, .ireturn, 1), (61, .aload_n 0, 1), (62, .getfield 133, 3), (65, .iload_n 3, 1), (66, .iadd, 1), (67, .bipush 60, 2), (69, .if_icmp .le 6, 3), (72, .bipush (-4), 2), (74, .ireturn, 1), (75, .iload_n 3, 1), (76, .iconst 1, 1), (77, .isub, 1), (78, .istore 7, 2), (80, .iload 7, 2), (82, .ifCond .lt 41, 3), (85, .aload_n 0, 1), (86, .getfield 23, 3), (89, .aload_n 0, 1), (90, .getfield 133, 3), (93, .lload_n 1, 1), (94, .bipush 8, 2), (96, .iload 7, 2), (98, .imul, 1), (99, .lushr, 1), (100, .ldc2_w 145, 3), (103, .land, 1), (104, .l2i, 1), (105, .i2c, 1), (106, .castore, 1), (107, .aload_n 0, 1), (108, .dup, 1), (109, .getfield 133, 3), (112, .iconst 1, 1), (113, .iadd, 1), (114, .putfield 133, 3), (117, .iinc 7 (-1), 3), (120, .goto (-40), 3), (123, .aload_n 0, 1), (124, .getfield 133, 3), (127, .ireturn, 1)]
set_option maxRecDepth 100000 in
theorem chk_130 : (ins_130).all (fun e => decide (decode cX6_put e.1 = .ok e.2)) = true := by decide +kernel
-- 131 CreditScrollModel.wipe
def ins_131 : List (Nat × Instr × Nat) := [(0, .aload_n 0, 1), (1, .getfield 133, 3), (4, .istore_n 1, 1), (5, .aload_n 0, 1), (6, .iconst 0, 1), (7, .putfield 133, 3), (10, .iload_n 1, 1), (11, .ireturn, 1)]
set_option maxRecDepth 100000 in
theorem chk_131 : (ins_131).all (fun e => decide (decode cX6_wipe e.1 = .ok e.2)) = true := by decide +kernel
-- 132 CreditScrollModel.letter
def ins_132 : List (Nat × Instr × Nat) := [(0, .aload_n 0, 1), (1, .getfield 147, 3), (4, .aload_n 0, 1), (5, .getfield 133, 3), (8, .if_icmp .ge 15, 3), (11, .aload_n 0, 1), (12, .getfield 23, 3), (15, .aload_n 0, 1), (16, .getfield 147, 3), (19, .caload, 1), (20, .goto 5, 3), (23, .bipush (-6), 2), (25, .ireturn, 1)]
set_option maxRecDepth 100000 in
theorem chk_132 : (ins_132).all (fun e => decide (decode cX6_letter e.1 = .ok e.2)) = true := by decide +kernel
-- 133 CreditScrollModel.wants
def ins_133 : List (Nat × Instr × Nat) := [(0, .aload_n 0, 1), (1, .getfield 150, 3), (4, .bipush (-6), 2), (6, .if_icmp .ne 30, 3), (9, .aload_n 0, 1), (10, .iload_n 1, 1), (11, .ifCond .eq 8, 3), (14, .bipush (-6), 2), (16, .goto 7, 3), (19, .aload_n 0, 1), (20, .getfield 147, 3), (23, .putfield 150, 3), (26, .aload_n 0, 1), (27, .dup, 1), (28, .getfield 147, 3), (31, .iconst 1, 1), (32, .iadd, 1), (33, .putfield 147, 3), (36, .return_, 1)]
set_option maxRecDepth 100000 in
theorem chk_133 : (ins_133).all (fun e => decide (decode cX6_wants e.1 = .ok e.2)) = true := by decide +kernel
-- 134 CreditScrollModel.number
def ins_134 : List (Nat × Instr × Nat) := [(0, .aload_n 0, 1), (1, .invokevirtual 153, 3), (4, .bipush 48, 2), (6, .isub, 1), (7, .istore_n 3, 1), (8, .aload_n 0, 1), (9, .iload_n 3, 1), (10, .iload_n 1, 1), (11, .bipush 9, 2), (13, .invokestatic 45, 3), (16, .invokevirtual 156, 3), (19, .aload_n 0, 1), (20, .invokevirtual 153, 3), (23, .bipush 48, 2), (25, .isub, 1), (26, .istore 4, 2), (28, .aload_n 0, 1), (29, .getfield 150, 3), (32, .bipush (-6), 2), (34, .if_icmp .ne 59, 3), (37, .iload_n 3, 1), (38, .ifCond .le 55, 3), (41, .iload 4, 2), (43, .iconst 0, 1), (44, .bipush 9, 2), (46, .invokestatic 45, 3), (49, .ifCond .eq 44, 3), (52, .bipush 10, 2), (54, .iload_n 3, 1), (55, .imul, 1), (56, .iload 4, 2), (58, .iadd, 1), (59, .iload_n 2, 1), (60, .if_icmp .gt 33, 3), (63, .bipush 10, 2), (65, .iload_n 3, 1), (66, .imul, 1), (67, .iload 4, 2), (69, .iadd, 1), (70, .istore_n 3, 1), (71, .aload_n 0, 1), (72, .dup, 1), (73, .getfield 147, 3), (76, .iconst 1, 1), (77, .iadd, 1), (78, .putfield 147, 3), (81, .aload_n 0, 1), (82, .invokevirtual 153, 3), (85, .bipush 48, 2), (87, .isub, 1), (88, .istore 4, 2), (90, .goto (-62), 3), (93, .iload_n 3, 1), (94, .ireturn, 1)]
set_option maxRecDepth 100000 in
theorem chk_134 : (ins_134).all (fun e => decide (decode cX6_number e.1 = .ok e.2)) = true := by decide +kernel
-- 135 CreditScrollModel.readLine
def ins_135 : List (Nat × Instr × Nat) := [(0, .iconst 4, 1), (1, .aload_n 0, 1), (2, .getfield 160, 3), (5, .imul, 1), (6, .istore_n 1, 1), (7, .aload_n 0, 1), (8, .invokevirtual 153, 3), (11, .istore_n 2, 1), (12, .aload_n 0, 1), (13, .iload_n 2, 1), (14, .bipush 110, 2), (16, .if_icmp .eq 21, 3), (19, .iload_n 2, 1), (20, .bipush 116, 2), (22, .if_icmp .eq 15, 3), (25, .iload_n 2, 1), (26, .bipush 108, 2), (28, .if_icmp .eq 9, 3), (31, .iload_n 2, 1), (32, .bipush 98, 2), (34, .if_icmp .ne 7, 3), (37, .iconst 1, 1), (38, .goto 4, 3), (41, .iconst 0, 1), (42, .invokevirtual 156, 3), (45, .aload_n 0, 1), (46, .getfield 42, 3), (49, .iload_n 1, 1), (50, .iconst 0, 1), (51, .iadd, 1), (52, .iload_n 2, 1), (53, .bipush 110, 2), (55, .if_icmp .ne 7, 3), (58, .iconst 0, 1), (59, .goto 24, 3), (62, .iload_n 2, 1), (63, .bipush 116, 2), (65, .if_icmp .ne 7, 3), (68, .iconst 1, 1), (69, .goto 14, 3), (72, .iload_n 2, 1), (73, .bipush 108, 2), (75, .if_icmp .ne 7, 3), (78, .iconst 2, 1), (79, .goto 4, 3), (82, .iconst 3, 1), (83, .iastore, 1), (84, .aload_n 0, 1), (85, .getfield 42, 3), (88, .iload_n 1, 1), (89, .iconst 1, 1), (90, .iadd, 1), (91, .bipush (-6), 2), (93, .iastore, 1), (94, .aload_n 0, 1), (95, .getfield 42, 3), (98, .iload_n 1, 1), (99, .iconst 2, 1), (100, .iadd, 1), (101, .bipush (-6), 2), (103, .iastore, 1), (104, .aload_n 0, 1), (105, .getfield 42, 3), (108, .iload_n 1, 1), (109, .iconst 3, 1), (110, .iadd, 1), (111, .iconst 0, 1), (112, .iastore, 1), (113, .iload_n 2, 1), (114, .bipush 110, 2), (116, .if_icmp .ne 52, 3), (119, .aload_n 0, 1), (120, .getfield 42, 3), (123, .iload_n 1, 1), (124, .iconst 1, 1), (125, .iadd, 1), (126, .aload_n 0, 1), (127, .invokevirtual 153, 3), (130, .bipush 48, 2), (132, .isub, 1), (133, .iastore, 1), (134, .aload_n 0, 1), (135, .aload_n 0, 1), (136, .getfield 42, 3), (139, .iload_n 1, 1), (140, .iconst 1, 1), (141, .iadd, 1), (142, .iaload, 1), (143, .iconst 0, 1), (144, .bipush 7, 2), (146, .invokestatic 45, 3), (149, .invokevirtual 156, 3), (152, .aload_n 0, 1), (153, .getfield 42, 3), (156, .iload_n 1, 1), (157, .iconst 2, 1), (158, .iadd, 1), (159, .aload_n 0, 1), (160, .iconst 0, 1), (161, .sipush 999, 3), (164, .invokevirtual 163, 3), (167, .iastore, 1), (168, .aload_n 0, 1), (169, .getfield 150, 3), (172, .bipush (-6), 2), (174, .if_icmp .ne 37, 3), (177, .aload_n 0, 1), (178, .invokevirtual 153, 3), (181, .bipush 64, 2), (183, .if_icmp .ne 28, 3), (186, .aload_n 0, 1), (187, .dup, 1), (188, .getfield 147, 3), (191, .iconst 1, 1), (192, .iadd, 1), (193, .putfield 147, 3), (196, .aload_n 0, 1), (197, .getfield 42, 3), (200, .iload_n 1, 1), (201, .iconst 3, 1), (202, .iadd, 1), (203, .aload_n 0, 1), (204, .iconst 1, 1), (205, .bipush 30, 2), (207, .invokevirtual 163, 3), (210, .iastore, 1), (211, .aload_n 0, 1), (212, .dup, 1), (213, .getfield 160, 3), (216, .iconst 1, 1), (217, .iadd, 1), (218, .putfield 160, 3), (221, .return_, 1)]
set_option maxRecDepth 100000 in
theorem chk_135 : (ins_135).all (fun e => decide (decode cX6_readLine e.1 = .ok e.2)) = true := by decide +kernel
-- 136 CreditScrollModel.readPad
def ins_136 : List (Nat × Instr × Nat) := [(0, .aload_n 0, 1), (1, .iconst 0, 1), (2, .putfield 160, 3), (5, .aload_n 0, 1), (6, .iconst 0, 1), (7, .putfield 147, 3), (10, .aload_n 0, 1), (11, .bipush (-6), 2), (13, .putfield 150, 3), (16, .iconst 1, 1), (17, .istore_n 1, 1), (18, .iload_n 1, 1), (19, .ifCond .eq 73, 3), (22, .aload_n 0, 1), (23, .invokevirtual 166, 3), (26, .aload_n 0, 1), (27, .getfield 150, 3), (30, .bipush (-6), 2), (32, .if_icmp .ne 18, 3), (35, .aload_n 0, 1), (36, .getfield 147, 3), (39, .aload_n 0, 1), (40, .getfield 133, 3), (43, .if_icmp .ge 7, 3), (46, .iconst 1, 1), (47, .goto 4, 3), (50, .iconst 0, 1), (51, .istore_n 1, 1), (52, .iload_n 1, 1), (53, .ifCond .eq (-35), 3), (56, .aload_n 0, 1), (57, .aload_n 0, 1), (58, .invokevirtual 153, 3), (61, .bipush 44, 2), (63, .if_icmp .ne 7, 3), (66, .iconst 1, 1), (67, .goto 4, 3), (70, .iconst 0, 1), (71, .invokevirtual 156, 3), (74, .aload_n 0, 1), (75, .getfield 150, 3), (78, .bipush (-6), 2), (80, .if_icmp .ne 7, 3), (83, .iconst 1, 1), (84, .goto 4, 3), (87, .iconst 0, 1), (88, .istore_n 1, 1), (89, .goto (-71), 3), (92, .aload_n 0, 1), (93, .getfield 150, 3), (96, .ireturn, 1)]
set_option maxRecDepth 100000 in
theorem chk_136 : (ins_136).all (fun e => decide (decode cX6_readPad e.1 = .ok e.2)) = true := by decide +kernel
-- 137 CreditScrollModel.fault
def ins_137 : List (Nat × Instr × Nat) := [(0, .aload_n 0, 1), (1, .invokevirtual 169, 3), (4, .ireturn, 1)]
set_option maxRecDepth 100000 in
theorem chk_137 : (ins_137).all (fun e => decide (decode cX6_fault e.1 = .ok e.2)) = true := by decide +kernel
-- 138 CreditScrollModel.read
def ins_138 : List (Nat × Instr × Nat) := [(0, .aload_n 0, 1), (1, .invokevirtual 169, 3), (4, .bipush (-6), 2), (6, .if_icmp .eq 6, 3), (9, .bipush (-3), 2), (11, .ireturn, 1), (12, .aload_n 0, 1), (13, .getfield 7, 3), (16, .iconst 3, 1), (17, .iaload, 1), (18, .aload_n 0, 1), (19, .getfield 160, 3), (22, .iadd, 1), (23, .bipush 40, 2), (25, .if_icmp .le 6, 3), (28, .bipush (-4), 2), (30, .ireturn, 1), (31, .aload_n 0, 1), (32, .invokevirtual 57, 3), (35, .iconst 0, 1), (36, .istore_n 1, 1), (37, .iload_n 1, 1), (38, .aload_n 0, 1), (39, .getfield 160, 3), (42, .if_icmp .ge 54, 3), (45, .aload_n 0, 1), (46, .aload_n 0, 1), (47, .getfield 42, 3), (50, .iconst 4, 1), (51, .iload_n 1, 1), (52, .imul, 1), (53, .iconst 0, 1), (54, .iadd, 1), (55, .iaload, 1), (56, .aload_n 0, 1), (57, .getfield 42, 3), (60, .iconst 4, 1), (61, .iload_n 1, 1), (62, .imul, 1), (63, .iconst 1, 1), (64, .iadd, 1), (65, .iaload, 1), (66, .aload_n 0, 1), (67, .getfield 42, 3), (70, .iconst 4, 1), (71, .iload_n 1, 1), (72, .imul, 1), (73, .iconst 2, 1), (74, .iadd, 1), (75, .iaload, 1), (76, .aload_n 0, 1), (77, .getfield 42, 3), (80, .iconst 4, 1), (81, .iload_n 1, 1), (82, .imul, 1), (83, .iconst 3, 1), (84, .iadd, 1), (85, .iaload, 1), (86, .invokevirtual 94, 3), (89, .pop, 1), (90, .iinc 1 1, 3), (93, .goto (-56), 3), (96, .aload_n 0, 1), (97, .iconst 0, 1), (98, .putfield 133, 3), (101, .aload_n 0, 1), (102, .getfield 7, 3), (105, .iconst 3, 1), (106, .iaload, 1), (107, .ireturn, 1)]
set_option maxRecDepth 100000 in
theorem chk_138 : (ins_138).all (fun e => decide (decode cX6_read e.1 = .ok e.2)) = true := by decide +kernel
-- 139 CreditScrollLaw.law
def ins_139 : List (Nat × Instr × Nat) := [(0, .new 7, 3), (3, .dup, 1), (4, .invokespecial 9, 3), (7, .astore_n 1, 1), (8, .new 10, 3), (11, .dup, 1), (12, .invokespecial 12, 3), (15, .astore_n 2, 1), (16, .iconst 0, 1), (17, .istore_n 3, 1), (18, .iload_n 3, 1), (19, .aload_n 0, 1), (20, .arraylength, 1), (21, .iconst 4, 1), (22, .isub, 1), (23, .if_icmp .gt 725, 3), (26, .aload_n 0, 1), (27, .iload_n 3, 1), (28, .iaload, 1), (29, .bipush 31, 2), (31, .iand, 1), (32, .tableswitch 710 0 21 #[104, 137, 170, 193, 226, 259, 282, 315, 328, 361, 394, 427, 450, 473, 496, 529, 572, 625, 638, 651, 664, 687], 104), (136, .aload_n 1, 1), (137, .aload_n 0, 1), (138, .iload_n 3, 1), (139, .iconst 1, 1), (140, .iadd, 1), (141, .iaload, 1), (142, .aload_n 0, 1), (143, .iload_n 3, 1), (144, .iconst 2, 1), (145, .iadd, 1), (146, .iaload, 1), (147, .invokevirtual 13, 3), (150, .aload_n 2, 1), (151, .aload_n 0, 1), (152, .iload_n 3, 1), (153, .iconst 1, 1), (154, .iadd, 1), (155, .iaload, 1), (156, .aload_n 0, 1), (157, .iload_n 3, 1), (158, .iconst 2, 1), (159, .iadd, 1), (160, .iaload, 1), (161, .invokevirtual 17, 3), (164, .if_icmp .eq 578, 3), (167, .iconst 0, 1), (168, .ireturn, 1), (169, .aload_n 1, 1), (170, .aload_n 0, 1), (171, .iload_n 3, 1), (172, .iconst 1, 1), (173, .iadd, 1), (174, .iaload, 1), (175, .aload_n 0, 1), (176, .iload_n 3, 1), (177, .iconst 2, 1), (178, .iadd, 1), (179, .iaload, 1), (180, .invokevirtual 18, 3), (183, .aload_n 2, 1), (184, .aload_n 0, 1), (185, .iload_n 3, 1), (186, .iconst 1, 1), (187, .iadd, 1), (188, .iaload, 1), (189, .aload_n 0, 1), (190, .iload_n 3, 1), (191, .iconst 2, 1), (192, .iadd, 1), (193, .iaload, 1), (194, .invokevirtual 21, 3), (197, .if_icmp .eq 545, 3), (200, .iconst 0, 1), (201, .ireturn, 1), (202, .aload_n 1, 1), (203, .aload_n 0, 1), (204, .iload_n 3, 1), (205, .iconst 1, 1), (206, .iadd, 1), (207, .iaload, 1), (208, .invokevirtual 22, 3), (211, .aload_n 2, 1), (212, .aload_n 0, 1), (213, .iload_n 3, 1), (214, .iconst 1, 1), (215, .iadd, 1), (216, .iaload, 1), (217, .invokevirtual 26, 3), (220, .if_icmp .eq 522, 3), (223, .iconst 0, 1), (224, .ireturn, 1), (225, .aload_n 1, 1), (226, .aload_n 0, 1), (227, .iload_n 3, 1), (228, .iconst 1, 1), (229, .iadd, 1), (230, .iaload, 1), (231, .aload_n 0, 1), (232, .iload_n 3, 1), (233, .iconst 2, 1), (234, .iadd, 1), (235, .iaload, 1), (236, .invokevirtual 27, 3), (239, .aload_n 2, 1), (240, .aload_n 0, 1), (241, .iload_n 3, 1), (242, .iconst 1, 1), (243, .iadd, 1), (244, .iaload, 1), (245, .aload_n 0, 1), (246, .iload_n 3, 1), (247, .iconst 2, 1), (248, .iadd, 1), (249, .iaload, 1), (250, .invokevirtual 30, 3), (253, .if_icmp .eq 489, 3), (256, .iconst 0, 1), (257, .ireturn, 1), (258, .aload_n 1, 1), (259, .aload_n 0, 1), (260, .iload_n 3, 1), (261, .iconst 1, 1), (262, .iadd, 1), (263, .iaload, 1), (264, .aload_n 0, 1), (265, .iload_n 3, 1), (266, .iconst 2, 1), (267, .iadd, 1), (268, .iaload, 1), (269, .invokevirtual 31, 3), (272, .aload_n 2, 1), (273, .aload_n 0, 1), (274, .iload_n 3, 1), (275, .iconst 1, 1), (276, .iadd, 1), (277, .iaload, 1), (278, .aload_n 0, 1), (279, .iload_n 3, 1), (280, .iconst 2, 1), (281, .iadd, 1), (282, .iaload, 1), (283, .invokevirtual 34, 3), (286, .if_icmp .eq 456, 3), (289, .iconst 0, 1), (290, .ireturn, 1), (291, .aload_n 1, 1), (292, .aload_n 0, 1), (293, .iload_n 3, 1), (294, .iconst 1, 1), (295, .iadd, 1), (296, .iaload, 1), (297, .invokevirtual 35, 3), (300, .aload_n 2, 1), (301, .aload_n 0, 1), (302, .iload_n 3, 1), (303, .iconst 1, 1), (304, .iadd, 1), (305, .iaload, 1), (306, .invokevirtual 38, 3), (309, .if_icmp .eq 433, 3), (312, .iconst 0, 1), (313, .ireturn, 1), (314, .aload_n 1, 1), (315, .aload_n 0, 1), (316, .iload_n 3, 1), (317, .iconst 1, 1), (318, .iadd, 1), (319, .iaload, 1), (320, .aload_n 0, 1), (321, .iload_n 3, 1), (322, .iconst 2, 1), (323, .iadd, 1), (324, .iaload, 1), (325, .invokevirtual 39, 3), (328, .aload_n 2, 1), (329, .aload_n 0, 1), (330, .iload_n 3, 1), (331, .iconst 1, 1), (332, .iadd, 1), (333, .iaload, 1), (334, .aload_n 0, 1), (335, .iload_n 3, 1), (336, .iconst 2, 1), (337, .iadd, 1), (338, .iaload, 1), (339, .invokevirtual 42, 3), (342, .if_icmp .eq 400, 3), (345, .iconst 0, 1), (346, .ireturn, 1), (347, .aload_n 1, 1), (348, .invokevirtual 43, 3), (351, .aload_n 2, 1), (352, .invokevirtual 47, 3), (355, .if_icmp .eq 387, 3), (358, .iconst 0, 1), (359, .ireturn, 1), (360, .aload_n 1, 1), (361, .aload_n 0, 1), (362, .iload_n 3, 1), (363, .iconst 1, 1), (364, .iadd, 1), (365, .iaload, 1), (366, .aload_n 0, 1), (367, .iload_n 3, 1), (368, .iconst 2, 1), (369, .iadd, 1), (370, .iaload, 1), (371, .invokevirtual 48, 3), (374, .aload_n 2, 1), (375, .aload_n 0, 1), (376, .iload_n 3, 1), (377, .iconst 1, 1), (378, .iadd, 1), (379, .iaload, 1), (380, .aload_n 0, 1), (381, .iload_n 3, 1), (382, .iconst 2, 1), (383, .iadd, 1), (384, .iaload, 1), (385, .invokevirtual 51, 3), (388, .if_icmp .eq 354, 3), (391, .iconst 0, 1), (392, .ireturn, 1), (393, .aload_n 1, 1), (394, .aload_n 0, 1), (395, .iload_n 3, 1), (396, .iconst 1, 1), (397, .iadd, 1), (398, .iaload, 1), (399, .aload_n 0, 1), (400, .iload_n 3, 1), (401, .iconst 2, 1), (402, .iadd, 1), (403, .iaload, 1), (404, .invokevirtual 52, 3), (407, .aload_n 2, 1), (408, .aload_n 0, 1), (409, .iload_n 3, 1), (410, .iconst 1, 1), (411, .iadd, 1), (412, .iaload, 1), (413, .aload_n 0, 1), (414, .iload_n 3, 1), (415, .iconst 2, 1), (416, .iadd, 1), (417, .iaload, 1), (418, .invokevirtual 55, 3), (421, .if_icmp .eq 321, 3), (424, .iconst 0, 1), (425, .ireturn, 1), (426, .aload_n 1, 1), (427, .aload_n 0, 1), (428, .iload_n 3, 1), (429, .iconst 1, 1), (430, .iadd, 1), (431, .iaload, 1), (432, .aload_n 0, 1), (433, .iload_n 3, 1), (434, .iconst 2, 1), (435, .iadd, 1), (436, .iaload, 1), (437, .invokevirtual 56, 3), (440, .aload_n 2, 1), (441, .aload_n 0, 1), (442, .iload_n 3, 1), (443, .iconst 1, 1), (444, .iadd, 1), (445, .iaload, 1), (446, .aload_n 0, 1), (447, .iload_n 3, 1), (448, .iconst 2, 1), (449, .iadd, 1), (450, .iaload, 1), (451, .invokevirtual 59, 3), (454, .if_icmp .eq 288, 3), (457, .iconst 0, 1), (458, .ireturn, 1), (459, .aload_n 1, 1), (460, .aload_n 0, 1), (461, .iload_n 3, 1), (462, .iconst 1, 1), (463, .iadd, 1), (464, .iaload, 1), (465, .invokevirtual 60, 3), (468, .aload_n 2, 1), (469, .aload_n 0, 1), (470, .iload_n 3, 1), (471, .iconst 1, 1), (472, .iadd, 1), (473, .iaload, 1), (474, .invokevirtual 63, 3), (477, .if_icmp .eq 265, 3), (480, .iconst 0, 1), (481, .ireturn, 1), (482, .aload_n 1, 1), (483, .aload_n 0, 1), (484, .iload_n 3, 1), (485, .iconst 1, 1), (486, .iadd, 1), (487, .iaload, 1), (488, .invokevirtual 64, 3), (491, .aload_n 2, 1), (492, .aload_n 0, 1), (493, .iload_n 3, 1), (494, .iconst 1, 1), (495, .iadd, 1), (496, .iaload, 1), (497, .invokevirtual 67, 3), (500, .if_icmp .eq 242, 3), (503, .iconst 0, 1), (504, .ireturn, 1), (505, .aload_n 1, 1), (506, .aload_n 0, 1), (507, .iload_n 3, 1), (508, .iconst 1, 1), (509, .iadd, 1), (510, .iaload, 1), (511, .invokevirtual 68, 3), (514, .aload_n 2, 1), (515, .aload_n 0, 1), (516, .iload_n 3, 1), (517, .iconst 1, 1), (518, .iadd, 1), (519, .iaload, 1), (520, .invokevirtual 71, 3), (523, .if_icmp .eq 219, 3), (526, .iconst 0, 1), (527, .ireturn, 1), (528, .aload_n 1, 1), (529, .aload_n 0, 1), (530, .iload_n 3, 1), (531, .iconst 1, 1), (532, .iadd, 1), (533, .iaload, 1), (534, .aload_n 0, 1), (535, .iload_n 3, 1), (536, .iconst 2, 1), (537, .iadd, 1), (538, .iaload, 1), (539, .invokevirtual 72, 3), (542, .aload_n 2, 1), (543, .aload_n 0, 1), (544, .iload_n 3, 1), (545, .iconst 1, 1), (546, .iadd, 1), (547, .iaload, 1), (548, .aload_n 0, 1), (549, .iload_n 3, 1), (550, .iconst 2, 1), (551, .iadd, 1), (552, .iaload, 1), (553, .invokevirtual 75, 3), (556, .if_icmp .eq 186, 3), (559, .iconst 0, 1), (560, .ireturn, 1), (561, .aload_n 1, 1), (562, .aload_n 0, 1), (563, .iload_n 3, 1), (564, .iconst 1, 1), (565, .iadd, 1), (566, .iaload, 1), (567, .aload_n 0, 1), (568, .iload_n 3, 1), (569, .iconst 2, 1), (570, .iadd, 1), (571, .iaload, 1), (572, .aload_n 0, 1), (573, .iload_n 3, 1), (574, .iconst 3, 1), (575, .iadd, 1), (576, .iaload, 1), (577, .invokevirtual 76, 3), (580, .aload_n 2, 1), (581, .aload_n 0, 1), (582, .iload_n 3, 1), (583, .iconst 1, 1), (584, .iadd, 1), (585, .iaload, 1), (586, .aload_n 0, 1), (587, .iload_n 3, 1), (588, .iconst 2, 1), (589, .iadd, 1), (590, .iaload, 1), (591, .aload_n 0, 1), (592, .iload_n 3, 1), (593, .iconst 3, 1), (594, .iadd, 1), (595, .iaload, 1), (596, .invokevirtual 80, 3), (599, .if_icmp .eq 143, 3), (602, .iconst 0, 1), (603, .ireturn, 1), (604, .aload_n 1, 1), (605, .aload_n 0, 1), (606, .iload_n 3, 1), (607, .iconst 1, 1), (608, .iadd, 1), (609, .iaload, 1), (610, .i2l, 1), (611, .bipush 32, 2), (613, .lshl, 1), (614, .aload_n 0, 1), (615, .iload_n 3, 1), (616, .iconst 2, 1), (617, .iadd, 1), (618, .iaload, 1), (619, .i2l, 1), (620, .ldc2_w 81, 3), (623, .land, 1), (624, .lor, 1), (625, .invokevirtual 83, 3), (628, .aload_n 2, 1), (629, .aload_n 0, 1), (630, .iload_n 3, 1), (631, .iconst 1, 1), (632, .iadd, 1), (633, .iaload, 1), (634, .i2l, 1), (635, .bipush 32, 2), (637, .lshl, 1), (638, .aload_n 0, 1), (639, .iload_n 3, 1), (640, .iconst 2, 1), (641, .iadd, 1), (642, .iaload, 1), (643, .i2l, 1), (644, .ldc2_w 81, 3), (647, .land, 1), (648, .lor, 1), (649, .invokevirtual 87, 3), (652, .if_icmp .eq 90, 3), (655, .iconst 0, 1), (656, .ireturn, 1), (657, .aload_n 1, 1), (658, .invokevirtual 88, 3), (661, .aload_n 2, 1), (662, .invokevirtual 91, 3), (665, .if_icmp .eq 77, 3), (668, .iconst 0, 1), (669, .ireturn, 1), (670, .aload_n 1, 1), (671, .invokevirtual 92, 3), (674, .aload_n 2, 1), (675, .invokevirtual 95, 3), (678, .if_icmp .eq 64, 3), (681, .iconst 0, 1), (682, .ireturn, 1), (683, .aload_n 1, 1), (684, .invokevirtual 96, 3), (687, .aload_n 2, 1), (688, .invokevirtual 99, 3), (691, .if_icmp .eq 51, 3), (694, .iconst 0, 1), (695, .ireturn, 1), (696, .aload_n 1, 1), (697, .aload_n 0, 1), (698, .iload_n 3, 1), (699, .iconst 1, 1), (700, .iadd, 1), (701, .iaload, 1), (702, .invokevirtual 100, 3), (705, .aload_n 2, 1), (706, .aload_n 0, 1), (707, .iload_n 3, 1), (708, .iconst 1, 1), (709, .iadd, 1), (710, .iaload, 1), (711, .invokevirtual 103, 3), (714, .if_icmp .eq 28, 3), (717, .iconst 0, 1), (718, .ireturn, 1), (719, .aload_n 1, 1), (720, .aload_n 0, 1), (721, .iload_n 3, 1), (722, .iconst 1, 1), (723, .iadd, 1), (724, .iaload, 1), (725, .invokevirtual 104, 3), (728, .aload_n 2, 1), (729, .aload_n 0, 1), (730, .iload_n 3, 1), (731, .iconst 1, 1), (732, .iadd, 1), (733, .iaload, 1), (734, .invokevirtual 107, 3), (737, .if_icmp .eq 5, 3), (740, .iconst 0, 1), (741, .ireturn, 1), (742, .iinc 3 4, 3), (745, .goto (-727), 3), (748, .iconst 1, 1), (749, .ireturn, 1)]
set_option maxRecDepth 100000 in
theorem chk_139 : (ins_139).all (fun e => decide (decode cL_law e.1 = .ok e.2)) = true := by decide +kernel
end
section
/-- a method: name, code, locals, answer's type, class, argument kinds (0 int, 1 long, 2 reference), frames, words, places of longs, how it is called (0 an object's, 1 static, 2 constructor) -/
abbrev cm_MI : Type := MethodName × ByteArray × Nat × Option FieldType × Nat × List Nat × Nat × Nat × List Nat × Nat
abbrev cm_Q : Type := cm_MI × List (Nat × Instr × Nat)
def mi_0 : cm_MI := (yX0_init, cX0_init, 2, none, 0, [2, 2], 1, 12, [], 2)
def mi_1 : cm_MI := (yX0_follow, cX0_follow, 1, none, 0, [2], 3, 71, [], 0)
def mi_2 : cm_MI := (yX0_layOut, cX0_layOut, 2, none, 0, [2], 1, 21, [], 0)
def mi_3 : cm_MI := (yX0_pace, cX0_pace, 2, none, 0, [2], 2, 48, [], 0)
def mi_4 : cm_MI := (yX0_changeSpeed, cX0_changeSpeed, 5, none, 0, [2, 0, 0], 1, 24, [], 0)
def mi_5 : cm_MI := (yX0_begin, cX0_begin, 4, none, 0, [2, 0, 0, 0], 0, 0, [], 0)
def mi_6 : cm_MI := (yX0_watch, cX0_watch, 6, none, 0, [2], 2, 46, [], 0)
def mi_7 : cm_MI := (yX0_stretchReaching, cX0_stretchReaching, 5, (some .int), 0, [2, 0, 0], 0, 0, [], 0)
def mi_8 : cm_MI := (yX0_timeIn, cX0_timeIn, 3, (some .int), 0, [2, 0, 0], 1, 24, [], 0)
def mi_9 : cm_MI := (yX0_ticksIn, cX0_ticksIn, 5, (some .int), 0, [2, 0, 0], 0, 0, [], 0)
def mi_10 : cm_MI := (yX0_ticksInAll, cX0_ticksInAll, 2, (some .int), 0, [2], 2, 46, [], 0)
def mi_11 : cm_MI := (yX0_stretchAt, cX0_stretchAt, 4, (some .int), 0, [2, 0], 0, 0, [], 0)
def mi_12 : cm_MI := (yX0_speedAt, cX0_speedAt, 2, (some .int), 0, [2, 0], 1, 23, [], 0)
def mi_13 : cm_MI := (yX0_movedAt, cX0_movedAt, 3, (some .int), 0, [2, 0], 1, 23, [], 0)
def mi_14 : cm_MI := (yX0_isSeenAt, cX0_isSeenAt, 3, (some .boolean), 0, [2, 0, 0], 0, 0, [], 0)
def mi_15 : cm_MI := (yX0_firstSeenAt, cX0_firstSeenAt, 3, (some .int), 0, [2, 0], 1, 22, [], 0)
def mi_16 : cm_MI := (yX0_lastSeenAt, cX0_lastSeenAt, 3, (some .int), 0, [2, 0], 1, 22, [], 0)
def mi_17 : cm_MI := (yX0_howManySeenAt, cX0_howManySeenAt, 4, (some .int), 0, [2, 0], 1, 22, [], 0)
def mi_18 : cm_MI := (yX0_leastSeenLineOf, cX0_leastSeenLineOf, 4, (some .int), 0, [2, 0], 0, 0, [], 0)
def mi_19 : cm_MI := (yX0_leastSeenOf, cX0_leastSeenOf, 3, (some .int), 0, [2, 0], 1, 23, [], 0)
def mi_20 : cm_MI := (yX0_mostSeenOf, cX0_mostSeenOf, 4, (some .int), 0, [2, 0], 1, 21, [], 0)
def mi_21 : cm_MI := (yX0_spreadOf, cX0_spreadOf, 2, (some .int), 0, [2, 0], 2, 45, [], 0)
def mi_22 : cm_MI := (yX0_spreadsInAll, cX0_spreadsInAll, 3, (some .int), 0, [2], 3, 66, [], 0)
def mi_23 : cm_MI := (yX0_unequalGroups, cX0_unequalGroups, 3, (some .int), 0, [2], 3, 66, [], 0)
def mi_24 : cm_MI := (yX0_neverSeenNames, cX0_neverSeenNames, 3, (some .int), 0, [2], 0, 0, [], 0)
def mi_25 : cm_MI := (yX0_showsNamesFor, cX0_showsNamesFor, 3, (some .boolean), 0, [2, 0], 0, 0, [], 0)
def mi_26 : cm_MI := (yX1_init, cX1_init, 1, none, 1, [2], 1, 39, [], 2)
def mi_27 : cm_MI := (yX1_takeFrom, cX1_takeFrom, 2, none, 1, [2, 2], 2, 46, [], 0)
def mi_28 : cm_MI := (yX1_addAll, cX1_addAll, 3, none, 1, [2, 2], 1, 24, [], 0)
def mi_29 : cm_MI := (yX1_add, cX1_add, 5, none, 1, [2, 0, 0, 0, 0], 0, 0, [], 0)
def mi_30 : cm_MI := (yX1_holds, cX1_holds, 2, (some .boolean), 1, [2, 0], 0, 0, [], 0)
def mi_31 : cm_MI := (yX1_heightOf, cX1_heightOf, 2, (some .int), 1, [2, 0], 0, 0, [], 0)
def mi_32 : cm_MI := (yX1_carry, cX1_carry, 4, none, 1, [2, 0, 0], 2, 45, [], 0)
def mi_33 : cm_MI := (yX1_remove, cX1_remove, 2, none, 1, [2, 0], 3, 68, [], 0)
def mi_34 : cm_MI := (yX1_exchange, cX1_exchange, 3, none, 1, [2, 0, 0], 1, 23, [], 0)
def mi_35 : cm_MI := (yX1_exchangeIn, cX1_exchangeIn, 4, none, 1, [2, 0, 0], 0, 0, [], 1)
def mi_36 : cm_MI := (yX1_rotateNumbers, cX1_rotateNumbers, 4, none, 1, [2, 0], 1, 23, [], 0)
def mi_37 : cm_MI := (yX1_firstNameOf, cX1_firstNameOf, 3, (some .int), 1, [2, 0], 0, 0, [], 0)
def mi_38 : cm_MI := (yX1_namesOf, cX1_namesOf, 4, (some .int), 1, [2, 0], 0, 0, [], 0)
def mi_39 : cm_MI := (yX1_namesInAll, cX1_namesInAll, 3, (some .int), 1, [2], 0, 0, [], 0)
def mi_40 : cm_MI := (yX1_cuesInAll, cX1_cuesInAll, 3, (some .int), 1, [2], 0, 0, [], 0)
def mi_41 : cm_MI := (yX1_dropCues, cX1_dropCues, 2, none, 1, [2], 0, 0, [], 0)
def mi_42 : cm_MI := (yX2_init, cX2_init, 2, none, 2, [2], 2, 59, [], 2)
def mi_43 : cm_MI := (yX2_remember, cX2_remember, 2, none, 2, [2, 2], 3, 67, [], 0)
def mi_44 : cm_MI := (yX2_takeBack, cX2_takeBack, 2, none, 2, [2, 2], 3, 67, [], 0)
def mi_45 : cm_MI := (yX3_init, cX3_init, 1, none, 3, [2], 1, 12, [], 2)
def mi_46 : cm_MI := (yX3_charactersIn, cX3_charactersIn, 6, (some .int), 3, [2, 1], 1, 22, [1, 4], 0)
def mi_47 : cm_MI := (yX3_append, cX3_append, 5, none, 3, [2, 1, 0], 0, 0, [1], 0)
def mi_48 : cm_MI := (yX3_parseInto, cX3_parseInto, 3, (some .int), 3, [2, 2], 4, 93, [], 0)
def mi_49 : cm_MI := (yX3_parseLineInto, cX3_parseLineInto, 6, (some .boolean), 3, [2, 2], 3, 68, [], 0)
def mi_50 : cm_MI := (yX3_parseNumber, cX3_parseNumber, 6, (some .int), 3, [2, 0, 0], 2, 43, [], 0)
def mi_51 : cm_MI := (yX3_kindHere, cX3_kindHere, 1, (some .int), 3, [2], 1, 20, [], 0)
def mi_52 : cm_MI := (yX3_digit, cX3_digit, 2, (some .int), 3, [2], 1, 22, [], 0)
def mi_53 : cm_MI := (yX3_character, cX3_character, 1, (some .int), 3, [2], 0, 0, [], 0)
def mi_54 : cm_MI := (yX4_init, cX4_init, 2, none, 4, [2], 2, 59, [], 2)
def mi_55 : cm_MI := (yX5_init, cX5_init, 1, none, 5, [2], 3, 80, [], 2)
def mi_56 : cm_MI := (yX5_set, cX5_set, 4, (some .int), 5, [2, 0, 0], 4, 88, [], 0)
def mi_57 : cm_MI := (yX5_name, cX5_name, 3, (some .int), 5, [2, 0, 0], 5, 111, [], 0)
def mi_58 : cm_MI := (yX5_line, cX5_line, 2, (some .int), 5, [2, 0], 5, 111, [], 0)
def mi_59 : cm_MI := (yX5_cue, cX5_cue, 4, (some .int), 5, [2, 0, 0], 4, 88, [], 0)
def mi_60 : cm_MI := (yX5_move, cX5_move, 4, (some .int), 5, [2, 0, 0], 4, 91, [], 0)
def mi_61 : cm_MI := (yX5_drop, cX5_drop, 2, (some .int), 5, [2, 0], 4, 89, [], 0)
def mi_62 : cm_MI := (yX5_turn, cX5_turn, 5, (some .int), 5, [2, 0, 0], 4, 88, [], 0)
def mi_63 : cm_MI := (yX5_read, cX5_read, 1, (some .int), 5, [2], 5, 115, [], 0)
def mi_64 : cm_MI := (yX5_of, cX5_of, 3, (some .int), 5, [2, 0, 0], 4, 91, [], 0)
def mi_65 : cm_MI := (yX5_group, cX5_group, 3, (some .int), 5, [2, 0, 0], 4, 91, [], 0)
def mi_66 : cm_MI := (yX5_at, cX5_at, 3, (some .int), 5, [2, 0, 0], 4, 91, [], 0)
def mi_67 : cm_MI := (yX5_count, cX5_count, 2, (some .int), 5, [2, 0], 4, 91, [], 0)
def mi_68 : cm_MI := (yX5_blame, cX5_blame, 7, (some .int), 5, [2, 0], 4, 91, [], 0)
def mi_69 : cm_MI := (yX5_speedFor, cX5_speedFor, 3, (some .int), 5, [2, 0], 4, 91, [], 0)
def mi_70 : cm_MI := (yX5_seenIf, cX5_seenIf, 3, (some .int), 5, [2, 0, 0], 4, 91, [], 0)
def mi_71 : cm_MI := (yX5_bestCue, cX5_bestCue, 8, (some .int), 5, [2, 0, 0, 0], 4, 91, [], 0)
def mi_72 : cm_MI := (yX5_put, cX5_put, 4, (some .int), 5, [2, 1], 2, 47, [1], 0)
def mi_73 : cm_MI := (yX5_wipe, cX5_wipe, 2, (some .int), 5, [2], 0, 0, [], 0)
def mi_74 : cm_MI := (yX5_fault, cX5_fault, 1, (some .int), 5, [2], 5, 115, [], 0)
def mi_75 : cm_MI := (yX5_undo, cX5_undo, 1, (some .int), 5, [2], 4, 88, [], 0)
def mi_76 : cm_MI := (yX5_save, cX5_save, 2, (some .int), 5, [2, 0], 3, 67, [], 0)
def mi_77 : cm_MI := (yX5_restore, cX5_restore, 2, (some .int), 5, [2, 0], 4, 88, [], 0)
def mi_78 : cm_MI := (yX5_addAsChange, cX5_addAsChange, 4, (some .int), 5, [2, 0, 0, 0], 4, 88, [], 0)
def mi_79 : cm_MI := (yX5_firstNumberOf, cX5_firstNumberOf, 3, (some .int), 5, [2, 0], 1, 22, [], 0)
def mi_80 : cm_MI := (yX5_isWithin, cX5_isWithin, 3, (some .boolean), 5, [0, 0, 0], 0, 0, [], 1)
def mi_81 : cm_MI := (yX5_isGroup, cX5_isGroup, 1, (some .boolean), 5, [0], 1, 22, [], 1)
def mi_82 : cm_MI := (yX5_isSpeed, cX5_isSpeed, 1, (some .boolean), 5, [0], 1, 22, [], 1)
def mi_83 : cm_MI := (yX5_isSlot, cX5_isSlot, 1, (some .boolean), 5, [0], 1, 22, [], 1)
def mi_84 : cm_MI := (yX6_init, cX6_init, 1, none, 6, [2], 1, 12, [], 2)
def mi_85 : cm_MI := (yX6_in, cX6_in, 3, (some .boolean), 6, [0, 0, 0], 0, 0, [], 1)
def mi_86 : cm_MI := (yX6_isLine, cX6_isLine, 2, (some .boolean), 6, [2, 0], 0, 0, [], 0)
def mi_87 : cm_MI := (yX6_isGroup, cX6_isGroup, 1, (some .boolean), 6, [0], 1, 22, [], 1)
def mi_88 : cm_MI := (yX6_isSpeed, cX6_isSpeed, 1, (some .boolean), 6, [0], 1, 22, [], 1)
def mi_89 : cm_MI := (yX6_its, cX6_its, 3, (some .int), 6, [2, 0, 0], 0, 0, [], 0)
def mi_90 : cm_MI := (yX6_isNameOf, cX6_isNameOf, 3, (some .boolean), 6, [2, 0, 0], 1, 22, [], 0)
def mi_91 : cm_MI := (yX6_record, cX6_record, 2, none, 6, [2], 0, 0, [], 0)
def mi_92 : cm_MI := (yX6_undo, cX6_undo, 2, (some .int), 6, [2], 0, 0, [], 0)
def mi_93 : cm_MI := (yX6_save, cX6_save, 3, (some .int), 6, [2, 0], 1, 22, [], 0)
def mi_94 : cm_MI := (yX6_restore, cX6_restore, 3, (some .int), 6, [2, 0], 1, 22, [], 0)
def mi_95 : cm_MI := (yX6_height, cX6_height, 3, (some .int), 6, [2, 0], 1, 22, [], 0)
def mi_96 : cm_MI := (yX6_begin, cX6_begin, 2, none, 6, [2], 2, 44, [], 0)
def mi_97 : cm_MI := (yX6_speedNow, cX6_speedNow, 3, (some .int), 6, [2], 1, 22, [], 0)
def mi_98 : cm_MI := (yX6_isSeen, cX6_isSeen, 2, (some .boolean), 6, [2, 0], 0, 0, [], 0)
def mi_99 : cm_MI := (yX6_run, cX6_run, 4, (some .int), 6, [2], 3, 65, [], 0)
def mi_100 : cm_MI := (yX6_namesOf, cX6_namesOf, 4, (some .int), 6, [2, 0], 2, 44, [], 0)
def mi_101 : cm_MI := (yX6_shortest, cX6_shortest, 4, (some .int), 6, [2, 0], 2, 44, [], 0)
def mi_102 : cm_MI := (yX6_spread, cX6_spread, 4, (some .int), 6, [2, 0], 3, 67, [], 0)
def mi_103 : cm_MI := (yX6_firstName, cX6_firstName, 3, (some .int), 6, [2, 0], 2, 44, [], 0)
def mi_104 : cm_MI := (yX6_leastOf, cX6_leastOf, 1, (some .int), 6, [0], 0, 0, [], 1)
def mi_105 : cm_MI := (yX6_mostOf, cX6_mostOf, 1, (some .int), 6, [0], 0, 0, [], 1)
def mi_106 : cm_MI := (yX6_set, cX6_set, 4, (some .int), 6, [2, 0, 0], 1, 22, [], 0)
def mi_107 : cm_MI := (yX6_add, cX6_add, 6, (some .int), 6, [2, 0, 0, 0, 0], 0, 0, [], 0)
def mi_108 : cm_MI := (yX6_name, cX6_name, 3, (some .int), 6, [2, 0, 0], 2, 42, [], 0)
def mi_109 : cm_MI := (yX6_line, cX6_line, 2, (some .int), 6, [2, 0], 1, 25, [], 0)
def mi_110 : cm_MI := (yX6_cue, cX6_cue, 4, (some .int), 6, [2, 0, 0], 1, 22, [], 0)
def mi_111 : cm_MI := (yX6_exchange, cX6_exchange, 4, none, 6, [2, 0], 0, 0, [], 0)
def mi_112 : cm_MI := (yX6_move, cX6_move, 5, (some .int), 6, [2, 0, 0], 4, 88, [], 0)
def mi_113 : cm_MI := (yX6_drop, cX6_drop, 3, (some .int), 6, [2, 0], 1, 23, [], 0)
def mi_114 : cm_MI := (yX6_turnOnce, cX6_turnOnce, 5, none, 6, [2, 0], 3, 66, [], 0)
def mi_115 : cm_MI := (yX6_turn, cX6_turn, 4, (some .int), 6, [2, 0, 0], 4, 90, [], 0)
def mi_116 : cm_MI := (yX6_of, cX6_of, 3, (some .int), 6, [2, 0, 0], 4, 88, [], 0)
def mi_117 : cm_MI := (yX6_group, cX6_group, 5, (some .int), 6, [2, 0, 0], 4, 90, [], 0)
def mi_118 : cm_MI := (yX6_seenNow, cX6_seenNow, 6, (some .int), 6, [2, 0], 1, 21, [], 0)
def mi_119 : cm_MI := (yX6_at, cX6_at, 4, (some .int), 6, [2, 0, 0], 3, 65, [], 0)
def mi_120 : cm_MI := (yX6_unequal, cX6_unequal, 3, (some .int), 6, [2], 4, 90, [], 0)
def mi_121 : cm_MI := (yX6_names, cX6_names, 4, (some .int), 6, [2, 0], 1, 22, [], 0)
def mi_122 : cm_MI := (yX6_cues, cX6_cues, 3, (some .int), 6, [2], 1, 22, [], 0)
def mi_123 : cm_MI := (yX6_count, cX6_count, 3, (some .int), 6, [2, 0], 5, 112, [], 0)
def mi_124 : cm_MI := (yX6_allSpreads, cX6_allSpreads, 3, (some .int), 6, [2], 4, 90, [], 0)
def mi_125 : cm_MI := (yX6_blame, cX6_blame, 8, (some .int), 6, [2, 0], 5, 112, [], 0)
def mi_126 : cm_MI := (yX6_areSeenFor, cX6_areSeenFor, 4, (some .boolean), 6, [2, 0], 4, 88, [], 0)
def mi_127 : cm_MI := (yX6_speedFor, cX6_speedFor, 5, (some .int), 6, [2, 0], 5, 111, [], 0)
def mi_128 : cm_MI := (yX6_seenIf, cX6_seenIf, 4, (some .int), 6, [2, 0, 0], 4, 88, [], 0)
def mi_129 : cm_MI := (yX6_bestCue, cX6_bestCue, 10, (some .int), 6, [2, 0, 0, 0], 4, 90, [], 0)
def mi_130 : cm_MI := (yX6_put, cX6_put, 8, (some .int), 6, [2, 1], 1, 22, [1, 4], 0)
def mi_131 : cm_MI := (yX6_wipe, cX6_wipe, 2, (some .int), 6, [2], 0, 0, [], 0)
def mi_132 : cm_MI := (yX6_letter, cX6_letter, 1, (some .int), 6, [2], 0, 0, [], 0)
def mi_133 : cm_MI := (yX6_wants, cX6_wants, 2, none, 6, [2, 0], 0, 0, [], 0)
def mi_134 : cm_MI := (yX6_number, cX6_number, 5, (some .int), 6, [2, 0, 0], 1, 22, [], 0)
def mi_135 : cm_MI := (yX6_readLine, cX6_readLine, 3, none, 6, [2], 2, 46, [], 0)
def mi_136 : cm_MI := (yX6_readPad, cX6_readPad, 2, (some .int), 6, [2], 3, 68, [], 0)
def mi_137 : cm_MI := (yX6_fault, cX6_fault, 1, (some .int), 6, [2], 4, 89, [], 0)
def mi_138 : cm_MI := (yX6_read, cX6_read, 2, (some .int), 6, [2], 4, 89, [], 0)
def mi_139 : cm_MI := (yL_law, cL_law, 4, (some .boolean), 7, [2], 6, 139, [], 1)
def cm_P : List cm_Q := [(mi_0, ins_0), (mi_1, ins_1), (mi_2, ins_2), (mi_3, ins_3), (mi_4, ins_4), (mi_5, ins_5), (mi_6, ins_6), (mi_7, ins_7), (mi_8, ins_8), (mi_9, ins_9), (mi_10, ins_10), (mi_11, ins_11), (mi_12, ins_12), (mi_13, ins_13), (mi_14, ins_14), (mi_15, ins_15), (mi_16, ins_16), (mi_17, ins_17), (mi_18, ins_18), (mi_19, ins_19), (mi_20, ins_20), (mi_21, ins_21), (mi_22, ins_22), (mi_23, ins_23), (mi_24, ins_24), (mi_25, ins_25), (mi_26, ins_26), (mi_27, ins_27), (mi_28, ins_28), (mi_29, ins_29), (mi_30, ins_30), (mi_31, ins_31), (mi_32, ins_32), (mi_33, ins_33), (mi_34, ins_34), (mi_35, ins_35), (mi_36, ins_36), (mi_37, ins_37), (mi_38, ins_38), (mi_39, ins_39), (mi_40, ins_40), (mi_41, ins_41), (mi_42, ins_42), (mi_43, ins_43), (mi_44, ins_44), (mi_45, ins_45), (mi_46, ins_46), (mi_47, ins_47), (mi_48, ins_48), (mi_49, ins_49), (mi_50, ins_50), (mi_51, ins_51), (mi_52, ins_52), (mi_53, ins_53), (mi_54, ins_54), (mi_55, ins_55), (mi_56, ins_56), (mi_57, ins_57), (mi_58, ins_58), (mi_59, ins_59), (mi_60, ins_60), (mi_61, ins_61), (mi_62, ins_62), (mi_63, ins_63), (mi_64, ins_64), (mi_65, ins_65), (mi_66, ins_66), (mi_67, ins_67), (mi_68, ins_68), (mi_69, ins_69), (mi_70, ins_70), (mi_71, ins_71), (mi_72, ins_72), (mi_73, ins_73), (mi_74, ins_74), (mi_75, ins_75), (mi_76, ins_76), (mi_77, ins_77), (mi_78, ins_78), (mi_79, ins_79), (mi_80, ins_80), (mi_81, ins_81), (mi_82, ins_82), (mi_83, ins_83), (mi_84, ins_84), (mi_85, ins_85), (mi_86, ins_86), (mi_87, ins_87), (mi_88, ins_88), (mi_89, ins_89), (mi_90, ins_90), (mi_91, ins_91), (mi_92, ins_92), (mi_93, ins_93), (mi_94, ins_94), (mi_95, ins_95), (mi_96, ins_96), (mi_97, ins_97), (mi_98, ins_98), (mi_99, ins_99), (mi_100, ins_100), (mi_101, ins_101), (mi_102, ins_102), (mi_103, ins_103), (mi_104, ins_104), (mi_105, ins_105), (mi_106, ins_106), (mi_107, ins_107), (mi_108, ins_108), (mi_109, ins_109), (mi_110, ins_110), (mi_111, ins_111), (mi_112, ins_112), (mi_113, ins_113), (mi_114, ins_114), (mi_115, ins_115), (mi_116, ins_116), (mi_117, ins_117), (mi_118, ins_118), (mi_119, ins_119), (mi_120, ins_120), (mi_121, ins_121), (mi_122, ins_122), (mi_123, ins_123), (mi_124, ins_124), (mi_125, ins_125), (mi_126, ins_126), (mi_127, ins_127), (mi_128, ins_128), (mi_129, ins_129), (mi_130, ins_130), (mi_131, ins_131), (mi_132, ins_132), (mi_133, ins_133), (mi_134, ins_134), (mi_135, ins_135), (mi_136, ins_136), (mi_137, ins_137), (mi_138, ins_138), (mi_139, ins_139)]
def cm_call : List ((Nat × Nat) × (Nat × Nat)) := [((0, 3), (0, 1000)), ((0, 34), (0, 2)), ((0, 37), (0, 3)), ((0, 40), (0, 6)), ((0, 52), (0, 31)), ((0, 62), (0, 5)), ((0, 69), (0, 4)), ((0, 73), (0, 9)), ((0, 77), (0, 7)), ((0, 80), (0, 8)), ((0, 83), (0, 11)), ((0, 86), (0, 14)), ((0, 93), (0, 18)), ((0, 96), (0, 1001)), ((0, 101), (0, 20)), ((0, 104), (0, 19)), ((0, 107), (0, 21)), ((1, 3), (0, 1000)), ((1, 30), (0, 1002)), ((1, 40), (0, 28)), ((1, 44), (0, 29)), ((1, 48), (0, 34)), ((1, 52), (0, 32)), ((1, 55), (0, 35)), ((2, 3), (0, 1000)), ((2, 17), (0, 26)), ((2, 25), (0, 27)), ((3, 3), (0, 1000)), ((3, 17), (1, 80)), ((3, 28), (0, 49)), ((3, 32), (0, 53)), ((3, 36), (0, 51)), ((3, 39), (0, 52)), ((3, 42), (1, 81)), ((3, 46), (0, 50)), ((3, 50), (0, 29)), ((4, 3), (0, 1000)), ((4, 21), (0, 26)), ((5, 1), (0, 1000)), ((5, 9), (0, 26)), ((5, 18), (0, 0)), ((5, 33), (1, 45)), ((5, 40), (0, 42)), ((5, 47), (0, 54)), ((5, 59), (0, 80)), ((5, 63), (0, 43)), ((5, 69), (0, 81)), ((5, 73), (0, 78)), ((5, 77), (0, 30)), ((5, 80), (0, 82)), ((5, 86), (0, 1)), ((5, 89), (0, 10)), ((5, 93), (0, 32)), ((5, 97), (0, 33)), ((5, 105), (0, 37)), ((5, 109), (0, 36)), ((5, 115), (0, 48)), ((5, 119), (0, 28)), ((5, 134), (0, 31)), ((5, 143), (0, 38)), ((5, 146), (0, 21)), ((5, 149), (0, 19)), ((5, 152), (0, 18)), ((5, 155), (0, 79)), ((5, 158), (0, 15)), ((5, 161), (0, 16)), ((5, 164), (0, 17)), ((5, 167), (0, 12)), ((5, 170), (0, 13)), ((5, 173), (0, 39)), ((5, 179), (0, 23)), ((5, 182), (0, 40)), ((5, 185), (0, 24)), ((5, 191), (0, 27)), ((5, 194), (0, 22)), ((5, 197), (0, 41)), ((5, 200), (0, 25)), ((5, 203), (0, 46)), ((5, 207), (0, 47)), ((5, 211), (0, 44)), ((5, 214), (0, 83)), ((5, 225), (0, 29)), ((6, 1), (0, 1000)), ((6, 45), (0, 85)), ((6, 49), (0, 89)), ((6, 57), (0, 91)), ((6, 60), (0, 95)), ((6, 67), (0, 96)), ((6, 70), (0, 97)), ((6, 74), (0, 98)), ((6, 78), (0, 90)), ((6, 82), (0, 101)), ((6, 85), (0, 104)), ((6, 88), (0, 105)), ((6, 91), (0, 87)), ((6, 94), (0, 107)), ((6, 98), (0, 86)), ((6, 101), (0, 99)), ((6, 104), (0, 111)), ((6, 108), (0, 103)), ((6, 111), (0, 100)), ((6, 114), (0, 114)), ((6, 117), (0, 102)), ((6, 120), (0, 118)), ((6, 123), (0, 121)), ((6, 127), (0, 120)), ((6, 130), (0, 122)), ((6, 136), (0, 124)), ((6, 139), (0, 126)), ((6, 142), (0, 88)), ((6, 153), (0, 132)), ((6, 156), (0, 133)), ((6, 163), (0, 134)), ((6, 166), (0, 135)), ((6, 169), (0, 136)), ((7, 9), (0, 55)), ((7, 12), (0, 84)), ((7, 13), (0, 56)), ((7, 17), (0, 106)), ((7, 18), (0, 57)), ((7, 21), (0, 108)), ((7, 22), (0, 58)), ((7, 26), (0, 109)), ((7, 27), (0, 59)), ((7, 30), (0, 110)), ((7, 31), (0, 60)), ((7, 34), (0, 112)), ((7, 35), (0, 61)), ((7, 38), (0, 113)), ((7, 39), (0, 62)), ((7, 42), (0, 115)), ((7, 43), (0, 63)), ((7, 47), (0, 138)), ((7, 48), (0, 64)), ((7, 51), (0, 116)), ((7, 52), (0, 65)), ((7, 55), (0, 117)), ((7, 56), (0, 66)), ((7, 59), (0, 119)), ((7, 60), (0, 67)), ((7, 63), (0, 123)), ((7, 64), (0, 68)), ((7, 67), (0, 125)), ((7, 68), (0, 69)), ((7, 71), (0, 127)), ((7, 72), (0, 70)), ((7, 75), (0, 128)), ((7, 76), (0, 71)), ((7, 80), (0, 129)), ((7, 83), (0, 72)), ((7, 87), (0, 130)), ((7, 88), (0, 73)), ((7, 91), (0, 131)), ((7, 92), (0, 74)), ((7, 95), (0, 137)), ((7, 96), (0, 75)), ((7, 99), (0, 92)), ((7, 100), (0, 76)), ((7, 103), (0, 93)), ((7, 104), (0, 77)), ((7, 107), (0, 94))]
def cm_fld : List ((Nat × Nat) × (Nat × Nat)) := [((1, 9), (1, 0)), ((5, 66), (1, 0)), ((0, 59), (1, 0)), ((1, 15), (1, 1)), ((5, 125), (1, 1)), ((0, 110), (1, 1)), ((1, 18), (1, 2)), ((5, 128), (1, 2)), ((0, 90), (1, 2)), ((1, 21), (1, 3)), ((5, 112), (1, 3)), ((1, 24), (1, 4)), ((0, 66), (1, 4)), ((5, 83), (1, 4)), ((1, 36), (1, 5)), ((0, 47), (1, 5)), ((5, 101), (1, 5)), ((0, 30), (0, 0)), ((0, 9), (0, 1)), ((5, 131), (0, 1)), ((0, 15), (0, 2)), ((5, 140), (0, 2)), ((0, 18), (0, 3)), ((5, 137), (0, 3)), ((0, 43), (0, 4)), ((5, 176), (0, 4)), ((0, 21), (0, 5)), ((0, 24), (0, 6)), ((0, 27), (0, 7)), ((0, 56), (0, 8)), ((3, 9), (3, 0)), ((3, 21), (3, 1)), ((5, 122), (3, 1)), ((3, 25), (3, 2)), ((2, 11), (2, 0)), ((2, 22), (2, 1)), ((5, 188), (2, 1)), ((2, 18), (2, 2)), ((4, 11), (4, 0)), ((5, 217), (4, 0)), ((4, 17), (4, 1)), ((5, 221), (4, 1)), ((5, 10), (5, 0)), ((5, 21), (5, 1)), ((5, 25), (5, 2)), ((5, 28), (5, 3)), ((5, 34), (5, 4)), ((5, 41), (5, 5)), ((5, 48), (5, 6)), ((6, 7), (6, 0)), ((6, 13), (6, 1)), ((6, 16), (6, 2)), ((6, 19), (6, 3)), ((6, 53), (6, 4)), ((6, 23), (6, 5)), ((6, 133), (6, 6)), ((6, 27), (6, 7)), ((6, 30), (6, 8)), ((6, 33), (6, 9)), ((6, 36), (6, 10)), ((6, 64), (6, 11)), ((6, 39), (6, 12)), ((6, 42), (6, 13)), ((6, 160), (6, 14)), ((6, 147), (6, 15)), ((6, 150), (6, 16))]
def cm_sta : List ((Nat × Nat) × (Nat × Int)) := [((1, 27), (1, (-3))), ((5, 52), (0, (-4))), ((5, 56), (0, (-5)))]
def cm_cls : List ((Nat × Nat) × Nat) := [((7, 7), 5), ((5, 7), 1), ((5, 16), 0), ((5, 31), 3), ((5, 38), 2), ((2, 9), 1), ((5, 45), 4), ((4, 9), 1), ((7, 10), 6)]
def cm_lng : List ((Nat × Nat) × Int) := [((3, 15), 255), ((6, 145), 255), ((7, 81), 4294967295)]
def cm_ft : List (List Nat) := [[2, 2, 2, 2, 0, 2, 2, 2, 0], [2, 2, 2, 2, 2, 0], [2, 0, 0], [2, 0, 0], [2, 2], [2, 2, 2, 2, 2, 2, 2], [2, 2, 2, 2, 0, 2, 0, 2, 2, 2, 2, 0, 2, 2, 0, 0, 0]]
def cm_ty : List (Nat → FieldType) := [tyX0, tyX1, tyX2, tyX3, tyX4, tyX5, tyX6]
/-! ===== THE SMALL MACHINE: whole numbers for ints and longs, references by the order in which they were made ===== -/
/-- a value: kind (0 int, 1 long, 2 reference), number (-1: null; -2: the script; -3, -4, -5: static tables) -/
abbrev cm_V : Type := Nat × Int
/-- shapes of the cells ((0, class), (1, n) int[n], (2, n) char[n], (3, n) boolean[n], (4, n) references), and what reference cells hold -/
abbrev cm_G : Type := List (Nat × Nat) × (Int → Int → Int)
abbrev cm_M : Type := Int → Int → Int
abbrev cm_R : Type := Option cm_V × cm_G × cm_M
abbrev cm_K : Type := Nat → Nat → List (Option cm_V) → List cm_V → cm_G → cm_M → Option cm_R
def cm_as {α : Type} : List ((Nat × Nat) × α) → Nat → Nat → Option α
  | [], _, _ => none
  | e :: l, a, b => if e.1.1 = a ∧ e.1.2 = b then some e.2 else cm_as l a b
def cm_at : List (Nat × Instr × Nat) → Nat → Option (Instr × Nat)
  | [], _ => none
  | e :: l, pc => if e.1 = pc then some e.2 else cm_at l pc
def cm_up (f : Int → Int → Int) (k j v : Int) : Int → Int → Int := fun a b => if a = k ∧ b = j then v else f a b
def cm_row (f : Int → Int → Int) (k v : Int) : Int → Int → Int := fun a b => if a = k then v else f a b
def cm_cpy (f : Int → Int → Int) (k1 sp k2 dp n : Int) : Int → Int → Int := fun a b => if a = k2 ∧ dp ≤ b ∧ b < dp + n then f k1 (sp + (b - dp)) else f a b
abbrev cm_in (x : Int) : Prop := -2147483648 ≤ x ∧ x < 2147483648
def cm_cat (v : cm_V) : Nat := if v.1 = 1 then 2 else 1
def cm_sum (st : List cm_V) : Nat := (st.map cm_cat).sum
def cm_sh (G : cm_G) (k : Int) : Option (Nat × Nat) := if k < 0 then none else G.1[k.toNat]?
def cm_al (t : Nat) (G : cm_G) (M : cm_M) (k : Int) : Int :=
  if k = -2 ∧ t = 1 then M (-2) (-1) else if (k = -3 ∨ k = -4 ∨ k = -5) ∧ t = 1 then 3 else match cm_sh G k with
    | some (t', n) => if t' = t then (n : Int) else 0
    | none => 0
def cm_cmp (c : Jvm.ClassFile.Cond) (a b : Int) : Bool := match c with
  | .eq => decide (a = b)
  | .ne => !decide (a = b)
  | .lt => decide (a < b)
  | .ge => !decide (a < b)
  | .gt => decide (b < a)
  | .le => !decide (b < a)
def cm_tab (d lo hi : Int) (offs : Array Int) (x : Int) : Int := if x < lo ∨ hi < x then d else offs.toList.getD (x - lo).toNat d
def cm_lk (d : Int) (ps : List (Int × Int)) (x : Int) : Int := Op.lookupswitch.offset ps d x
def cm_land (a b : Int) : Int := (Int64.ofInt a &&& Int64.ofInt b).toInt
def cm_lor (a b : Int) : Int := (Int64.ofInt a ||| Int64.ofInt b).toInt
def cm_lushr (a b : Int) : Int := ((Int64.ofInt a).toUInt64 >>> ((Int32.ofInt b).toInt64.toUInt64 &&& Int64.toUInt64 63)).toInt64.toInt
def cm_lshl (a b : Int) : Int := (Int64.ofInt a <<< ((Int32.ofInt b).toInt64 &&& 63)).toInt
def cm_l2i (a : Int) : Int := (Int64.ofInt a).toInt32.toInt
def cm_i2l (a : Int) : Int := (Int32.ofInt a).toInt64.toInt
def cm_iand (a b : Int) : Int := (Int32.ofInt a &&& Int32.ofInt b).toInt
def cm_lcmp (a b : Int) : Int := (lg_cmp (Int64.ofInt a) (Int64.ofInt b)).toInt
def cm_ent (L : Nat) (as : List cm_V) : List (Option cm_V) := (as.flatMap (fun v => if v.1 = 1 then [some v, none] else [some v])) ++ List.replicate (L - cm_sum as) none
def cm_tg (q : cm_MI) : List Nat := q.2.2.2.2.2.1
def cm_lg (q : cm_MI) : List Nat := q.2.2.2.2.2.2.2.2.1
def cm_kd (q : cm_MI) : Nat := q.2.2.2.2.2.2.2.2.2
def cm_ci (q : cm_MI) : Nat := q.2.2.2.2.1
def cm_rt (q : cm_MI) : Option FieldType := q.2.2.2.1
def cm_ml (q : cm_MI) : Nat := q.2.2.1
def cm_dp (q : cm_MI) : Nat := q.2.2.2.2.2.2.1
def cm_lc (q : cm_MI) : Nat := q.2.2.2.2.2.2.2.1
/-- is the place before i a long's? -/
def cm_pl (q : cm_MI) (i : Nat) : Bool := decide (i ≠ 0 ∧ (i - 1) ∈ cm_lg q)
def cm_fin (ci k : Nat) : Bool := match vwCl[ci]? with
  | some r => (r.2.1 k).2.2.2
  | none => false
def cm_fk (ci k : Nat) : Option Nat := match cm_ft[ci]? with
  | some r => r[k]?
  | none => none
def cm_ld (t : Nat) (i : Nat) (r : cm_K) (μ pc w : Nat) (ls : List (Option cm_V)) (st : List cm_V) (G : cm_G) (M : cm_M) : Option cm_R := match ls[i]? with
  | some (some v) => if v.1 = t ∧ (t = 2 → v.2 ≠ -1) then r μ (pc + w) ls (v :: st) G M else none
  | _ => none
def cm_st (t : Nat) (i : Nat) (r : cm_K) (μ : Nat) (q : cm_MI) (pc w : Nat) (ls : List (Option cm_V)) (st : List cm_V) (G : cm_G) (M : cm_M) : Option cm_R := match st with
  | v :: st => if v.1 = t ∧ i < ls.length ∧ cm_pl q i = false ∧ i ∉ cm_lg q ∧ (t = 2 → v.2 ≠ -1) then r μ (pc + w) (ls.set i (some v)) st G M else none
  | _ => none
def cm_lst (i : Nat) (r : cm_K) (μ : Nat) (q : cm_MI) (pc w : Nat) (ls : List (Option cm_V)) (st : List cm_V) (G : cm_G) (M : cm_M) : Option cm_R := match st with
  | (1, v) :: st => if i + 1 < ls.length ∧ cm_pl q i = false ∧ i ∈ cm_lg q ∧ (i + 1) ∉ cm_lg q then r μ (pc + w) ((ls.set i (some (1, v))).set (i + 1) none) st G M else none
  | _ => none
def cm_go (r : cm_K) (μ pc : Nat) (off : Int) (ls : List (Option cm_V)) (st : List cm_V) (G : cm_G) (M : cm_M) : Option cm_R :=
  if 0 ≤ (pc : Int) + off then r μ ((pc : Int) + off).toNat ls st G M else none
/-- a call: the callee from its start, then what goes on with its answer -/
def cm_cl (r : cm_K) (n : Nat) (q' : cm_MI) (st : List cm_V) (G : cm_G) (M : cm_M) (k : Option cm_V → List cm_V → cm_G → cm_M → Option cm_R) : Option cm_R :=
  let as := (st.take (cm_tg q').length).reverse
  let rest := st.drop (cm_tg q').length
  if as.map (fun v => v.1) = cm_tg q' ∧ cm_sum rest ≤ 8 ∧ cm_sum as ≤ cm_ml q' then
    match r n 0 (cm_ent (cm_ml q') as) [] G M with
    | some (v, G', M') => k v rest G' M'
    | none => none
  else none
/-- what an object's method is called on -/
def cm_rc (G : cm_G) (q' : cm_MI) (st : List cm_V) : Prop := ∃ k, st[(cm_tg q').length - 1]? = some (2, k) ∧ cm_sh G k = some (0, cm_ci q')
def cm_rcb (G : cm_G) (q' : cm_MI) (st : List cm_V) : Bool := match st[(cm_tg q').length - 1]? with
  | some (2, k) => decide (cm_sh G k = some (0, cm_ci q'))
  | _ => false
def cm_ari (r : cm_K) (f : Int → Int → Int) (μ pc : Nat) (ls : List (Option cm_V)) (st : List cm_V) (G : cm_G) (M : cm_M) : Option cm_R := match st with
  | (0, b) :: (0, a) :: st => r μ (pc + 1) ls ((0, f a b) :: st) G M
  | _ => none
def cm_arl (r : cm_K) (f : Int → Int → Int) (μ pc : Nat) (ls : List (Option cm_V)) (st : List cm_V) (G : cm_G) (M : cm_M) : Option cm_R := match st with
  | (1, b) :: (1, a) :: st => r μ (pc + 1) ls ((1, f a b) :: st) G M
  | _ => none
def cm_shl (r : cm_K) (f : Int → Int → Int) (μ pc : Nat) (ls : List (Option cm_V)) (st : List cm_V) (G : cm_G) (M : cm_M) : Option cm_R := match st with
  | (0, b) :: (1, a) :: st => r μ (pc + 1) ls ((1, f a b) :: st) G M
  | _ => none
def cm_div (r : cm_K) (f : Int → Int → Int) (μ pc : Nat) (ls : List (Option cm_V)) (st : List cm_V) (G : cm_G) (M : cm_M) : Option cm_R := match st with
  | (0, b) :: (0, a) :: st => if cm_in a ∧ cm_in b ∧ 0 < b then r μ (pc + 1) ls ((0, f a b) :: st) G M else none
  | _ => none
def cm_icmp (r : cm_K) (c : Jvm.ClassFile.Cond) (off : Int) (μ pc : Nat) (ls : List (Option cm_V)) (st : List cm_V) (G : cm_G) (M : cm_M) : Option cm_R := match st with
  | (0, b) :: (0, a) :: st => if cm_in a ∧ cm_in b ∧ 0 ≤ (pc : Int) + off then (if cm_cmp c a b = true then r μ ((pc : Int) + off).toNat ls st G M else r μ (pc + 3) ls st G M) else none
  | _ => none
def cm_if (r : cm_K) (c : Jvm.ClassFile.Cond) (off : Int) (μ pc : Nat) (ls : List (Option cm_V)) (st : List cm_V) (G : cm_G) (M : cm_M) : Option cm_R := match st with
  | (0, a) :: st => if cm_in a ∧ 0 ≤ (pc : Int) + off then (if cm_cmp c a 0 = true then r μ ((pc : Int) + off).toNat ls st G M else r μ (pc + 3) ls st G M) else none
  | _ => none
def cm_get (r : cm_K) (q : cm_MI) (ix μ pc : Nat) (ls : List (Option cm_V)) (st : List cm_V) (G : cm_G) (M : cm_M) : Option cm_R := match st, cm_as cm_fld (cm_ci q) ix with
  | (2, k) :: st, some (ci, j) => if cm_sh G k = some (0, ci) then (match cm_fk ci j with
    | some 0 => r μ (pc + 3) ls ((0, M k j) :: st) G M
    | some 2 => r μ (pc + 3) ls ((2, G.2 k j) :: st) G M
    | _ => none) else none
  | _, _ => none
def cm_put (r : cm_K) (q : cm_MI) (ix μ pc : Nat) (ls : List (Option cm_V)) (st : List cm_V) (G : cm_G) (M : cm_M) : Option cm_R := match st, cm_as cm_fld (cm_ci q) ix with
  | (t, v) :: (2, k) :: st, some (ci, j) => if cm_sh G k = some (0, ci) ∧ cm_fk ci j = some t ∧ (cm_fin ci j = true → cm_kd q = 2 ∧ cm_ci q = ci) then
      (if t = 0 then r μ (pc + 3) ls st G (cm_up M k j v) else if t = 2 ∧ 0 ≤ v then r μ (pc + 3) ls st (G.1, cm_up G.2 k j v) M else none) else none
  | _, _ => none
def cm_ald (r : cm_K) (t : Nat) (μ pc : Nat) (ls : List (Option cm_V)) (st : List cm_V) (G : cm_G) (M : cm_M) : Option cm_R := match st with
  | (0, i) :: (2, k) :: st => if 0 ≤ i ∧ i < cm_al t G M k then r μ (pc + 1) ls ((0, M k i) :: st) G M else none
  | _ => none
def cm_ast (r : cm_K) (t : Nat) (ok : Int → Bool) (μ pc : Nat) (ls : List (Option cm_V)) (st : List cm_V) (G : cm_G) (M : cm_M) : Option cm_R := match st with
  | (0, v) :: (0, i) :: (2, k) :: st => if 0 ≤ k ∧ 0 ≤ i ∧ i < cm_al t G M k ∧ ok v = true then r μ (pc + 1) ls st G (cm_up M k i v) else none
  | _ => none
def cm_ty1 : ArrayType → Option Nat
  | .int => some 1
  | .char => some 2
  | .boolean => some 3
  | _ => none
def cm_do (r : cm_K) (μ : Nat) (q : cm_MI) (i : Instr × Nat) (pc : Nat) (ls : List (Option cm_V)) (st : List cm_V) (G : cm_G) (M : cm_M) : Option cm_R := match i with
  | (.iconst n, 1) => r μ (pc + 1) ls ((0, n) :: st) G M
  | (.bipush n, 2) => if -128 ≤ n ∧ n ≤ 127 then r μ (pc + 2) ls ((0, n) :: st) G M else none
  | (.sipush n, 3) => if -32768 ≤ n ∧ n ≤ 32767 then r μ (pc + 3) ls ((0, n) :: st) G M else none
  | (.lconst n, 1) => r μ (pc + 1) ls ((1, (n : Nat)) :: st) G M
  | (.ldc2_w ix, 3) => match cm_as cm_lng (cm_ci q) ix with
    | some v => r μ (pc + 3) ls ((1, v) :: st) G M
    | none => none
  | (.iload_n k, 1) => cm_ld 0 k r μ pc 1 ls st G M
  | (.iload k, 2) => cm_ld 0 k r μ pc 2 ls st G M
  | (.lload_n k, 1) => cm_ld 1 k r μ pc 1 ls st G M
  | (.lload k, 2) => cm_ld 1 k r μ pc 2 ls st G M
  | (.aload_n k, 1) => cm_ld 2 k r μ pc 1 ls st G M
  | (.istore_n k, 1) => cm_st 0 k r μ q pc 1 ls st G M
  | (.istore k, 2) => cm_st 0 k r μ q pc 2 ls st G M
  | (.astore_n k, 1) => cm_st 2 k r μ q pc 1 ls st G M
  | (.lstore k, 2) => cm_lst k r μ q pc 2 ls st G M
  | (.iinc k n, 3) => match ls[k]? with
    | some (some (0, x)) => if cm_pl q k = false ∧ k ∉ cm_lg q then r μ (pc + 3) (ls.set k (some (0, x + n))) st G M else none
    | _ => none
  | (.iadd, 1) => cm_ari r (fun a b => a + b) μ pc ls st G M
  | (.isub, 1) => cm_ari r (fun a b => a - b) μ pc ls st G M
  | (.imul, 1) => cm_ari r (fun a b => a * b) μ pc ls st G M
  | (.iand, 1) => cm_ari r cm_iand μ pc ls st G M
  | (.idiv, 1) => cm_div r (fun a b => a.tdiv b) μ pc ls st G M
  | (.irem, 1) => cm_div r (fun a b => a.tmod b) μ pc ls st G M
  | (.land, 1) => cm_arl r cm_land μ pc ls st G M
  | (.lor, 1) => cm_arl r cm_lor μ pc ls st G M
  | (.lushr, 1) => cm_shl r cm_lushr μ pc ls st G M
  | (.lshl, 1) => cm_shl r cm_lshl μ pc ls st G M
  | (.l2i, 1) => match st with
    | (1, a) :: st => r μ (pc + 1) ls ((0, cm_l2i a) :: st) G M
    | _ => none
  | (.i2l, 1) => match st with
    | (0, a) :: st => r μ (pc + 1) ls ((1, cm_i2l a) :: st) G M
    | _ => none
  | (.i2c, 1) => match st with
    | (0, a) :: st => if 0 ≤ a ∧ a < 65536 then r μ (pc + 1) ls ((0, a) :: st) G M else none
    | _ => none
  | (.lcmp, 1) => match st with
    | (1, b) :: (1, a) :: st => r μ (pc + 1) ls ((0, cm_lcmp a b) :: st) G M
    | _ => none
  | (.dup, 1) => match st with
    | v :: st => if v.1 ≠ 1 then r μ (pc + 1) ls (v :: v :: st) G M else none
    | _ => none
  | (.dup2, 1) => match st with
    | v :: w :: st => if v.1 ≠ 1 ∧ w.1 ≠ 1 then r μ (pc + 1) ls (v :: w :: v :: w :: st) G M else none
    | _ => none
  | (.pop, 1) => match st with
    | v :: st => if v.1 ≠ 1 then r μ (pc + 1) ls st G M else none
    | _ => none
  | (.goto off, 3) => cm_go r μ pc off ls st G M
  | (.if_icmp c off, 3) => cm_icmp r c off μ pc ls st G M
  | (.ifCond c off, 3) => cm_if r c off μ pc ls st G M
  | (.tableswitch d lo hi offs, _) => match st with
    | (0, x) :: st => if cm_in x ∧ (x < lo ∨ hi < x ∨ (x - lo).toNat < offs.size) then cm_go r μ pc (cm_tab d lo hi offs x) ls st G M else none
    | _ => none
  | (.lookupswitch d ps, _) => match st with
    | (0, x) :: st => if cm_in x ∧ (ps.toList.zip (ps.toList.drop 1)).all (fun (a, next) => a.1 < next.1) = true then cm_go r μ pc (cm_lk d ps.toList x) ls st G M else none
    | _ => none
  | (.getfield ix, 3) => cm_get r q ix μ pc ls st G M
  | (.putfield ix, 3) => cm_put r q ix μ pc ls st G M
  | (.getstatic ix, 3) => match cm_as cm_sta (cm_ci q) ix with
    | some (_, k) => r μ (pc + 3) ls ((2, k) :: st) G M
    | none => none
  | (.iaload, 1) => cm_ald r 1 μ pc ls st G M
  | (.caload, 1) => cm_ald r 2 μ pc ls st G M
  | (.baload, 1) => cm_ald r 3 μ pc ls st G M
  | (.iastore, 1) => cm_ast r 1 (fun _ => true) μ pc ls st G M
  | (.castore, 1) => cm_ast r 2 (fun v => decide (0 ≤ v ∧ v < 65536)) μ pc ls st G M
  | (.bastore, 1) => cm_ast r 3 (fun v => decide (v = 0 ∨ v = 1)) μ pc ls st G M
  | (.aaload, 1) => match st with
    | (0, i) :: (2, k) :: st => if 0 ≤ k ∧ 0 ≤ i ∧ i < cm_al 4 G M k then r μ (pc + 1) ls ((2, G.2 k i) :: st) G M else none
    | _ => none
  | (.aastore, 1) => match st with
    | (2, v) :: (0, i) :: (2, k) :: st => if 0 ≤ k ∧ 0 ≤ i ∧ i < cm_al 4 G M k ∧ cm_sh G v = some (0, 1) then r μ (pc + 1) ls st (G.1, cm_up G.2 k i v) M else none
    | _ => none
  | (.arraylength, 1) => match st with
    | (2, k) :: st => if k = -2 then r μ (pc + 1) ls ((0, M (-2) (-1)) :: st) G M else none
    | _ => none
  | (.newarray t, 2) => match st, cm_ty1 t with
    | (0, n) :: st, some u => if 0 ≤ n ∧ n ≤ 1000 then r μ (pc + 2) ls ((2, (G.1.length : Int)) :: st) (G.1 ++ [(u, n.toNat)], G.2) (cm_row M (G.1.length : Int) 0) else none
    | _, _ => none
  | (.anewarray ix, 3) => match st, cm_as cm_cls (cm_ci q) ix with
    | (0, n) :: st, some 1 => if 0 ≤ n ∧ n ≤ 1000 then r μ (pc + 3) ls ((2, (G.1.length : Int)) :: st) (G.1 ++ [(4, n.toNat)], cm_row G.2 (G.1.length : Int) (-1)) M else none
    | _, _ => none
  | (.new ix, 3) => match cm_as cm_cls (cm_ci q) ix with
    | some ci => r μ (pc + 3) ls ((2, (G.1.length : Int)) :: st) (G.1 ++ [(0, ci)], cm_row G.2 (G.1.length : Int) (-1)) (cm_row M (G.1.length : Int) 0)
    | none => none
  | (.invokevirtual ix, 3) => match cm_as cm_call (cm_ci q) ix with
    | some (_, n) => match cm_P[n]? with
      | some q' => if cm_kd q'.1 = 0 ∧ cm_rcb G q'.1 st = true then cm_cl r n q'.1 st G M (fun v rest G' M' => r μ (pc + 3) ls (v.toList ++ rest) G' M') else none
      | none => none
    | none => none
  | (.invokespecial ix, 3) => match cm_as cm_call (cm_ci q) ix with
    | some (_, n) => if n = 1000 then (match st with
        | [(2, k)] => if 0 ≤ k then r μ (pc + 3) ls [] G M else none
        | _ => none) else (match cm_P[n]? with
      | some q' => if cm_kd q'.1 = 2 ∧ cm_rcb G q'.1 st = true then cm_cl r n q'.1 st G M (fun v rest G' M' => r μ (pc + 3) ls (v.toList ++ rest) G' M') else none
      | none => none)
    | none => none
  | (.invokestatic ix, 3) => match cm_as cm_call (cm_ci q) ix with
    | some (_, n) => if n = 1001 then (match st with
        | (0, b) :: (0, a) :: st => if cm_in a ∧ cm_in b ∧ cm_sum st ≤ 8 then r μ (pc + 3) ls ((0, if a < b then b else a) :: st) G M else none
        | _ => none) else if n = 1002 then (match st with
        | (0, n) :: (0, dp) :: (2, k2) :: (0, sp) :: (2, k1) :: st => if 0 ≤ k2 ∧ 1 ≤ n ∧ 0 ≤ dp ∧ 0 ≤ sp ∧ (0 ≤ k1 ∨ k1 = -3) ∧ dp + n ≤ cm_al 1 G M k2 ∧ sp + n ≤ cm_al 1 G M k1 ∧ cm_sum st ≤ 8 then r μ (pc + 3) ls st G (cm_cpy M k1 sp k2 dp n) else none
        | _ => none) else (match cm_P[n]? with
      | some q' => if cm_kd q'.1 = 1 then cm_cl r n q'.1 st G M (fun v rest G' M' => r μ (pc + 3) ls (v.toList ++ rest) G' M') else none
      | none => none)
    | none => none
  | (.ireturn, 1) => match st, cm_rt q with
    | [(0, v)], some .int => some (some (0, v), G, M)
    | [(0, v)], some .boolean => if v = 0 ∨ v = 1 then some (some (0, v), G, M) else none
    | _, _ => none
  | (.return_, 1) => match st, cm_rt q with
    | [], none => some (none, G, M)
    | _, _ => none
  | _ => none
def cm_step (r : cm_K) : cm_K := fun μ pc ls st G M => match cm_P[μ]? with
  | none => none
  | some q => match cm_at q.2 pc with
    | none => none
    | some i => cm_do r μ q.1 i pc ls st G M
noncomputable def cm_run (n : Nat) : cm_K := Nat.rec (motive := fun _ => cm_K) (fun _ _ _ _ _ _ => none) (fun _ r => cm_step r) n
theorem cm_run_0 : cm_run 0 = fun _ _ _ _ _ _ => none := rfl
theorem cm_run_s (n : Nat) : cm_run (n + 1) = cm_step (cm_run n) := rfl
end
section
/-! ===== what the tables say of the methods, calls and fields ===== -/
def cm_T : List Cond := lw_tbl.filter goodWord
theorem cm_T_in {w : Cond} (i : Nat) (h : lw_tbl[i]? = some w) (hg : goodWord w = true) : w ∈ cm_T := List.mem_filter.mpr ⟨List.mem_of_getElem? h, hg⟩
theorem cm_T_good {w : Cond} (h : w ∈ cm_T) : (w.onTables && w.keeps) = true ∨ ∃ ty, w = .arrayClass ty := good_of_word (List.mem_filter.mp h).2
def cm_wd (q : cm_MI) : Cond := .code q.1 q.2.1 (cm_ml q) (cm_rt q)
def cm_lpos : Nat → List Nat → List Nat
  | _, [] => []
  | p, t :: l => if t = 1 then p :: cm_lpos (p + 2) l else cm_lpos (p + 1) l
/-- class numbers to names (7: the law) -/
def cm_cn : Nat → String
  | 0 => RX0 | 1 => RX1 | 2 => RX2 | 3 => RX3 | 4 => RX4 | 5 => RX5 | 6 => RX6 | _ => RL
def cm_ok (q : cm_MI) : Prop := cm_wd q ∈ cm_T ∧ .initialized q.1.cls ∈ cm_T ∧ (cm_kd q = 0 → .instanceMethod q.1 ∈ cm_T ∧ .selects q.1.cls q.1 q.1 ∈ cm_T) ∧ (cm_kd q = 1 → .static q.1 ∈ cm_T) ∧ (cm_kd q = 2 → .instanceMethod q.1 ∈ cm_T ∧ q.1.name = "<init>" ∧ cm_rt q = none) ∧
  (q.1.cls ≠ "java/lang/invoke/MethodHandle" ∧ q.1.cls ≠ "java/lang/invoke/VarHandle" ∧ (parseMethodDescriptor q.1.desc).map (fun d => d.parameters.length) = some ((cm_tg q).length - (if cm_kd q = 1 then 0 else 1))) ∧ plainName q.1.cls = true ∧ q.1.cls = cm_cn (cm_ci q) ∧ (∀ i ∈ cm_lpos 0 (cm_tg q), i ∈ cm_lg q) ∧ (cm_kd q ≠ 1 → ∃ l, cm_tg q = 2 :: l) ∧ (∃ r, vwCl[cm_ci q]? = some r ∧ r.1 = q.1.cls)
set_option maxRecDepth 100000 in
theorem mo_0 : cm_ok mi_0 := ⟨cm_T_in 110 (by decide +kernel) (by decide +kernel), cm_T_in 50 (by decide +kernel) (by decide +kernel), fun h => absurd h (by decide), fun h => absurd h (by decide), fun _ => ⟨cm_T_in 109 (by decide +kernel) (by decide +kernel), rfl, rfl⟩, ⟨by decide +kernel, by decide +kernel, by decide +kernel⟩, by decide +kernel, rfl, by decide +kernel, fun _ => ⟨_, rfl⟩, ⟨_, rfl, rfl⟩⟩
set_option maxRecDepth 100000 in
theorem mo_1 : cm_ok mi_1 := ⟨cm_T_in 283 (by decide +kernel) (by decide +kernel), cm_T_in 50 (by decide +kernel) (by decide +kernel), fun _ => ⟨cm_T_in 281 (by decide +kernel) (by decide +kernel), cm_T_in 282 (by decide +kernel) (by decide +kernel)⟩, fun h => absurd h (by decide), fun h => absurd h (by decide), ⟨by decide +kernel, by decide +kernel, by decide +kernel⟩, by decide +kernel, rfl, by decide +kernel, fun _ => ⟨_, rfl⟩, ⟨_, rfl, rfl⟩⟩
set_option maxRecDepth 100000 in
theorem mo_2 : cm_ok mi_2 := ⟨cm_T_in 287 (by decide +kernel) (by decide +kernel), cm_T_in 50 (by decide +kernel) (by decide +kernel), fun _ => ⟨cm_T_in 286 (by decide +kernel) (by decide +kernel), cm_T_in 1 (by decide +kernel) (by decide +kernel)⟩, fun h => absurd h (by decide), fun h => absurd h (by decide), ⟨by decide +kernel, by decide +kernel, by decide +kernel⟩, by decide +kernel, rfl, by decide +kernel, fun _ => ⟨_, rfl⟩, ⟨_, rfl, rfl⟩⟩
set_option maxRecDepth 100000 in
theorem mo_3 : cm_ok mi_3 := ⟨cm_T_in 295 (by decide +kernel) (by decide +kernel), cm_T_in 50 (by decide +kernel) (by decide +kernel), fun _ => ⟨cm_T_in 294 (by decide +kernel) (by decide +kernel), cm_T_in 2 (by decide +kernel) (by decide +kernel)⟩, fun h => absurd h (by decide), fun h => absurd h (by decide), ⟨by decide +kernel, by decide +kernel, by decide +kernel⟩, by decide +kernel, rfl, by decide +kernel, fun _ => ⟨_, rfl⟩, ⟨_, rfl, rfl⟩⟩
set_option maxRecDepth 100000 in
theorem mo_4 : cm_ok mi_4 := ⟨cm_T_in 303 (by decide +kernel) (by decide +kernel), cm_T_in 50 (by decide +kernel) (by decide +kernel), fun _ => ⟨cm_T_in 302 (by decide +kernel) (by decide +kernel), cm_T_in 4 (by decide +kernel) (by decide +kernel)⟩, fun h => absurd h (by decide), fun h => absurd h (by decide), ⟨by decide +kernel, by decide +kernel, by decide +kernel⟩, by decide +kernel, rfl, by decide +kernel, fun _ => ⟨_, rfl⟩, ⟨_, rfl, rfl⟩⟩
set_option maxRecDepth 100000 in
theorem mo_5 : cm_ok mi_5 := ⟨cm_T_in 299 (by decide +kernel) (by decide +kernel), cm_T_in 50 (by decide +kernel) (by decide +kernel), fun _ => ⟨cm_T_in 298 (by decide +kernel) (by decide +kernel), cm_T_in 3 (by decide +kernel) (by decide +kernel)⟩, fun h => absurd h (by decide), fun h => absurd h (by decide), ⟨by decide +kernel, by decide +kernel, by decide +kernel⟩, by decide +kernel, rfl, by decide +kernel, fun _ => ⟨_, rfl⟩, ⟨_, rfl, rfl⟩⟩
set_option maxRecDepth 100000 in
theorem mo_6 : cm_ok mi_6 := ⟨cm_T_in 311 (by decide +kernel) (by decide +kernel), cm_T_in 50 (by decide +kernel) (by decide +kernel), fun _ => ⟨cm_T_in 310 (by decide +kernel) (by decide +kernel), cm_T_in 6 (by decide +kernel) (by decide +kernel)⟩, fun h => absurd h (by decide), fun h => absurd h (by decide), ⟨by decide +kernel, by decide +kernel, by decide +kernel⟩, by decide +kernel, rfl, by decide +kernel, fun _ => ⟨_, rfl⟩, ⟨_, rfl, rfl⟩⟩
set_option maxRecDepth 100000 in
theorem mo_7 : cm_ok mi_7 := ⟨cm_T_in 315 (by decide +kernel) (by decide +kernel), cm_T_in 50 (by decide +kernel) (by decide +kernel), fun _ => ⟨cm_T_in 314 (by decide +kernel) (by decide +kernel), cm_T_in 7 (by decide +kernel) (by decide +kernel)⟩, fun h => absurd h (by decide), fun h => absurd h (by decide), ⟨by decide +kernel, by decide +kernel, by decide +kernel⟩, by decide +kernel, rfl, by decide +kernel, fun _ => ⟨_, rfl⟩, ⟨_, rfl, rfl⟩⟩
set_option maxRecDepth 100000 in
theorem mo_8 : cm_ok mi_8 := ⟨cm_T_in 319 (by decide +kernel) (by decide +kernel), cm_T_in 50 (by decide +kernel) (by decide +kernel), fun _ => ⟨cm_T_in 318 (by decide +kernel) (by decide +kernel), cm_T_in 8 (by decide +kernel) (by decide +kernel)⟩, fun h => absurd h (by decide), fun h => absurd h (by decide), ⟨by decide +kernel, by decide +kernel, by decide +kernel⟩, by decide +kernel, rfl, by decide +kernel, fun _ => ⟨_, rfl⟩, ⟨_, rfl, rfl⟩⟩
set_option maxRecDepth 100000 in
theorem mo_9 : cm_ok mi_9 := ⟨cm_T_in 307 (by decide +kernel) (by decide +kernel), cm_T_in 50 (by decide +kernel) (by decide +kernel), fun _ => ⟨cm_T_in 306 (by decide +kernel) (by decide +kernel), cm_T_in 5 (by decide +kernel) (by decide +kernel)⟩, fun h => absurd h (by decide), fun h => absurd h (by decide), ⟨by decide +kernel, by decide +kernel, by decide +kernel⟩, by decide +kernel, rfl, by decide +kernel, fun _ => ⟨_, rfl⟩, ⟨_, rfl, rfl⟩⟩
set_option maxRecDepth 100000 in
theorem mo_10 : cm_ok mi_10 := ⟨cm_T_in 323 (by decide +kernel) (by decide +kernel), cm_T_in 50 (by decide +kernel) (by decide +kernel), fun _ => ⟨cm_T_in 321 (by decide +kernel) (by decide +kernel), cm_T_in 322 (by decide +kernel) (by decide +kernel)⟩, fun h => absurd h (by decide), fun h => absurd h (by decide), ⟨by decide +kernel, by decide +kernel, by decide +kernel⟩, by decide +kernel, rfl, by decide +kernel, fun _ => ⟨_, rfl⟩, ⟨_, rfl, rfl⟩⟩
set_option maxRecDepth 100000 in
theorem mo_11 : cm_ok mi_11 := ⟨cm_T_in 453 (by decide +kernel) (by decide +kernel), cm_T_in 50 (by decide +kernel) (by decide +kernel), fun _ => ⟨cm_T_in 452 (by decide +kernel) (by decide +kernel), cm_T_in 18 (by decide +kernel) (by decide +kernel)⟩, fun h => absurd h (by decide), fun h => absurd h (by decide), ⟨by decide +kernel, by decide +kernel, by decide +kernel⟩, by decide +kernel, rfl, by decide +kernel, fun _ => ⟨_, rfl⟩, ⟨_, rfl, rfl⟩⟩
set_option maxRecDepth 100000 in
theorem mo_12 : cm_ok mi_12 := ⟨cm_T_in 449 (by decide +kernel) (by decide +kernel), cm_T_in 50 (by decide +kernel) (by decide +kernel), fun _ => ⟨cm_T_in 447 (by decide +kernel) (by decide +kernel), cm_T_in 448 (by decide +kernel) (by decide +kernel)⟩, fun h => absurd h (by decide), fun h => absurd h (by decide), ⟨by decide +kernel, by decide +kernel, by decide +kernel⟩, by decide +kernel, rfl, by decide +kernel, fun _ => ⟨_, rfl⟩, ⟨_, rfl, rfl⟩⟩
set_option maxRecDepth 100000 in
theorem mo_13 : cm_ok mi_13 := ⟨cm_T_in 457 (by decide +kernel) (by decide +kernel), cm_T_in 50 (by decide +kernel) (by decide +kernel), fun _ => ⟨cm_T_in 455 (by decide +kernel) (by decide +kernel), cm_T_in 456 (by decide +kernel) (by decide +kernel)⟩, fun h => absurd h (by decide), fun h => absurd h (by decide), ⟨by decide +kernel, by decide +kernel, by decide +kernel⟩, by decide +kernel, rfl, by decide +kernel, fun _ => ⟨_, rfl⟩, ⟨_, rfl, rfl⟩⟩
set_option maxRecDepth 100000 in
theorem mo_14 : cm_ok mi_14 := ⟨cm_T_in 437 (by decide +kernel) (by decide +kernel), cm_T_in 50 (by decide +kernel) (by decide +kernel), fun _ => ⟨cm_T_in 436 (by decide +kernel) (by decide +kernel), cm_T_in 17 (by decide +kernel) (by decide +kernel)⟩, fun h => absurd h (by decide), fun h => absurd h (by decide), ⟨by decide +kernel, by decide +kernel, by decide +kernel⟩, by decide +kernel, rfl, by decide +kernel, fun _ => ⟨_, rfl⟩, ⟨_, rfl, rfl⟩⟩
set_option maxRecDepth 100000 in
theorem mo_15 : cm_ok mi_15 := ⟨cm_T_in 433 (by decide +kernel) (by decide +kernel), cm_T_in 50 (by decide +kernel) (by decide +kernel), fun _ => ⟨cm_T_in 431 (by decide +kernel) (by decide +kernel), cm_T_in 432 (by decide +kernel) (by decide +kernel)⟩, fun h => absurd h (by decide), fun h => absurd h (by decide), ⟨by decide +kernel, by decide +kernel, by decide +kernel⟩, by decide +kernel, rfl, by decide +kernel, fun _ => ⟨_, rfl⟩, ⟨_, rfl, rfl⟩⟩
set_option maxRecDepth 100000 in
theorem mo_16 : cm_ok mi_16 := ⟨cm_T_in 441 (by decide +kernel) (by decide +kernel), cm_T_in 50 (by decide +kernel) (by decide +kernel), fun _ => ⟨cm_T_in 439 (by decide +kernel) (by decide +kernel), cm_T_in 440 (by decide +kernel) (by decide +kernel)⟩, fun h => absurd h (by decide), fun h => absurd h (by decide), ⟨by decide +kernel, by decide +kernel, by decide +kernel⟩, by decide +kernel, rfl, by decide +kernel, fun _ => ⟨_, rfl⟩, ⟨_, rfl, rfl⟩⟩
set_option maxRecDepth 100000 in
theorem mo_17 : cm_ok mi_17 := ⟨cm_T_in 445 (by decide +kernel) (by decide +kernel), cm_T_in 50 (by decide +kernel) (by decide +kernel), fun _ => ⟨cm_T_in 443 (by decide +kernel) (by decide +kernel), cm_T_in 444 (by decide +kernel) (by decide +kernel)⟩, fun h => absurd h (by decide), fun h => absurd h (by decide), ⟨by decide +kernel, by decide +kernel, by decide +kernel⟩, by decide +kernel, rfl, by decide +kernel, fun _ => ⟨_, rfl⟩, ⟨_, rfl, rfl⟩⟩
set_option maxRecDepth 100000 in
theorem mo_18 : cm_ok mi_18 := ⟨cm_T_in 419 (by decide +kernel) (by decide +kernel), cm_T_in 50 (by decide +kernel) (by decide +kernel), fun _ => ⟨cm_T_in 417 (by decide +kernel) (by decide +kernel), cm_T_in 418 (by decide +kernel) (by decide +kernel)⟩, fun h => absurd h (by decide), fun h => absurd h (by decide), ⟨by decide +kernel, by decide +kernel, by decide +kernel⟩, by decide +kernel, rfl, by decide +kernel, fun _ => ⟨_, rfl⟩, ⟨_, rfl, rfl⟩⟩
set_option maxRecDepth 100000 in
theorem mo_19 : cm_ok mi_19 := ⟨cm_T_in 415 (by decide +kernel) (by decide +kernel), cm_T_in 50 (by decide +kernel) (by decide +kernel), fun _ => ⟨cm_T_in 413 (by decide +kernel) (by decide +kernel), cm_T_in 414 (by decide +kernel) (by decide +kernel)⟩, fun h => absurd h (by decide), fun h => absurd h (by decide), ⟨by decide +kernel, by decide +kernel, by decide +kernel⟩, by decide +kernel, rfl, by decide +kernel, fun _ => ⟨_, rfl⟩, ⟨_, rfl, rfl⟩⟩
set_option maxRecDepth 100000 in
theorem mo_20 : cm_ok mi_20 := ⟨cm_T_in 408 (by decide +kernel) (by decide +kernel), cm_T_in 50 (by decide +kernel) (by decide +kernel), fun _ => ⟨cm_T_in 407 (by decide +kernel) (by decide +kernel), cm_T_in 15 (by decide +kernel) (by decide +kernel)⟩, fun h => absurd h (by decide), fun h => absurd h (by decide), ⟨by decide +kernel, by decide +kernel, by decide +kernel⟩, by decide +kernel, rfl, by decide +kernel, fun _ => ⟨_, rfl⟩, ⟨_, rfl, rfl⟩⟩
set_option maxRecDepth 100000 in
theorem mo_21 : cm_ok mi_21 := ⟨cm_T_in 404 (by decide +kernel) (by decide +kernel), cm_T_in 50 (by decide +kernel) (by decide +kernel), fun _ => ⟨cm_T_in 402 (by decide +kernel) (by decide +kernel), cm_T_in 403 (by decide +kernel) (by decide +kernel)⟩, fun h => absurd h (by decide), fun h => absurd h (by decide), ⟨by decide +kernel, by decide +kernel, by decide +kernel⟩, by decide +kernel, rfl, by decide +kernel, fun _ => ⟨_, rfl⟩, ⟨_, rfl, rfl⟩⟩
set_option maxRecDepth 100000 in
theorem mo_22 : cm_ok mi_22 := ⟨cm_T_in 487 (by decide +kernel) (by decide +kernel), cm_T_in 50 (by decide +kernel) (by decide +kernel), fun _ => ⟨cm_T_in 485 (by decide +kernel) (by decide +kernel), cm_T_in 486 (by decide +kernel) (by decide +kernel)⟩, fun h => absurd h (by decide), fun h => absurd h (by decide), ⟨by decide +kernel, by decide +kernel, by decide +kernel⟩, by decide +kernel, rfl, by decide +kernel, fun _ => ⟨_, rfl⟩, ⟨_, rfl, rfl⟩⟩
set_option maxRecDepth 100000 in
theorem mo_23 : cm_ok mi_23 := ⟨cm_T_in 469 (by decide +kernel) (by decide +kernel), cm_T_in 50 (by decide +kernel) (by decide +kernel), fun _ => ⟨cm_T_in 467 (by decide +kernel) (by decide +kernel), cm_T_in 468 (by decide +kernel) (by decide +kernel)⟩, fun h => absurd h (by decide), fun h => absurd h (by decide), ⟨by decide +kernel, by decide +kernel, by decide +kernel⟩, by decide +kernel, rfl, by decide +kernel, fun _ => ⟨_, rfl⟩, ⟨_, rfl, rfl⟩⟩
set_option maxRecDepth 100000 in
theorem mo_24 : cm_ok mi_24 := ⟨cm_T_in 478 (by decide +kernel) (by decide +kernel), cm_T_in 50 (by decide +kernel) (by decide +kernel), fun _ => ⟨cm_T_in 476 (by decide +kernel) (by decide +kernel), cm_T_in 477 (by decide +kernel) (by decide +kernel)⟩, fun h => absurd h (by decide), fun h => absurd h (by decide), ⟨by decide +kernel, by decide +kernel, by decide +kernel⟩, by decide +kernel, rfl, by decide +kernel, fun _ => ⟨_, rfl⟩, ⟨_, rfl, rfl⟩⟩
set_option maxRecDepth 100000 in
theorem mo_25 : cm_ok mi_25 := ⟨cm_T_in 499 (by decide +kernel) (by decide +kernel), cm_T_in 50 (by decide +kernel) (by decide +kernel), fun _ => ⟨cm_T_in 497 (by decide +kernel) (by decide +kernel), cm_T_in 498 (by decide +kernel) (by decide +kernel)⟩, fun h => absurd h (by decide), fun h => absurd h (by decide), ⟨by decide +kernel, by decide +kernel, by decide +kernel⟩, by decide +kernel, rfl, by decide +kernel, fun _ => ⟨_, rfl⟩, ⟨_, rfl, rfl⟩⟩
set_option maxRecDepth 100000 in
theorem mo_26 : cm_ok mi_26 := ⟨cm_T_in 68 (by decide +kernel) (by decide +kernel), cm_T_in 48 (by decide +kernel) (by decide +kernel), fun h => absurd h (by decide), fun h => absurd h (by decide), fun _ => ⟨cm_T_in 67 (by decide +kernel) (by decide +kernel), rfl, rfl⟩, ⟨by decide +kernel, by decide +kernel, by decide +kernel⟩, by decide +kernel, rfl, by decide +kernel, fun _ => ⟨_, rfl⟩, ⟨_, rfl, rfl⟩⟩
set_option maxRecDepth 100000 in
theorem mo_27 : cm_ok mi_27 := ⟨cm_T_in 240 (by decide +kernel) (by decide +kernel), cm_T_in 48 (by decide +kernel) (by decide +kernel), fun _ => ⟨cm_T_in 238 (by decide +kernel) (by decide +kernel), cm_T_in 239 (by decide +kernel) (by decide +kernel)⟩, fun h => absurd h (by decide), fun h => absurd h (by decide), ⟨by decide +kernel, by decide +kernel, by decide +kernel⟩, by decide +kernel, rfl, by decide +kernel, fun _ => ⟨_, rfl⟩, ⟨_, rfl, rfl⟩⟩
set_option maxRecDepth 100000 in
theorem mo_28 : cm_ok mi_28 := ⟨cm_T_in 244 (by decide +kernel) (by decide +kernel), cm_T_in 48 (by decide +kernel) (by decide +kernel), fun _ => ⟨cm_T_in 242 (by decide +kernel) (by decide +kernel), cm_T_in 243 (by decide +kernel) (by decide +kernel)⟩, fun h => absurd h (by decide), fun h => absurd h (by decide), ⟨by decide +kernel, by decide +kernel, by decide +kernel⟩, by decide +kernel, rfl, by decide +kernel, fun _ => ⟨_, rfl⟩, ⟨_, rfl, rfl⟩⟩
set_option maxRecDepth 100000 in
theorem mo_29 : cm_ok mi_29 := ⟨cm_T_in 248 (by decide +kernel) (by decide +kernel), cm_T_in 48 (by decide +kernel) (by decide +kernel), fun _ => ⟨cm_T_in 246 (by decide +kernel) (by decide +kernel), cm_T_in 247 (by decide +kernel) (by decide +kernel)⟩, fun h => absurd h (by decide), fun h => absurd h (by decide), ⟨by decide +kernel, by decide +kernel, by decide +kernel⟩, by decide +kernel, rfl, by decide +kernel, fun _ => ⟨_, rfl⟩, ⟨_, rfl, rfl⟩⟩
set_option maxRecDepth 100000 in
theorem mo_30 : cm_ok mi_30 := ⟨cm_T_in 272 (by decide +kernel) (by decide +kernel), cm_T_in 48 (by decide +kernel) (by decide +kernel), fun _ => ⟨cm_T_in 270 (by decide +kernel) (by decide +kernel), cm_T_in 271 (by decide +kernel) (by decide +kernel)⟩, fun h => absurd h (by decide), fun h => absurd h (by decide), ⟨by decide +kernel, by decide +kernel, by decide +kernel⟩, by decide +kernel, rfl, by decide +kernel, fun _ => ⟨_, rfl⟩, ⟨_, rfl, rfl⟩⟩
set_option maxRecDepth 100000 in
theorem mo_31 : cm_ok mi_31 := ⟨cm_T_in 291 (by decide +kernel) (by decide +kernel), cm_T_in 48 (by decide +kernel) (by decide +kernel), fun _ => ⟨cm_T_in 289 (by decide +kernel) (by decide +kernel), cm_T_in 290 (by decide +kernel) (by decide +kernel)⟩, fun h => absurd h (by decide), fun h => absurd h (by decide), ⟨by decide +kernel, by decide +kernel, by decide +kernel⟩, by decide +kernel, rfl, by decide +kernel, fun _ => ⟨_, rfl⟩, ⟨_, rfl, rfl⟩⟩
set_option maxRecDepth 100000 in
theorem mo_32 : cm_ok mi_32 := ⟨cm_T_in 327 (by decide +kernel) (by decide +kernel), cm_T_in 48 (by decide +kernel) (by decide +kernel), fun _ => ⟨cm_T_in 325 (by decide +kernel) (by decide +kernel), cm_T_in 326 (by decide +kernel) (by decide +kernel)⟩, fun h => absurd h (by decide), fun h => absurd h (by decide), ⟨by decide +kernel, by decide +kernel, by decide +kernel⟩, by decide +kernel, rfl, by decide +kernel, fun _ => ⟨_, rfl⟩, ⟨_, rfl, rfl⟩⟩
set_option maxRecDepth 100000 in
theorem mo_33 : cm_ok mi_33 := ⟨cm_T_in 342 (by decide +kernel) (by decide +kernel), cm_T_in 48 (by decide +kernel) (by decide +kernel), fun _ => ⟨cm_T_in 340 (by decide +kernel) (by decide +kernel), cm_T_in 341 (by decide +kernel) (by decide +kernel)⟩, fun h => absurd h (by decide), fun h => absurd h (by decide), ⟨by decide +kernel, by decide +kernel, by decide +kernel⟩, by decide +kernel, rfl, by decide +kernel, fun _ => ⟨_, rfl⟩, ⟨_, rfl, rfl⟩⟩
set_option maxRecDepth 100000 in
theorem mo_34 : cm_ok mi_34 := ⟨cm_T_in 331 (by decide +kernel) (by decide +kernel), cm_T_in 48 (by decide +kernel) (by decide +kernel), fun _ => ⟨cm_T_in 330 (by decide +kernel) (by decide +kernel), cm_T_in 9 (by decide +kernel) (by decide +kernel)⟩, fun h => absurd h (by decide), fun h => absurd h (by decide), ⟨by decide +kernel, by decide +kernel, by decide +kernel⟩, by decide +kernel, rfl, by decide +kernel, fun _ => ⟨_, rfl⟩, ⟨_, rfl, rfl⟩⟩
set_option maxRecDepth 100000 in
theorem mo_35 : cm_ok mi_35 := ⟨cm_T_in 334 (by decide +kernel) (by decide +kernel), cm_T_in 48 (by decide +kernel) (by decide +kernel), fun h => absurd h (by decide), fun _ => cm_T_in 333 (by decide +kernel) (by decide +kernel), fun h => absurd h (by decide), ⟨by decide +kernel, by decide +kernel, by decide +kernel⟩, by decide +kernel, rfl, by decide +kernel, fun h => absurd rfl h, ⟨_, rfl, rfl⟩⟩
set_option maxRecDepth 100000 in
theorem mo_36 : cm_ok mi_36 := ⟨cm_T_in 355 (by decide +kernel) (by decide +kernel), cm_T_in 48 (by decide +kernel) (by decide +kernel), fun _ => ⟨cm_T_in 353 (by decide +kernel) (by decide +kernel), cm_T_in 354 (by decide +kernel) (by decide +kernel)⟩, fun h => absurd h (by decide), fun h => absurd h (by decide), ⟨by decide +kernel, by decide +kernel, by decide +kernel⟩, by decide +kernel, rfl, by decide +kernel, fun _ => ⟨_, rfl⟩, ⟨_, rfl, rfl⟩⟩
set_option maxRecDepth 100000 in
theorem mo_37 : cm_ok mi_37 := ⟨cm_T_in 351 (by decide +kernel) (by decide +kernel), cm_T_in 48 (by decide +kernel) (by decide +kernel), fun _ => ⟨cm_T_in 349 (by decide +kernel) (by decide +kernel), cm_T_in 350 (by decide +kernel) (by decide +kernel)⟩, fun h => absurd h (by decide), fun h => absurd h (by decide), ⟨by decide +kernel, by decide +kernel, by decide +kernel⟩, by decide +kernel, rfl, by decide +kernel, fun _ => ⟨_, rfl⟩, ⟨_, rfl, rfl⟩⟩
set_option maxRecDepth 100000 in
theorem mo_38 : cm_ok mi_38 := ⟨cm_T_in 400 (by decide +kernel) (by decide +kernel), cm_T_in 48 (by decide +kernel) (by decide +kernel), fun _ => ⟨cm_T_in 398 (by decide +kernel) (by decide +kernel), cm_T_in 399 (by decide +kernel) (by decide +kernel)⟩, fun h => absurd h (by decide), fun h => absurd h (by decide), ⟨by decide +kernel, by decide +kernel, by decide +kernel⟩, by decide +kernel, rfl, by decide +kernel, fun _ => ⟨_, rfl⟩, ⟨_, rfl, rfl⟩⟩
set_option maxRecDepth 100000 in
theorem mo_39 : cm_ok mi_39 := ⟨cm_T_in 465 (by decide +kernel) (by decide +kernel), cm_T_in 48 (by decide +kernel) (by decide +kernel), fun _ => ⟨cm_T_in 463 (by decide +kernel) (by decide +kernel), cm_T_in 464 (by decide +kernel) (by decide +kernel)⟩, fun h => absurd h (by decide), fun h => absurd h (by decide), ⟨by decide +kernel, by decide +kernel, by decide +kernel⟩, by decide +kernel, rfl, by decide +kernel, fun _ => ⟨_, rfl⟩, ⟨_, rfl, rfl⟩⟩
set_option maxRecDepth 100000 in
theorem mo_40 : cm_ok mi_40 := ⟨cm_T_in 474 (by decide +kernel) (by decide +kernel), cm_T_in 48 (by decide +kernel) (by decide +kernel), fun _ => ⟨cm_T_in 472 (by decide +kernel) (by decide +kernel), cm_T_in 473 (by decide +kernel) (by decide +kernel)⟩, fun h => absurd h (by decide), fun h => absurd h (by decide), ⟨by decide +kernel, by decide +kernel, by decide +kernel⟩, by decide +kernel, rfl, by decide +kernel, fun _ => ⟨_, rfl⟩, ⟨_, rfl, rfl⟩⟩
set_option maxRecDepth 100000 in
theorem mo_41 : cm_ok mi_41 := ⟨cm_T_in 495 (by decide +kernel) (by decide +kernel), cm_T_in 48 (by decide +kernel) (by decide +kernel), fun _ => ⟨cm_T_in 493 (by decide +kernel) (by decide +kernel), cm_T_in 494 (by decide +kernel) (by decide +kernel)⟩, fun h => absurd h (by decide), fun h => absurd h (by decide), ⟨by decide +kernel, by decide +kernel, by decide +kernel⟩, by decide +kernel, rfl, by decide +kernel, fun _ => ⟨_, rfl⟩, ⟨_, rfl, rfl⟩⟩
set_option maxRecDepth 100000 in
theorem mo_42 : cm_ok mi_42 := ⟨cm_T_in 166 (by decide +kernel) (by decide +kernel), cm_T_in 52 (by decide +kernel) (by decide +kernel), fun h => absurd h (by decide), fun h => absurd h (by decide), fun _ => ⟨cm_T_in 165 (by decide +kernel) (by decide +kernel), rfl, rfl⟩, ⟨by decide +kernel, by decide +kernel, by decide +kernel⟩, by decide +kernel, rfl, by decide +kernel, fun _ => ⟨_, rfl⟩, ⟨_, rfl, rfl⟩⟩
set_option maxRecDepth 100000 in
theorem mo_43 : cm_ok mi_43 := ⟨cm_T_in 236 (by decide +kernel) (by decide +kernel), cm_T_in 52 (by decide +kernel) (by decide +kernel), fun _ => ⟨cm_T_in 234 (by decide +kernel) (by decide +kernel), cm_T_in 235 (by decide +kernel) (by decide +kernel)⟩, fun h => absurd h (by decide), fun h => absurd h (by decide), ⟨by decide +kernel, by decide +kernel, by decide +kernel⟩, by decide +kernel, rfl, by decide +kernel, fun _ => ⟨_, rfl⟩, ⟨_, rfl, rfl⟩⟩
set_option maxRecDepth 100000 in
theorem mo_44 : cm_ok mi_44 := ⟨cm_T_in 536 (by decide +kernel) (by decide +kernel), cm_T_in 52 (by decide +kernel) (by decide +kernel), fun _ => ⟨cm_T_in 534 (by decide +kernel) (by decide +kernel), cm_T_in 535 (by decide +kernel) (by decide +kernel)⟩, fun h => absurd h (by decide), fun h => absurd h (by decide), ⟨by decide +kernel, by decide +kernel, by decide +kernel⟩, by decide +kernel, rfl, by decide +kernel, fun _ => ⟨_, rfl⟩, ⟨_, rfl, rfl⟩⟩
set_option maxRecDepth 100000 in
theorem mo_45 : cm_ok mi_45 := ⟨cm_T_in 148 (by decide +kernel) (by decide +kernel), cm_T_in 51 (by decide +kernel) (by decide +kernel), fun h => absurd h (by decide), fun h => absurd h (by decide), fun _ => ⟨cm_T_in 147 (by decide +kernel) (by decide +kernel), rfl, rfl⟩, ⟨by decide +kernel, by decide +kernel, by decide +kernel⟩, by decide +kernel, rfl, by decide +kernel, fun _ => ⟨_, rfl⟩, ⟨_, rfl, rfl⟩⟩
set_option maxRecDepth 100000 in
theorem mo_46 : cm_ok mi_46 := ⟨cm_T_in 515 (by decide +kernel) (by decide +kernel), cm_T_in 51 (by decide +kernel) (by decide +kernel), fun _ => ⟨cm_T_in 513 (by decide +kernel) (by decide +kernel), cm_T_in 514 (by decide +kernel) (by decide +kernel)⟩, fun h => absurd h (by decide), fun h => absurd h (by decide), ⟨by decide +kernel, by decide +kernel, by decide +kernel⟩, by decide +kernel, rfl, by decide +kernel, fun _ => ⟨_, rfl⟩, ⟨_, rfl, rfl⟩⟩
set_option maxRecDepth 100000 in
theorem mo_47 : cm_ok mi_47 := ⟨cm_T_in 520 (by decide +kernel) (by decide +kernel), cm_T_in 51 (by decide +kernel) (by decide +kernel), fun _ => ⟨cm_T_in 518 (by decide +kernel) (by decide +kernel), cm_T_in 519 (by decide +kernel) (by decide +kernel)⟩, fun h => absurd h (by decide), fun h => absurd h (by decide), ⟨by decide +kernel, by decide +kernel, by decide +kernel⟩, by decide +kernel, rfl, by decide +kernel, fun _ => ⟨_, rfl⟩, ⟨_, rfl, rfl⟩⟩
set_option maxRecDepth 100000 in
theorem mo_48 : cm_ok mi_48 := ⟨cm_T_in 363 (by decide +kernel) (by decide +kernel), cm_T_in 51 (by decide +kernel) (by decide +kernel), fun _ => ⟨cm_T_in 361 (by decide +kernel) (by decide +kernel), cm_T_in 362 (by decide +kernel) (by decide +kernel)⟩, fun h => absurd h (by decide), fun h => absurd h (by decide), ⟨by decide +kernel, by decide +kernel, by decide +kernel⟩, by decide +kernel, rfl, by decide +kernel, fun _ => ⟨_, rfl⟩, ⟨_, rfl, rfl⟩⟩
set_option maxRecDepth 100000 in
theorem mo_49 : cm_ok mi_49 := ⟨cm_T_in 367 (by decide +kernel) (by decide +kernel), cm_T_in 51 (by decide +kernel) (by decide +kernel), fun _ => ⟨cm_T_in 366 (by decide +kernel) (by decide +kernel), cm_T_in 10 (by decide +kernel) (by decide +kernel)⟩, fun h => absurd h (by decide), fun h => absurd h (by decide), ⟨by decide +kernel, by decide +kernel, by decide +kernel⟩, by decide +kernel, rfl, by decide +kernel, fun _ => ⟨_, rfl⟩, ⟨_, rfl, rfl⟩⟩
set_option maxRecDepth 100000 in
theorem mo_50 : cm_ok mi_50 := ⟨cm_T_in 385 (by decide +kernel) (by decide +kernel), cm_T_in 51 (by decide +kernel) (by decide +kernel), fun _ => ⟨cm_T_in 384 (by decide +kernel) (by decide +kernel), cm_T_in 14 (by decide +kernel) (by decide +kernel)⟩, fun h => absurd h (by decide), fun h => absurd h (by decide), ⟨by decide +kernel, by decide +kernel, by decide +kernel⟩, by decide +kernel, rfl, by decide +kernel, fun _ => ⟨_, rfl⟩, ⟨_, rfl, rfl⟩⟩
set_option maxRecDepth 100000 in
theorem mo_51 : cm_ok mi_51 := ⟨cm_T_in 371 (by decide +kernel) (by decide +kernel), cm_T_in 51 (by decide +kernel) (by decide +kernel), fun _ => ⟨cm_T_in 370 (by decide +kernel) (by decide +kernel), cm_T_in 11 (by decide +kernel) (by decide +kernel)⟩, fun h => absurd h (by decide), fun h => absurd h (by decide), ⟨by decide +kernel, by decide +kernel, by decide +kernel⟩, by decide +kernel, rfl, by decide +kernel, fun _ => ⟨_, rfl⟩, ⟨_, rfl, rfl⟩⟩
set_option maxRecDepth 100000 in
theorem mo_52 : cm_ok mi_52 := ⟨cm_T_in 379 (by decide +kernel) (by decide +kernel), cm_T_in 51 (by decide +kernel) (by decide +kernel), fun _ => ⟨cm_T_in 378 (by decide +kernel) (by decide +kernel), cm_T_in 13 (by decide +kernel) (by decide +kernel)⟩, fun h => absurd h (by decide), fun h => absurd h (by decide), ⟨by decide +kernel, by decide +kernel, by decide +kernel⟩, by decide +kernel, rfl, by decide +kernel, fun _ => ⟨_, rfl⟩, ⟨_, rfl, rfl⟩⟩
set_option maxRecDepth 100000 in
theorem mo_53 : cm_ok mi_53 := ⟨cm_T_in 375 (by decide +kernel) (by decide +kernel), cm_T_in 51 (by decide +kernel) (by decide +kernel), fun _ => ⟨cm_T_in 374 (by decide +kernel) (by decide +kernel), cm_T_in 12 (by decide +kernel) (by decide +kernel)⟩, fun h => absurd h (by decide), fun h => absurd h (by decide), ⟨by decide +kernel, by decide +kernel, by decide +kernel⟩, by decide +kernel, rfl, by decide +kernel, fun _ => ⟨_, rfl⟩, ⟨_, rfl, rfl⟩⟩
set_option maxRecDepth 100000 in
theorem mo_54 : cm_ok mi_54 := ⟨cm_T_in 186 (by decide +kernel) (by decide +kernel), cm_T_in 53 (by decide +kernel) (by decide +kernel), fun h => absurd h (by decide), fun h => absurd h (by decide), fun _ => ⟨cm_T_in 185 (by decide +kernel) (by decide +kernel), rfl, rfl⟩, ⟨by decide +kernel, by decide +kernel, by decide +kernel⟩, by decide +kernel, rfl, by decide +kernel, fun _ => ⟨_, rfl⟩, ⟨_, rfl, rfl⟩⟩
set_option maxRecDepth 100000 in
theorem mo_55 : cm_ok mi_55 := ⟨cm_T_in 60 (by decide +kernel) (by decide +kernel), cm_T_in 47 (by decide +kernel) (by decide +kernel), fun h => absurd h (by decide), fun h => absurd h (by decide), fun _ => ⟨cm_T_in 59 (by decide +kernel) (by decide +kernel), rfl, rfl⟩, ⟨by decide +kernel, by decide +kernel, by decide +kernel⟩, by decide +kernel, rfl, by decide +kernel, fun _ => ⟨_, rfl⟩, ⟨_, rfl, rfl⟩⟩
set_option maxRecDepth 100000 in
theorem mo_56 : cm_ok mi_56 := ⟨cm_T_in 225 (by decide +kernel) (by decide +kernel), cm_T_in 47 (by decide +kernel) (by decide +kernel), fun _ => ⟨cm_T_in 223 (by decide +kernel) (by decide +kernel), cm_T_in 224 (by decide +kernel) (by decide +kernel)⟩, fun h => absurd h (by decide), fun h => absurd h (by decide), ⟨by decide +kernel, by decide +kernel, by decide +kernel⟩, by decide +kernel, rfl, by decide +kernel, fun _ => ⟨_, rfl⟩, ⟨_, rfl, rfl⟩⟩
set_option maxRecDepth 100000 in
theorem mo_57 : cm_ok mi_57 := ⟨cm_T_in 252 (by decide +kernel) (by decide +kernel), cm_T_in 47 (by decide +kernel) (by decide +kernel), fun _ => ⟨cm_T_in 250 (by decide +kernel) (by decide +kernel), cm_T_in 251 (by decide +kernel) (by decide +kernel)⟩, fun h => absurd h (by decide), fun h => absurd h (by decide), ⟨by decide +kernel, by decide +kernel, by decide +kernel⟩, by decide +kernel, rfl, by decide +kernel, fun _ => ⟨_, rfl⟩, ⟨_, rfl, rfl⟩⟩
set_option maxRecDepth 100000 in
theorem mo_58 : cm_ok mi_58 := ⟨cm_T_in 264 (by decide +kernel) (by decide +kernel), cm_T_in 47 (by decide +kernel) (by decide +kernel), fun _ => ⟨cm_T_in 262 (by decide +kernel) (by decide +kernel), cm_T_in 263 (by decide +kernel) (by decide +kernel)⟩, fun h => absurd h (by decide), fun h => absurd h (by decide), ⟨by decide +kernel, by decide +kernel, by decide +kernel⟩, by decide +kernel, rfl, by decide +kernel, fun _ => ⟨_, rfl⟩, ⟨_, rfl, rfl⟩⟩
set_option maxRecDepth 100000 in
theorem mo_59 : cm_ok mi_59 := ⟨cm_T_in 268 (by decide +kernel) (by decide +kernel), cm_T_in 47 (by decide +kernel) (by decide +kernel), fun _ => ⟨cm_T_in 266 (by decide +kernel) (by decide +kernel), cm_T_in 267 (by decide +kernel) (by decide +kernel)⟩, fun h => absurd h (by decide), fun h => absurd h (by decide), ⟨by decide +kernel, by decide +kernel, by decide +kernel⟩, by decide +kernel, rfl, by decide +kernel, fun _ => ⟨_, rfl⟩, ⟨_, rfl, rfl⟩⟩
set_option maxRecDepth 100000 in
theorem mo_60 : cm_ok mi_60 := ⟨cm_T_in 279 (by decide +kernel) (by decide +kernel), cm_T_in 47 (by decide +kernel) (by decide +kernel), fun _ => ⟨cm_T_in 277 (by decide +kernel) (by decide +kernel), cm_T_in 278 (by decide +kernel) (by decide +kernel)⟩, fun h => absurd h (by decide), fun h => absurd h (by decide), ⟨by decide +kernel, by decide +kernel, by decide +kernel⟩, by decide +kernel, rfl, by decide +kernel, fun _ => ⟨_, rfl⟩, ⟨_, rfl, rfl⟩⟩
set_option maxRecDepth 100000 in
theorem mo_61 : cm_ok mi_61 := ⟨cm_T_in 338 (by decide +kernel) (by decide +kernel), cm_T_in 47 (by decide +kernel) (by decide +kernel), fun _ => ⟨cm_T_in 336 (by decide +kernel) (by decide +kernel), cm_T_in 337 (by decide +kernel) (by decide +kernel)⟩, fun h => absurd h (by decide), fun h => absurd h (by decide), ⟨by decide +kernel, by decide +kernel, by decide +kernel⟩, by decide +kernel, rfl, by decide +kernel, fun _ => ⟨_, rfl⟩, ⟨_, rfl, rfl⟩⟩
set_option maxRecDepth 100000 in
theorem mo_62 : cm_ok mi_62 := ⟨cm_T_in 347 (by decide +kernel) (by decide +kernel), cm_T_in 47 (by decide +kernel) (by decide +kernel), fun _ => ⟨cm_T_in 345 (by decide +kernel) (by decide +kernel), cm_T_in 346 (by decide +kernel) (by decide +kernel)⟩, fun h => absurd h (by decide), fun h => absurd h (by decide), ⟨by decide +kernel, by decide +kernel, by decide +kernel⟩, by decide +kernel, rfl, by decide +kernel, fun _ => ⟨_, rfl⟩, ⟨_, rfl, rfl⟩⟩
set_option maxRecDepth 100000 in
theorem mo_63 : cm_ok mi_63 := ⟨cm_T_in 359 (by decide +kernel) (by decide +kernel), cm_T_in 47 (by decide +kernel) (by decide +kernel), fun _ => ⟨cm_T_in 357 (by decide +kernel) (by decide +kernel), cm_T_in 358 (by decide +kernel) (by decide +kernel)⟩, fun h => absurd h (by decide), fun h => absurd h (by decide), ⟨by decide +kernel, by decide +kernel, by decide +kernel⟩, by decide +kernel, rfl, by decide +kernel, fun _ => ⟨_, rfl⟩, ⟨_, rfl, rfl⟩⟩
set_option maxRecDepth 100000 in
theorem mo_64 : cm_ok mi_64 := ⟨cm_T_in 391 (by decide +kernel) (by decide +kernel), cm_T_in 47 (by decide +kernel) (by decide +kernel), fun _ => ⟨cm_T_in 389 (by decide +kernel) (by decide +kernel), cm_T_in 390 (by decide +kernel) (by decide +kernel)⟩, fun h => absurd h (by decide), fun h => absurd h (by decide), ⟨by decide +kernel, by decide +kernel, by decide +kernel⟩, by decide +kernel, rfl, by decide +kernel, fun _ => ⟨_, rfl⟩, ⟨_, rfl, rfl⟩⟩
set_option maxRecDepth 100000 in
theorem mo_65 : cm_ok mi_65 := ⟨cm_T_in 396 (by decide +kernel) (by decide +kernel), cm_T_in 47 (by decide +kernel) (by decide +kernel), fun _ => ⟨cm_T_in 394 (by decide +kernel) (by decide +kernel), cm_T_in 395 (by decide +kernel) (by decide +kernel)⟩, fun h => absurd h (by decide), fun h => absurd h (by decide), ⟨by decide +kernel, by decide +kernel, by decide +kernel⟩, by decide +kernel, rfl, by decide +kernel, fun _ => ⟨_, rfl⟩, ⟨_, rfl, rfl⟩⟩
set_option maxRecDepth 100000 in
theorem mo_66 : cm_ok mi_66 := ⟨cm_T_in 429 (by decide +kernel) (by decide +kernel), cm_T_in 47 (by decide +kernel) (by decide +kernel), fun _ => ⟨cm_T_in 427 (by decide +kernel) (by decide +kernel), cm_T_in 428 (by decide +kernel) (by decide +kernel)⟩, fun h => absurd h (by decide), fun h => absurd h (by decide), ⟨by decide +kernel, by decide +kernel, by decide +kernel⟩, by decide +kernel, rfl, by decide +kernel, fun _ => ⟨_, rfl⟩, ⟨_, rfl, rfl⟩⟩
set_option maxRecDepth 100000 in
theorem mo_67 : cm_ok mi_67 := ⟨cm_T_in 461 (by decide +kernel) (by decide +kernel), cm_T_in 47 (by decide +kernel) (by decide +kernel), fun _ => ⟨cm_T_in 459 (by decide +kernel) (by decide +kernel), cm_T_in 460 (by decide +kernel) (by decide +kernel)⟩, fun h => absurd h (by decide), fun h => absurd h (by decide), ⟨by decide +kernel, by decide +kernel, by decide +kernel⟩, by decide +kernel, rfl, by decide +kernel, fun _ => ⟨_, rfl⟩, ⟨_, rfl, rfl⟩⟩
set_option maxRecDepth 100000 in
theorem mo_68 : cm_ok mi_68 := ⟨cm_T_in 482 (by decide +kernel) (by decide +kernel), cm_T_in 47 (by decide +kernel) (by decide +kernel), fun _ => ⟨cm_T_in 480 (by decide +kernel) (by decide +kernel), cm_T_in 481 (by decide +kernel) (by decide +kernel)⟩, fun h => absurd h (by decide), fun h => absurd h (by decide), ⟨by decide +kernel, by decide +kernel, by decide +kernel⟩, by decide +kernel, rfl, by decide +kernel, fun _ => ⟨_, rfl⟩, ⟨_, rfl, rfl⟩⟩
set_option maxRecDepth 100000 in
theorem mo_69 : cm_ok mi_69 := ⟨cm_T_in 491 (by decide +kernel) (by decide +kernel), cm_T_in 47 (by decide +kernel) (by decide +kernel), fun _ => ⟨cm_T_in 489 (by decide +kernel) (by decide +kernel), cm_T_in 490 (by decide +kernel) (by decide +kernel)⟩, fun h => absurd h (by decide), fun h => absurd h (by decide), ⟨by decide +kernel, by decide +kernel, by decide +kernel⟩, by decide +kernel, rfl, by decide +kernel, fun _ => ⟨_, rfl⟩, ⟨_, rfl, rfl⟩⟩
set_option maxRecDepth 100000 in
theorem mo_70 : cm_ok mi_70 := ⟨cm_T_in 503 (by decide +kernel) (by decide +kernel), cm_T_in 47 (by decide +kernel) (by decide +kernel), fun _ => ⟨cm_T_in 501 (by decide +kernel) (by decide +kernel), cm_T_in 502 (by decide +kernel) (by decide +kernel)⟩, fun h => absurd h (by decide), fun h => absurd h (by decide), ⟨by decide +kernel, by decide +kernel, by decide +kernel⟩, by decide +kernel, rfl, by decide +kernel, fun _ => ⟨_, rfl⟩, ⟨_, rfl, rfl⟩⟩
set_option maxRecDepth 100000 in
theorem mo_71 : cm_ok mi_71 := ⟨cm_T_in 507 (by decide +kernel) (by decide +kernel), cm_T_in 47 (by decide +kernel) (by decide +kernel), fun _ => ⟨cm_T_in 505 (by decide +kernel) (by decide +kernel), cm_T_in 506 (by decide +kernel) (by decide +kernel)⟩, fun h => absurd h (by decide), fun h => absurd h (by decide), ⟨by decide +kernel, by decide +kernel, by decide +kernel⟩, by decide +kernel, rfl, by decide +kernel, fun _ => ⟨_, rfl⟩, ⟨_, rfl, rfl⟩⟩
set_option maxRecDepth 100000 in
theorem mo_72 : cm_ok mi_72 := ⟨cm_T_in 511 (by decide +kernel) (by decide +kernel), cm_T_in 47 (by decide +kernel) (by decide +kernel), fun _ => ⟨cm_T_in 509 (by decide +kernel) (by decide +kernel), cm_T_in 510 (by decide +kernel) (by decide +kernel)⟩, fun h => absurd h (by decide), fun h => absurd h (by decide), ⟨by decide +kernel, by decide +kernel, by decide +kernel⟩, by decide +kernel, rfl, by decide +kernel, fun _ => ⟨_, rfl⟩, ⟨_, rfl, rfl⟩⟩
set_option maxRecDepth 100000 in
theorem mo_73 : cm_ok mi_73 := ⟨cm_T_in 524 (by decide +kernel) (by decide +kernel), cm_T_in 47 (by decide +kernel) (by decide +kernel), fun _ => ⟨cm_T_in 522 (by decide +kernel) (by decide +kernel), cm_T_in 523 (by decide +kernel) (by decide +kernel)⟩, fun h => absurd h (by decide), fun h => absurd h (by decide), ⟨by decide +kernel, by decide +kernel, by decide +kernel⟩, by decide +kernel, rfl, by decide +kernel, fun _ => ⟨_, rfl⟩, ⟨_, rfl, rfl⟩⟩
set_option maxRecDepth 100000 in
theorem mo_74 : cm_ok mi_74 := ⟨cm_T_in 528 (by decide +kernel) (by decide +kernel), cm_T_in 47 (by decide +kernel) (by decide +kernel), fun _ => ⟨cm_T_in 526 (by decide +kernel) (by decide +kernel), cm_T_in 527 (by decide +kernel) (by decide +kernel)⟩, fun h => absurd h (by decide), fun h => absurd h (by decide), ⟨by decide +kernel, by decide +kernel, by decide +kernel⟩, by decide +kernel, rfl, by decide +kernel, fun _ => ⟨_, rfl⟩, ⟨_, rfl, rfl⟩⟩
set_option maxRecDepth 100000 in
theorem mo_75 : cm_ok mi_75 := ⟨cm_T_in 532 (by decide +kernel) (by decide +kernel), cm_T_in 47 (by decide +kernel) (by decide +kernel), fun _ => ⟨cm_T_in 530 (by decide +kernel) (by decide +kernel), cm_T_in 531 (by decide +kernel) (by decide +kernel)⟩, fun h => absurd h (by decide), fun h => absurd h (by decide), ⟨by decide +kernel, by decide +kernel, by decide +kernel⟩, by decide +kernel, rfl, by decide +kernel, fun _ => ⟨_, rfl⟩, ⟨_, rfl, rfl⟩⟩
set_option maxRecDepth 100000 in
theorem mo_76 : cm_ok mi_76 := ⟨cm_T_in 540 (by decide +kernel) (by decide +kernel), cm_T_in 47 (by decide +kernel) (by decide +kernel), fun _ => ⟨cm_T_in 538 (by decide +kernel) (by decide +kernel), cm_T_in 539 (by decide +kernel) (by decide +kernel)⟩, fun h => absurd h (by decide), fun h => absurd h (by decide), ⟨by decide +kernel, by decide +kernel, by decide +kernel⟩, by decide +kernel, rfl, by decide +kernel, fun _ => ⟨_, rfl⟩, ⟨_, rfl, rfl⟩⟩
set_option maxRecDepth 100000 in
theorem mo_77 : cm_ok mi_77 := ⟨cm_T_in 547 (by decide +kernel) (by decide +kernel), cm_T_in 47 (by decide +kernel) (by decide +kernel), fun _ => ⟨cm_T_in 545 (by decide +kernel) (by decide +kernel), cm_T_in 546 (by decide +kernel) (by decide +kernel)⟩, fun h => absurd h (by decide), fun h => absurd h (by decide), ⟨by decide +kernel, by decide +kernel, by decide +kernel⟩, by decide +kernel, rfl, by decide +kernel, fun _ => ⟨_, rfl⟩, ⟨_, rfl, rfl⟩⟩
set_option maxRecDepth 100000 in
theorem mo_78 : cm_ok mi_78 := ⟨cm_T_in 259 (by decide +kernel) (by decide +kernel), cm_T_in 47 (by decide +kernel) (by decide +kernel), fun _ => ⟨cm_T_in 258 (by decide +kernel) (by decide +kernel), cm_T_in 0 (by decide +kernel) (by decide +kernel)⟩, fun h => absurd h (by decide), fun h => absurd h (by decide), ⟨by decide +kernel, by decide +kernel, by decide +kernel⟩, by decide +kernel, rfl, by decide +kernel, fun _ => ⟨_, rfl⟩, ⟨_, rfl, rfl⟩⟩
set_option maxRecDepth 100000 in
theorem mo_79 : cm_ok mi_79 := ⟨cm_T_in 425 (by decide +kernel) (by decide +kernel), cm_T_in 47 (by decide +kernel) (by decide +kernel), fun _ => ⟨cm_T_in 424 (by decide +kernel) (by decide +kernel), cm_T_in 16 (by decide +kernel) (by decide +kernel)⟩, fun h => absurd h (by decide), fun h => absurd h (by decide), ⟨by decide +kernel, by decide +kernel, by decide +kernel⟩, by decide +kernel, rfl, by decide +kernel, fun _ => ⟨_, rfl⟩, ⟨_, rfl, rfl⟩⟩
set_option maxRecDepth 100000 in
theorem mo_80 : cm_ok mi_80 := ⟨cm_T_in 232 (by decide +kernel) (by decide +kernel), cm_T_in 47 (by decide +kernel) (by decide +kernel), fun h => absurd h (by decide), fun _ => cm_T_in 231 (by decide +kernel) (by decide +kernel), fun h => absurd h (by decide), ⟨by decide +kernel, by decide +kernel, by decide +kernel⟩, by decide +kernel, rfl, by decide +kernel, fun h => absurd rfl h, ⟨_, rfl, rfl⟩⟩
set_option maxRecDepth 100000 in
theorem mo_81 : cm_ok mi_81 := ⟨cm_T_in 255 (by decide +kernel) (by decide +kernel), cm_T_in 47 (by decide +kernel) (by decide +kernel), fun h => absurd h (by decide), fun _ => cm_T_in 254 (by decide +kernel) (by decide +kernel), fun h => absurd h (by decide), ⟨by decide +kernel, by decide +kernel, by decide +kernel⟩, by decide +kernel, rfl, by decide +kernel, fun h => absurd rfl h, ⟨_, rfl, rfl⟩⟩
set_option maxRecDepth 100000 in
theorem mo_82 : cm_ok mi_82 := ⟨cm_T_in 275 (by decide +kernel) (by decide +kernel), cm_T_in 47 (by decide +kernel) (by decide +kernel), fun h => absurd h (by decide), fun _ => cm_T_in 274 (by decide +kernel) (by decide +kernel), fun h => absurd h (by decide), ⟨by decide +kernel, by decide +kernel, by decide +kernel⟩, by decide +kernel, rfl, by decide +kernel, fun h => absurd rfl h, ⟨_, rfl, rfl⟩⟩
set_option maxRecDepth 100000 in
theorem mo_83 : cm_ok mi_83 := ⟨cm_T_in 543 (by decide +kernel) (by decide +kernel), cm_T_in 47 (by decide +kernel) (by decide +kernel), fun h => absurd h (by decide), fun _ => cm_T_in 542 (by decide +kernel) (by decide +kernel), fun h => absurd h (by decide), ⟨by decide +kernel, by decide +kernel, by decide +kernel⟩, by decide +kernel, rfl, by decide +kernel, fun h => absurd rfl h, ⟨_, rfl, rfl⟩⟩
set_option maxRecDepth 100000 in
theorem mo_84 : cm_ok mi_84 := ⟨cm_T_in 552 (by decide +kernel) (by decide +kernel), cm_T_in 54 (by decide +kernel) (by decide +kernel), fun h => absurd h (by decide), fun h => absurd h (by decide), fun _ => ⟨cm_T_in 551 (by decide +kernel) (by decide +kernel), rfl, rfl⟩, ⟨by decide +kernel, by decide +kernel, by decide +kernel⟩, by decide +kernel, rfl, by decide +kernel, fun _ => ⟨_, rfl⟩, ⟨_, rfl, rfl⟩⟩
set_option maxRecDepth 100000 in
theorem mo_85 : cm_ok mi_85 := ⟨cm_T_in 616 (by decide +kernel) (by decide +kernel), cm_T_in 54 (by decide +kernel) (by decide +kernel), fun h => absurd h (by decide), fun _ => cm_T_in 615 (by decide +kernel) (by decide +kernel), fun h => absurd h (by decide), ⟨by decide +kernel, by decide +kernel, by decide +kernel⟩, by decide +kernel, rfl, by decide +kernel, fun h => absurd rfl h, ⟨_, rfl, rfl⟩⟩
set_option maxRecDepth 100000 in
theorem mo_86 : cm_ok mi_86 := ⟨cm_T_in 657 (by decide +kernel) (by decide +kernel), cm_T_in 54 (by decide +kernel) (by decide +kernel), fun _ => ⟨cm_T_in 656 (by decide +kernel) (by decide +kernel), cm_T_in 21 (by decide +kernel) (by decide +kernel)⟩, fun h => absurd h (by decide), fun h => absurd h (by decide), ⟨by decide +kernel, by decide +kernel, by decide +kernel⟩, by decide +kernel, rfl, by decide +kernel, fun _ => ⟨_, rfl⟩, ⟨_, rfl, rfl⟩⟩
set_option maxRecDepth 100000 in
theorem mo_87 : cm_ok mi_87 := ⟨cm_T_in 641 (by decide +kernel) (by decide +kernel), cm_T_in 54 (by decide +kernel) (by decide +kernel), fun h => absurd h (by decide), fun _ => cm_T_in 640 (by decide +kernel) (by decide +kernel), fun h => absurd h (by decide), ⟨by decide +kernel, by decide +kernel, by decide +kernel⟩, by decide +kernel, rfl, by decide +kernel, fun h => absurd rfl h, ⟨_, rfl, rfl⟩⟩
set_option maxRecDepth 100000 in
theorem mo_88 : cm_ok mi_88 := ⟨cm_T_in 776 (by decide +kernel) (by decide +kernel), cm_T_in 54 (by decide +kernel) (by decide +kernel), fun h => absurd h (by decide), fun _ => cm_T_in 775 (by decide +kernel) (by decide +kernel), fun h => absurd h (by decide), ⟨by decide +kernel, by decide +kernel, by decide +kernel⟩, by decide +kernel, rfl, by decide +kernel, fun h => absurd rfl h, ⟨_, rfl, rfl⟩⟩
set_option maxRecDepth 100000 in
theorem mo_89 : cm_ok mi_89 := ⟨cm_T_in 661 (by decide +kernel) (by decide +kernel), cm_T_in 54 (by decide +kernel) (by decide +kernel), fun _ => ⟨cm_T_in 660 (by decide +kernel) (by decide +kernel), cm_T_in 22 (by decide +kernel) (by decide +kernel)⟩, fun h => absurd h (by decide), fun h => absurd h (by decide), ⟨by decide +kernel, by decide +kernel, by decide +kernel⟩, by decide +kernel, rfl, by decide +kernel, fun _ => ⟨_, rfl⟩, ⟨_, rfl, rfl⟩⟩
set_option maxRecDepth 100000 in
theorem mo_90 : cm_ok mi_90 := ⟨cm_T_in 705 (by decide +kernel) (by decide +kernel), cm_T_in 54 (by decide +kernel) (by decide +kernel), fun _ => ⟨cm_T_in 704 (by decide +kernel) (by decide +kernel), cm_T_in 30 (by decide +kernel) (by decide +kernel)⟩, fun h => absurd h (by decide), fun h => absurd h (by decide), ⟨by decide +kernel, by decide +kernel, by decide +kernel⟩, by decide +kernel, rfl, by decide +kernel, fun _ => ⟨_, rfl⟩, ⟨_, rfl, rfl⟩⟩
set_option maxRecDepth 100000 in
theorem mo_91 : cm_ok mi_91 := ⟨cm_T_in 624 (by decide +kernel) (by decide +kernel), cm_T_in 54 (by decide +kernel) (by decide +kernel), fun _ => ⟨cm_T_in 623 (by decide +kernel) (by decide +kernel), cm_T_in 19 (by decide +kernel) (by decide +kernel)⟩, fun h => absurd h (by decide), fun h => absurd h (by decide), ⟨by decide +kernel, by decide +kernel, by decide +kernel⟩, by decide +kernel, rfl, by decide +kernel, fun _ => ⟨_, rfl⟩, ⟨_, rfl, rfl⟩⟩
set_option maxRecDepth 100000 in
theorem mo_92 : cm_ok mi_92 := ⟨cm_T_in 609 (by decide +kernel) (by decide +kernel), cm_T_in 54 (by decide +kernel) (by decide +kernel), fun _ => ⟨cm_T_in 607 (by decide +kernel) (by decide +kernel), cm_T_in 608 (by decide +kernel) (by decide +kernel)⟩, fun h => absurd h (by decide), fun h => absurd h (by decide), ⟨by decide +kernel, by decide +kernel, by decide +kernel⟩, by decide +kernel, rfl, by decide +kernel, fun _ => ⟨_, rfl⟩, ⟨_, rfl, rfl⟩⟩
set_option maxRecDepth 100000 in
theorem mo_93 : cm_ok mi_93 := ⟨cm_T_in 613 (by decide +kernel) (by decide +kernel), cm_T_in 54 (by decide +kernel) (by decide +kernel), fun _ => ⟨cm_T_in 611 (by decide +kernel) (by decide +kernel), cm_T_in 612 (by decide +kernel) (by decide +kernel)⟩, fun h => absurd h (by decide), fun h => absurd h (by decide), ⟨by decide +kernel, by decide +kernel, by decide +kernel⟩, by decide +kernel, rfl, by decide +kernel, fun _ => ⟨_, rfl⟩, ⟨_, rfl, rfl⟩⟩
set_option maxRecDepth 100000 in
theorem mo_94 : cm_ok mi_94 := ⟨cm_T_in 620 (by decide +kernel) (by decide +kernel), cm_T_in 54 (by decide +kernel) (by decide +kernel), fun _ => ⟨cm_T_in 618 (by decide +kernel) (by decide +kernel), cm_T_in 619 (by decide +kernel) (by decide +kernel)⟩, fun h => absurd h (by decide), fun h => absurd h (by decide), ⟨by decide +kernel, by decide +kernel, by decide +kernel⟩, by decide +kernel, rfl, by decide +kernel, fun _ => ⟨_, rfl⟩, ⟨_, rfl, rfl⟩⟩
set_option maxRecDepth 100000 in
theorem mo_95 : cm_ok mi_95 := ⟨cm_T_in 677 (by decide +kernel) (by decide +kernel), cm_T_in 54 (by decide +kernel) (by decide +kernel), fun _ => ⟨cm_T_in 676 (by decide +kernel) (by decide +kernel), cm_T_in 25 (by decide +kernel) (by decide +kernel)⟩, fun h => absurd h (by decide), fun h => absurd h (by decide), ⟨by decide +kernel, by decide +kernel, by decide +kernel⟩, by decide +kernel, rfl, by decide +kernel, fun _ => ⟨_, rfl⟩, ⟨_, rfl, rfl⟩⟩
set_option maxRecDepth 100000 in
theorem mo_96 : cm_ok mi_96 := ⟨cm_T_in 673 (by decide +kernel) (by decide +kernel), cm_T_in 54 (by decide +kernel) (by decide +kernel), fun _ => ⟨cm_T_in 672 (by decide +kernel) (by decide +kernel), cm_T_in 24 (by decide +kernel) (by decide +kernel)⟩, fun h => absurd h (by decide), fun h => absurd h (by decide), ⟨by decide +kernel, by decide +kernel, by decide +kernel⟩, by decide +kernel, rfl, by decide +kernel, fun _ => ⟨_, rfl⟩, ⟨_, rfl, rfl⟩⟩
set_option maxRecDepth 100000 in
theorem mo_97 : cm_ok mi_97 := ⟨cm_T_in 681 (by decide +kernel) (by decide +kernel), cm_T_in 54 (by decide +kernel) (by decide +kernel), fun _ => ⟨cm_T_in 680 (by decide +kernel) (by decide +kernel), cm_T_in 26 (by decide +kernel) (by decide +kernel)⟩, fun h => absurd h (by decide), fun h => absurd h (by decide), ⟨by decide +kernel, by decide +kernel, by decide +kernel⟩, by decide +kernel, rfl, by decide +kernel, fun _ => ⟨_, rfl⟩, ⟨_, rfl, rfl⟩⟩
set_option maxRecDepth 100000 in
theorem mo_98 : cm_ok mi_98 := ⟨cm_T_in 685 (by decide +kernel) (by decide +kernel), cm_T_in 54 (by decide +kernel) (by decide +kernel), fun _ => ⟨cm_T_in 684 (by decide +kernel) (by decide +kernel), cm_T_in 27 (by decide +kernel) (by decide +kernel)⟩, fun h => absurd h (by decide), fun h => absurd h (by decide), ⟨by decide +kernel, by decide +kernel, by decide +kernel⟩, by decide +kernel, rfl, by decide +kernel, fun _ => ⟨_, rfl⟩, ⟨_, rfl, rfl⟩⟩
set_option maxRecDepth 100000 in
theorem mo_99 : cm_ok mi_99 := ⟨cm_T_in 669 (by decide +kernel) (by decide +kernel), cm_T_in 54 (by decide +kernel) (by decide +kernel), fun _ => ⟨cm_T_in 668 (by decide +kernel) (by decide +kernel), cm_T_in 23 (by decide +kernel) (by decide +kernel)⟩, fun h => absurd h (by decide), fun h => absurd h (by decide), ⟨by decide +kernel, by decide +kernel, by decide +kernel⟩, by decide +kernel, rfl, by decide +kernel, fun _ => ⟨_, rfl⟩, ⟨_, rfl, rfl⟩⟩
set_option maxRecDepth 100000 in
theorem mo_100 : cm_ok mi_100 := ⟨cm_T_in 701 (by decide +kernel) (by decide +kernel), cm_T_in 54 (by decide +kernel) (by decide +kernel), fun _ => ⟨cm_T_in 700 (by decide +kernel) (by decide +kernel), cm_T_in 29 (by decide +kernel) (by decide +kernel)⟩, fun h => absurd h (by decide), fun h => absurd h (by decide), ⟨by decide +kernel, by decide +kernel, by decide +kernel⟩, by decide +kernel, rfl, by decide +kernel, fun _ => ⟨_, rfl⟩, ⟨_, rfl, rfl⟩⟩
set_option maxRecDepth 100000 in
theorem mo_101 : cm_ok mi_101 := ⟨cm_T_in 729 (by decide +kernel) (by decide +kernel), cm_T_in 54 (by decide +kernel) (by decide +kernel), fun _ => ⟨cm_T_in 728 (by decide +kernel) (by decide +kernel), cm_T_in 34 (by decide +kernel) (by decide +kernel)⟩, fun h => absurd h (by decide), fun h => absurd h (by decide), ⟨by decide +kernel, by decide +kernel, by decide +kernel⟩, by decide +kernel, rfl, by decide +kernel, fun _ => ⟨_, rfl⟩, ⟨_, rfl, rfl⟩⟩
set_option maxRecDepth 100000 in
theorem mo_102 : cm_ok mi_102 := ⟨cm_T_in 725 (by decide +kernel) (by decide +kernel), cm_T_in 54 (by decide +kernel) (by decide +kernel), fun _ => ⟨cm_T_in 724 (by decide +kernel) (by decide +kernel), cm_T_in 33 (by decide +kernel) (by decide +kernel)⟩, fun h => absurd h (by decide), fun h => absurd h (by decide), ⟨by decide +kernel, by decide +kernel, by decide +kernel⟩, by decide +kernel, rfl, by decide +kernel, fun _ => ⟨_, rfl⟩, ⟨_, rfl, rfl⟩⟩
set_option maxRecDepth 100000 in
theorem mo_103 : cm_ok mi_103 := ⟨cm_T_in 713 (by decide +kernel) (by decide +kernel), cm_T_in 54 (by decide +kernel) (by decide +kernel), fun _ => ⟨cm_T_in 712 (by decide +kernel) (by decide +kernel), cm_T_in 32 (by decide +kernel) (by decide +kernel)⟩, fun h => absurd h (by decide), fun h => absurd h (by decide), ⟨by decide +kernel, by decide +kernel, by decide +kernel⟩, by decide +kernel, rfl, by decide +kernel, fun _ => ⟨_, rfl⟩, ⟨_, rfl, rfl⟩⟩
set_option maxRecDepth 100000 in
theorem mo_104 : cm_ok mi_104 := ⟨cm_T_in 631 (by decide +kernel) (by decide +kernel), cm_T_in 54 (by decide +kernel) (by decide +kernel), fun h => absurd h (by decide), fun _ => cm_T_in 630 (by decide +kernel) (by decide +kernel), fun h => absurd h (by decide), ⟨by decide +kernel, by decide +kernel, by decide +kernel⟩, by decide +kernel, rfl, by decide +kernel, fun h => absurd rfl h, ⟨_, rfl, rfl⟩⟩
set_option maxRecDepth 100000 in
theorem mo_105 : cm_ok mi_105 := ⟨cm_T_in 634 (by decide +kernel) (by decide +kernel), cm_T_in 54 (by decide +kernel) (by decide +kernel), fun h => absurd h (by decide), fun _ => cm_T_in 633 (by decide +kernel) (by decide +kernel), fun h => absurd h (by decide), ⟨by decide +kernel, by decide +kernel, by decide +kernel⟩, by decide +kernel, rfl, by decide +kernel, fun h => absurd rfl h, ⟨_, rfl, rfl⟩⟩
set_option maxRecDepth 100000 in
theorem mo_106 : cm_ok mi_106 := ⟨cm_T_in 628 (by decide +kernel) (by decide +kernel), cm_T_in 54 (by decide +kernel) (by decide +kernel), fun _ => ⟨cm_T_in 626 (by decide +kernel) (by decide +kernel), cm_T_in 627 (by decide +kernel) (by decide +kernel)⟩, fun h => absurd h (by decide), fun h => absurd h (by decide), ⟨by decide +kernel, by decide +kernel, by decide +kernel⟩, by decide +kernel, rfl, by decide +kernel, fun _ => ⟨_, rfl⟩, ⟨_, rfl, rfl⟩⟩
set_option maxRecDepth 100000 in
theorem mo_107 : cm_ok mi_107 := ⟨cm_T_in 645 (by decide +kernel) (by decide +kernel), cm_T_in 54 (by decide +kernel) (by decide +kernel), fun _ => ⟨cm_T_in 644 (by decide +kernel) (by decide +kernel), cm_T_in 20 (by decide +kernel) (by decide +kernel)⟩, fun h => absurd h (by decide), fun h => absurd h (by decide), ⟨by decide +kernel, by decide +kernel, by decide +kernel⟩, by decide +kernel, rfl, by decide +kernel, fun _ => ⟨_, rfl⟩, ⟨_, rfl, rfl⟩⟩
set_option maxRecDepth 100000 in
theorem mo_108 : cm_ok mi_108 := ⟨cm_T_in 638 (by decide +kernel) (by decide +kernel), cm_T_in 54 (by decide +kernel) (by decide +kernel), fun _ => ⟨cm_T_in 636 (by decide +kernel) (by decide +kernel), cm_T_in 637 (by decide +kernel) (by decide +kernel)⟩, fun h => absurd h (by decide), fun h => absurd h (by decide), ⟨by decide +kernel, by decide +kernel, by decide +kernel⟩, by decide +kernel, rfl, by decide +kernel, fun _ => ⟨_, rfl⟩, ⟨_, rfl, rfl⟩⟩
set_option maxRecDepth 100000 in
theorem mo_109 : cm_ok mi_109 := ⟨cm_T_in 649 (by decide +kernel) (by decide +kernel), cm_T_in 54 (by decide +kernel) (by decide +kernel), fun _ => ⟨cm_T_in 647 (by decide +kernel) (by decide +kernel), cm_T_in 648 (by decide +kernel) (by decide +kernel)⟩, fun h => absurd h (by decide), fun h => absurd h (by decide), ⟨by decide +kernel, by decide +kernel, by decide +kernel⟩, by decide +kernel, rfl, by decide +kernel, fun _ => ⟨_, rfl⟩, ⟨_, rfl, rfl⟩⟩
set_option maxRecDepth 100000 in
theorem mo_110 : cm_ok mi_110 := ⟨cm_T_in 653 (by decide +kernel) (by decide +kernel), cm_T_in 54 (by decide +kernel) (by decide +kernel), fun _ => ⟨cm_T_in 651 (by decide +kernel) (by decide +kernel), cm_T_in 652 (by decide +kernel) (by decide +kernel)⟩, fun h => absurd h (by decide), fun h => absurd h (by decide), ⟨by decide +kernel, by decide +kernel, by decide +kernel⟩, by decide +kernel, rfl, by decide +kernel, fun _ => ⟨_, rfl⟩, ⟨_, rfl, rfl⟩⟩
set_option maxRecDepth 100000 in
theorem mo_111 : cm_ok mi_111 := ⟨cm_T_in 689 (by decide +kernel) (by decide +kernel), cm_T_in 54 (by decide +kernel) (by decide +kernel), fun _ => ⟨cm_T_in 688 (by decide +kernel) (by decide +kernel), cm_T_in 28 (by decide +kernel) (by decide +kernel)⟩, fun h => absurd h (by decide), fun h => absurd h (by decide), ⟨by decide +kernel, by decide +kernel, by decide +kernel⟩, by decide +kernel, rfl, by decide +kernel, fun _ => ⟨_, rfl⟩, ⟨_, rfl, rfl⟩⟩
set_option maxRecDepth 100000 in
theorem mo_112 : cm_ok mi_112 := ⟨cm_T_in 665 (by decide +kernel) (by decide +kernel), cm_T_in 54 (by decide +kernel) (by decide +kernel), fun _ => ⟨cm_T_in 663 (by decide +kernel) (by decide +kernel), cm_T_in 664 (by decide +kernel) (by decide +kernel)⟩, fun h => absurd h (by decide), fun h => absurd h (by decide), ⟨by decide +kernel, by decide +kernel, by decide +kernel⟩, by decide +kernel, rfl, by decide +kernel, fun _ => ⟨_, rfl⟩, ⟨_, rfl, rfl⟩⟩
set_option maxRecDepth 100000 in
theorem mo_113 : cm_ok mi_113 := ⟨cm_T_in 693 (by decide +kernel) (by decide +kernel), cm_T_in 54 (by decide +kernel) (by decide +kernel), fun _ => ⟨cm_T_in 691 (by decide +kernel) (by decide +kernel), cm_T_in 692 (by decide +kernel) (by decide +kernel)⟩, fun h => absurd h (by decide), fun h => absurd h (by decide), ⟨by decide +kernel, by decide +kernel, by decide +kernel⟩, by decide +kernel, rfl, by decide +kernel, fun _ => ⟨_, rfl⟩, ⟨_, rfl, rfl⟩⟩
set_option maxRecDepth 100000 in
theorem mo_114 : cm_ok mi_114 := ⟨cm_T_in 709 (by decide +kernel) (by decide +kernel), cm_T_in 54 (by decide +kernel) (by decide +kernel), fun _ => ⟨cm_T_in 708 (by decide +kernel) (by decide +kernel), cm_T_in 31 (by decide +kernel) (by decide +kernel)⟩, fun h => absurd h (by decide), fun h => absurd h (by decide), ⟨by decide +kernel, by decide +kernel, by decide +kernel⟩, by decide +kernel, rfl, by decide +kernel, fun _ => ⟨_, rfl⟩, ⟨_, rfl, rfl⟩⟩
set_option maxRecDepth 100000 in
theorem mo_115 : cm_ok mi_115 := ⟨cm_T_in 697 (by decide +kernel) (by decide +kernel), cm_T_in 54 (by decide +kernel) (by decide +kernel), fun _ => ⟨cm_T_in 695 (by decide +kernel) (by decide +kernel), cm_T_in 696 (by decide +kernel) (by decide +kernel)⟩, fun h => absurd h (by decide), fun h => absurd h (by decide), ⟨by decide +kernel, by decide +kernel, by decide +kernel⟩, by decide +kernel, rfl, by decide +kernel, fun _ => ⟨_, rfl⟩, ⟨_, rfl, rfl⟩⟩
set_option maxRecDepth 100000 in
theorem mo_116 : cm_ok mi_116 := ⟨cm_T_in 717 (by decide +kernel) (by decide +kernel), cm_T_in 54 (by decide +kernel) (by decide +kernel), fun _ => ⟨cm_T_in 715 (by decide +kernel) (by decide +kernel), cm_T_in 716 (by decide +kernel) (by decide +kernel)⟩, fun h => absurd h (by decide), fun h => absurd h (by decide), ⟨by decide +kernel, by decide +kernel, by decide +kernel⟩, by decide +kernel, rfl, by decide +kernel, fun _ => ⟨_, rfl⟩, ⟨_, rfl, rfl⟩⟩
set_option maxRecDepth 100000 in
theorem mo_117 : cm_ok mi_117 := ⟨cm_T_in 721 (by decide +kernel) (by decide +kernel), cm_T_in 54 (by decide +kernel) (by decide +kernel), fun _ => ⟨cm_T_in 719 (by decide +kernel) (by decide +kernel), cm_T_in 720 (by decide +kernel) (by decide +kernel)⟩, fun h => absurd h (by decide), fun h => absurd h (by decide), ⟨by decide +kernel, by decide +kernel, by decide +kernel⟩, by decide +kernel, rfl, by decide +kernel, fun _ => ⟨_, rfl⟩, ⟨_, rfl, rfl⟩⟩
set_option maxRecDepth 100000 in
theorem mo_118 : cm_ok mi_118 := ⟨cm_T_in 737 (by decide +kernel) (by decide +kernel), cm_T_in 54 (by decide +kernel) (by decide +kernel), fun _ => ⟨cm_T_in 736 (by decide +kernel) (by decide +kernel), cm_T_in 35 (by decide +kernel) (by decide +kernel)⟩, fun h => absurd h (by decide), fun h => absurd h (by decide), ⟨by decide +kernel, by decide +kernel, by decide +kernel⟩, by decide +kernel, rfl, by decide +kernel, fun _ => ⟨_, rfl⟩, ⟨_, rfl, rfl⟩⟩
set_option maxRecDepth 100000 in
theorem mo_119 : cm_ok mi_119 := ⟨cm_T_in 733 (by decide +kernel) (by decide +kernel), cm_T_in 54 (by decide +kernel) (by decide +kernel), fun _ => ⟨cm_T_in 731 (by decide +kernel) (by decide +kernel), cm_T_in 732 (by decide +kernel) (by decide +kernel)⟩, fun h => absurd h (by decide), fun h => absurd h (by decide), ⟨by decide +kernel, by decide +kernel, by decide +kernel⟩, by decide +kernel, rfl, by decide +kernel, fun _ => ⟨_, rfl⟩, ⟨_, rfl, rfl⟩⟩
set_option maxRecDepth 100000 in
theorem mo_120 : cm_ok mi_120 := ⟨cm_T_in 749 (by decide +kernel) (by decide +kernel), cm_T_in 54 (by decide +kernel) (by decide +kernel), fun _ => ⟨cm_T_in 748 (by decide +kernel) (by decide +kernel), cm_T_in 37 (by decide +kernel) (by decide +kernel)⟩, fun h => absurd h (by decide), fun h => absurd h (by decide), ⟨by decide +kernel, by decide +kernel, by decide +kernel⟩, by decide +kernel, rfl, by decide +kernel, fun _ => ⟨_, rfl⟩, ⟨_, rfl, rfl⟩⟩
set_option maxRecDepth 100000 in
theorem mo_121 : cm_ok mi_121 := ⟨cm_T_in 745 (by decide +kernel) (by decide +kernel), cm_T_in 54 (by decide +kernel) (by decide +kernel), fun _ => ⟨cm_T_in 744 (by decide +kernel) (by decide +kernel), cm_T_in 36 (by decide +kernel) (by decide +kernel)⟩, fun h => absurd h (by decide), fun h => absurd h (by decide), ⟨by decide +kernel, by decide +kernel, by decide +kernel⟩, by decide +kernel, rfl, by decide +kernel, fun _ => ⟨_, rfl⟩, ⟨_, rfl, rfl⟩⟩
set_option maxRecDepth 100000 in
theorem mo_122 : cm_ok mi_122 := ⟨cm_T_in 753 (by decide +kernel) (by decide +kernel), cm_T_in 54 (by decide +kernel) (by decide +kernel), fun _ => ⟨cm_T_in 752 (by decide +kernel) (by decide +kernel), cm_T_in 38 (by decide +kernel) (by decide +kernel)⟩, fun h => absurd h (by decide), fun h => absurd h (by decide), ⟨by decide +kernel, by decide +kernel, by decide +kernel⟩, by decide +kernel, rfl, by decide +kernel, fun _ => ⟨_, rfl⟩, ⟨_, rfl, rfl⟩⟩
set_option maxRecDepth 100000 in
theorem mo_123 : cm_ok mi_123 := ⟨cm_T_in 741 (by decide +kernel) (by decide +kernel), cm_T_in 54 (by decide +kernel) (by decide +kernel), fun _ => ⟨cm_T_in 739 (by decide +kernel) (by decide +kernel), cm_T_in 740 (by decide +kernel) (by decide +kernel)⟩, fun h => absurd h (by decide), fun h => absurd h (by decide), ⟨by decide +kernel, by decide +kernel, by decide +kernel⟩, by decide +kernel, rfl, by decide +kernel, fun _ => ⟨_, rfl⟩, ⟨_, rfl, rfl⟩⟩
set_option maxRecDepth 100000 in
theorem mo_124 : cm_ok mi_124 := ⟨cm_T_in 761 (by decide +kernel) (by decide +kernel), cm_T_in 54 (by decide +kernel) (by decide +kernel), fun _ => ⟨cm_T_in 760 (by decide +kernel) (by decide +kernel), cm_T_in 39 (by decide +kernel) (by decide +kernel)⟩, fun h => absurd h (by decide), fun h => absurd h (by decide), ⟨by decide +kernel, by decide +kernel, by decide +kernel⟩, by decide +kernel, rfl, by decide +kernel, fun _ => ⟨_, rfl⟩, ⟨_, rfl, rfl⟩⟩
set_option maxRecDepth 100000 in
theorem mo_125 : cm_ok mi_125 := ⟨cm_T_in 757 (by decide +kernel) (by decide +kernel), cm_T_in 54 (by decide +kernel) (by decide +kernel), fun _ => ⟨cm_T_in 755 (by decide +kernel) (by decide +kernel), cm_T_in 756 (by decide +kernel) (by decide +kernel)⟩, fun h => absurd h (by decide), fun h => absurd h (by decide), ⟨by decide +kernel, by decide +kernel, by decide +kernel⟩, by decide +kernel, rfl, by decide +kernel, fun _ => ⟨_, rfl⟩, ⟨_, rfl, rfl⟩⟩
set_option maxRecDepth 100000 in
theorem mo_126 : cm_ok mi_126 := ⟨cm_T_in 769 (by decide +kernel) (by decide +kernel), cm_T_in 54 (by decide +kernel) (by decide +kernel), fun _ => ⟨cm_T_in 768 (by decide +kernel) (by decide +kernel), cm_T_in 40 (by decide +kernel) (by decide +kernel)⟩, fun h => absurd h (by decide), fun h => absurd h (by decide), ⟨by decide +kernel, by decide +kernel, by decide +kernel⟩, by decide +kernel, rfl, by decide +kernel, fun _ => ⟨_, rfl⟩, ⟨_, rfl, rfl⟩⟩
set_option maxRecDepth 100000 in
theorem mo_127 : cm_ok mi_127 := ⟨cm_T_in 765 (by decide +kernel) (by decide +kernel), cm_T_in 54 (by decide +kernel) (by decide +kernel), fun _ => ⟨cm_T_in 763 (by decide +kernel) (by decide +kernel), cm_T_in 764 (by decide +kernel) (by decide +kernel)⟩, fun h => absurd h (by decide), fun h => absurd h (by decide), ⟨by decide +kernel, by decide +kernel, by decide +kernel⟩, by decide +kernel, rfl, by decide +kernel, fun _ => ⟨_, rfl⟩, ⟨_, rfl, rfl⟩⟩
set_option maxRecDepth 100000 in
theorem mo_128 : cm_ok mi_128 := ⟨cm_T_in 773 (by decide +kernel) (by decide +kernel), cm_T_in 54 (by decide +kernel) (by decide +kernel), fun _ => ⟨cm_T_in 771 (by decide +kernel) (by decide +kernel), cm_T_in 772 (by decide +kernel) (by decide +kernel)⟩, fun h => absurd h (by decide), fun h => absurd h (by decide), ⟨by decide +kernel, by decide +kernel, by decide +kernel⟩, by decide +kernel, rfl, by decide +kernel, fun _ => ⟨_, rfl⟩, ⟨_, rfl, rfl⟩⟩
set_option maxRecDepth 100000 in
theorem mo_129 : cm_ok mi_129 := ⟨cm_T_in 780 (by decide +kernel) (by decide +kernel), cm_T_in 54 (by decide +kernel) (by decide +kernel), fun _ => ⟨cm_T_in 778 (by decide +kernel) (by decide +kernel), cm_T_in 779 (by decide +kernel) (by decide +kernel)⟩, fun h => absurd h (by decide), fun h => absurd h (by decide), ⟨by decide +kernel, by decide +kernel, by decide +kernel⟩, by decide +kernel, rfl, by decide +kernel, fun _ => ⟨_, rfl⟩, ⟨_, rfl, rfl⟩⟩
set_option maxRecDepth 100000 in
theorem mo_130 : cm_ok mi_130 := ⟨cm_T_in 784 (by decide +kernel) (by decide +kernel), cm_T_in 54 (by decide +kernel) (by decide +kernel), fun _ => ⟨cm_T_in 782 (by decide +kernel) (by decide +kernel), cm_T_in 783 (by decide +kernel) (by decide +kernel)⟩, fun h => absurd h (by decide), fun h => absurd h (by decide), ⟨by decide +kernel, by decide +kernel, by decide +kernel⟩, by decide +kernel, rfl, by decide +kernel, fun _ => ⟨_, rfl⟩, ⟨_, rfl, rfl⟩⟩
set_option maxRecDepth 100000 in
theorem mo_131 : cm_ok mi_131 := ⟨cm_T_in 789 (by decide +kernel) (by decide +kernel), cm_T_in 54 (by decide +kernel) (by decide +kernel), fun _ => ⟨cm_T_in 787 (by decide +kernel) (by decide +kernel), cm_T_in 788 (by decide +kernel) (by decide +kernel)⟩, fun h => absurd h (by decide), fun h => absurd h (by decide), ⟨by decide +kernel, by decide +kernel, by decide +kernel⟩, by decide +kernel, rfl, by decide +kernel, fun _ => ⟨_, rfl⟩, ⟨_, rfl, rfl⟩⟩
set_option maxRecDepth 100000 in
theorem mo_132 : cm_ok mi_132 := ⟨cm_T_in 805 (by decide +kernel) (by decide +kernel), cm_T_in 54 (by decide +kernel) (by decide +kernel), fun _ => ⟨cm_T_in 804 (by decide +kernel) (by decide +kernel), cm_T_in 43 (by decide +kernel) (by decide +kernel)⟩, fun h => absurd h (by decide), fun h => absurd h (by decide), ⟨by decide +kernel, by decide +kernel, by decide +kernel⟩, by decide +kernel, rfl, by decide +kernel, fun _ => ⟨_, rfl⟩, ⟨_, rfl, rfl⟩⟩
set_option maxRecDepth 100000 in
theorem mo_133 : cm_ok mi_133 := ⟨cm_T_in 809 (by decide +kernel) (by decide +kernel), cm_T_in 54 (by decide +kernel) (by decide +kernel), fun _ => ⟨cm_T_in 808 (by decide +kernel) (by decide +kernel), cm_T_in 44 (by decide +kernel) (by decide +kernel)⟩, fun h => absurd h (by decide), fun h => absurd h (by decide), ⟨by decide +kernel, by decide +kernel, by decide +kernel⟩, by decide +kernel, rfl, by decide +kernel, fun _ => ⟨_, rfl⟩, ⟨_, rfl, rfl⟩⟩
set_option maxRecDepth 100000 in
theorem mo_134 : cm_ok mi_134 := ⟨cm_T_in 813 (by decide +kernel) (by decide +kernel), cm_T_in 54 (by decide +kernel) (by decide +kernel), fun _ => ⟨cm_T_in 812 (by decide +kernel) (by decide +kernel), cm_T_in 45 (by decide +kernel) (by decide +kernel)⟩, fun h => absurd h (by decide), fun h => absurd h (by decide), ⟨by decide +kernel, by decide +kernel, by decide +kernel⟩, by decide +kernel, rfl, by decide +kernel, fun _ => ⟨_, rfl⟩, ⟨_, rfl, rfl⟩⟩
set_option maxRecDepth 100000 in
theorem mo_135 : cm_ok mi_135 := ⟨cm_T_in 801 (by decide +kernel) (by decide +kernel), cm_T_in 54 (by decide +kernel) (by decide +kernel), fun _ => ⟨cm_T_in 800 (by decide +kernel) (by decide +kernel), cm_T_in 42 (by decide +kernel) (by decide +kernel)⟩, fun h => absurd h (by decide), fun h => absurd h (by decide), ⟨by decide +kernel, by decide +kernel, by decide +kernel⟩, by decide +kernel, rfl, by decide +kernel, fun _ => ⟨_, rfl⟩, ⟨_, rfl, rfl⟩⟩
set_option maxRecDepth 100000 in
theorem mo_136 : cm_ok mi_136 := ⟨cm_T_in 797 (by decide +kernel) (by decide +kernel), cm_T_in 54 (by decide +kernel) (by decide +kernel), fun _ => ⟨cm_T_in 796 (by decide +kernel) (by decide +kernel), cm_T_in 41 (by decide +kernel) (by decide +kernel)⟩, fun h => absurd h (by decide), fun h => absurd h (by decide), ⟨by decide +kernel, by decide +kernel, by decide +kernel⟩, by decide +kernel, rfl, by decide +kernel, fun _ => ⟨_, rfl⟩, ⟨_, rfl, rfl⟩⟩
set_option maxRecDepth 100000 in
theorem mo_137 : cm_ok mi_137 := ⟨cm_T_in 793 (by decide +kernel) (by decide +kernel), cm_T_in 54 (by decide +kernel) (by decide +kernel), fun _ => ⟨cm_T_in 791 (by decide +kernel) (by decide +kernel), cm_T_in 792 (by decide +kernel) (by decide +kernel)⟩, fun h => absurd h (by decide), fun h => absurd h (by decide), ⟨by decide +kernel, by decide +kernel, by decide +kernel⟩, by decide +kernel, rfl, by decide +kernel, fun _ => ⟨_, rfl⟩, ⟨_, rfl, rfl⟩⟩
set_option maxRecDepth 100000 in
theorem mo_138 : cm_ok mi_138 := ⟨cm_T_in 817 (by decide +kernel) (by decide +kernel), cm_T_in 54 (by decide +kernel) (by decide +kernel), fun _ => ⟨cm_T_in 815 (by decide +kernel) (by decide +kernel), cm_T_in 816 (by decide +kernel) (by decide +kernel)⟩, fun h => absurd h (by decide), fun h => absurd h (by decide), ⟨by decide +kernel, by decide +kernel, by decide +kernel⟩, by decide +kernel, rfl, by decide +kernel, fun _ => ⟨_, rfl⟩, ⟨_, rfl, rfl⟩⟩
/-- the words of a call -/
def cm_cok (e : (Nat × Nat) × (Nat × Nat)) : Prop := (e.2.2 < 1000 → ∃ q, cm_P[e.2.2]? = some q ∧ cm_ok q.1 ∧ (e.2.1 = 0 → .methodLink (cm_cn e.1.1) e.1.2 q.1.1 ∈ cm_T) ∧ (e.2.1 ≠ 0 → (e.1.1, e.1.2, e.2.2) ∈ [(5, 33, 45), (3, 17, 80), (3, 42, 81)])) ∧
  (e.2.2 = 1000 → .methodLink (cm_cn e.1.1) e.1.2 Lib.objectInit ∈ cm_T) ∧ (e.2.2 = 1001 → .methodLink (cm_cn e.1.1) e.1.2 Lib.Math.max.name ∈ cm_T) ∧ (e.2.2 = 1002 → .methodLink (cm_cn e.1.1) e.1.2 arraycopyName ∈ cm_T) ∧ e.2.2 < 1003
set_option maxRecDepth 100000 in
theorem cco_0 : cm_cok ((0, 3), (0, 1000)) := ⟨fun h => absurd h (by decide), fun _ => cm_T_in 111 (by decide +kernel) (by decide +kernel), fun h => absurd h (by decide), fun h => absurd h (by decide), by decide⟩
set_option maxRecDepth 100000 in
theorem cco_1 : cm_cok ((0, 34), (0, 2)) := ⟨fun _ => ⟨(mi_2, ins_2), rfl, mo_2, fun _ => cm_T_in 284 (by decide +kernel) (by decide +kernel), fun h => absurd rfl h⟩, fun h => absurd h (by decide), fun h => absurd h (by decide), fun h => absurd h (by decide), by decide⟩
set_option maxRecDepth 100000 in
theorem cco_2 : cm_cok ((0, 37), (0, 3)) := ⟨fun _ => ⟨(mi_3, ins_3), rfl, mo_3, fun _ => cm_T_in 292 (by decide +kernel) (by decide +kernel), fun h => absurd rfl h⟩, fun h => absurd h (by decide), fun h => absurd h (by decide), fun h => absurd h (by decide), by decide⟩
set_option maxRecDepth 100000 in
theorem cco_3 : cm_cok ((0, 40), (0, 6)) := ⟨fun _ => ⟨(mi_6, ins_6), rfl, mo_6, fun _ => cm_T_in 308 (by decide +kernel) (by decide +kernel), fun h => absurd rfl h⟩, fun h => absurd h (by decide), fun h => absurd h (by decide), fun h => absurd h (by decide), by decide⟩
set_option maxRecDepth 100000 in
theorem cco_4 : cm_cok ((0, 52), (0, 31)) := ⟨fun _ => ⟨(mi_31, ins_31), rfl, mo_31, fun _ => cm_T_in 288 (by decide +kernel) (by decide +kernel), fun h => absurd rfl h⟩, fun h => absurd h (by decide), fun h => absurd h (by decide), fun h => absurd h (by decide), by decide⟩
set_option maxRecDepth 100000 in
theorem cco_5 : cm_cok ((0, 62), (0, 5)) := ⟨fun _ => ⟨(mi_5, ins_5), rfl, mo_5, fun _ => cm_T_in 296 (by decide +kernel) (by decide +kernel), fun h => absurd rfl h⟩, fun h => absurd h (by decide), fun h => absurd h (by decide), fun h => absurd h (by decide), by decide⟩
set_option maxRecDepth 100000 in
theorem cco_6 : cm_cok ((0, 69), (0, 4)) := ⟨fun _ => ⟨(mi_4, ins_4), rfl, mo_4, fun _ => cm_T_in 300 (by decide +kernel) (by decide +kernel), fun h => absurd rfl h⟩, fun h => absurd h (by decide), fun h => absurd h (by decide), fun h => absurd h (by decide), by decide⟩
set_option maxRecDepth 100000 in
theorem cco_7 : cm_cok ((0, 73), (0, 9)) := ⟨fun _ => ⟨(mi_9, ins_9), rfl, mo_9, fun _ => cm_T_in 304 (by decide +kernel) (by decide +kernel), fun h => absurd rfl h⟩, fun h => absurd h (by decide), fun h => absurd h (by decide), fun h => absurd h (by decide), by decide⟩
set_option maxRecDepth 100000 in
theorem cco_8 : cm_cok ((0, 77), (0, 7)) := ⟨fun _ => ⟨(mi_7, ins_7), rfl, mo_7, fun _ => cm_T_in 312 (by decide +kernel) (by decide +kernel), fun h => absurd rfl h⟩, fun h => absurd h (by decide), fun h => absurd h (by decide), fun h => absurd h (by decide), by decide⟩
set_option maxRecDepth 100000 in
theorem cco_9 : cm_cok ((0, 80), (0, 8)) := ⟨fun _ => ⟨(mi_8, ins_8), rfl, mo_8, fun _ => cm_T_in 316 (by decide +kernel) (by decide +kernel), fun h => absurd rfl h⟩, fun h => absurd h (by decide), fun h => absurd h (by decide), fun h => absurd h (by decide), by decide⟩
set_option maxRecDepth 100000 in
theorem cco_10 : cm_cok ((0, 83), (0, 11)) := ⟨fun _ => ⟨(mi_11, ins_11), rfl, mo_11, fun _ => cm_T_in 450 (by decide +kernel) (by decide +kernel), fun h => absurd rfl h⟩, fun h => absurd h (by decide), fun h => absurd h (by decide), fun h => absurd h (by decide), by decide⟩
set_option maxRecDepth 100000 in
theorem cco_11 : cm_cok ((0, 86), (0, 14)) := ⟨fun _ => ⟨(mi_14, ins_14), rfl, mo_14, fun _ => cm_T_in 434 (by decide +kernel) (by decide +kernel), fun h => absurd rfl h⟩, fun h => absurd h (by decide), fun h => absurd h (by decide), fun h => absurd h (by decide), by decide⟩
set_option maxRecDepth 100000 in
theorem cco_12 : cm_cok ((0, 93), (0, 18)) := ⟨fun _ => ⟨(mi_18, ins_18), rfl, mo_18, fun _ => cm_T_in 416 (by decide +kernel) (by decide +kernel), fun h => absurd rfl h⟩, fun h => absurd h (by decide), fun h => absurd h (by decide), fun h => absurd h (by decide), by decide⟩
set_option maxRecDepth 100000 in
theorem cco_13 : cm_cok ((0, 96), (0, 1001)) := ⟨fun h => absurd h (by decide), fun h => absurd h (by decide), fun _ => cm_T_in 409 (by decide +kernel) (by decide +kernel), fun h => absurd h (by decide), by decide⟩
set_option maxRecDepth 100000 in
theorem cco_14 : cm_cok ((0, 101), (0, 20)) := ⟨fun _ => ⟨(mi_20, ins_20), rfl, mo_20, fun _ => cm_T_in 405 (by decide +kernel) (by decide +kernel), fun h => absurd rfl h⟩, fun h => absurd h (by decide), fun h => absurd h (by decide), fun h => absurd h (by decide), by decide⟩
set_option maxRecDepth 100000 in
theorem cco_15 : cm_cok ((0, 104), (0, 19)) := ⟨fun _ => ⟨(mi_19, ins_19), rfl, mo_19, fun _ => cm_T_in 412 (by decide +kernel) (by decide +kernel), fun h => absurd rfl h⟩, fun h => absurd h (by decide), fun h => absurd h (by decide), fun h => absurd h (by decide), by decide⟩
set_option maxRecDepth 100000 in
theorem cco_16 : cm_cok ((0, 107), (0, 21)) := ⟨fun _ => ⟨(mi_21, ins_21), rfl, mo_21, fun _ => cm_T_in 470 (by decide +kernel) (by decide +kernel), fun h => absurd rfl h⟩, fun h => absurd h (by decide), fun h => absurd h (by decide), fun h => absurd h (by decide), by decide⟩
set_option maxRecDepth 100000 in
theorem cco_17 : cm_cok ((1, 3), (0, 1000)) := ⟨fun h => absurd h (by decide), fun _ => cm_T_in 69 (by decide +kernel) (by decide +kernel), fun h => absurd h (by decide), fun h => absurd h (by decide), by decide⟩
set_option maxRecDepth 100000 in
theorem cco_18 : cm_cok ((1, 30), (0, 1002)) := ⟨fun h => absurd h (by decide), fun h => absurd h (by decide), fun h => absurd h (by decide), fun _ => cm_T_in 72 (by decide +kernel) (by decide +kernel), by decide⟩
set_option maxRecDepth 100000 in
theorem cco_19 : cm_cok ((1, 40), (0, 28)) := ⟨fun _ => ⟨(mi_28, ins_28), rfl, mo_28, fun _ => cm_T_in 241 (by decide +kernel) (by decide +kernel), fun h => absurd rfl h⟩, fun h => absurd h (by decide), fun h => absurd h (by decide), fun h => absurd h (by decide), by decide⟩
set_option maxRecDepth 100000 in
theorem cco_20 : cm_cok ((1, 44), (0, 29)) := ⟨fun _ => ⟨(mi_29, ins_29), rfl, mo_29, fun _ => cm_T_in 245 (by decide +kernel) (by decide +kernel), fun h => absurd rfl h⟩, fun h => absurd h (by decide), fun h => absurd h (by decide), fun h => absurd h (by decide), by decide⟩
set_option maxRecDepth 100000 in
theorem cco_21 : cm_cok ((1, 48), (0, 34)) := ⟨fun _ => ⟨(mi_34, ins_34), rfl, mo_34, fun _ => cm_T_in 328 (by decide +kernel) (by decide +kernel), fun h => absurd rfl h⟩, fun h => absurd h (by decide), fun h => absurd h (by decide), fun h => absurd h (by decide), by decide⟩
set_option maxRecDepth 100000 in
theorem cco_22 : cm_cok ((1, 52), (0, 32)) := ⟨fun _ => ⟨(mi_32, ins_32), rfl, mo_32, fun _ => cm_T_in 343 (by decide +kernel) (by decide +kernel), fun h => absurd rfl h⟩, fun h => absurd h (by decide), fun h => absurd h (by decide), fun h => absurd h (by decide), by decide⟩
set_option maxRecDepth 100000 in
theorem cco_23 : cm_cok ((1, 55), (0, 35)) := ⟨fun _ => ⟨(mi_35, ins_35), rfl, mo_35, fun _ => cm_T_in 332 (by decide +kernel) (by decide +kernel), fun h => absurd rfl h⟩, fun h => absurd h (by decide), fun h => absurd h (by decide), fun h => absurd h (by decide), by decide⟩
set_option maxRecDepth 100000 in
theorem cco_24 : cm_cok ((2, 3), (0, 1000)) := ⟨fun h => absurd h (by decide), fun _ => cm_T_in 167 (by decide +kernel) (by decide +kernel), fun h => absurd h (by decide), fun h => absurd h (by decide), by decide⟩
set_option maxRecDepth 100000 in
theorem cco_25 : cm_cok ((2, 17), (0, 26)) := ⟨fun _ => ⟨(mi_26, ins_26), rfl, mo_26, fun _ => cm_T_in 170 (by decide +kernel) (by decide +kernel), fun h => absurd rfl h⟩, fun h => absurd h (by decide), fun h => absurd h (by decide), fun h => absurd h (by decide), by decide⟩
set_option maxRecDepth 100000 in
theorem cco_26 : cm_cok ((2, 25), (0, 27)) := ⟨fun _ => ⟨(mi_27, ins_27), rfl, mo_27, fun _ => cm_T_in 237 (by decide +kernel) (by decide +kernel), fun h => absurd rfl h⟩, fun h => absurd h (by decide), fun h => absurd h (by decide), fun h => absurd h (by decide), by decide⟩
set_option maxRecDepth 100000 in
theorem cco_27 : cm_cok ((3, 3), (0, 1000)) := ⟨fun h => absurd h (by decide), fun _ => cm_T_in 149 (by decide +kernel) (by decide +kernel), fun h => absurd h (by decide), fun h => absurd h (by decide), by decide⟩
set_option maxRecDepth 100000 in
theorem cco_28 : cm_cok ((3, 17), (1, 80)) := ⟨fun _ => ⟨(mi_80, ins_80), rfl, mo_80, fun h => absurd h (by decide), fun _ => by decide⟩, fun h => absurd h (by decide), fun h => absurd h (by decide), fun h => absurd h (by decide), by decide⟩
set_option maxRecDepth 100000 in
theorem cco_29 : cm_cok ((3, 28), (0, 49)) := ⟨fun _ => ⟨(mi_49, ins_49), rfl, mo_49, fun _ => cm_T_in 364 (by decide +kernel) (by decide +kernel), fun h => absurd rfl h⟩, fun h => absurd h (by decide), fun h => absurd h (by decide), fun h => absurd h (by decide), by decide⟩
set_option maxRecDepth 100000 in
theorem cco_30 : cm_cok ((3, 32), (0, 53)) := ⟨fun _ => ⟨(mi_53, ins_53), rfl, mo_53, fun _ => cm_T_in 372 (by decide +kernel) (by decide +kernel), fun h => absurd rfl h⟩, fun h => absurd h (by decide), fun h => absurd h (by decide), fun h => absurd h (by decide), by decide⟩
set_option maxRecDepth 100000 in
theorem cco_31 : cm_cok ((3, 36), (0, 51)) := ⟨fun _ => ⟨(mi_51, ins_51), rfl, mo_51, fun _ => cm_T_in 368 (by decide +kernel) (by decide +kernel), fun h => absurd rfl h⟩, fun h => absurd h (by decide), fun h => absurd h (by decide), fun h => absurd h (by decide), by decide⟩
set_option maxRecDepth 100000 in
theorem cco_32 : cm_cok ((3, 39), (0, 52)) := ⟨fun _ => ⟨(mi_52, ins_52), rfl, mo_52, fun _ => cm_T_in 376 (by decide +kernel) (by decide +kernel), fun h => absurd rfl h⟩, fun h => absurd h (by decide), fun h => absurd h (by decide), fun h => absurd h (by decide), by decide⟩
set_option maxRecDepth 100000 in
theorem cco_33 : cm_cok ((3, 42), (1, 81)) := ⟨fun _ => ⟨(mi_81, ins_81), rfl, mo_81, fun h => absurd h (by decide), fun _ => by decide⟩, fun h => absurd h (by decide), fun h => absurd h (by decide), fun h => absurd h (by decide), by decide⟩
set_option maxRecDepth 100000 in
theorem cco_34 : cm_cok ((3, 46), (0, 50)) := ⟨fun _ => ⟨(mi_50, ins_50), rfl, mo_50, fun _ => cm_T_in 382 (by decide +kernel) (by decide +kernel), fun h => absurd rfl h⟩, fun h => absurd h (by decide), fun h => absurd h (by decide), fun h => absurd h (by decide), by decide⟩
set_option maxRecDepth 100000 in
theorem cco_35 : cm_cok ((3, 50), (0, 29)) := ⟨fun _ => ⟨(mi_29, ins_29), rfl, mo_29, fun _ => cm_T_in 386 (by decide +kernel) (by decide +kernel), fun h => absurd rfl h⟩, fun h => absurd h (by decide), fun h => absurd h (by decide), fun h => absurd h (by decide), by decide⟩
set_option maxRecDepth 100000 in
theorem cco_36 : cm_cok ((4, 3), (0, 1000)) := ⟨fun h => absurd h (by decide), fun _ => cm_T_in 187 (by decide +kernel) (by decide +kernel), fun h => absurd h (by decide), fun h => absurd h (by decide), by decide⟩
set_option maxRecDepth 100000 in
theorem cco_37 : cm_cok ((4, 21), (0, 26)) := ⟨fun _ => ⟨(mi_26, ins_26), rfl, mo_26, fun _ => cm_T_in 189 (by decide +kernel) (by decide +kernel), fun h => absurd rfl h⟩, fun h => absurd h (by decide), fun h => absurd h (by decide), fun h => absurd h (by decide), by decide⟩
set_option maxRecDepth 100000 in
theorem cco_38 : cm_cok ((5, 1), (0, 1000)) := ⟨fun h => absurd h (by decide), fun _ => cm_T_in 61 (by decide +kernel) (by decide +kernel), fun h => absurd h (by decide), fun h => absurd h (by decide), by decide⟩
set_option maxRecDepth 100000 in
theorem cco_39 : cm_cok ((5, 9), (0, 26)) := ⟨fun _ => ⟨(mi_26, ins_26), rfl, mo_26, fun _ => cm_T_in 66 (by decide +kernel) (by decide +kernel), fun h => absurd rfl h⟩, fun h => absurd h (by decide), fun h => absurd h (by decide), fun h => absurd h (by decide), by decide⟩
set_option maxRecDepth 100000 in
theorem cco_40 : cm_cok ((5, 18), (0, 0)) := ⟨fun _ => ⟨(mi_0, ins_0), rfl, mo_0, fun _ => cm_T_in 108 (by decide +kernel) (by decide +kernel), fun h => absurd rfl h⟩, fun h => absurd h (by decide), fun h => absurd h (by decide), fun h => absurd h (by decide), by decide⟩
set_option maxRecDepth 100000 in
theorem cco_41 : cm_cok ((5, 33), (1, 45)) := ⟨fun _ => ⟨(mi_45, ins_45), rfl, mo_45, fun h => absurd h (by decide), fun _ => by decide⟩, fun h => absurd h (by decide), fun h => absurd h (by decide), fun h => absurd h (by decide), by decide⟩
set_option maxRecDepth 100000 in
theorem cco_42 : cm_cok ((5, 40), (0, 42)) := ⟨fun _ => ⟨(mi_42, ins_42), rfl, mo_42, fun _ => cm_T_in 164 (by decide +kernel) (by decide +kernel), fun h => absurd rfl h⟩, fun h => absurd h (by decide), fun h => absurd h (by decide), fun h => absurd h (by decide), by decide⟩
set_option maxRecDepth 100000 in
theorem cco_43 : cm_cok ((5, 47), (0, 54)) := ⟨fun _ => ⟨(mi_54, ins_54), rfl, mo_54, fun _ => cm_T_in 184 (by decide +kernel) (by decide +kernel), fun h => absurd rfl h⟩, fun h => absurd h (by decide), fun h => absurd h (by decide), fun h => absurd h (by decide), by decide⟩
set_option maxRecDepth 100000 in
theorem cco_44 : cm_cok ((5, 59), (0, 80)) := ⟨fun _ => ⟨(mi_80, ins_80), rfl, mo_80, fun _ => cm_T_in 230 (by decide +kernel) (by decide +kernel), fun h => absurd rfl h⟩, fun h => absurd h (by decide), fun h => absurd h (by decide), fun h => absurd h (by decide), by decide⟩
set_option maxRecDepth 100000 in
theorem cco_45 : cm_cok ((5, 63), (0, 43)) := ⟨fun _ => ⟨(mi_43, ins_43), rfl, mo_43, fun _ => cm_T_in 233 (by decide +kernel) (by decide +kernel), fun h => absurd rfl h⟩, fun h => absurd h (by decide), fun h => absurd h (by decide), fun h => absurd h (by decide), by decide⟩
set_option maxRecDepth 100000 in
theorem cco_46 : cm_cok ((5, 69), (0, 81)) := ⟨fun _ => ⟨(mi_81, ins_81), rfl, mo_81, fun _ => cm_T_in 253 (by decide +kernel) (by decide +kernel), fun h => absurd rfl h⟩, fun h => absurd h (by decide), fun h => absurd h (by decide), fun h => absurd h (by decide), by decide⟩
set_option maxRecDepth 100000 in
theorem cco_47 : cm_cok ((5, 73), (0, 78)) := ⟨fun _ => ⟨(mi_78, ins_78), rfl, mo_78, fun _ => cm_T_in 256 (by decide +kernel) (by decide +kernel), fun h => absurd rfl h⟩, fun h => absurd h (by decide), fun h => absurd h (by decide), fun h => absurd h (by decide), by decide⟩
set_option maxRecDepth 100000 in
theorem cco_48 : cm_cok ((5, 77), (0, 30)) := ⟨fun _ => ⟨(mi_30, ins_30), rfl, mo_30, fun _ => cm_T_in 269 (by decide +kernel) (by decide +kernel), fun h => absurd rfl h⟩, fun h => absurd h (by decide), fun h => absurd h (by decide), fun h => absurd h (by decide), by decide⟩
set_option maxRecDepth 100000 in
theorem cco_49 : cm_cok ((5, 80), (0, 82)) := ⟨fun _ => ⟨(mi_82, ins_82), rfl, mo_82, fun _ => cm_T_in 273 (by decide +kernel) (by decide +kernel), fun h => absurd rfl h⟩, fun h => absurd h (by decide), fun h => absurd h (by decide), fun h => absurd h (by decide), by decide⟩
set_option maxRecDepth 100000 in
theorem cco_50 : cm_cok ((5, 86), (0, 1)) := ⟨fun _ => ⟨(mi_1, ins_1), rfl, mo_1, fun _ => cm_T_in 280 (by decide +kernel) (by decide +kernel), fun h => absurd rfl h⟩, fun h => absurd h (by decide), fun h => absurd h (by decide), fun h => absurd h (by decide), by decide⟩
set_option maxRecDepth 100000 in
theorem cco_51 : cm_cok ((5, 89), (0, 10)) := ⟨fun _ => ⟨(mi_10, ins_10), rfl, mo_10, fun _ => cm_T_in 320 (by decide +kernel) (by decide +kernel), fun h => absurd rfl h⟩, fun h => absurd h (by decide), fun h => absurd h (by decide), fun h => absurd h (by decide), by decide⟩
set_option maxRecDepth 100000 in
theorem cco_52 : cm_cok ((5, 93), (0, 32)) := ⟨fun _ => ⟨(mi_32, ins_32), rfl, mo_32, fun _ => cm_T_in 324 (by decide +kernel) (by decide +kernel), fun h => absurd rfl h⟩, fun h => absurd h (by decide), fun h => absurd h (by decide), fun h => absurd h (by decide), by decide⟩
set_option maxRecDepth 100000 in
theorem cco_53 : cm_cok ((5, 97), (0, 33)) := ⟨fun _ => ⟨(mi_33, ins_33), rfl, mo_33, fun _ => cm_T_in 339 (by decide +kernel) (by decide +kernel), fun h => absurd rfl h⟩, fun h => absurd h (by decide), fun h => absurd h (by decide), fun h => absurd h (by decide), by decide⟩
set_option maxRecDepth 100000 in
theorem cco_54 : cm_cok ((5, 105), (0, 37)) := ⟨fun _ => ⟨(mi_37, ins_37), rfl, mo_37, fun _ => cm_T_in 348 (by decide +kernel) (by decide +kernel), fun h => absurd rfl h⟩, fun h => absurd h (by decide), fun h => absurd h (by decide), fun h => absurd h (by decide), by decide⟩
set_option maxRecDepth 100000 in
theorem cco_55 : cm_cok ((5, 109), (0, 36)) := ⟨fun _ => ⟨(mi_36, ins_36), rfl, mo_36, fun _ => cm_T_in 352 (by decide +kernel) (by decide +kernel), fun h => absurd rfl h⟩, fun h => absurd h (by decide), fun h => absurd h (by decide), fun h => absurd h (by decide), by decide⟩
set_option maxRecDepth 100000 in
theorem cco_56 : cm_cok ((5, 115), (0, 48)) := ⟨fun _ => ⟨(mi_48, ins_48), rfl, mo_48, fun _ => cm_T_in 360 (by decide +kernel) (by decide +kernel), fun h => absurd rfl h⟩, fun h => absurd h (by decide), fun h => absurd h (by decide), fun h => absurd h (by decide), by decide⟩
set_option maxRecDepth 100000 in
theorem cco_57 : cm_cok ((5, 119), (0, 28)) := ⟨fun _ => ⟨(mi_28, ins_28), rfl, mo_28, fun _ => cm_T_in 387 (by decide +kernel) (by decide +kernel), fun h => absurd rfl h⟩, fun h => absurd h (by decide), fun h => absurd h (by decide), fun h => absurd h (by decide), by decide⟩
set_option maxRecDepth 100000 in
theorem cco_58 : cm_cok ((5, 134), (0, 31)) := ⟨fun _ => ⟨(mi_31, ins_31), rfl, mo_31, fun _ => cm_T_in 392 (by decide +kernel) (by decide +kernel), fun h => absurd rfl h⟩, fun h => absurd h (by decide), fun h => absurd h (by decide), fun h => absurd h (by decide), by decide⟩
set_option maxRecDepth 100000 in
theorem cco_59 : cm_cok ((5, 143), (0, 38)) := ⟨fun _ => ⟨(mi_38, ins_38), rfl, mo_38, fun _ => cm_T_in 397 (by decide +kernel) (by decide +kernel), fun h => absurd rfl h⟩, fun h => absurd h (by decide), fun h => absurd h (by decide), fun h => absurd h (by decide), by decide⟩
set_option maxRecDepth 100000 in
theorem cco_60 : cm_cok ((5, 146), (0, 21)) := ⟨fun _ => ⟨(mi_21, ins_21), rfl, mo_21, fun _ => cm_T_in 401 (by decide +kernel) (by decide +kernel), fun h => absurd rfl h⟩, fun h => absurd h (by decide), fun h => absurd h (by decide), fun h => absurd h (by decide), by decide⟩
set_option maxRecDepth 100000 in
theorem cco_61 : cm_cok ((5, 149), (0, 19)) := ⟨fun _ => ⟨(mi_19, ins_19), rfl, mo_19, fun _ => cm_T_in 420 (by decide +kernel) (by decide +kernel), fun h => absurd rfl h⟩, fun h => absurd h (by decide), fun h => absurd h (by decide), fun h => absurd h (by decide), by decide⟩
set_option maxRecDepth 100000 in
theorem cco_62 : cm_cok ((5, 152), (0, 18)) := ⟨fun _ => ⟨(mi_18, ins_18), rfl, mo_18, fun _ => cm_T_in 421 (by decide +kernel) (by decide +kernel), fun h => absurd rfl h⟩, fun h => absurd h (by decide), fun h => absurd h (by decide), fun h => absurd h (by decide), by decide⟩
set_option maxRecDepth 100000 in
theorem cco_63 : cm_cok ((5, 155), (0, 79)) := ⟨fun _ => ⟨(mi_79, ins_79), rfl, mo_79, fun _ => cm_T_in 422 (by decide +kernel) (by decide +kernel), fun h => absurd rfl h⟩, fun h => absurd h (by decide), fun h => absurd h (by decide), fun h => absurd h (by decide), by decide⟩
set_option maxRecDepth 100000 in
theorem cco_64 : cm_cok ((5, 158), (0, 15)) := ⟨fun _ => ⟨(mi_15, ins_15), rfl, mo_15, fun _ => cm_T_in 430 (by decide +kernel) (by decide +kernel), fun h => absurd rfl h⟩, fun h => absurd h (by decide), fun h => absurd h (by decide), fun h => absurd h (by decide), by decide⟩
set_option maxRecDepth 100000 in
theorem cco_65 : cm_cok ((5, 161), (0, 16)) := ⟨fun _ => ⟨(mi_16, ins_16), rfl, mo_16, fun _ => cm_T_in 438 (by decide +kernel) (by decide +kernel), fun h => absurd rfl h⟩, fun h => absurd h (by decide), fun h => absurd h (by decide), fun h => absurd h (by decide), by decide⟩
set_option maxRecDepth 100000 in
theorem cco_66 : cm_cok ((5, 164), (0, 17)) := ⟨fun _ => ⟨(mi_17, ins_17), rfl, mo_17, fun _ => cm_T_in 442 (by decide +kernel) (by decide +kernel), fun h => absurd rfl h⟩, fun h => absurd h (by decide), fun h => absurd h (by decide), fun h => absurd h (by decide), by decide⟩
set_option maxRecDepth 100000 in
theorem cco_67 : cm_cok ((5, 167), (0, 12)) := ⟨fun _ => ⟨(mi_12, ins_12), rfl, mo_12, fun _ => cm_T_in 446 (by decide +kernel) (by decide +kernel), fun h => absurd rfl h⟩, fun h => absurd h (by decide), fun h => absurd h (by decide), fun h => absurd h (by decide), by decide⟩
set_option maxRecDepth 100000 in
theorem cco_68 : cm_cok ((5, 170), (0, 13)) := ⟨fun _ => ⟨(mi_13, ins_13), rfl, mo_13, fun _ => cm_T_in 454 (by decide +kernel) (by decide +kernel), fun h => absurd rfl h⟩, fun h => absurd h (by decide), fun h => absurd h (by decide), fun h => absurd h (by decide), by decide⟩
set_option maxRecDepth 100000 in
theorem cco_69 : cm_cok ((5, 173), (0, 39)) := ⟨fun _ => ⟨(mi_39, ins_39), rfl, mo_39, fun _ => cm_T_in 462 (by decide +kernel) (by decide +kernel), fun h => absurd rfl h⟩, fun h => absurd h (by decide), fun h => absurd h (by decide), fun h => absurd h (by decide), by decide⟩
set_option maxRecDepth 100000 in
theorem cco_70 : cm_cok ((5, 179), (0, 23)) := ⟨fun _ => ⟨(mi_23, ins_23), rfl, mo_23, fun _ => cm_T_in 466 (by decide +kernel) (by decide +kernel), fun h => absurd rfl h⟩, fun h => absurd h (by decide), fun h => absurd h (by decide), fun h => absurd h (by decide), by decide⟩
set_option maxRecDepth 100000 in
theorem cco_71 : cm_cok ((5, 182), (0, 40)) := ⟨fun _ => ⟨(mi_40, ins_40), rfl, mo_40, fun _ => cm_T_in 471 (by decide +kernel) (by decide +kernel), fun h => absurd rfl h⟩, fun h => absurd h (by decide), fun h => absurd h (by decide), fun h => absurd h (by decide), by decide⟩
set_option maxRecDepth 100000 in
theorem cco_72 : cm_cok ((5, 185), (0, 24)) := ⟨fun _ => ⟨(mi_24, ins_24), rfl, mo_24, fun _ => cm_T_in 475 (by decide +kernel) (by decide +kernel), fun h => absurd rfl h⟩, fun h => absurd h (by decide), fun h => absurd h (by decide), fun h => absurd h (by decide), by decide⟩
set_option maxRecDepth 100000 in
theorem cco_73 : cm_cok ((5, 191), (0, 27)) := ⟨fun _ => ⟨(mi_27, ins_27), rfl, mo_27, fun _ => cm_T_in 483 (by decide +kernel) (by decide +kernel), fun h => absurd rfl h⟩, fun h => absurd h (by decide), fun h => absurd h (by decide), fun h => absurd h (by decide), by decide⟩
set_option maxRecDepth 100000 in
theorem cco_74 : cm_cok ((5, 194), (0, 22)) := ⟨fun _ => ⟨(mi_22, ins_22), rfl, mo_22, fun _ => cm_T_in 484 (by decide +kernel) (by decide +kernel), fun h => absurd rfl h⟩, fun h => absurd h (by decide), fun h => absurd h (by decide), fun h => absurd h (by decide), by decide⟩
set_option maxRecDepth 100000 in
theorem cco_75 : cm_cok ((5, 197), (0, 41)) := ⟨fun _ => ⟨(mi_41, ins_41), rfl, mo_41, fun _ => cm_T_in 492 (by decide +kernel) (by decide +kernel), fun h => absurd rfl h⟩, fun h => absurd h (by decide), fun h => absurd h (by decide), fun h => absurd h (by decide), by decide⟩
set_option maxRecDepth 100000 in
theorem cco_76 : cm_cok ((5, 200), (0, 25)) := ⟨fun _ => ⟨(mi_25, ins_25), rfl, mo_25, fun _ => cm_T_in 496 (by decide +kernel) (by decide +kernel), fun h => absurd rfl h⟩, fun h => absurd h (by decide), fun h => absurd h (by decide), fun h => absurd h (by decide), by decide⟩
set_option maxRecDepth 100000 in
theorem cco_77 : cm_cok ((5, 203), (0, 46)) := ⟨fun _ => ⟨(mi_46, ins_46), rfl, mo_46, fun _ => cm_T_in 512 (by decide +kernel) (by decide +kernel), fun h => absurd rfl h⟩, fun h => absurd h (by decide), fun h => absurd h (by decide), fun h => absurd h (by decide), by decide⟩
set_option maxRecDepth 100000 in
theorem cco_78 : cm_cok ((5, 207), (0, 47)) := ⟨fun _ => ⟨(mi_47, ins_47), rfl, mo_47, fun _ => cm_T_in 517 (by decide +kernel) (by decide +kernel), fun h => absurd rfl h⟩, fun h => absurd h (by decide), fun h => absurd h (by decide), fun h => absurd h (by decide), by decide⟩
set_option maxRecDepth 100000 in
theorem cco_79 : cm_cok ((5, 211), (0, 44)) := ⟨fun _ => ⟨(mi_44, ins_44), rfl, mo_44, fun _ => cm_T_in 533 (by decide +kernel) (by decide +kernel), fun h => absurd rfl h⟩, fun h => absurd h (by decide), fun h => absurd h (by decide), fun h => absurd h (by decide), by decide⟩
set_option maxRecDepth 100000 in
theorem cco_80 : cm_cok ((5, 214), (0, 83)) := ⟨fun _ => ⟨(mi_83, ins_83), rfl, mo_83, fun _ => cm_T_in 541 (by decide +kernel) (by decide +kernel), fun h => absurd rfl h⟩, fun h => absurd h (by decide), fun h => absurd h (by decide), fun h => absurd h (by decide), by decide⟩
set_option maxRecDepth 100000 in
theorem cco_81 : cm_cok ((5, 225), (0, 29)) := ⟨fun _ => ⟨(mi_29, ins_29), rfl, mo_29, fun _ => cm_T_in 260 (by decide +kernel) (by decide +kernel), fun h => absurd rfl h⟩, fun h => absurd h (by decide), fun h => absurd h (by decide), fun h => absurd h (by decide), by decide⟩
set_option maxRecDepth 100000 in
theorem cco_82 : cm_cok ((6, 1), (0, 1000)) := ⟨fun h => absurd h (by decide), fun _ => cm_T_in 553 (by decide +kernel) (by decide +kernel), fun h => absurd h (by decide), fun h => absurd h (by decide), by decide⟩
set_option maxRecDepth 100000 in
theorem cco_83 : cm_cok ((6, 45), (0, 85)) := ⟨fun _ => ⟨(mi_85, ins_85), rfl, mo_85, fun _ => cm_T_in 614 (by decide +kernel) (by decide +kernel), fun h => absurd rfl h⟩, fun h => absurd h (by decide), fun h => absurd h (by decide), fun h => absurd h (by decide), by decide⟩
set_option maxRecDepth 100000 in
theorem cco_84 : cm_cok ((6, 49), (0, 89)) := ⟨fun _ => ⟨(mi_89, ins_89), rfl, mo_89, fun _ => cm_T_in 658 (by decide +kernel) (by decide +kernel), fun h => absurd rfl h⟩, fun h => absurd h (by decide), fun h => absurd h (by decide), fun h => absurd h (by decide), by decide⟩
set_option maxRecDepth 100000 in
theorem cco_85 : cm_cok ((6, 57), (0, 91)) := ⟨fun _ => ⟨(mi_91, ins_91), rfl, mo_91, fun _ => cm_T_in 621 (by decide +kernel) (by decide +kernel), fun h => absurd rfl h⟩, fun h => absurd h (by decide), fun h => absurd h (by decide), fun h => absurd h (by decide), by decide⟩
set_option maxRecDepth 100000 in
theorem cco_86 : cm_cok ((6, 60), (0, 95)) := ⟨fun _ => ⟨(mi_95, ins_95), rfl, mo_95, fun _ => cm_T_in 674 (by decide +kernel) (by decide +kernel), fun h => absurd rfl h⟩, fun h => absurd h (by decide), fun h => absurd h (by decide), fun h => absurd h (by decide), by decide⟩
set_option maxRecDepth 100000 in
theorem cco_87 : cm_cok ((6, 67), (0, 96)) := ⟨fun _ => ⟨(mi_96, ins_96), rfl, mo_96, fun _ => cm_T_in 670 (by decide +kernel) (by decide +kernel), fun h => absurd rfl h⟩, fun h => absurd h (by decide), fun h => absurd h (by decide), fun h => absurd h (by decide), by decide⟩
set_option maxRecDepth 100000 in
theorem cco_88 : cm_cok ((6, 70), (0, 97)) := ⟨fun _ => ⟨(mi_97, ins_97), rfl, mo_97, fun _ => cm_T_in 678 (by decide +kernel) (by decide +kernel), fun h => absurd rfl h⟩, fun h => absurd h (by decide), fun h => absurd h (by decide), fun h => absurd h (by decide), by decide⟩
set_option maxRecDepth 100000 in
theorem cco_89 : cm_cok ((6, 74), (0, 98)) := ⟨fun _ => ⟨(mi_98, ins_98), rfl, mo_98, fun _ => cm_T_in 682 (by decide +kernel) (by decide +kernel), fun h => absurd rfl h⟩, fun h => absurd h (by decide), fun h => absurd h (by decide), fun h => absurd h (by decide), by decide⟩
set_option maxRecDepth 100000 in
theorem cco_90 : cm_cok ((6, 78), (0, 90)) := ⟨fun _ => ⟨(mi_90, ins_90), rfl, mo_90, fun _ => cm_T_in 702 (by decide +kernel) (by decide +kernel), fun h => absurd rfl h⟩, fun h => absurd h (by decide), fun h => absurd h (by decide), fun h => absurd h (by decide), by decide⟩
set_option maxRecDepth 100000 in
theorem cco_91 : cm_cok ((6, 82), (0, 101)) := ⟨fun _ => ⟨(mi_101, ins_101), rfl, mo_101, fun _ => cm_T_in 726 (by decide +kernel) (by decide +kernel), fun h => absurd rfl h⟩, fun h => absurd h (by decide), fun h => absurd h (by decide), fun h => absurd h (by decide), by decide⟩
set_option maxRecDepth 100000 in
theorem cco_92 : cm_cok ((6, 85), (0, 104)) := ⟨fun _ => ⟨(mi_104, ins_104), rfl, mo_104, fun _ => cm_T_in 629 (by decide +kernel) (by decide +kernel), fun h => absurd rfl h⟩, fun h => absurd h (by decide), fun h => absurd h (by decide), fun h => absurd h (by decide), by decide⟩
set_option maxRecDepth 100000 in
theorem cco_93 : cm_cok ((6, 88), (0, 105)) := ⟨fun _ => ⟨(mi_105, ins_105), rfl, mo_105, fun _ => cm_T_in 632 (by decide +kernel) (by decide +kernel), fun h => absurd rfl h⟩, fun h => absurd h (by decide), fun h => absurd h (by decide), fun h => absurd h (by decide), by decide⟩
set_option maxRecDepth 100000 in
theorem cco_94 : cm_cok ((6, 91), (0, 87)) := ⟨fun _ => ⟨(mi_87, ins_87), rfl, mo_87, fun _ => cm_T_in 639 (by decide +kernel) (by decide +kernel), fun h => absurd rfl h⟩, fun h => absurd h (by decide), fun h => absurd h (by decide), fun h => absurd h (by decide), by decide⟩
set_option maxRecDepth 100000 in
theorem cco_95 : cm_cok ((6, 94), (0, 107)) := ⟨fun _ => ⟨(mi_107, ins_107), rfl, mo_107, fun _ => cm_T_in 642 (by decide +kernel) (by decide +kernel), fun h => absurd rfl h⟩, fun h => absurd h (by decide), fun h => absurd h (by decide), fun h => absurd h (by decide), by decide⟩
set_option maxRecDepth 100000 in
theorem cco_96 : cm_cok ((6, 98), (0, 86)) := ⟨fun _ => ⟨(mi_86, ins_86), rfl, mo_86, fun _ => cm_T_in 654 (by decide +kernel) (by decide +kernel), fun h => absurd rfl h⟩, fun h => absurd h (by decide), fun h => absurd h (by decide), fun h => absurd h (by decide), by decide⟩
set_option maxRecDepth 100000 in
theorem cco_97 : cm_cok ((6, 101), (0, 99)) := ⟨fun _ => ⟨(mi_99, ins_99), rfl, mo_99, fun _ => cm_T_in 666 (by decide +kernel) (by decide +kernel), fun h => absurd rfl h⟩, fun h => absurd h (by decide), fun h => absurd h (by decide), fun h => absurd h (by decide), by decide⟩
set_option maxRecDepth 100000 in
theorem cco_98 : cm_cok ((6, 104), (0, 111)) := ⟨fun _ => ⟨(mi_111, ins_111), rfl, mo_111, fun _ => cm_T_in 686 (by decide +kernel) (by decide +kernel), fun h => absurd rfl h⟩, fun h => absurd h (by decide), fun h => absurd h (by decide), fun h => absurd h (by decide), by decide⟩
set_option maxRecDepth 100000 in
theorem cco_99 : cm_cok ((6, 108), (0, 103)) := ⟨fun _ => ⟨(mi_103, ins_103), rfl, mo_103, fun _ => cm_T_in 710 (by decide +kernel) (by decide +kernel), fun h => absurd rfl h⟩, fun h => absurd h (by decide), fun h => absurd h (by decide), fun h => absurd h (by decide), by decide⟩
set_option maxRecDepth 100000 in
theorem cco_100 : cm_cok ((6, 111), (0, 100)) := ⟨fun _ => ⟨(mi_100, ins_100), rfl, mo_100, fun _ => cm_T_in 698 (by decide +kernel) (by decide +kernel), fun h => absurd rfl h⟩, fun h => absurd h (by decide), fun h => absurd h (by decide), fun h => absurd h (by decide), by decide⟩
set_option maxRecDepth 100000 in
theorem cco_101 : cm_cok ((6, 114), (0, 114)) := ⟨fun _ => ⟨(mi_114, ins_114), rfl, mo_114, fun _ => cm_T_in 706 (by decide +kernel) (by decide +kernel), fun h => absurd rfl h⟩, fun h => absurd h (by decide), fun h => absurd h (by decide), fun h => absurd h (by decide), by decide⟩
set_option maxRecDepth 100000 in
theorem cco_102 : cm_cok ((6, 117), (0, 102)) := ⟨fun _ => ⟨(mi_102, ins_102), rfl, mo_102, fun _ => cm_T_in 722 (by decide +kernel) (by decide +kernel), fun h => absurd rfl h⟩, fun h => absurd h (by decide), fun h => absurd h (by decide), fun h => absurd h (by decide), by decide⟩
set_option maxRecDepth 100000 in
theorem cco_103 : cm_cok ((6, 120), (0, 118)) := ⟨fun _ => ⟨(mi_118, ins_118), rfl, mo_118, fun _ => cm_T_in 734 (by decide +kernel) (by decide +kernel), fun h => absurd rfl h⟩, fun h => absurd h (by decide), fun h => absurd h (by decide), fun h => absurd h (by decide), by decide⟩
set_option maxRecDepth 100000 in
theorem cco_104 : cm_cok ((6, 123), (0, 121)) := ⟨fun _ => ⟨(mi_121, ins_121), rfl, mo_121, fun _ => cm_T_in 742 (by decide +kernel) (by decide +kernel), fun h => absurd rfl h⟩, fun h => absurd h (by decide), fun h => absurd h (by decide), fun h => absurd h (by decide), by decide⟩
set_option maxRecDepth 100000 in
theorem cco_105 : cm_cok ((6, 127), (0, 120)) := ⟨fun _ => ⟨(mi_120, ins_120), rfl, mo_120, fun _ => cm_T_in 746 (by decide +kernel) (by decide +kernel), fun h => absurd rfl h⟩, fun h => absurd h (by decide), fun h => absurd h (by decide), fun h => absurd h (by decide), by decide⟩
set_option maxRecDepth 100000 in
theorem cco_106 : cm_cok ((6, 130), (0, 122)) := ⟨fun _ => ⟨(mi_122, ins_122), rfl, mo_122, fun _ => cm_T_in 750 (by decide +kernel) (by decide +kernel), fun h => absurd rfl h⟩, fun h => absurd h (by decide), fun h => absurd h (by decide), fun h => absurd h (by decide), by decide⟩
set_option maxRecDepth 100000 in
theorem cco_107 : cm_cok ((6, 136), (0, 124)) := ⟨fun _ => ⟨(mi_124, ins_124), rfl, mo_124, fun _ => cm_T_in 758 (by decide +kernel) (by decide +kernel), fun h => absurd rfl h⟩, fun h => absurd h (by decide), fun h => absurd h (by decide), fun h => absurd h (by decide), by decide⟩
set_option maxRecDepth 100000 in
theorem cco_108 : cm_cok ((6, 139), (0, 126)) := ⟨fun _ => ⟨(mi_126, ins_126), rfl, mo_126, fun _ => cm_T_in 766 (by decide +kernel) (by decide +kernel), fun h => absurd rfl h⟩, fun h => absurd h (by decide), fun h => absurd h (by decide), fun h => absurd h (by decide), by decide⟩
set_option maxRecDepth 100000 in
theorem cco_109 : cm_cok ((6, 142), (0, 88)) := ⟨fun _ => ⟨(mi_88, ins_88), rfl, mo_88, fun _ => cm_T_in 774 (by decide +kernel) (by decide +kernel), fun h => absurd rfl h⟩, fun h => absurd h (by decide), fun h => absurd h (by decide), fun h => absurd h (by decide), by decide⟩
set_option maxRecDepth 100000 in
theorem cco_110 : cm_cok ((6, 153), (0, 132)) := ⟨fun _ => ⟨(mi_132, ins_132), rfl, mo_132, fun _ => cm_T_in 802 (by decide +kernel) (by decide +kernel), fun h => absurd rfl h⟩, fun h => absurd h (by decide), fun h => absurd h (by decide), fun h => absurd h (by decide), by decide⟩
set_option maxRecDepth 100000 in
theorem cco_111 : cm_cok ((6, 156), (0, 133)) := ⟨fun _ => ⟨(mi_133, ins_133), rfl, mo_133, fun _ => cm_T_in 806 (by decide +kernel) (by decide +kernel), fun h => absurd rfl h⟩, fun h => absurd h (by decide), fun h => absurd h (by decide), fun h => absurd h (by decide), by decide⟩
set_option maxRecDepth 100000 in
theorem cco_112 : cm_cok ((6, 163), (0, 134)) := ⟨fun _ => ⟨(mi_134, ins_134), rfl, mo_134, fun _ => cm_T_in 810 (by decide +kernel) (by decide +kernel), fun h => absurd rfl h⟩, fun h => absurd h (by decide), fun h => absurd h (by decide), fun h => absurd h (by decide), by decide⟩
set_option maxRecDepth 100000 in
theorem cco_113 : cm_cok ((6, 166), (0, 135)) := ⟨fun _ => ⟨(mi_135, ins_135), rfl, mo_135, fun _ => cm_T_in 798 (by decide +kernel) (by decide +kernel), fun h => absurd rfl h⟩, fun h => absurd h (by decide), fun h => absurd h (by decide), fun h => absurd h (by decide), by decide⟩
set_option maxRecDepth 100000 in
theorem cco_114 : cm_cok ((6, 169), (0, 136)) := ⟨fun _ => ⟨(mi_136, ins_136), rfl, mo_136, fun _ => cm_T_in 794 (by decide +kernel) (by decide +kernel), fun h => absurd rfl h⟩, fun h => absurd h (by decide), fun h => absurd h (by decide), fun h => absurd h (by decide), by decide⟩
set_option maxRecDepth 100000 in
theorem cco_115 : cm_cok ((7, 9), (0, 55)) := ⟨fun _ => ⟨(mi_55, ins_55), rfl, mo_55, fun _ => cm_T_in 58 (by decide +kernel) (by decide +kernel), fun h => absurd rfl h⟩, fun h => absurd h (by decide), fun h => absurd h (by decide), fun h => absurd h (by decide), by decide⟩
set_option maxRecDepth 100000 in
theorem cco_116 : cm_cok ((7, 12), (0, 84)) := ⟨fun _ => ⟨(mi_84, ins_84), rfl, mo_84, fun _ => cm_T_in 550 (by decide +kernel) (by decide +kernel), fun h => absurd rfl h⟩, fun h => absurd h (by decide), fun h => absurd h (by decide), fun h => absurd h (by decide), by decide⟩
set_option maxRecDepth 100000 in
theorem cco_117 : cm_cok ((7, 13), (0, 56)) := ⟨fun _ => ⟨(mi_56, ins_56), rfl, mo_56, fun _ => cm_T_in 222 (by decide +kernel) (by decide +kernel), fun h => absurd rfl h⟩, fun h => absurd h (by decide), fun h => absurd h (by decide), fun h => absurd h (by decide), by decide⟩
set_option maxRecDepth 100000 in
theorem cco_118 : cm_cok ((7, 17), (0, 106)) := ⟨fun _ => ⟨(mi_106, ins_106), rfl, mo_106, fun _ => cm_T_in 625 (by decide +kernel) (by decide +kernel), fun h => absurd rfl h⟩, fun h => absurd h (by decide), fun h => absurd h (by decide), fun h => absurd h (by decide), by decide⟩
set_option maxRecDepth 100000 in
theorem cco_119 : cm_cok ((7, 18), (0, 57)) := ⟨fun _ => ⟨(mi_57, ins_57), rfl, mo_57, fun _ => cm_T_in 249 (by decide +kernel) (by decide +kernel), fun h => absurd rfl h⟩, fun h => absurd h (by decide), fun h => absurd h (by decide), fun h => absurd h (by decide), by decide⟩
set_option maxRecDepth 100000 in
theorem cco_120 : cm_cok ((7, 21), (0, 108)) := ⟨fun _ => ⟨(mi_108, ins_108), rfl, mo_108, fun _ => cm_T_in 635 (by decide +kernel) (by decide +kernel), fun h => absurd rfl h⟩, fun h => absurd h (by decide), fun h => absurd h (by decide), fun h => absurd h (by decide), by decide⟩
set_option maxRecDepth 100000 in
theorem cco_121 : cm_cok ((7, 22), (0, 58)) := ⟨fun _ => ⟨(mi_58, ins_58), rfl, mo_58, fun _ => cm_T_in 261 (by decide +kernel) (by decide +kernel), fun h => absurd rfl h⟩, fun h => absurd h (by decide), fun h => absurd h (by decide), fun h => absurd h (by decide), by decide⟩
set_option maxRecDepth 100000 in
theorem cco_122 : cm_cok ((7, 26), (0, 109)) := ⟨fun _ => ⟨(mi_109, ins_109), rfl, mo_109, fun _ => cm_T_in 646 (by decide +kernel) (by decide +kernel), fun h => absurd rfl h⟩, fun h => absurd h (by decide), fun h => absurd h (by decide), fun h => absurd h (by decide), by decide⟩
set_option maxRecDepth 100000 in
theorem cco_123 : cm_cok ((7, 27), (0, 59)) := ⟨fun _ => ⟨(mi_59, ins_59), rfl, mo_59, fun _ => cm_T_in 265 (by decide +kernel) (by decide +kernel), fun h => absurd rfl h⟩, fun h => absurd h (by decide), fun h => absurd h (by decide), fun h => absurd h (by decide), by decide⟩
set_option maxRecDepth 100000 in
theorem cco_124 : cm_cok ((7, 30), (0, 110)) := ⟨fun _ => ⟨(mi_110, ins_110), rfl, mo_110, fun _ => cm_T_in 650 (by decide +kernel) (by decide +kernel), fun h => absurd rfl h⟩, fun h => absurd h (by decide), fun h => absurd h (by decide), fun h => absurd h (by decide), by decide⟩
set_option maxRecDepth 100000 in
theorem cco_125 : cm_cok ((7, 31), (0, 60)) := ⟨fun _ => ⟨(mi_60, ins_60), rfl, mo_60, fun _ => cm_T_in 276 (by decide +kernel) (by decide +kernel), fun h => absurd rfl h⟩, fun h => absurd h (by decide), fun h => absurd h (by decide), fun h => absurd h (by decide), by decide⟩
set_option maxRecDepth 100000 in
theorem cco_126 : cm_cok ((7, 34), (0, 112)) := ⟨fun _ => ⟨(mi_112, ins_112), rfl, mo_112, fun _ => cm_T_in 662 (by decide +kernel) (by decide +kernel), fun h => absurd rfl h⟩, fun h => absurd h (by decide), fun h => absurd h (by decide), fun h => absurd h (by decide), by decide⟩
set_option maxRecDepth 100000 in
theorem cco_127 : cm_cok ((7, 35), (0, 61)) := ⟨fun _ => ⟨(mi_61, ins_61), rfl, mo_61, fun _ => cm_T_in 335 (by decide +kernel) (by decide +kernel), fun h => absurd rfl h⟩, fun h => absurd h (by decide), fun h => absurd h (by decide), fun h => absurd h (by decide), by decide⟩
set_option maxRecDepth 100000 in
theorem cco_128 : cm_cok ((7, 38), (0, 113)) := ⟨fun _ => ⟨(mi_113, ins_113), rfl, mo_113, fun _ => cm_T_in 690 (by decide +kernel) (by decide +kernel), fun h => absurd rfl h⟩, fun h => absurd h (by decide), fun h => absurd h (by decide), fun h => absurd h (by decide), by decide⟩
set_option maxRecDepth 100000 in
theorem cco_129 : cm_cok ((7, 39), (0, 62)) := ⟨fun _ => ⟨(mi_62, ins_62), rfl, mo_62, fun _ => cm_T_in 344 (by decide +kernel) (by decide +kernel), fun h => absurd rfl h⟩, fun h => absurd h (by decide), fun h => absurd h (by decide), fun h => absurd h (by decide), by decide⟩
set_option maxRecDepth 100000 in
theorem cco_130 : cm_cok ((7, 42), (0, 115)) := ⟨fun _ => ⟨(mi_115, ins_115), rfl, mo_115, fun _ => cm_T_in 694 (by decide +kernel) (by decide +kernel), fun h => absurd rfl h⟩, fun h => absurd h (by decide), fun h => absurd h (by decide), fun h => absurd h (by decide), by decide⟩
set_option maxRecDepth 100000 in
theorem cco_131 : cm_cok ((7, 43), (0, 63)) := ⟨fun _ => ⟨(mi_63, ins_63), rfl, mo_63, fun _ => cm_T_in 356 (by decide +kernel) (by decide +kernel), fun h => absurd rfl h⟩, fun h => absurd h (by decide), fun h => absurd h (by decide), fun h => absurd h (by decide), by decide⟩
set_option maxRecDepth 100000 in
theorem cco_132 : cm_cok ((7, 47), (0, 138)) := ⟨fun _ => ⟨(mi_138, ins_138), rfl, mo_138, fun _ => cm_T_in 814 (by decide +kernel) (by decide +kernel), fun h => absurd rfl h⟩, fun h => absurd h (by decide), fun h => absurd h (by decide), fun h => absurd h (by decide), by decide⟩
set_option maxRecDepth 100000 in
theorem cco_133 : cm_cok ((7, 48), (0, 64)) := ⟨fun _ => ⟨(mi_64, ins_64), rfl, mo_64, fun _ => cm_T_in 388 (by decide +kernel) (by decide +kernel), fun h => absurd rfl h⟩, fun h => absurd h (by decide), fun h => absurd h (by decide), fun h => absurd h (by decide), by decide⟩
set_option maxRecDepth 100000 in
theorem cco_134 : cm_cok ((7, 51), (0, 116)) := ⟨fun _ => ⟨(mi_116, ins_116), rfl, mo_116, fun _ => cm_T_in 714 (by decide +kernel) (by decide +kernel), fun h => absurd rfl h⟩, fun h => absurd h (by decide), fun h => absurd h (by decide), fun h => absurd h (by decide), by decide⟩
set_option maxRecDepth 100000 in
theorem cco_135 : cm_cok ((7, 52), (0, 65)) := ⟨fun _ => ⟨(mi_65, ins_65), rfl, mo_65, fun _ => cm_T_in 393 (by decide +kernel) (by decide +kernel), fun h => absurd rfl h⟩, fun h => absurd h (by decide), fun h => absurd h (by decide), fun h => absurd h (by decide), by decide⟩
set_option maxRecDepth 100000 in
theorem cco_136 : cm_cok ((7, 55), (0, 117)) := ⟨fun _ => ⟨(mi_117, ins_117), rfl, mo_117, fun _ => cm_T_in 718 (by decide +kernel) (by decide +kernel), fun h => absurd rfl h⟩, fun h => absurd h (by decide), fun h => absurd h (by decide), fun h => absurd h (by decide), by decide⟩
set_option maxRecDepth 100000 in
theorem cco_137 : cm_cok ((7, 56), (0, 66)) := ⟨fun _ => ⟨(mi_66, ins_66), rfl, mo_66, fun _ => cm_T_in 426 (by decide +kernel) (by decide +kernel), fun h => absurd rfl h⟩, fun h => absurd h (by decide), fun h => absurd h (by decide), fun h => absurd h (by decide), by decide⟩
set_option maxRecDepth 100000 in
theorem cco_138 : cm_cok ((7, 59), (0, 119)) := ⟨fun _ => ⟨(mi_119, ins_119), rfl, mo_119, fun _ => cm_T_in 730 (by decide +kernel) (by decide +kernel), fun h => absurd rfl h⟩, fun h => absurd h (by decide), fun h => absurd h (by decide), fun h => absurd h (by decide), by decide⟩
set_option maxRecDepth 100000 in
theorem cco_139 : cm_cok ((7, 60), (0, 67)) := ⟨fun _ => ⟨(mi_67, ins_67), rfl, mo_67, fun _ => cm_T_in 458 (by decide +kernel) (by decide +kernel), fun h => absurd rfl h⟩, fun h => absurd h (by decide), fun h => absurd h (by decide), fun h => absurd h (by decide), by decide⟩
set_option maxRecDepth 100000 in
theorem cco_140 : cm_cok ((7, 63), (0, 123)) := ⟨fun _ => ⟨(mi_123, ins_123), rfl, mo_123, fun _ => cm_T_in 738 (by decide +kernel) (by decide +kernel), fun h => absurd rfl h⟩, fun h => absurd h (by decide), fun h => absurd h (by decide), fun h => absurd h (by decide), by decide⟩
set_option maxRecDepth 100000 in
theorem cco_141 : cm_cok ((7, 64), (0, 68)) := ⟨fun _ => ⟨(mi_68, ins_68), rfl, mo_68, fun _ => cm_T_in 479 (by decide +kernel) (by decide +kernel), fun h => absurd rfl h⟩, fun h => absurd h (by decide), fun h => absurd h (by decide), fun h => absurd h (by decide), by decide⟩
set_option maxRecDepth 100000 in
theorem cco_142 : cm_cok ((7, 67), (0, 125)) := ⟨fun _ => ⟨(mi_125, ins_125), rfl, mo_125, fun _ => cm_T_in 754 (by decide +kernel) (by decide +kernel), fun h => absurd rfl h⟩, fun h => absurd h (by decide), fun h => absurd h (by decide), fun h => absurd h (by decide), by decide⟩
set_option maxRecDepth 100000 in
theorem cco_143 : cm_cok ((7, 68), (0, 69)) := ⟨fun _ => ⟨(mi_69, ins_69), rfl, mo_69, fun _ => cm_T_in 488 (by decide +kernel) (by decide +kernel), fun h => absurd rfl h⟩, fun h => absurd h (by decide), fun h => absurd h (by decide), fun h => absurd h (by decide), by decide⟩
set_option maxRecDepth 100000 in
theorem cco_144 : cm_cok ((7, 71), (0, 127)) := ⟨fun _ => ⟨(mi_127, ins_127), rfl, mo_127, fun _ => cm_T_in 762 (by decide +kernel) (by decide +kernel), fun h => absurd rfl h⟩, fun h => absurd h (by decide), fun h => absurd h (by decide), fun h => absurd h (by decide), by decide⟩
set_option maxRecDepth 100000 in
theorem cco_145 : cm_cok ((7, 72), (0, 70)) := ⟨fun _ => ⟨(mi_70, ins_70), rfl, mo_70, fun _ => cm_T_in 500 (by decide +kernel) (by decide +kernel), fun h => absurd rfl h⟩, fun h => absurd h (by decide), fun h => absurd h (by decide), fun h => absurd h (by decide), by decide⟩
set_option maxRecDepth 100000 in
theorem cco_146 : cm_cok ((7, 75), (0, 128)) := ⟨fun _ => ⟨(mi_128, ins_128), rfl, mo_128, fun _ => cm_T_in 770 (by decide +kernel) (by decide +kernel), fun h => absurd rfl h⟩, fun h => absurd h (by decide), fun h => absurd h (by decide), fun h => absurd h (by decide), by decide⟩
set_option maxRecDepth 100000 in
theorem cco_147 : cm_cok ((7, 76), (0, 71)) := ⟨fun _ => ⟨(mi_71, ins_71), rfl, mo_71, fun _ => cm_T_in 504 (by decide +kernel) (by decide +kernel), fun h => absurd rfl h⟩, fun h => absurd h (by decide), fun h => absurd h (by decide), fun h => absurd h (by decide), by decide⟩
set_option maxRecDepth 100000 in
theorem cco_148 : cm_cok ((7, 80), (0, 129)) := ⟨fun _ => ⟨(mi_129, ins_129), rfl, mo_129, fun _ => cm_T_in 777 (by decide +kernel) (by decide +kernel), fun h => absurd rfl h⟩, fun h => absurd h (by decide), fun h => absurd h (by decide), fun h => absurd h (by decide), by decide⟩
set_option maxRecDepth 100000 in
theorem cco_149 : cm_cok ((7, 83), (0, 72)) := ⟨fun _ => ⟨(mi_72, ins_72), rfl, mo_72, fun _ => cm_T_in 508 (by decide +kernel) (by decide +kernel), fun h => absurd rfl h⟩, fun h => absurd h (by decide), fun h => absurd h (by decide), fun h => absurd h (by decide), by decide⟩
set_option maxRecDepth 100000 in
theorem cco_150 : cm_cok ((7, 87), (0, 130)) := ⟨fun _ => ⟨(mi_130, ins_130), rfl, mo_130, fun _ => cm_T_in 781 (by decide +kernel) (by decide +kernel), fun h => absurd rfl h⟩, fun h => absurd h (by decide), fun h => absurd h (by decide), fun h => absurd h (by decide), by decide⟩
set_option maxRecDepth 100000 in
theorem cco_151 : cm_cok ((7, 88), (0, 73)) := ⟨fun _ => ⟨(mi_73, ins_73), rfl, mo_73, fun _ => cm_T_in 521 (by decide +kernel) (by decide +kernel), fun h => absurd rfl h⟩, fun h => absurd h (by decide), fun h => absurd h (by decide), fun h => absurd h (by decide), by decide⟩
set_option maxRecDepth 100000 in
theorem cco_152 : cm_cok ((7, 91), (0, 131)) := ⟨fun _ => ⟨(mi_131, ins_131), rfl, mo_131, fun _ => cm_T_in 786 (by decide +kernel) (by decide +kernel), fun h => absurd rfl h⟩, fun h => absurd h (by decide), fun h => absurd h (by decide), fun h => absurd h (by decide), by decide⟩
set_option maxRecDepth 100000 in
theorem cco_153 : cm_cok ((7, 92), (0, 74)) := ⟨fun _ => ⟨(mi_74, ins_74), rfl, mo_74, fun _ => cm_T_in 525 (by decide +kernel) (by decide +kernel), fun h => absurd rfl h⟩, fun h => absurd h (by decide), fun h => absurd h (by decide), fun h => absurd h (by decide), by decide⟩
set_option maxRecDepth 100000 in
theorem cco_154 : cm_cok ((7, 95), (0, 137)) := ⟨fun _ => ⟨(mi_137, ins_137), rfl, mo_137, fun _ => cm_T_in 790 (by decide +kernel) (by decide +kernel), fun h => absurd rfl h⟩, fun h => absurd h (by decide), fun h => absurd h (by decide), fun h => absurd h (by decide), by decide⟩
set_option maxRecDepth 100000 in
theorem cco_155 : cm_cok ((7, 96), (0, 75)) := ⟨fun _ => ⟨(mi_75, ins_75), rfl, mo_75, fun _ => cm_T_in 529 (by decide +kernel) (by decide +kernel), fun h => absurd rfl h⟩, fun h => absurd h (by decide), fun h => absurd h (by decide), fun h => absurd h (by decide), by decide⟩
set_option maxRecDepth 100000 in
theorem cco_156 : cm_cok ((7, 99), (0, 92)) := ⟨fun _ => ⟨(mi_92, ins_92), rfl, mo_92, fun _ => cm_T_in 606 (by decide +kernel) (by decide +kernel), fun h => absurd rfl h⟩, fun h => absurd h (by decide), fun h => absurd h (by decide), fun h => absurd h (by decide), by decide⟩
set_option maxRecDepth 100000 in
theorem cco_157 : cm_cok ((7, 100), (0, 76)) := ⟨fun _ => ⟨(mi_76, ins_76), rfl, mo_76, fun _ => cm_T_in 537 (by decide +kernel) (by decide +kernel), fun h => absurd rfl h⟩, fun h => absurd h (by decide), fun h => absurd h (by decide), fun h => absurd h (by decide), by decide⟩
set_option maxRecDepth 100000 in
theorem cco_158 : cm_cok ((7, 103), (0, 93)) := ⟨fun _ => ⟨(mi_93, ins_93), rfl, mo_93, fun _ => cm_T_in 610 (by decide +kernel) (by decide +kernel), fun h => absurd rfl h⟩, fun h => absurd h (by decide), fun h => absurd h (by decide), fun h => absurd h (by decide), by decide⟩
set_option maxRecDepth 100000 in
theorem cco_159 : cm_cok ((7, 104), (0, 77)) := ⟨fun _ => ⟨(mi_77, ins_77), rfl, mo_77, fun _ => cm_T_in 544 (by decide +kernel) (by decide +kernel), fun h => absurd rfl h⟩, fun h => absurd h (by decide), fun h => absurd h (by decide), fun h => absurd h (by decide), by decide⟩
set_option maxRecDepth 100000 in
theorem cco_160 : cm_cok ((7, 107), (0, 94)) := ⟨fun _ => ⟨(mi_94, ins_94), rfl, mo_94, fun _ => cm_T_in 617 (by decide +kernel) (by decide +kernel), fun h => absurd rfl h⟩, fun h => absurd h (by decide), fun h => absurd h (by decide), fun h => absurd h (by decide), by decide⟩
set_option maxRecDepth 100000 in
theorem cm_call_ok : ∀ e ∈ cm_call, cm_cok e := List.forall_mem_cons.mpr ⟨cco_0, List.forall_mem_cons.mpr ⟨cco_1, List.forall_mem_cons.mpr ⟨cco_2, List.forall_mem_cons.mpr ⟨cco_3, List.forall_mem_cons.mpr ⟨cco_4, List.forall_mem_cons.mpr ⟨cco_5, List.forall_mem_cons.mpr ⟨cco_6, List.forall_mem_cons.mpr ⟨cco_7, List.forall_mem_cons.mpr ⟨cco_8, List.forall_mem_cons.mpr ⟨cco_9, List.forall_mem_cons.mpr ⟨cco_10, List.forall_mem_cons.mpr ⟨cco_11, List.forall_mem_cons.mpr ⟨cco_12, List.forall_mem_cons.mpr ⟨cco_13, List.forall_mem_cons.mpr ⟨cco_14, List.forall_mem_cons.mpr ⟨cco_15, List.forall_mem_cons.mpr ⟨cco_16, List.forall_mem_cons.mpr ⟨cco_17, List.forall_mem_cons.mpr ⟨cco_18, List.forall_mem_cons.mpr ⟨cco_19, List.forall_mem_cons.mpr ⟨cco_20, List.forall_mem_cons.mpr ⟨cco_21, List.forall_mem_cons.mpr ⟨cco_22, List.forall_mem_cons.mpr ⟨cco_23, List.forall_mem_cons.mpr ⟨cco_24, List.forall_mem_cons.mpr ⟨cco_25, List.forall_mem_cons.mpr ⟨cco_26, List.forall_mem_cons.mpr ⟨cco_27, List.forall_mem_cons.mpr ⟨cco_28, List.forall_mem_cons.mpr ⟨cco_29, List.forall_mem_cons.mpr ⟨cco_30, List.forall_mem_cons.mpr ⟨cco_31, List.forall_mem_cons.mpr ⟨cco_32, List.forall_mem_cons.mpr ⟨cco_33, List.forall_mem_cons.mpr ⟨cco_34, List.forall_mem_cons.mpr ⟨cco_35, List.forall_mem_cons.mpr ⟨cco_36, List.forall_mem_cons.mpr ⟨cco_37, List.forall_mem_cons.mpr ⟨cco_38, List.forall_mem_cons.mpr ⟨cco_39, List.forall_mem_cons.mpr ⟨cco_40, List.forall_mem_cons.mpr ⟨cco_41, List.forall_mem_cons.mpr ⟨cco_42, List.forall_mem_cons.mpr ⟨cco_43, List.forall_mem_cons.mpr ⟨cco_44, List.forall_mem_cons.mpr ⟨cco_45, List.forall_mem_cons.mpr ⟨cco_46, List.forall_mem_cons.mpr ⟨cco_47, List.forall_mem_cons.mpr ⟨cco_48, List.forall_mem_cons.mpr ⟨cco_49, List.forall_mem_cons.mpr ⟨cco_50, List.forall_mem_cons.mpr ⟨cco_51, List.forall_mem_cons.mpr ⟨cco_52, List.forall_mem_cons.mpr ⟨cco_53, List.forall_mem_cons.mpr ⟨cco_54, List.forall_mem_cons.mpr ⟨cco_55, List.forall_mem_cons.mpr ⟨cco_56, List.forall_mem_cons.mpr ⟨cco_57, List.forall_mem_cons.mpr ⟨cco_58, List.forall_mem_cons.mpr ⟨cco_59, List.forall_mem_cons.mpr ⟨cco_60, List.forall_mem_cons.mpr ⟨cco_61, List.forall_mem_cons.mpr ⟨cco_62, List.forall_mem_cons.mpr ⟨cco_63, List.forall_mem_cons.mpr ⟨cco_64, List.forall_mem_cons.mpr ⟨cco_65, List.forall_mem_cons.mpr ⟨cco_66, List.forall_mem_cons.mpr ⟨cco_67, List.forall_mem_cons.mpr ⟨cco_68, List.forall_mem_cons.mpr ⟨cco_69, List.forall_mem_cons.mpr ⟨cco_70, List.forall_mem_cons.mpr ⟨cco_71, List.forall_mem_cons.mpr ⟨cco_72, List.forall_mem_cons.mpr ⟨cco_73, List.forall_mem_cons.mpr ⟨cco_74, List.forall_mem_cons.mpr ⟨cco_75, List.forall_mem_cons.mpr ⟨cco_76, List.forall_mem_cons.mpr ⟨cco_77, List.forall_mem_cons.mpr ⟨cco_78, List.forall_mem_cons.mpr ⟨cco_79, List.forall_mem_cons.mpr ⟨cco_80, List.forall_mem_cons.mpr ⟨cco_81, List.forall_mem_cons.mpr ⟨cco_82, List.forall_mem_cons.mpr ⟨cco_83, List.forall_mem_cons.mpr ⟨cco_84, List.forall_mem_cons.mpr ⟨cco_85, List.forall_mem_cons.mpr ⟨cco_86, List.forall_mem_cons.mpr ⟨cco_87, List.forall_mem_cons.mpr ⟨cco_88, List.forall_mem_cons.mpr ⟨cco_89, List.forall_mem_cons.mpr ⟨cco_90, List.forall_mem_cons.mpr ⟨cco_91, List.forall_mem_cons.mpr ⟨cco_92, List.forall_mem_cons.mpr ⟨cco_93, List.forall_mem_cons.mpr ⟨cco_94, List.forall_mem_cons.mpr ⟨cco_95, List.forall_mem_cons.mpr ⟨cco_96, List.forall_mem_cons.mpr ⟨cco_97, List.forall_mem_cons.mpr ⟨cco_98, List.forall_mem_cons.mpr ⟨cco_99, List.forall_mem_cons.mpr ⟨cco_100, List.forall_mem_cons.mpr ⟨cco_101, List.forall_mem_cons.mpr ⟨cco_102, List.forall_mem_cons.mpr ⟨cco_103, List.forall_mem_cons.mpr ⟨cco_104, List.forall_mem_cons.mpr ⟨cco_105, List.forall_mem_cons.mpr ⟨cco_106, List.forall_mem_cons.mpr ⟨cco_107, List.forall_mem_cons.mpr ⟨cco_108, List.forall_mem_cons.mpr ⟨cco_109, List.forall_mem_cons.mpr ⟨cco_110, List.forall_mem_cons.mpr ⟨cco_111, List.forall_mem_cons.mpr ⟨cco_112, List.forall_mem_cons.mpr ⟨cco_113, List.forall_mem_cons.mpr ⟨cco_114, List.forall_mem_cons.mpr ⟨cco_115, List.forall_mem_cons.mpr ⟨cco_116, List.forall_mem_cons.mpr ⟨cco_117, List.forall_mem_cons.mpr ⟨cco_118, List.forall_mem_cons.mpr ⟨cco_119, List.forall_mem_cons.mpr ⟨cco_120, List.forall_mem_cons.mpr ⟨cco_121, List.forall_mem_cons.mpr ⟨cco_122, List.forall_mem_cons.mpr ⟨cco_123, List.forall_mem_cons.mpr ⟨cco_124, List.forall_mem_cons.mpr ⟨cco_125, List.forall_mem_cons.mpr ⟨cco_126, List.forall_mem_cons.mpr ⟨cco_127, List.forall_mem_cons.mpr ⟨cco_128, List.forall_mem_cons.mpr ⟨cco_129, List.forall_mem_cons.mpr ⟨cco_130, List.forall_mem_cons.mpr ⟨cco_131, List.forall_mem_cons.mpr ⟨cco_132, List.forall_mem_cons.mpr ⟨cco_133, List.forall_mem_cons.mpr ⟨cco_134, List.forall_mem_cons.mpr ⟨cco_135, List.forall_mem_cons.mpr ⟨cco_136, List.forall_mem_cons.mpr ⟨cco_137, List.forall_mem_cons.mpr ⟨cco_138, List.forall_mem_cons.mpr ⟨cco_139, List.forall_mem_cons.mpr ⟨cco_140, List.forall_mem_cons.mpr ⟨cco_141, List.forall_mem_cons.mpr ⟨cco_142, List.forall_mem_cons.mpr ⟨cco_143, List.forall_mem_cons.mpr ⟨cco_144, List.forall_mem_cons.mpr ⟨cco_145, List.forall_mem_cons.mpr ⟨cco_146, List.forall_mem_cons.mpr ⟨cco_147, List.forall_mem_cons.mpr ⟨cco_148, List.forall_mem_cons.mpr ⟨cco_149, List.forall_mem_cons.mpr ⟨cco_150, List.forall_mem_cons.mpr ⟨cco_151, List.forall_mem_cons.mpr ⟨cco_152, List.forall_mem_cons.mpr ⟨cco_153, List.forall_mem_cons.mpr ⟨cco_154, List.forall_mem_cons.mpr ⟨cco_155, List.forall_mem_cons.mpr ⟨cco_156, List.forall_mem_cons.mpr ⟨cco_157, List.forall_mem_cons.mpr ⟨cco_158, List.forall_mem_cons.mpr ⟨cco_159, List.forall_mem_cons.mpr ⟨cco_160, fun _ h => absurd h List.not_mem_nil⟩⟩⟩⟩⟩⟩⟩⟩⟩⟩⟩⟩⟩⟩⟩⟩⟩⟩⟩⟩⟩⟩⟩⟩⟩⟩⟩⟩⟩⟩⟩⟩⟩⟩⟩⟩⟩⟩⟩⟩⟩⟩⟩⟩⟩⟩⟩⟩⟩⟩⟩⟩⟩⟩⟩⟩⟩⟩⟩⟩⟩⟩⟩⟩⟩⟩⟩⟩⟩⟩⟩⟩⟩⟩⟩⟩⟩⟩⟩⟩⟩⟩⟩⟩⟩⟩⟩⟩⟩⟩⟩⟩⟩⟩⟩⟩⟩⟩⟩⟩⟩⟩⟩⟩⟩⟩⟩⟩⟩⟩⟩⟩⟩⟩⟩⟩⟩⟩⟩⟩⟩⟩⟩⟩⟩⟩⟩⟩⟩⟩⟩⟩⟩⟩⟩⟩⟩⟩⟩⟩⟩⟩⟩⟩⟩⟩⟩⟩⟩⟩⟩⟩⟩⟩⟩⟩⟩⟩⟩⟩⟩
def cm_dok (q : cm_Q) : Prop := (q.2).all (fun e => decide (decode q.1.2.1 e.1 = .ok e.2)) = true
set_option maxRecDepth 100000 in
theorem cm_P_dok : ∀ q ∈ cm_P, cm_dok q := List.forall_mem_cons.mpr ⟨chk_0, List.forall_mem_cons.mpr ⟨chk_1, List.forall_mem_cons.mpr ⟨chk_2, List.forall_mem_cons.mpr ⟨chk_3, List.forall_mem_cons.mpr ⟨chk_4, List.forall_mem_cons.mpr ⟨chk_5, List.forall_mem_cons.mpr ⟨chk_6, List.forall_mem_cons.mpr ⟨chk_7, List.forall_mem_cons.mpr ⟨chk_8, List.forall_mem_cons.mpr ⟨chk_9, List.forall_mem_cons.mpr ⟨chk_10, List.forall_mem_cons.mpr ⟨chk_11, List.forall_mem_cons.mpr ⟨chk_12, List.forall_mem_cons.mpr ⟨chk_13, List.forall_mem_cons.mpr ⟨chk_14, List.forall_mem_cons.mpr ⟨chk_15, List.forall_mem_cons.mpr ⟨chk_16, List.forall_mem_cons.mpr ⟨chk_17, List.forall_mem_cons.mpr ⟨chk_18, List.forall_mem_cons.mpr ⟨chk_19, List.forall_mem_cons.mpr ⟨chk_20, List.forall_mem_cons.mpr ⟨chk_21, List.forall_mem_cons.mpr ⟨chk_22, List.forall_mem_cons.mpr ⟨chk_23, List.forall_mem_cons.mpr ⟨chk_24, List.forall_mem_cons.mpr ⟨chk_25, List.forall_mem_cons.mpr ⟨chk_26, List.forall_mem_cons.mpr ⟨chk_27, List.forall_mem_cons.mpr ⟨chk_28, List.forall_mem_cons.mpr ⟨chk_29, List.forall_mem_cons.mpr ⟨chk_30, List.forall_mem_cons.mpr ⟨chk_31, List.forall_mem_cons.mpr ⟨chk_32, List.forall_mem_cons.mpr ⟨chk_33, List.forall_mem_cons.mpr ⟨chk_34, List.forall_mem_cons.mpr ⟨chk_35, List.forall_mem_cons.mpr ⟨chk_36, List.forall_mem_cons.mpr ⟨chk_37, List.forall_mem_cons.mpr ⟨chk_38, List.forall_mem_cons.mpr ⟨chk_39, List.forall_mem_cons.mpr ⟨chk_40, List.forall_mem_cons.mpr ⟨chk_41, List.forall_mem_cons.mpr ⟨chk_42, List.forall_mem_cons.mpr ⟨chk_43, List.forall_mem_cons.mpr ⟨chk_44, List.forall_mem_cons.mpr ⟨chk_45, List.forall_mem_cons.mpr ⟨chk_46, List.forall_mem_cons.mpr ⟨chk_47, List.forall_mem_cons.mpr ⟨chk_48, List.forall_mem_cons.mpr ⟨chk_49, List.forall_mem_cons.mpr ⟨chk_50, List.forall_mem_cons.mpr ⟨chk_51, List.forall_mem_cons.mpr ⟨chk_52, List.forall_mem_cons.mpr ⟨chk_53, List.forall_mem_cons.mpr ⟨chk_54, List.forall_mem_cons.mpr ⟨chk_55, List.forall_mem_cons.mpr ⟨chk_56, List.forall_mem_cons.mpr ⟨chk_57, List.forall_mem_cons.mpr ⟨chk_58, List.forall_mem_cons.mpr ⟨chk_59, List.forall_mem_cons.mpr ⟨chk_60, List.forall_mem_cons.mpr ⟨chk_61, List.forall_mem_cons.mpr ⟨chk_62, List.forall_mem_cons.mpr ⟨chk_63, List.forall_mem_cons.mpr ⟨chk_64, List.forall_mem_cons.mpr ⟨chk_65, List.forall_mem_cons.mpr ⟨chk_66, List.forall_mem_cons.mpr ⟨chk_67, List.forall_mem_cons.mpr ⟨chk_68, List.forall_mem_cons.mpr ⟨chk_69, List.forall_mem_cons.mpr ⟨chk_70, List.forall_mem_cons.mpr ⟨chk_71, List.forall_mem_cons.mpr ⟨chk_72, List.forall_mem_cons.mpr ⟨chk_73, List.forall_mem_cons.mpr ⟨chk_74, List.forall_mem_cons.mpr ⟨chk_75, List.forall_mem_cons.mpr ⟨chk_76, List.forall_mem_cons.mpr ⟨chk_77, List.forall_mem_cons.mpr ⟨chk_78, List.forall_mem_cons.mpr ⟨chk_79, List.forall_mem_cons.mpr ⟨chk_80, List.forall_mem_cons.mpr ⟨chk_81, List.forall_mem_cons.mpr ⟨chk_82, List.forall_mem_cons.mpr ⟨chk_83, List.forall_mem_cons.mpr ⟨chk_84, List.forall_mem_cons.mpr ⟨chk_85, List.forall_mem_cons.mpr ⟨chk_86, List.forall_mem_cons.mpr ⟨chk_87, List.forall_mem_cons.mpr ⟨chk_88, List.forall_mem_cons.mpr ⟨chk_89, List.forall_mem_cons.mpr ⟨chk_90, List.forall_mem_cons.mpr ⟨chk_91, List.forall_mem_cons.mpr ⟨chk_92, List.forall_mem_cons.mpr ⟨chk_93, List.forall_mem_cons.mpr ⟨chk_94, List.forall_mem_cons.mpr ⟨chk_95, List.forall_mem_cons.mpr ⟨chk_96, List.forall_mem_cons.mpr ⟨chk_97, List.forall_mem_cons.mpr ⟨chk_98, List.forall_mem_cons.mpr ⟨chk_99, List.forall_mem_cons.mpr ⟨chk_100, List.forall_mem_cons.mpr ⟨chk_101, List.forall_mem_cons.mpr ⟨chk_102, List.forall_mem_cons.mpr ⟨chk_103, List.forall_mem_cons.mpr ⟨chk_104, List.forall_mem_cons.mpr ⟨chk_105, List.forall_mem_cons.mpr ⟨chk_106, List.forall_mem_cons.mpr ⟨chk_107, List.forall_mem_cons.mpr ⟨chk_108, List.forall_mem_cons.mpr ⟨chk_109, List.forall_mem_cons.mpr ⟨chk_110, List.forall_mem_cons.mpr ⟨chk_111, List.forall_mem_cons.mpr ⟨chk_112, List.forall_mem_cons.mpr ⟨chk_113, List.forall_mem_cons.mpr ⟨chk_114, List.forall_mem_cons.mpr ⟨chk_115, List.forall_mem_cons.mpr ⟨chk_116, List.forall_mem_cons.mpr ⟨chk_117, List.forall_mem_cons.mpr ⟨chk_118, List.forall_mem_cons.mpr ⟨chk_119, List.forall_mem_cons.mpr ⟨chk_120, List.forall_mem_cons.mpr ⟨chk_121, List.forall_mem_cons.mpr ⟨chk_122, List.forall_mem_cons.mpr ⟨chk_123, List.forall_mem_cons.mpr ⟨chk_124, List.forall_mem_cons.mpr ⟨chk_125, List.forall_mem_cons.mpr ⟨chk_126, List.forall_mem_cons.mpr ⟨chk_127, List.forall_mem_cons.mpr ⟨chk_128, List.forall_mem_cons.mpr ⟨chk_129, List.forall_mem_cons.mpr ⟨chk_130, List.forall_mem_cons.mpr ⟨chk_131, List.forall_mem_cons.mpr ⟨chk_132, List.forall_mem_cons.mpr ⟨chk_133, List.forall_mem_cons.mpr ⟨chk_134, List.forall_mem_cons.mpr ⟨chk_135, List.forall_mem_cons.mpr ⟨chk_136, List.forall_mem_cons.mpr ⟨chk_137, List.forall_mem_cons.mpr ⟨chk_138, List.forall_mem_cons.mpr ⟨chk_139, fun _ h => absurd h List.not_mem_nil⟩⟩⟩⟩⟩⟩⟩⟩⟩⟩⟩⟩⟩⟩⟩⟩⟩⟩⟩⟩⟩⟩⟩⟩⟩⟩⟩⟩⟩⟩⟩⟩⟩⟩⟩⟩⟩⟩⟩⟩⟩⟩⟩⟩⟩⟩⟩⟩⟩⟩⟩⟩⟩⟩⟩⟩⟩⟩⟩⟩⟩⟩⟩⟩⟩⟩⟩⟩⟩⟩⟩⟩⟩⟩⟩⟩⟩⟩⟩⟩⟩⟩⟩⟩⟩⟩⟩⟩⟩⟩⟩⟩⟩⟩⟩⟩⟩⟩⟩⟩⟩⟩⟩⟩⟩⟩⟩⟩⟩⟩⟩⟩⟩⟩⟩⟩⟩⟩⟩⟩⟩⟩⟩⟩⟩⟩⟩⟩⟩⟩⟩⟩⟩⟩⟩⟩⟩⟩⟩⟩
theorem cm_at_mem : ∀ {l : List (Nat × Instr × Nat)} {pc : Nat} {i : Instr × Nat}, cm_at l pc = some i → (pc, i) ∈ l
  | [], _, _, h => by cases h
  | e :: l, pc, i, h => by
    unfold cm_at at h
    by_cases he : e.1 = pc
    · rw [if_pos he] at h
      cases h
      subst he
      exact List.mem_cons_self
    · rw [if_neg he] at h
      exact List.mem_cons_of_mem _ (cm_at_mem h)
theorem cm_dec {μ pc : Nat} {q : cm_Q} {i : Instr × Nat} (hq : cm_P[μ]? = some q) (h : cm_at q.2 pc = some i) : decode q.1.2.1 pc = .ok i := by
  have h1 := List.all_eq_true.mp (cm_P_dok q (List.mem_of_getElem? hq)) _ (cm_at_mem h)
  exact of_decide_eq_true h1
theorem cm_as_mem {α : Type} : ∀ {l : List ((Nat × Nat) × α)} {a b : Nat} {v : α}, cm_as l a b = some v → ((a, b), v) ∈ l
  | [], _, _, _, h => by cases h
  | e :: l, a, b, v, h => by
    unfold cm_as at h
    by_cases he : e.1.1 = a ∧ e.1.2 = b
    · rw [if_pos he] at h
      cases h
      obtain ⟨⟨x, y⟩, z⟩ := e
      obtain ⟨rfl, rfl⟩ := he
      exact List.mem_cons_self
    · rw [if_neg he] at h
      exact List.mem_cons_of_mem _ (cm_as_mem h)
def cm_clok (ci : Nat) : Prop := ∃ r ty, vwCl[ci]? = some r ∧ cm_ty[ci]? = some ty ∧ r.1 = cm_cn ci ∧ (∀ w ∈ u_ws r.1 r.2.1 r.2.2, w ∈ cm_T) ∧ (∀ k, k < r.2.2 → parseFieldDescriptor (r.2.1 k).2.2.1 = some (ty k)) ∧ (∀ a, a < r.2.2 → ∀ b, b < r.2.2 → a ≠ b → (r.2.1 a).2.1 ≠ (r.2.1 b).2.1) ∧ .instantiable r.1 r.2.2 ∈ cm_T ∧ .initialized r.1 ∈ cm_T ∧ (cm_ft[ci]?).map List.length = some r.2.2 ∧ (∀ k, k < r.2.2 → (cm_fk ci k = some 0 ∧ ty k = .int) ∨ (cm_fk ci k = some 2 ∧ ((∃ x, ty k = .array x) ∨ ∃ x, ty k = .object x))) ∧ (∀ k, k < r.2.2 → (r.2.1 k).1 = r.1)
set_option maxRecDepth 100000 in
theorem lo_0 : cm_clok 0 := ⟨_, _, rfl, rfl, rfl, (show ∀ w ∈ [u_lay RX0 TX0 0, u_lay RX0 TX0 1, u_lay RX0 TX0 2, u_lay RX0 TX0 3, u_lay RX0 TX0 4, u_lay RX0 TX0 5, u_lay RX0 TX0 6, u_lay RX0 TX0 7, u_lay RX0 TX0 8], w ∈ cm_T from List.forall_mem_cons.mpr ⟨cm_T_in 125 (by decide +kernel) (by decide +kernel), List.forall_mem_cons.mpr ⟨cm_T_in 127 (by decide +kernel) (by decide +kernel), List.forall_mem_cons.mpr ⟨cm_T_in 129 (by decide +kernel) (by decide +kernel), List.forall_mem_cons.mpr ⟨cm_T_in 131 (by decide +kernel) (by decide +kernel), List.forall_mem_cons.mpr ⟨cm_T_in 133 (by decide +kernel) (by decide +kernel), List.forall_mem_cons.mpr ⟨cm_T_in 135 (by decide +kernel) (by decide +kernel), List.forall_mem_cons.mpr ⟨cm_T_in 137 (by decide +kernel) (by decide +kernel), List.forall_mem_cons.mpr ⟨cm_T_in 139 (by decide +kernel) (by decide +kernel), List.forall_mem_cons.mpr ⟨cm_T_in 141 (by decide +kernel) (by decide +kernel), fun _ h => absurd h List.not_mem_nil⟩⟩⟩⟩⟩⟩⟩⟩⟩), tyX0_ok, nmX0, cm_T_in 107 (by decide +kernel) (by decide +kernel), cm_T_in 50 (by decide +kernel) (by decide +kernel), rfl, fun k (hk : k < 9) => (match k, hk with | 0, _ => Or.inr ⟨rfl, Or.inr ⟨_, rfl⟩⟩ | 1, _ => Or.inr ⟨rfl, Or.inl ⟨_, rfl⟩⟩ | 2, _ => Or.inr ⟨rfl, Or.inl ⟨_, rfl⟩⟩ | 3, _ => Or.inr ⟨rfl, Or.inl ⟨_, rfl⟩⟩ | 4, _ => Or.inl ⟨rfl, rfl⟩ | 5, _ => Or.inr ⟨rfl, Or.inl ⟨_, rfl⟩⟩ | 6, _ => Or.inr ⟨rfl, Or.inl ⟨_, rfl⟩⟩ | 7, _ => Or.inr ⟨rfl, Or.inl ⟨_, rfl⟩⟩ | 8, _ => Or.inl ⟨rfl, rfl⟩ | k + 9, hk => absurd hk (by omega)), fun k (hk : k < 9) => (match k, hk with | 0, _ => rfl | 1, _ => rfl | 2, _ => rfl | 3, _ => rfl | 4, _ => rfl | 5, _ => rfl | 6, _ => rfl | 7, _ => rfl | 8, _ => rfl | k + 9, hk => absurd hk (by omega))⟩
set_option maxRecDepth 100000 in
theorem lo_1 : cm_clok 1 := ⟨_, _, rfl, rfl, rfl, (show ∀ w ∈ [u_lay RX1 TX1 0, u_lay RX1 TX1 1, u_lay RX1 TX1 2, u_lay RX1 TX1 3, u_lay RX1 TX1 4, u_lay RX1 TX1 5], w ∈ cm_T from List.forall_mem_cons.mpr ⟨cm_T_in 92 (by decide +kernel) (by decide +kernel), List.forall_mem_cons.mpr ⟨cm_T_in 94 (by decide +kernel) (by decide +kernel), List.forall_mem_cons.mpr ⟨cm_T_in 96 (by decide +kernel) (by decide +kernel), List.forall_mem_cons.mpr ⟨cm_T_in 98 (by decide +kernel) (by decide +kernel), List.forall_mem_cons.mpr ⟨cm_T_in 100 (by decide +kernel) (by decide +kernel), List.forall_mem_cons.mpr ⟨cm_T_in 102 (by decide +kernel) (by decide +kernel), fun _ h => absurd h List.not_mem_nil⟩⟩⟩⟩⟩⟩), tyX1_ok, nmX1, cm_T_in 65 (by decide +kernel) (by decide +kernel), cm_T_in 48 (by decide +kernel) (by decide +kernel), rfl, fun k (hk : k < 6) => (match k, hk with | 0, _ => Or.inr ⟨rfl, Or.inl ⟨_, rfl⟩⟩ | 1, _ => Or.inr ⟨rfl, Or.inl ⟨_, rfl⟩⟩ | 2, _ => Or.inr ⟨rfl, Or.inl ⟨_, rfl⟩⟩ | 3, _ => Or.inr ⟨rfl, Or.inl ⟨_, rfl⟩⟩ | 4, _ => Or.inr ⟨rfl, Or.inl ⟨_, rfl⟩⟩ | 5, _ => Or.inl ⟨rfl, rfl⟩ | k + 6, hk => absurd hk (by omega)), fun k (hk : k < 6) => (match k, hk with | 0, _ => rfl | 1, _ => rfl | 2, _ => rfl | 3, _ => rfl | 4, _ => rfl | 5, _ => rfl | k + 6, hk => absurd hk (by omega))⟩
set_option maxRecDepth 100000 in
theorem lo_2 : cm_clok 2 := ⟨_, _, rfl, rfl, rfl, (show ∀ w ∈ [u_lay RX2 TX2 0, u_lay RX2 TX2 1, u_lay RX2 TX2 2], w ∈ cm_T from List.forall_mem_cons.mpr ⟨cm_T_in 175 (by decide +kernel) (by decide +kernel), List.forall_mem_cons.mpr ⟨cm_T_in 177 (by decide +kernel) (by decide +kernel), List.forall_mem_cons.mpr ⟨cm_T_in 179 (by decide +kernel) (by decide +kernel), fun _ h => absurd h List.not_mem_nil⟩⟩⟩), tyX2_ok, nmX2, cm_T_in 163 (by decide +kernel) (by decide +kernel), cm_T_in 52 (by decide +kernel) (by decide +kernel), rfl, fun k (hk : k < 3) => (match k, hk with | 0, _ => Or.inr ⟨rfl, Or.inl ⟨_, rfl⟩⟩ | 1, _ => Or.inl ⟨rfl, rfl⟩ | 2, _ => Or.inl ⟨rfl, rfl⟩ | k + 3, hk => absurd hk (by omega)), fun k (hk : k < 3) => (match k, hk with | 0, _ => rfl | 1, _ => rfl | 2, _ => rfl | k + 3, hk => absurd hk (by omega))⟩
set_option maxRecDepth 100000 in
theorem lo_3 : cm_clok 3 := ⟨_, _, rfl, rfl, rfl, (show ∀ w ∈ [u_lay RX3 TX3 0, u_lay RX3 TX3 1, u_lay RX3 TX3 2], w ∈ cm_T from List.forall_mem_cons.mpr ⟨cm_T_in 154 (by decide +kernel) (by decide +kernel), List.forall_mem_cons.mpr ⟨cm_T_in 156 (by decide +kernel) (by decide +kernel), List.forall_mem_cons.mpr ⟨cm_T_in 158 (by decide +kernel) (by decide +kernel), fun _ h => absurd h List.not_mem_nil⟩⟩⟩), tyX3_ok, nmX3, cm_T_in 145 (by decide +kernel) (by decide +kernel), cm_T_in 51 (by decide +kernel) (by decide +kernel), rfl, fun k (hk : k < 3) => (match k, hk with | 0, _ => Or.inr ⟨rfl, Or.inl ⟨_, rfl⟩⟩ | 1, _ => Or.inl ⟨rfl, rfl⟩ | 2, _ => Or.inl ⟨rfl, rfl⟩ | k + 3, hk => absurd hk (by omega)), fun k (hk : k < 3) => (match k, hk with | 0, _ => rfl | 1, _ => rfl | 2, _ => rfl | k + 3, hk => absurd hk (by omega))⟩
set_option maxRecDepth 100000 in
theorem lo_4 : cm_clok 4 := ⟨_, _, rfl, rfl, rfl, (show ∀ w ∈ [u_lay RX4 TX4 0, u_lay RX4 TX4 1], w ∈ cm_T from List.forall_mem_cons.mpr ⟨cm_T_in 194 (by decide +kernel) (by decide +kernel), List.forall_mem_cons.mpr ⟨cm_T_in 196 (by decide +kernel) (by decide +kernel), fun _ h => absurd h List.not_mem_nil⟩⟩), tyX4_ok, nmX4, cm_T_in 183 (by decide +kernel) (by decide +kernel), cm_T_in 53 (by decide +kernel) (by decide +kernel), rfl, fun k (hk : k < 2) => (match k, hk with | 0, _ => Or.inr ⟨rfl, Or.inl ⟨_, rfl⟩⟩ | 1, _ => Or.inr ⟨rfl, Or.inl ⟨_, rfl⟩⟩ | k + 2, hk => absurd hk (by omega)), fun k (hk : k < 2) => (match k, hk with | 0, _ => rfl | 1, _ => rfl | k + 2, hk => absurd hk (by omega))⟩
set_option maxRecDepth 100000 in
theorem lo_5 : cm_clok 5 := ⟨_, _, rfl, rfl, rfl, (show ∀ w ∈ [u_lay RX5 TX5 0, u_lay RX5 TX5 1, u_lay RX5 TX5 2, u_lay RX5 TX5 3, u_lay RX5 TX5 4, u_lay RX5 TX5 5, u_lay RX5 TX5 6], w ∈ cm_T from List.forall_mem_cons.mpr ⟨cm_T_in 207 (by decide +kernel) (by decide +kernel), List.forall_mem_cons.mpr ⟨cm_T_in 209 (by decide +kernel) (by decide +kernel), List.forall_mem_cons.mpr ⟨cm_T_in 211 (by decide +kernel) (by decide +kernel), List.forall_mem_cons.mpr ⟨cm_T_in 213 (by decide +kernel) (by decide +kernel), List.forall_mem_cons.mpr ⟨cm_T_in 215 (by decide +kernel) (by decide +kernel), List.forall_mem_cons.mpr ⟨cm_T_in 217 (by decide +kernel) (by decide +kernel), List.forall_mem_cons.mpr ⟨cm_T_in 219 (by decide +kernel) (by decide +kernel), fun _ h => absurd h List.not_mem_nil⟩⟩⟩⟩⟩⟩⟩), tyX5_ok, nmX5, cm_T_in 57 (by decide +kernel) (by decide +kernel), cm_T_in 47 (by decide +kernel) (by decide +kernel), rfl, fun k (hk : k < 7) => (match k, hk with | 0, _ => Or.inr ⟨rfl, Or.inr ⟨_, rfl⟩⟩ | 1, _ => Or.inr ⟨rfl, Or.inr ⟨_, rfl⟩⟩ | 2, _ => Or.inr ⟨rfl, Or.inr ⟨_, rfl⟩⟩ | 3, _ => Or.inr ⟨rfl, Or.inr ⟨_, rfl⟩⟩ | 4, _ => Or.inr ⟨rfl, Or.inr ⟨_, rfl⟩⟩ | 5, _ => Or.inr ⟨rfl, Or.inr ⟨_, rfl⟩⟩ | 6, _ => Or.inr ⟨rfl, Or.inr ⟨_, rfl⟩⟩ | k + 7, hk => absurd hk (by omega)), fun k (hk : k < 7) => (match k, hk with | 0, _ => rfl | 1, _ => rfl | 2, _ => rfl | 3, _ => rfl | 4, _ => rfl | 5, _ => rfl | 6, _ => rfl | k + 7, hk => absurd hk (by omega))⟩
set_option maxRecDepth 100000 in
theorem lo_6 : cm_clok 6 := ⟨_, _, rfl, rfl, rfl, (show ∀ w ∈ [u_lay RX6 TX6 0, u_lay RX6 TX6 1, u_lay RX6 TX6 2, u_lay RX6 TX6 3, u_lay RX6 TX6 4, u_lay RX6 TX6 5, u_lay RX6 TX6 6, u_lay RX6 TX6 7, u_lay RX6 TX6 8, u_lay RX6 TX6 9, u_lay RX6 TX6 10, u_lay RX6 TX6 11, u_lay RX6 TX6 12, u_lay RX6 TX6 13, u_lay RX6 TX6 14, u_lay RX6 TX6 15, u_lay RX6 TX6 16], w ∈ cm_T from List.forall_mem_cons.mpr ⟨cm_T_in 571 (by decide +kernel) (by decide +kernel), List.forall_mem_cons.mpr ⟨cm_T_in 573 (by decide +kernel) (by decide +kernel), List.forall_mem_cons.mpr ⟨cm_T_in 575 (by decide +kernel) (by decide +kernel), List.forall_mem_cons.mpr ⟨cm_T_in 577 (by decide +kernel) (by decide +kernel), List.forall_mem_cons.mpr ⟨cm_T_in 579 (by decide +kernel) (by decide +kernel), List.forall_mem_cons.mpr ⟨cm_T_in 581 (by decide +kernel) (by decide +kernel), List.forall_mem_cons.mpr ⟨cm_T_in 583 (by decide +kernel) (by decide +kernel), List.forall_mem_cons.mpr ⟨cm_T_in 585 (by decide +kernel) (by decide +kernel), List.forall_mem_cons.mpr ⟨cm_T_in 587 (by decide +kernel) (by decide +kernel), List.forall_mem_cons.mpr ⟨cm_T_in 589 (by decide +kernel) (by decide +kernel), List.forall_mem_cons.mpr ⟨cm_T_in 591 (by decide +kernel) (by decide +kernel), List.forall_mem_cons.mpr ⟨cm_T_in 593 (by decide +kernel) (by decide +kernel), List.forall_mem_cons.mpr ⟨cm_T_in 595 (by decide +kernel) (by decide +kernel), List.forall_mem_cons.mpr ⟨cm_T_in 597 (by decide +kernel) (by decide +kernel), List.forall_mem_cons.mpr ⟨cm_T_in 599 (by decide +kernel) (by decide +kernel), List.forall_mem_cons.mpr ⟨cm_T_in 601 (by decide +kernel) (by decide +kernel), List.forall_mem_cons.mpr ⟨cm_T_in 603 (by decide +kernel) (by decide +kernel), fun _ h => absurd h List.not_mem_nil⟩⟩⟩⟩⟩⟩⟩⟩⟩⟩⟩⟩⟩⟩⟩⟩⟩), tyX6_ok, nmX6, cm_T_in 549 (by decide +kernel) (by decide +kernel), cm_T_in 54 (by decide +kernel) (by decide +kernel), rfl, fun k (hk : k < 17) => (match k, hk with | 0, _ => Or.inr ⟨rfl, Or.inl ⟨_, rfl⟩⟩ | 1, _ => Or.inr ⟨rfl, Or.inl ⟨_, rfl⟩⟩ | 2, _ => Or.inr ⟨rfl, Or.inl ⟨_, rfl⟩⟩ | 3, _ => Or.inr ⟨rfl, Or.inl ⟨_, rfl⟩⟩ | 4, _ => Or.inl ⟨rfl, rfl⟩ | 5, _ => Or.inr ⟨rfl, Or.inl ⟨_, rfl⟩⟩ | 6, _ => Or.inl ⟨rfl, rfl⟩ | 7, _ => Or.inr ⟨rfl, Or.inl ⟨_, rfl⟩⟩ | 8, _ => Or.inr ⟨rfl, Or.inl ⟨_, rfl⟩⟩ | 9, _ => Or.inr ⟨rfl, Or.inl ⟨_, rfl⟩⟩ | 10, _ => Or.inr ⟨rfl, Or.inl ⟨_, rfl⟩⟩ | 11, _ => Or.inl ⟨rfl, rfl⟩ | 12, _ => Or.inr ⟨rfl, Or.inl ⟨_, rfl⟩⟩ | 13, _ => Or.inr ⟨rfl, Or.inl ⟨_, rfl⟩⟩ | 14, _ => Or.inl ⟨rfl, rfl⟩ | 15, _ => Or.inl ⟨rfl, rfl⟩ | 16, _ => Or.inl ⟨rfl, rfl⟩ | k + 17, hk => absurd hk (by omega)), fun k (hk : k < 17) => (match k, hk with | 0, _ => rfl | 1, _ => rfl | 2, _ => rfl | 3, _ => rfl | 4, _ => rfl | 5, _ => rfl | 6, _ => rfl | 7, _ => rfl | 8, _ => rfl | 9, _ => rfl | 10, _ => rfl | 11, _ => rfl | 12, _ => rfl | 13, _ => rfl | 14, _ => rfl | 15, _ => rfl | 16, _ => rfl | k + 17, hk => absurd hk (by omega))⟩
theorem cm_cl_ok (ci : Nat) (h : ci < 7) : cm_clok ci := match ci, h with
  | 0, _ => lo_0
  | 1, _ => lo_1
  | 2, _ => lo_2
  | 3, _ => lo_3
  | 4, _ => lo_4
  | 5, _ => lo_5
  | 6, _ => lo_6
  | k + 7, h => absurd h (by omega)
def cm_fok (e : (Nat × Nat) × (Nat × Nat)) : Prop := e.2.1 < 7 ∧ ∃ r, vwCl[e.2.1]? = some r ∧ e.2.2 < r.2.2 ∧ .fieldLink (cm_cn e.1.1) e.1.2 (r.2.1 e.2.2).1 (r.2.1 e.2.2).2.1 (r.2.1 e.2.2).2.2.1 ∈ cm_T
set_option maxRecDepth 100000 in
theorem fo_0 : cm_fok ((1, 9), (1, 0)) := ⟨by decide, _, rfl, by decide, cm_T_in 75 (by decide +kernel) (by decide +kernel)⟩
set_option maxRecDepth 100000 in
theorem fo_1 : cm_fok ((5, 66), (1, 0)) := ⟨by decide, _, rfl, by decide, cm_T_in 76 (by decide +kernel) (by decide +kernel)⟩
set_option maxRecDepth 100000 in
theorem fo_2 : cm_fok ((0, 59), (1, 0)) := ⟨by decide, _, rfl, by decide, cm_T_in 77 (by decide +kernel) (by decide +kernel)⟩
set_option maxRecDepth 100000 in
theorem fo_3 : cm_fok ((1, 15), (1, 1)) := ⟨by decide, _, rfl, by decide, cm_T_in 78 (by decide +kernel) (by decide +kernel)⟩
set_option maxRecDepth 100000 in
theorem fo_4 : cm_fok ((5, 125), (1, 1)) := ⟨by decide, _, rfl, by decide, cm_T_in 79 (by decide +kernel) (by decide +kernel)⟩
set_option maxRecDepth 100000 in
theorem fo_5 : cm_fok ((0, 110), (1, 1)) := ⟨by decide, _, rfl, by decide, cm_T_in 80 (by decide +kernel) (by decide +kernel)⟩
set_option maxRecDepth 100000 in
theorem fo_6 : cm_fok ((1, 18), (1, 2)) := ⟨by decide, _, rfl, by decide, cm_T_in 81 (by decide +kernel) (by decide +kernel)⟩
set_option maxRecDepth 100000 in
theorem fo_7 : cm_fok ((5, 128), (1, 2)) := ⟨by decide, _, rfl, by decide, cm_T_in 82 (by decide +kernel) (by decide +kernel)⟩
set_option maxRecDepth 100000 in
theorem fo_8 : cm_fok ((0, 90), (1, 2)) := ⟨by decide, _, rfl, by decide, cm_T_in 83 (by decide +kernel) (by decide +kernel)⟩
set_option maxRecDepth 100000 in
theorem fo_9 : cm_fok ((1, 21), (1, 3)) := ⟨by decide, _, rfl, by decide, cm_T_in 84 (by decide +kernel) (by decide +kernel)⟩
set_option maxRecDepth 100000 in
theorem fo_10 : cm_fok ((5, 112), (1, 3)) := ⟨by decide, _, rfl, by decide, cm_T_in 85 (by decide +kernel) (by decide +kernel)⟩
set_option maxRecDepth 100000 in
theorem fo_11 : cm_fok ((1, 24), (1, 4)) := ⟨by decide, _, rfl, by decide, cm_T_in 86 (by decide +kernel) (by decide +kernel)⟩
set_option maxRecDepth 100000 in
theorem fo_12 : cm_fok ((0, 66), (1, 4)) := ⟨by decide, _, rfl, by decide, cm_T_in 87 (by decide +kernel) (by decide +kernel)⟩
set_option maxRecDepth 100000 in
theorem fo_13 : cm_fok ((5, 83), (1, 4)) := ⟨by decide, _, rfl, by decide, cm_T_in 88 (by decide +kernel) (by decide +kernel)⟩
set_option maxRecDepth 100000 in
theorem fo_14 : cm_fok ((1, 36), (1, 5)) := ⟨by decide, _, rfl, by decide, cm_T_in 89 (by decide +kernel) (by decide +kernel)⟩
set_option maxRecDepth 100000 in
theorem fo_15 : cm_fok ((0, 47), (1, 5)) := ⟨by decide, _, rfl, by decide, cm_T_in 90 (by decide +kernel) (by decide +kernel)⟩
set_option maxRecDepth 100000 in
theorem fo_16 : cm_fok ((5, 101), (1, 5)) := ⟨by decide, _, rfl, by decide, cm_T_in 91 (by decide +kernel) (by decide +kernel)⟩
set_option maxRecDepth 100000 in
theorem fo_17 : cm_fok ((0, 30), (0, 0)) := ⟨by decide, _, rfl, by decide, cm_T_in 112 (by decide +kernel) (by decide +kernel)⟩
set_option maxRecDepth 100000 in
theorem fo_18 : cm_fok ((0, 9), (0, 1)) := ⟨by decide, _, rfl, by decide, cm_T_in 113 (by decide +kernel) (by decide +kernel)⟩
set_option maxRecDepth 100000 in
theorem fo_19 : cm_fok ((5, 131), (0, 1)) := ⟨by decide, _, rfl, by decide, cm_T_in 114 (by decide +kernel) (by decide +kernel)⟩
set_option maxRecDepth 100000 in
theorem fo_20 : cm_fok ((0, 15), (0, 2)) := ⟨by decide, _, rfl, by decide, cm_T_in 115 (by decide +kernel) (by decide +kernel)⟩
set_option maxRecDepth 100000 in
theorem fo_21 : cm_fok ((5, 140), (0, 2)) := ⟨by decide, _, rfl, by decide, cm_T_in 116 (by decide +kernel) (by decide +kernel)⟩
set_option maxRecDepth 100000 in
theorem fo_22 : cm_fok ((0, 18), (0, 3)) := ⟨by decide, _, rfl, by decide, cm_T_in 117 (by decide +kernel) (by decide +kernel)⟩
set_option maxRecDepth 100000 in
theorem fo_23 : cm_fok ((5, 137), (0, 3)) := ⟨by decide, _, rfl, by decide, cm_T_in 118 (by decide +kernel) (by decide +kernel)⟩
set_option maxRecDepth 100000 in
theorem fo_24 : cm_fok ((0, 43), (0, 4)) := ⟨by decide, _, rfl, by decide, cm_T_in 119 (by decide +kernel) (by decide +kernel)⟩
set_option maxRecDepth 100000 in
theorem fo_25 : cm_fok ((5, 176), (0, 4)) := ⟨by decide, _, rfl, by decide, cm_T_in 120 (by decide +kernel) (by decide +kernel)⟩
set_option maxRecDepth 100000 in
theorem fo_26 : cm_fok ((0, 21), (0, 5)) := ⟨by decide, _, rfl, by decide, cm_T_in 121 (by decide +kernel) (by decide +kernel)⟩
set_option maxRecDepth 100000 in
theorem fo_27 : cm_fok ((0, 24), (0, 6)) := ⟨by decide, _, rfl, by decide, cm_T_in 122 (by decide +kernel) (by decide +kernel)⟩
set_option maxRecDepth 100000 in
theorem fo_28 : cm_fok ((0, 27), (0, 7)) := ⟨by decide, _, rfl, by decide, cm_T_in 123 (by decide +kernel) (by decide +kernel)⟩
set_option maxRecDepth 100000 in
theorem fo_29 : cm_fok ((0, 56), (0, 8)) := ⟨by decide, _, rfl, by decide, cm_T_in 124 (by decide +kernel) (by decide +kernel)⟩
set_option maxRecDepth 100000 in
theorem fo_30 : cm_fok ((3, 9), (3, 0)) := ⟨by decide, _, rfl, by decide, cm_T_in 150 (by decide +kernel) (by decide +kernel)⟩
set_option maxRecDepth 100000 in
theorem fo_31 : cm_fok ((3, 21), (3, 1)) := ⟨by decide, _, rfl, by decide, cm_T_in 151 (by decide +kernel) (by decide +kernel)⟩
set_option maxRecDepth 100000 in
theorem fo_32 : cm_fok ((5, 122), (3, 1)) := ⟨by decide, _, rfl, by decide, cm_T_in 152 (by decide +kernel) (by decide +kernel)⟩
set_option maxRecDepth 100000 in
theorem fo_33 : cm_fok ((3, 25), (3, 2)) := ⟨by decide, _, rfl, by decide, cm_T_in 153 (by decide +kernel) (by decide +kernel)⟩
set_option maxRecDepth 100000 in
theorem fo_34 : cm_fok ((2, 11), (2, 0)) := ⟨by decide, _, rfl, by decide, cm_T_in 171 (by decide +kernel) (by decide +kernel)⟩
set_option maxRecDepth 100000 in
theorem fo_35 : cm_fok ((2, 22), (2, 1)) := ⟨by decide, _, rfl, by decide, cm_T_in 172 (by decide +kernel) (by decide +kernel)⟩
set_option maxRecDepth 100000 in
theorem fo_36 : cm_fok ((5, 188), (2, 1)) := ⟨by decide, _, rfl, by decide, cm_T_in 173 (by decide +kernel) (by decide +kernel)⟩
set_option maxRecDepth 100000 in
theorem fo_37 : cm_fok ((2, 18), (2, 2)) := ⟨by decide, _, rfl, by decide, cm_T_in 174 (by decide +kernel) (by decide +kernel)⟩
set_option maxRecDepth 100000 in
theorem fo_38 : cm_fok ((4, 11), (4, 0)) := ⟨by decide, _, rfl, by decide, cm_T_in 190 (by decide +kernel) (by decide +kernel)⟩
set_option maxRecDepth 100000 in
theorem fo_39 : cm_fok ((5, 217), (4, 0)) := ⟨by decide, _, rfl, by decide, cm_T_in 191 (by decide +kernel) (by decide +kernel)⟩
set_option maxRecDepth 100000 in
theorem fo_40 : cm_fok ((4, 17), (4, 1)) := ⟨by decide, _, rfl, by decide, cm_T_in 192 (by decide +kernel) (by decide +kernel)⟩
set_option maxRecDepth 100000 in
theorem fo_41 : cm_fok ((5, 221), (4, 1)) := ⟨by decide, _, rfl, by decide, cm_T_in 193 (by decide +kernel) (by decide +kernel)⟩
set_option maxRecDepth 100000 in
theorem fo_42 : cm_fok ((5, 10), (5, 0)) := ⟨by decide, _, rfl, by decide, cm_T_in 200 (by decide +kernel) (by decide +kernel)⟩
set_option maxRecDepth 100000 in
theorem fo_43 : cm_fok ((5, 21), (5, 1)) := ⟨by decide, _, rfl, by decide, cm_T_in 201 (by decide +kernel) (by decide +kernel)⟩
set_option maxRecDepth 100000 in
theorem fo_44 : cm_fok ((5, 25), (5, 2)) := ⟨by decide, _, rfl, by decide, cm_T_in 202 (by decide +kernel) (by decide +kernel)⟩
set_option maxRecDepth 100000 in
theorem fo_45 : cm_fok ((5, 28), (5, 3)) := ⟨by decide, _, rfl, by decide, cm_T_in 203 (by decide +kernel) (by decide +kernel)⟩
set_option maxRecDepth 100000 in
theorem fo_46 : cm_fok ((5, 34), (5, 4)) := ⟨by decide, _, rfl, by decide, cm_T_in 204 (by decide +kernel) (by decide +kernel)⟩
set_option maxRecDepth 100000 in
theorem fo_47 : cm_fok ((5, 41), (5, 5)) := ⟨by decide, _, rfl, by decide, cm_T_in 205 (by decide +kernel) (by decide +kernel)⟩
set_option maxRecDepth 100000 in
theorem fo_48 : cm_fok ((5, 48), (5, 6)) := ⟨by decide, _, rfl, by decide, cm_T_in 206 (by decide +kernel) (by decide +kernel)⟩
set_option maxRecDepth 100000 in
theorem fo_49 : cm_fok ((6, 7), (6, 0)) := ⟨by decide, _, rfl, by decide, cm_T_in 554 (by decide +kernel) (by decide +kernel)⟩
set_option maxRecDepth 100000 in
theorem fo_50 : cm_fok ((6, 13), (6, 1)) := ⟨by decide, _, rfl, by decide, cm_T_in 555 (by decide +kernel) (by decide +kernel)⟩
set_option maxRecDepth 100000 in
theorem fo_51 : cm_fok ((6, 16), (6, 2)) := ⟨by decide, _, rfl, by decide, cm_T_in 556 (by decide +kernel) (by decide +kernel)⟩
set_option maxRecDepth 100000 in
theorem fo_52 : cm_fok ((6, 19), (6, 3)) := ⟨by decide, _, rfl, by decide, cm_T_in 557 (by decide +kernel) (by decide +kernel)⟩
set_option maxRecDepth 100000 in
theorem fo_53 : cm_fok ((6, 53), (6, 4)) := ⟨by decide, _, rfl, by decide, cm_T_in 558 (by decide +kernel) (by decide +kernel)⟩
set_option maxRecDepth 100000 in
theorem fo_54 : cm_fok ((6, 23), (6, 5)) := ⟨by decide, _, rfl, by decide, cm_T_in 559 (by decide +kernel) (by decide +kernel)⟩
set_option maxRecDepth 100000 in
theorem fo_55 : cm_fok ((6, 133), (6, 6)) := ⟨by decide, _, rfl, by decide, cm_T_in 560 (by decide +kernel) (by decide +kernel)⟩
set_option maxRecDepth 100000 in
theorem fo_56 : cm_fok ((6, 27), (6, 7)) := ⟨by decide, _, rfl, by decide, cm_T_in 561 (by decide +kernel) (by decide +kernel)⟩
set_option maxRecDepth 100000 in
theorem fo_57 : cm_fok ((6, 30), (6, 8)) := ⟨by decide, _, rfl, by decide, cm_T_in 562 (by decide +kernel) (by decide +kernel)⟩
set_option maxRecDepth 100000 in
theorem fo_58 : cm_fok ((6, 33), (6, 9)) := ⟨by decide, _, rfl, by decide, cm_T_in 563 (by decide +kernel) (by decide +kernel)⟩
set_option maxRecDepth 100000 in
theorem fo_59 : cm_fok ((6, 36), (6, 10)) := ⟨by decide, _, rfl, by decide, cm_T_in 564 (by decide +kernel) (by decide +kernel)⟩
set_option maxRecDepth 100000 in
theorem fo_60 : cm_fok ((6, 64), (6, 11)) := ⟨by decide, _, rfl, by decide, cm_T_in 565 (by decide +kernel) (by decide +kernel)⟩
set_option maxRecDepth 100000 in
theorem fo_61 : cm_fok ((6, 39), (6, 12)) := ⟨by decide, _, rfl, by decide, cm_T_in 566 (by decide +kernel) (by decide +kernel)⟩
set_option maxRecDepth 100000 in
theorem fo_62 : cm_fok ((6, 42), (6, 13)) := ⟨by decide, _, rfl, by decide, cm_T_in 567 (by decide +kernel) (by decide +kernel)⟩
set_option maxRecDepth 100000 in
theorem fo_63 : cm_fok ((6, 160), (6, 14)) := ⟨by decide, _, rfl, by decide, cm_T_in 568 (by decide +kernel) (by decide +kernel)⟩
set_option maxRecDepth 100000 in
theorem fo_64 : cm_fok ((6, 147), (6, 15)) := ⟨by decide, _, rfl, by decide, cm_T_in 569 (by decide +kernel) (by decide +kernel)⟩
set_option maxRecDepth 100000 in
theorem fo_65 : cm_fok ((6, 150), (6, 16)) := ⟨by decide, _, rfl, by decide, cm_T_in 570 (by decide +kernel) (by decide +kernel)⟩
set_option maxRecDepth 100000 in
theorem cm_fld_ok : ∀ e ∈ cm_fld, cm_fok e := List.forall_mem_cons.mpr ⟨fo_0, List.forall_mem_cons.mpr ⟨fo_1, List.forall_mem_cons.mpr ⟨fo_2, List.forall_mem_cons.mpr ⟨fo_3, List.forall_mem_cons.mpr ⟨fo_4, List.forall_mem_cons.mpr ⟨fo_5, List.forall_mem_cons.mpr ⟨fo_6, List.forall_mem_cons.mpr ⟨fo_7, List.forall_mem_cons.mpr ⟨fo_8, List.forall_mem_cons.mpr ⟨fo_9, List.forall_mem_cons.mpr ⟨fo_10, List.forall_mem_cons.mpr ⟨fo_11, List.forall_mem_cons.mpr ⟨fo_12, List.forall_mem_cons.mpr ⟨fo_13, List.forall_mem_cons.mpr ⟨fo_14, List.forall_mem_cons.mpr ⟨fo_15, List.forall_mem_cons.mpr ⟨fo_16, List.forall_mem_cons.mpr ⟨fo_17, List.forall_mem_cons.mpr ⟨fo_18, List.forall_mem_cons.mpr ⟨fo_19, List.forall_mem_cons.mpr ⟨fo_20, List.forall_mem_cons.mpr ⟨fo_21, List.forall_mem_cons.mpr ⟨fo_22, List.forall_mem_cons.mpr ⟨fo_23, List.forall_mem_cons.mpr ⟨fo_24, List.forall_mem_cons.mpr ⟨fo_25, List.forall_mem_cons.mpr ⟨fo_26, List.forall_mem_cons.mpr ⟨fo_27, List.forall_mem_cons.mpr ⟨fo_28, List.forall_mem_cons.mpr ⟨fo_29, List.forall_mem_cons.mpr ⟨fo_30, List.forall_mem_cons.mpr ⟨fo_31, List.forall_mem_cons.mpr ⟨fo_32, List.forall_mem_cons.mpr ⟨fo_33, List.forall_mem_cons.mpr ⟨fo_34, List.forall_mem_cons.mpr ⟨fo_35, List.forall_mem_cons.mpr ⟨fo_36, List.forall_mem_cons.mpr ⟨fo_37, List.forall_mem_cons.mpr ⟨fo_38, List.forall_mem_cons.mpr ⟨fo_39, List.forall_mem_cons.mpr ⟨fo_40, List.forall_mem_cons.mpr ⟨fo_41, List.forall_mem_cons.mpr ⟨fo_42, List.forall_mem_cons.mpr ⟨fo_43, List.forall_mem_cons.mpr ⟨fo_44, List.forall_mem_cons.mpr ⟨fo_45, List.forall_mem_cons.mpr ⟨fo_46, List.forall_mem_cons.mpr ⟨fo_47, List.forall_mem_cons.mpr ⟨fo_48, List.forall_mem_cons.mpr ⟨fo_49, List.forall_mem_cons.mpr ⟨fo_50, List.forall_mem_cons.mpr ⟨fo_51, List.forall_mem_cons.mpr ⟨fo_52, List.forall_mem_cons.mpr ⟨fo_53, List.forall_mem_cons.mpr ⟨fo_54, List.forall_mem_cons.mpr ⟨fo_55, List.forall_mem_cons.mpr ⟨fo_56, List.forall_mem_cons.mpr ⟨fo_57, List.forall_mem_cons.mpr ⟨fo_58, List.forall_mem_cons.mpr ⟨fo_59, List.forall_mem_cons.mpr ⟨fo_60, List.forall_mem_cons.mpr ⟨fo_61, List.forall_mem_cons.mpr ⟨fo_62, List.forall_mem_cons.mpr ⟨fo_63, List.forall_mem_cons.mpr ⟨fo_64, List.forall_mem_cons.mpr ⟨fo_65, fun _ h => absurd h List.not_mem_nil⟩⟩⟩⟩⟩⟩⟩⟩⟩⟩⟩⟩⟩⟩⟩⟩⟩⟩⟩⟩⟩⟩⟩⟩⟩⟩⟩⟩⟩⟩⟩⟩⟩⟩⟩⟩⟩⟩⟩⟩⟩⟩⟩⟩⟩⟩⟩⟩⟩⟩⟩⟩⟩⟩⟩⟩⟩⟩⟩⟩⟩⟩⟩⟩⟩⟩
def cm_nok (e : (Nat × Nat) × Nat) : Prop := e.2 < 7 ∧ .classLink (cm_cn e.1.1) e.1.2 (cm_cn e.2) ∈ cm_T
set_option maxRecDepth 100000 in
theorem no_0 : cm_nok ((7, 7), 5) := ⟨by decide, cm_T_in 56 (by decide +kernel) (by decide +kernel)⟩
set_option maxRecDepth 100000 in
theorem no_1 : cm_nok ((5, 7), 1) := ⟨by decide, cm_T_in 64 (by decide +kernel) (by decide +kernel)⟩
set_option maxRecDepth 100000 in
theorem no_2 : cm_nok ((5, 16), 0) := ⟨by decide, cm_T_in 106 (by decide +kernel) (by decide +kernel)⟩
set_option maxRecDepth 100000 in
theorem no_3 : cm_nok ((5, 31), 3) := ⟨by decide, cm_T_in 144 (by decide +kernel) (by decide +kernel)⟩
set_option maxRecDepth 100000 in
theorem no_4 : cm_nok ((5, 38), 2) := ⟨by decide, cm_T_in 162 (by decide +kernel) (by decide +kernel)⟩
set_option maxRecDepth 100000 in
theorem no_5 : cm_nok ((2, 9), 1) := ⟨by decide, cm_T_in 168 (by decide +kernel) (by decide +kernel)⟩
set_option maxRecDepth 100000 in
theorem no_6 : cm_nok ((5, 45), 4) := ⟨by decide, cm_T_in 182 (by decide +kernel) (by decide +kernel)⟩
set_option maxRecDepth 100000 in
theorem no_7 : cm_nok ((4, 9), 1) := ⟨by decide, cm_T_in 188 (by decide +kernel) (by decide +kernel)⟩
set_option maxRecDepth 100000 in
theorem no_8 : cm_nok ((7, 10), 6) := ⟨by decide, cm_T_in 548 (by decide +kernel) (by decide +kernel)⟩
theorem cm_cls_ok : ∀ e ∈ cm_cls, cm_nok e := List.forall_mem_cons.mpr ⟨no_0, List.forall_mem_cons.mpr ⟨no_1, List.forall_mem_cons.mpr ⟨no_2, List.forall_mem_cons.mpr ⟨no_3, List.forall_mem_cons.mpr ⟨no_4, List.forall_mem_cons.mpr ⟨no_5, List.forall_mem_cons.mpr ⟨no_6, List.forall_mem_cons.mpr ⟨no_7, List.forall_mem_cons.mpr ⟨no_8, fun _ h => absurd h List.not_mem_nil⟩⟩⟩⟩⟩⟩⟩⟩⟩
def cm_gok (e : (Nat × Nat) × Int) : Prop := .constantLong (cm_cn e.1.1) e.1.2 (Int64.ofInt e.2) ∈ cm_T
set_option maxRecDepth 100000 in
theorem go_0 : cm_gok ((3, 15), 255) := cm_T_in 516 (by decide +kernel) (by decide +kernel)
set_option maxRecDepth 100000 in
theorem go_1 : cm_gok ((6, 145), 255) := cm_T_in 785 (by decide +kernel) (by decide +kernel)
set_option maxRecDepth 100000 in
theorem go_2 : cm_gok ((7, 81), 4294967295) := cm_T_in 818 (by decide +kernel) (by decide +kernel)
theorem cm_lng_ok : ∀ e ∈ cm_lng, cm_gok e := List.forall_mem_cons.mpr ⟨go_0, List.forall_mem_cons.mpr ⟨go_1, List.forall_mem_cons.mpr ⟨go_2, fun _ h => absurd h List.not_mem_nil⟩⟩⟩
theorem cm_oi : .instanceMethod Lib.objectInit ∈ cm_T := cm_T_in 62 (by decide +kernel) (by decide +kernel)
theorem cm_oc : .code Lib.objectInit ⟨#[0xb1]⟩ 1 none ∈ cm_T := cm_T_in 63 (by decide +kernel) (by decide +kernel)
theorem cm_xs : .static Lib.Math.max.name ∈ cm_T := cm_T_in 410 (by decide +kernel) (by decide +kernel)
theorem cm_xi : .initialized "java/lang/Math" ∈ cm_T := cm_T_in 55 (by decide +kernel) (by decide +kernel)
theorem cm_xc : .code Lib.Math.max.name Lib.Math.max.code 2 (some .int) ∈ cm_T := cm_T_in 411 (by decide +kernel) (by decide +kernel)
theorem cm_an : .native arraycopyName ∈ cm_T := cm_T_in 74 (by decide +kernel) (by decide +kernel)
theorem cm_as' : .static arraycopyName ∈ cm_T := cm_T_in 73 (by decide +kernel) (by decide +kernel)
theorem cm_ai : .initialized "java/lang/System" ∈ cm_T := cm_T_in 49 (by decide +kernel) (by decide +kernel)
theorem cm_ac1 : .arrayClass .int ∈ cm_T := cm_T_in 105 (by decide +kernel) (by decide +kernel)
theorem cm_ac2 : .arrayClass .char ∈ cm_T := cm_T_in 161 (by decide +kernel) (by decide +kernel)
theorem cm_ac3 : .arrayClass .boolean ∈ cm_T := cm_T_in 199 (by decide +kernel) (by decide +kernel)
def cm_sok (e : (Nat × Nat) × (Nat × Int)) : Prop := (e = ((1, 27), (1, -3))) ∨ (e.2.1 = 0 ∧ e.2.2 = -4 ∧ .fieldLink (cm_cn e.1.1) e.1.2 "CreditScroll" "LEAST_SETTINGS" "[I" ∈ cm_T) ∨ (e.2.1 = 0 ∧ e.2.2 = -5 ∧ .fieldLink (cm_cn e.1.1) e.1.2 "CreditScroll" "MOST_SETTINGS" "[I" ∈ cm_T)
set_option maxRecDepth 100000 in
theorem cm_sta_ok : ∀ e ∈ cm_sta, cm_sok e := List.forall_mem_cons.mpr ⟨Or.inl rfl, List.forall_mem_cons.mpr ⟨Or.inr (Or.inl ⟨rfl, rfl, cm_T_in 226 (by decide +kernel) (by decide +kernel)⟩), List.forall_mem_cons.mpr ⟨Or.inr (Or.inr ⟨rfl, rfl, cm_T_in 228 (by decide +kernel) (by decide +kernel)⟩), fun _ h => absurd h List.not_mem_nil⟩⟩⟩
end
section
/-! ===== THE WORLD OF THE SMALL MACHINE IN THE HEAP ===== -/
def cm_v (B : Int → Nat) (v : cm_V) : Value := if v.1 = 0 then .int (Int32.ofInt v.2) else if v.1 = 1 then .long (Int64.ofInt v.2) else if v.2 = -1 then .null else .ref (B v.2)
theorem cm_v0 (B : Int → Nat) (x : Int) : cm_v B (0, x) = .int (Int32.ofInt x) := rfl
theorem cm_v1 (B : Int → Nat) (x : Int) : cm_v B (1, x) = .long (Int64.ofInt x) := rfl
theorem cm_v2 (B : Int → Nat) {x : Int} (h : x ≠ -1) : cm_v B (2, x) = .ref (B x) := by simp [cm_v, h]
theorem cm_v_cat (B : Int → Nat) (v : cm_V) : (cm_v B v).category = cm_cat v := by
  unfold cm_v cm_cat
  by_cases h0 : v.1 = 0
  · simp [h0, Value.category]
  · by_cases h1 : v.1 = 1
    · simp [h1, Value.category]
    · simp only [h0, h1, if_false]
      split <;> rfl
def cm_nf (ci : Nat) : Nat := match vwCl[ci]? with
  | some r => r.2.2
  | none => 0
def cm_fv (B : Int → Nat) (ci : Nat) (f g : Int → Int) (j : Nat) : Value := if cm_fk ci j = some 0 then .int (Int32.ofInt (f j)) else cm_v B (2, g j)
def cm_fs (B : Int → Nat) (ci : Nat) (f g : Int → Int) : List Value := (List.range (cm_nf ci)).map (cm_fv B ci f g)
def cm_rr (B : Int → Nat) (g : Int → Int) (j : Nat) : Option Nat := if g j = -1 then none else some (B (g j))
def cm_c (B : Int → Nat) (cA : Nat → ClassId) (e : Nat × Nat) (f g : Int → Int) : va_E :=
  if e.1 = 0 then .inr (e.2, cm_fs B e.2 f g) else if e.1 = 4 then .inl (cA 4, e.2, .inr (.inr (.inr (.inr (cm_rr B g))))) else .inl (cA e.1, e.2, .inl (fun j => Int32.ofInt (f j)))
def cm_W (D : va_G) (cA : Nat → ClassId) (B : Int → Nat) (base : Nat) (G : cm_G) (M : cm_M) (H : Heap) : Prop :=
  H.size = base + G.1.length ∧ ∀ (k : Nat) (e : Nat × Nat), G.1[k]? = some e → va_at D vwCl (B k, cm_c B cA e (M k) (G.2 k)) H
abbrev cm_A (base : Nat) : Nat → Prop := fun q => base ≤ q
def cm_ty4 (cA : Nat → ClassId) : List (ClassId × FieldType) := [(cA 1, .int), (cA 2, .char), (cA 3, .boolean), (cA 4, .object RX1)]
/-- numbers of the static tables and the script -/
def cm_Ro (ro : Int → Int → Int) (M : cm_M) : Prop := ∀ k, k < 0 → ∀ j, M k j = ro k j
def cm_B (B : Int → Nat) (base : Nat) : Prop := (∀ k : Nat, B k = base + k) ∧ ∀ k : Int, k < 0 → B k < base
def cm_tab1 (k : Int) : String := if k = -3 then "FIRST_SETTINGS" else if k = -4 then "LEAST_SETTINGS" else "MOST_SETTINGS"
/-- what a state's tables and old cells say, everywhere in the run -/
def cm_S (D : va_G) (cA : Nat → ClassId) (B : Int → Nat) (base : Nat) (ro : Int → Int → Int) (U : State) : Prop :=
  va_K D vwCl (cm_ty4 cA) U ∧
  (va_Nw (.methodLinkNest RX5 33 yX3_init RX5) U ∧ va_Nw (.methodLinkNest RX3 17 yX5_isWithin RX5) U ∧ va_Nw (.methodLinkNest RX3 42 yX5_isGroup RX5) U ∧ va_Nw (.fieldLinkNest RX1 27 RX5 "FIRST_SETTINGS" "[I" RX5) U ∧ va_AO RX1 U) ∧
  (∀ k : Int, k = -3 ∨ k = -4 ∨ k = -5 → va_Z RX5 (cm_tab1 k) "[I" (.ref (B k)) (cm_A base) U U.heap ∧ va_T .int (B k) 3 (fun j => .int (Int32.ofInt (ro k j))) (cm_A base) U U.heap) ∧
  (∃ L : Nat, L < 2 ^ 31 ∧ ro (-2) (-1) = L ∧ va_X (B (-2)) L (fun j => Int32.ofInt (ro (-2) j)) U U.heap) ∧ base ≤ U.heap.size
theorem cm_S.moved {D : va_G} {cA : Nat → ClassId} {B : Int → Nat} {base : Nat} {ro : Int → Int → Int} {s U : State} {locs : List Loc} (hB : cm_B B base) (h : cm_S D cA B base ro s) (hW : s.WarmedH U.vm) (hS : va_S (cm_A base) s.heap U.heap locs) : cm_S D cA B base ro U := by
  obtain ⟨h1, ⟨n1, n2, n3, n4, n5⟩, h3, ⟨L, l1, l2, l3⟩, h5⟩ := h
  refine ⟨h1.moved hW.alike, ⟨n1.warmM hW, n2.warmM hW, n3.warmM hW, n4.warmF hW, n5.moved hW.alike⟩, fun k hk => ⟨((h3 k hk).1.moved hW.alike).kept hS.2.1, ((h3 k hk).2.moved hW.alike).kept hS.2.1⟩, ⟨L, l1, l2, (l3.moved hW.alike).kept (hS.2.1 _ (by have := hB.2 (-2) (by decide); omega) (by have := hB.2 (-2) (by decide); simp only [cm_A]; omega))⟩, Nat.le_trans h5 hS.1⟩
theorem cm_S.blind {D : va_G} {cA : Nat → ClassId} {B : Int → Nat} {base : Nat} {ro : Int → Int → Int} {U : State} (h : cm_S D cA B base ro U) (g : JFrame) (mk : MethodId) (a : Array Value) : cm_S D cA B base ro (U.calling g mk a) := by
  obtain ⟨h1, ⟨n1, n2, n3, n4, n5⟩, h3, ⟨L, l1, l2, l3⟩, h5⟩ := h
  have hv : U.vm = (U.calling g mk a).vm := rfl
  have hA : U.vm.Alike (U.calling g mk a).vm := Vm.Alike.refl U.vm
  exact ⟨h1.moved hA, ⟨n1.same rfl hv, n2.same rfl hv, n3.same rfl hv, n4.same rfl hv, n5.moved hA⟩, fun k hk => ⟨(h3 k hk).1.moved hA, (h3 k hk).2.moved hA⟩, ⟨L, l1, l2, l3.moved hA⟩, h5⟩
/-! locals -/
def cm_L (B : Int → Nat) (q : cm_MI) (Ls : Array Slot) (ls : List (Option cm_V)) : Prop :=
  ls.length = cm_ml q ∧ (∃ l, lv_has Ls (cm_ml q) l ∧ ∀ (i : Nat) (v : cm_V), ls[i]? = some (some v) → (i, cm_v B v) ∈ l) ∧ ∀ (i : Nat) (x : Int), ls[i]? = some (some (1, x)) → i ∈ cm_lg q
theorem cm_L.at {B : Int → Nat} {q : cm_MI} {Ls : Array Slot} {ls : List (Option cm_V)} (h : cm_L B q Ls ls) {i : Nat} {v : cm_V} (hi : ls[i]? = some (some v)) : Ls[i]? = some (.val (cm_v B v)) := by
  obtain ⟨-, ⟨l, hl, hm⟩, -⟩ := h
  exact hl.2.2 _ (hm i v hi)
theorem cm_L.size {B : Int → Nat} {q : cm_MI} {Ls : Array Slot} {ls : List (Option cm_V)} (h : cm_L B q Ls ls) : Ls.size = cm_ml q := by
  obtain ⟨-, ⟨l, hl, -⟩, -⟩ := h
  exact hl.1
/-- behind a store of one slot -/
theorem cm_L.set {B : Int → Nat} {q : cm_MI} {ls : List (Option cm_V)} {l : List (Nat × Value)} {i : Nat} {v : cm_V} (hlen : ls.length = cm_ml q) (hm : ∀ (i : Nat) (v : cm_V), ls[i]? = some (some v) → (i, cm_v B v) ∈ l) (hg : ∀ (i : Nat) (x : Int), ls[i]? = some (some (1, x)) → i ∈ cm_lg q)
    (hp : cm_pl q i = false) (hv : v.1 ≠ 1) {Ls' : Array Slot} (hl' : lv_has Ls' (cm_ml q) ((i, cm_v B v) :: l.filter (fun r => !(r.1 == i) && !(r.1 + 1 == i && r.2.category == 2)))) : cm_L B q Ls' (ls.set i (some v)) := by
  refine ⟨by rw [List.length_set]; exact hlen, ⟨_, hl', fun j w hj => ?_⟩, fun j x hj => ?_⟩
  · by_cases hji : j = i
    · subst hji
      have hlt : j < ls.length := by
        have := (List.getElem?_eq_some_iff.mp hj).1
        rwa [List.length_set] at this
      rw [List.getElem?_set_self hlt] at hj
      cases hj
      exact List.mem_cons_self
    · rw [List.getElem?_set_ne (Ne.symm hji)] at hj
      refine List.mem_cons_of_mem _ (List.mem_filter.mpr ⟨hm j w hj, ?_⟩)
      have h1 : (j == i) = false := by simp [hji]
      have h2 : (j + 1 == i && (cm_v B w).category == 2) = false := by
        by_cases hc : j + 1 = i
        · have hw : ¬ (cm_v B w).category = 2 := by
            rw [cm_v_cat]
            unfold cm_cat
            split
            · rename_i h1
              obtain ⟨t, x⟩ := w
              simp only at h1
              subst h1
              exfalso
              have := hg j x hj
              simp only [cm_pl, decide_eq_false_iff_not] at hp
              exact hp ⟨by omega, by rw [show i - 1 = j by omega]; exact this⟩
            · decide
          simp [hw]
        · simp [hc]
      simp [h1, h2]
  · by_cases hji : j = i
    · subst hji
      have hlt : j < ls.length := by
        have := (List.getElem?_eq_some_iff.mp hj).1
        rwa [List.length_set] at this
      rw [List.getElem?_set_self hlt] at hj
      cases hj
      exact absurd rfl hv
    · rw [List.getElem?_set_ne (Ne.symm hji)] at hj
      exact hg j x hj
/-- behind a store of a long -/
theorem cm_L.setL {B : Int → Nat} {q : cm_MI} {ls : List (Option cm_V)} {l : List (Nat × Value)} {i : Nat} {x : Int} (hlen : ls.length = cm_ml q) (hm : ∀ (i : Nat) (v : cm_V), ls[i]? = some (some v) → (i, cm_v B v) ∈ l) (hg : ∀ (i : Nat) (x : Int), ls[i]? = some (some (1, x)) → i ∈ cm_lg q)
    (hp : cm_pl q i = false) (hi : i ∈ cm_lg q) {Ls' : Array Slot} (hl' : lv_has Ls' (cm_ml q) ((i, cm_v B (1, x)) :: l.filter (fun r => !(r.1 == i) && (!(r.1 == i + 1) && !(r.1 + 1 == i && r.2.category == 2))))) : cm_L B q Ls' ((ls.set i (some (1, x))).set (i + 1) none) := by
  have key : ∀ (j : Nat) (w : cm_V), ((ls.set i (some (1, x))).set (i + 1) none)[j]? = some (some w) → (j = i ∧ w = (1, x)) ∨ (j ≠ i ∧ j ≠ i + 1 ∧ ls[j]? = some (some w)) := by
    intro j w hj
    by_cases h2 : j = i + 1
    · subst h2
      have hlt : i + 1 < (ls.set i (some ((1, x) : cm_V))).length := by
        have := (List.getElem?_eq_some_iff.mp hj).1
        rwa [List.length_set] at this
      rw [List.getElem?_set_self hlt] at hj
      cases hj
    · rw [List.getElem?_set_ne (Ne.symm h2)] at hj
      by_cases h1 : j = i
      · subst h1
        have hlt : j < ls.length := by
          have := (List.getElem?_eq_some_iff.mp hj).1
          rwa [List.length_set] at this
        rw [List.getElem?_set_self hlt] at hj
        cases hj
        exact Or.inl ⟨rfl, rfl⟩
      · rw [List.getElem?_set_ne (Ne.symm h1)] at hj
        exact Or.inr ⟨h1, h2, hj⟩
  refine ⟨by rw [List.length_set, List.length_set]; exact hlen, ⟨_, hl', fun j w hj => ?_⟩, fun j y hj => ?_⟩
  · rcases key j w hj with ⟨rfl, rfl⟩ | ⟨h1, h2, h3⟩
    · exact List.mem_cons_self
    · refine List.mem_cons_of_mem _ (List.mem_filter.mpr ⟨hm j w h3, ?_⟩)
      have e1 : (j == i) = false := by simp [h1]
      have e3 : (j == i + 1) = false := by simp [h2]
      have e2 : (j + 1 == i && (cm_v B w).category == 2) = false := by
        by_cases hc : j + 1 = i
        · have hw : ¬ (cm_v B w).category = 2 := by
            rw [cm_v_cat]
            unfold cm_cat
            split
            · rename_i h1
              obtain ⟨t, y⟩ := w
              simp only at h1
              subst h1
              exfalso
              have := hg j y h3
              simp only [cm_pl, decide_eq_false_iff_not] at hp
              exact hp ⟨by omega, by rw [show i - 1 = j by omega]; exact this⟩
            · decide
          simp [hw]
        · simp [hc]
      simp [e1, e2, e3]
  · rcases key j (1, y) hj with ⟨rfl, -⟩ | ⟨h1, h2, h3⟩
    · exact hi
    · exact hg j y h3
/-! entry -/
theorem cm_ent_len (L : Nat) (as : List cm_V) (h : cm_sum as ≤ L) : (cm_ent L as).length = L := by
  have e : (as.flatMap (fun v : cm_V => if v.1 = 1 then [some v, none] else [some v])).length = cm_sum as := by
    clear h
    induction as with
    | nil => rfl
    | cons v l ih =>
      rw [List.flatMap_cons, List.length_append, ih]
      simp only [cm_sum, List.map_cons, List.sum_cons, cm_cat]
      split <;> simp
  unfold cm_ent
  rw [List.length_append, e, List.length_replicate]
  omega
theorem cm_ent_sl (B : Int → Nat) (as : List cm_V) : (lg_sl (as.map (cm_v B))).length = cm_sum as := by
  induction as with
  | nil => rfl
  | cons v l ih =>
    unfold lg_sl at ih ⊢
    rw [List.map_cons, List.flatMap_cons, List.length_append, ih, cm_v_cat]
    simp only [cm_sum, List.map_cons, List.sum_cons, cm_cat]
    by_cases h : v.1 = 1 <;> simp [h]
theorem cm_ent_at (B : Int → Nat) : ∀ (as : List cm_V) (o : Nat) (n i : Nat) (v : cm_V), ((as.flatMap (fun v : cm_V => if v.1 = 1 then [some v, none] else [some v])) ++ List.replicate n none)[i]? = some (some v) → (o + i, cm_v B v) ∈ lv_args o (as.map (cm_v B)) ∧ (v.1 = 1 → o + i ∈ cm_lpos o (as.map (fun v => v.1)))
  | [], o, n, i, v, h => by
    rw [List.flatMap_nil, List.nil_append, List.getElem?_replicate] at h
    split at h <;> cases h
  | a :: as, o, n, i, v, h => by
    rw [List.flatMap_cons, List.append_assoc] at h
    rw [List.map_cons, List.map_cons]
    unfold lv_args cm_lpos
    rw [cm_v_cat]
    by_cases ha : a.1 = 1
    · rw [if_pos ha] at h
      have hc : cm_cat a = 2 := by simp [cm_cat, ha]
      rw [if_pos hc, if_pos ha]
      match i with
      | 0 =>
        cases h
        exact ⟨List.mem_cons_self, fun _ => List.mem_cons_self⟩
      | 1 => cases h
      | i + 2 =>
        have h' : ((as.flatMap (fun v : cm_V => if v.1 = 1 then [some v, none] else [some v])) ++ List.replicate n none)[i]? = some (some v) := h
        obtain ⟨h1, h2⟩ := cm_ent_at B as (o + 2) n i v h'
        rw [show o + 2 + i = o + (i + 2) by omega] at h1 h2
        exact ⟨List.mem_cons_of_mem _ h1, fun e => List.mem_cons_of_mem _ (h2 e)⟩
    · rw [if_neg ha] at h
      have hc : ¬ cm_cat a = 2 := by simp [cm_cat, ha]
      rw [if_neg hc, if_neg ha]
      match i with
      | 0 =>
        cases h
        exact ⟨List.mem_cons_self, fun e => absurd e ha⟩
      | i + 1 =>
        have h' : ((as.flatMap (fun v : cm_V => if v.1 = 1 then [some v, none] else [some v])) ++ List.replicate n none)[i]? = some (some v) := h
        obtain ⟨h1, h2⟩ := cm_ent_at B as (o + 1) n i v h'
        rw [show o + 1 + i = o + (i + 1) by omega] at h1 h2
        exact ⟨List.mem_cons_of_mem _ h1, h2⟩
theorem cm_ent_L (B : Int → Nat) (q : cm_MI) (as : List cm_V) (ht : as.map (fun v => v.1) = cm_tg q) (hs : cm_sum as ≤ cm_ml q) (hg : ∀ i ∈ cm_lpos 0 (cm_tg q), i ∈ cm_lg q) : cm_L B q ((lg_sl (as.map (cm_v B)) ++ List.replicate (cm_ml q - (lg_sl (as.map (cm_v B))).length) Slot.unset).toArray) (cm_ent (cm_ml q) as) := by
  refine ⟨cm_ent_len _ _ hs, ⟨_, lv_entry (as.map (cm_v B)) (by rw [cm_ent_sl]; exact hs), fun i v h => ?_⟩, fun i x h => ?_⟩
  · have := (cm_ent_at B as 0 _ i v h).1
    rwa [Nat.zero_add] at this
  · have := (cm_ent_at B as 0 _ i (1, x) h).2 rfl
    rw [Nat.zero_add, ht] at this
    exact hg i this
/-! cells -/
theorem cm_sh_some {G : cm_G} {k : Int} {e : Nat × Nat} (h : cm_sh G k = some e) : ∃ n : Nat, k = n ∧ G.1[n]? = some e := by
  unfold cm_sh at h
  by_cases hk : k < 0
  · rw [if_pos hk] at h; cases h
  · rw [if_neg hk] at h
    exact ⟨k.toNat, by omega, h⟩
theorem cm_sh_lt {G : cm_G} {k : Int} {e : Nat × Nat} (h : cm_sh G k = some e) : 0 ≤ k ∧ k < G.1.length := by
  obtain ⟨n, rfl, h1⟩ := cm_sh_some h
  have := (List.getElem?_eq_some_iff.mp h1).1
  omega
theorem cm_W.cell {D : va_G} {cA : Nat → ClassId} {B : Int → Nat} {base : Nat} {G : cm_G} {M : cm_M} {H : Heap} (h : cm_W D cA B base G M H) {k : Int} {e : Nat × Nat} (hk : cm_sh G k = some e) : va_at D vwCl (B k, cm_c B cA e (M k) (G.2 k)) H := by
  obtain ⟨n, rfl, h1⟩ := cm_sh_some hk
  exact h.2 n e h1
theorem cm_P1 {D : va_G} {cl : List vw_C} {H : Heap} {a : Nat} {e : va_E} (h : va_at D cl (a, e) H) : va_P D cl [(a, e)] H := by
  intro k q hq
  match k, hq with
  | 0, hq => cases hq; exact h
  | k + 1, hq => cases hq
/-- behind a write to one cell -/
theorem cm_W.put {D : va_G} {cA : Nat → ClassId} {B : Int → Nat} {base : Nat} (hB : cm_B B base) {G G' : cm_G} {M M' : cm_M} {H H1 : Heap} (h : cm_W D cA B base G M H) {k : Int} {e : Nat × Nat} (hk : cm_sh G k = some e) (hz : H1.size = H.size) (oq : ∀ q, q ≠ B k → H1[q]? = H[q]?)
    (hc : va_at D vwCl (B k, cm_c B cA e (M' k) (G'.2 k)) H1) (hG : G'.1 = G.1) (hM : ∀ j, j ≠ k → M' j = M j ∧ G'.2 j = G.2 j) : cm_W D cA B base G' M' H1 := by
  obtain ⟨n, rfl, h1⟩ := cm_sh_some hk
  refine ⟨by rw [hz, hG]; exact h.1, fun j e' hj => ?_⟩
  rw [hG] at hj
  by_cases hjn : j = n
  · subst hjn
    rw [hj] at h1
    cases h1
    exact hc
  · have hne : (j : Int) ≠ (n : Int) := by omega
    rw [(hM j hne).1, (hM j hne).2]
    refine (h.2 j e' hj).kept (oq _ ?_)
    show B j ≠ B n
    rw [hB.1, hB.1]
    omega
/-- behind a new cell -/
theorem cm_W.push {D : va_G} {cA : Nat → ClassId} {B : Int → Nat} {base : Nat} (hB : cm_B B base) {G G' : cm_G} {M M' : cm_M} {H H1 : Heap} (h : cm_W D cA B base G M H) {e : Nat × Nat} (hz : H1.size = H.size + 1) (oq : ∀ q, q < H.size → H1[q]? = H[q]?)
    (hc : va_at D vwCl (H.size, cm_c B cA e (M' G.1.length) (G'.2 G.1.length)) H1) (hG : G'.1 = G.1 ++ [e]) (hM : ∀ j, j ≠ (G.1.length : Int) → M' j = M j ∧ G'.2 j = G.2 j) : cm_W D cA B base G' M' H1 := by
  refine ⟨by rw [hz, hG, h.1, List.length_append]; simp; omega, fun j e' hj => ?_⟩
  rw [hG] at hj
  by_cases hjn : j < G.1.length
  · rw [List.getElem?_append_left hjn] at hj
    have hne : (j : Int) ≠ (G.1.length : Int) := by omega
    rw [(hM j hne).1, (hM j hne).2]
    refine (h.2 j e' hj).kept (oq _ ?_)
    show B j < H.size
    rw [hB.1, h.1]
    omega
  · rw [List.getElem?_append_right (by omega)] at hj
    have hz : j - G.1.length < 1 := (List.getElem?_eq_some_iff.mp hj).1
    have hj0 : j = G.1.length := by omega
    subst hj0
    rw [Nat.sub_self] at hj
    cases hj
    have e1 : B (G.1.length : Int) = H.size := by rw [hB.1, h.1]
    rw [e1]
    exact hc
/-! numbers -/
theorem cm_ti {x : Int} (h : cm_in x) : (Int32.ofInt x).toInt = x := Int32.toInt_ofInt_of_le h.1 (by have := h.2; omega)
theorem cm_inj {x y : Int} (hx : cm_in x) (hy : cm_in y) : Int32.ofInt x = Int32.ofInt y ↔ x = y := by
  constructor
  · intro h
    have := congrArg Int32.toInt h
    rwa [cm_ti hx, cm_ti hy] at this
  · intro h; rw [h]
theorem cm_lt {x y : Int} (hx : cm_in x) (hy : cm_in y) : Int32.ofInt x < Int32.ofInt y ↔ x < y := by
  rw [Int32.lt_iff_toInt_lt, cm_ti hx, cm_ti hy]
theorem cm_le {x y : Int} (hx : cm_in x) (hy : cm_in y) : Int32.ofInt x ≤ Int32.ofInt y ↔ x ≤ y := by
  rw [Int32.le_iff_toInt_le, cm_ti hx, cm_ti hy]
theorem cm_clamp {x : Int} (h0 : 0 ≤ x) (h : x < 2147483648) : (Int32.ofInt x).toNatClampNeg = x.toNat := by
  show (Int32.ofInt x).toInt.toNat = _
  rw [cm_ti ⟨by omega, h⟩]
theorem cm_nneg {x : Int} (h0 : 0 ≤ x) (h : x < 2147483648) : ¬ Int32.ofInt x < 0 := by
  have e : (0 : Int32) = Int32.ofInt 0 := rfl
  rw [e, cm_lt ⟨by omega, h⟩ ⟨by decide, by decide⟩]
  omega
theorem cm_vin {x : Int} {n : Nat} (h0 : 0 ≤ x) (h : x < n) (hn : n < 2 ^ 31) : vp_in (Int32.ofInt x) n := by
  rw [vp_in_iff, cm_ti ⟨by omega, by omega⟩]
  exact ⟨h0, h⟩
end
section
/-! ===== EACH INSTRUCTION OF THE SMALL MACHINE IS THE MACHINE'S: the plain ones ===== -/
def cm_sz (e : Nat × Nat) : Nat := if e.1 = 0 then cm_nf e.2 else e.2
def cm_sl (G : cm_G) : Nat := (G.1.map cm_sz).sum
def cm_Wf (G : cm_G) : Prop := ∀ e ∈ G.1, e.2 < 2 ^ 31
def cm_X (D : va_G) (cA : Nat → ClassId) (B : Int → Nat) (base : Nat) (ro : Int → Int → Int) (q : cm_MI) (p : Program) (R : Room) (s : State) (m : MethodId) (args : Array Value) (meth : Method) (c : Code) : Prop :=
  p.tables.exec = Jvm.exec ∧ c.code = q.2.1 ∧ c.maxLocals = cm_ml q ∧ meth.sig.returnType = cm_rt q ∧ s.vm.findClass (cm_cn (cm_ci q)) = some m.cls ∧ (∀ w ∈ cm_T, w.before args s = true) ∧ meth.locks = false ∧ (cm_kd q = 2 → meth.name = "<init>") ∧ cm_S D cA B base ro s ∧ cm_dp q ≤ R.frames ∧ cm_lc q ≤ R.locals
def cm_WW (l : Launch) (D : va_G) (cA : Nat → ClassId) (B : Int → Nat) (base : Nat) (ro : Int → Int → Int) (q : cm_MI) (pc : Nat) (ls : List (Option cm_V)) (st : List cm_V) (G : cm_G) (M : cm_M) (r : Option cm_V) (G' : cm_G) (M' : cm_M) : Prop :=
  ∀ (p : Program) (e : Env) (R : Room) (s : State) (m : MethodId) (args : Array Value) (below : List Frame) (meth : Method) (c : Code) (H : Heap) (locs : List Loc) (Ls : Array Slot) (N0 S0 : Nat) (Qc : Array Value → State → Outcome → State → Prop),
    cm_X D cA B base ro q p R s m args meth c → cm_L B q Ls ls → cm_W D cA B base G M H → va_S (cm_A base) s.heap H locs → N0 ≤ G.1.length → S0 ≤ cm_sl G → G'.1.length - N0 ≤ R.cells → cm_sl G' - S0 ≤ R.slots →
    (∀ t : State, s.WarmedH t.vm → cm_W D cA B base G' M' t.heap → va_F (cm_A base) s t → Qc args s (.returned (r.map (cm_v B))) t) →
    W p l e R s m args below meth c H locs (G.1.length - N0) (cm_sl G - S0) (MQ below Qc args s (G'.1.length - N0) (cm_sl G' - S0) (cm_A base)) (F0 m pc Ls (st.map (cm_v B)))
section ARMS
variable {l : Launch} {D : va_G} {cA : Nat → ClassId} {B : Int → Nat} {base : Nat} {ro : Int → Int → Int} {q : cm_MI} {pc : Nat} {ls : List (Option cm_V)} {st : List cm_V} {G : cm_G} {M : cm_M} {r : Option cm_V} {G' : cm_G} {M' : cm_M}
theorem cs_iconst {n : Int} (hd : decode q.2.1 pc = .ok (.iconst n, 1)) (K : cm_WW l D cA B base ro q (pc + 1) ls ((0, n) :: st) G M r G' M') : cm_WW l D cA B base ro q pc ls st G M r G' M' := by
  intro p e R s m args below meth c H locs Ls N0 S0 Qc hX hL hW hS h1 h2 h3 h4 hQ
  exact lv_iconst hX.1 hX.2.1 hd rfl (K p e R s m args below meth c H locs Ls N0 S0 Qc hX hL hW hS h1 h2 h3 h4 hQ)
theorem cs_bipush {n : Int} (hn : -128 ≤ n ∧ n ≤ 127) (hd : decode q.2.1 pc = .ok (.bipush n, 2)) (K : cm_WW l D cA B base ro q (pc + 2) ls ((0, n) :: st) G M r G' M') : cm_WW l D cA B base ro q pc ls st G M r G' M' := by
  intro p e R s m args below meth c H locs Ls N0 S0 Qc hX hL hW hS h1 h2 h3 h4 hQ
  have e1 : (Int8.ofInt n).toInt32 = Int32.ofInt n := by
    apply Int32.toInt.inj
    rw [Int8.toInt_toInt32, Int8.toInt_ofInt_of_le (by omega) (by omega), cm_ti ⟨by omega, by omega⟩]
  exact lv_bipush hX.1 hX.2.1 hd e1 (K p e R s m args below meth c H locs Ls N0 S0 Qc hX hL hW hS h1 h2 h3 h4 hQ)
theorem cs_sipush {n : Int} (hn : -32768 ≤ n ∧ n ≤ 32767) (hd : decode q.2.1 pc = .ok (.sipush n, 3)) (K : cm_WW l D cA B base ro q (pc + 3) ls ((0, n) :: st) G M r G' M') : cm_WW l D cA B base ro q pc ls st G M r G' M' := by
  intro p e R s m args below meth c H locs Ls N0 S0 Qc hX hL hW hS h1 h2 h3 h4 hQ
  have e1 : (Int16.ofInt n).toInt32 = Int32.ofInt n := by
    apply Int32.toInt.inj
    rw [Int16.toInt_toInt32, Int16.toInt_ofInt_of_le (by omega) (by omega), cm_ti ⟨by omega, by omega⟩]
  exact lv_sipush hX.1 hX.2.1 hd e1 (K p e R s m args below meth c H locs Ls N0 S0 Qc hX hL hW hS h1 h2 h3 h4 hQ)
theorem cs_lconst {n : Fin 2} (hd : decode q.2.1 pc = .ok (.lconst n, 1)) (K : cm_WW l D cA B base ro q (pc + 1) ls ((1, (n : Nat)) :: st) G M r G' M') : cm_WW l D cA B base ro q pc ls st G M r G' M' := by
  intro p e R s m args below meth c H locs Ls N0 S0 Qc hX hL hW hS h1 h2 h3 h4 hQ
  exact lv_lconst hX.1 hX.2.1 hd (Int64.ofInt_eq_ofNat).symm (K p e R s m args below meth c H locs Ls N0 S0 Qc hX hL hW hS h1 h2 h3 h4 hQ)
theorem cs_ldc2 {ix : Nat} {v : Int} (hv : cm_as cm_lng (cm_ci q) ix = some v) (hd : decode q.2.1 pc = .ok (.ldc2_w ix, 3)) (K : cm_WW l D cA B base ro q (pc + 3) ls ((1, v) :: st) G M r G' M') : cm_WW l D cA B base ro q pc ls st G M r G' M' := by
  intro p e R s m args below meth c H locs Ls N0 S0 Qc hX hL hW hS h1 h2 h3 h4 hQ
  exact lv_ldc2 hX.1 hX.2.1 hX.2.2.2.2.1 (hX.2.2.2.2.2.1 _ (cm_lng_ok _ (cm_as_mem hv))) hd (K p e R s m args below meth c H locs Ls N0 S0 Qc hX hL hW hS h1 h2 h3 h4 hQ)
theorem cs_iload_n {k : Fin 4} {x : Int} (hl : ls[(k : Nat)]? = some (some (0, x))) (hd : decode q.2.1 pc = .ok (.iload_n k, 1)) (K : cm_WW l D cA B base ro q (pc + 1) ls ((0, x) :: st) G M r G' M') : cm_WW l D cA B base ro q pc ls st G M r G' M' := by
  intro p e R s m args below meth c H locs Ls N0 S0 Qc hX hL hW hS h1 h2 h3 h4 hQ
  exact lv_iload_n hX.1 hX.2.1 hd rfl (hL.at hl) (K p e R s m args below meth c H locs Ls N0 S0 Qc hX hL hW hS h1 h2 h3 h4 hQ)
theorem cs_iload {k : Nat} {x : Int} (hl : ls[k]? = some (some (0, x))) (hd : decode q.2.1 pc = .ok (.iload k, 2)) (K : cm_WW l D cA B base ro q (pc + 2) ls ((0, x) :: st) G M r G' M') : cm_WW l D cA B base ro q pc ls st G M r G' M' := by
  intro p e R s m args below meth c H locs Ls N0 S0 Qc hX hL hW hS h1 h2 h3 h4 hQ
  exact lv_iload hX.1 hX.2.1 hd (hL.at hl) (K p e R s m args below meth c H locs Ls N0 S0 Qc hX hL hW hS h1 h2 h3 h4 hQ)
theorem cs_lload_n {k : Fin 4} {x : Int} (hl : ls[(k : Nat)]? = some (some (1, x))) (hd : decode q.2.1 pc = .ok (.lload_n k, 1)) (K : cm_WW l D cA B base ro q (pc + 1) ls ((1, x) :: st) G M r G' M') : cm_WW l D cA B base ro q pc ls st G M r G' M' := by
  intro p e R s m args below meth c H locs Ls N0 S0 Qc hX hL hW hS h1 h2 h3 h4 hQ
  exact lv_lload_n hX.1 hX.2.1 hd rfl (hL.at hl) (K p e R s m args below meth c H locs Ls N0 S0 Qc hX hL hW hS h1 h2 h3 h4 hQ)
theorem cs_lload {k : Nat} {x : Int} (hl : ls[k]? = some (some (1, x))) (hd : decode q.2.1 pc = .ok (.lload k, 2)) (K : cm_WW l D cA B base ro q (pc + 2) ls ((1, x) :: st) G M r G' M') : cm_WW l D cA B base ro q pc ls st G M r G' M' := by
  intro p e R s m args below meth c H locs Ls N0 S0 Qc hX hL hW hS h1 h2 h3 h4 hQ
  exact lv_lload hX.1 hX.2.1 hd (hL.at hl) (K p e R s m args below meth c H locs Ls N0 S0 Qc hX hL hW hS h1 h2 h3 h4 hQ)
theorem cs_aload_n {k : Fin 4} {x : Int} (hx : x ≠ -1) (hl : ls[(k : Nat)]? = some (some (2, x))) (hd : decode q.2.1 pc = .ok (.aload_n k, 1)) (K : cm_WW l D cA B base ro q (pc + 1) ls ((2, x) :: st) G M r G' M') : cm_WW l D cA B base ro q pc ls st G M r G' M' := by
  intro p e R s m args below meth c H locs Ls N0 S0 Qc hX hL hW hS h1 h2 h3 h4 hQ
  have e1 := hL.at hl
  have k := K p e R s m args below meth c H locs Ls N0 S0 Qc hX hL hW hS h1 h2 h3 h4 hQ
  rw [List.map_cons] at k
  rw [cm_v2 B hx] at e1 k
  exact lv_aload_n hX.1 hX.2.1 hd rfl e1 k
theorem cs_istore_n {k : Fin 4} {x : Int} (hlt : (k : Nat) < ls.length) (hp : cm_pl q k = false) (hd : decode q.2.1 pc = .ok (.istore_n k, 1)) (K : cm_WW l D cA B base ro q (pc + 1) (ls.set k (some (0, x))) st G M r G' M') : cm_WW l D cA B base ro q pc ls ((0, x) :: st) G M r G' M' := by
  intro p e R s m args below meth c H locs Ls N0 S0 Qc hX hL hW hS h1 h2 h3 h4 hQ
  obtain ⟨hlen, ⟨lv, hl, hm⟩, hg⟩ := hL
  exact lv_istore_n hX.1 hX.2.1 hd rfl hl (by omega) rfl (fun Ls' hl' => K p e R s m args below meth c H locs Ls' N0 S0 Qc hX (cm_L.set hlen hm hg hp (by simp) hl') hW hS h1 h2 h3 h4 hQ)
theorem cs_istore {k : Nat} {x : Int} (hlt : k < ls.length) (hp : cm_pl q k = false) (hd : decode q.2.1 pc = .ok (.istore k, 2)) (K : cm_WW l D cA B base ro q (pc + 2) (ls.set k (some (0, x))) st G M r G' M') : cm_WW l D cA B base ro q pc ls ((0, x) :: st) G M r G' M' := by
  intro p e R s m args below meth c H locs Ls N0 S0 Qc hX hL hW hS h1 h2 h3 h4 hQ
  obtain ⟨hlen, ⟨lv, hl, hm⟩, hg⟩ := hL
  exact lv_istore hX.1 hX.2.1 hd hl (by omega) rfl (fun Ls' hl' => K p e R s m args below meth c H locs Ls' N0 S0 Qc hX (cm_L.set hlen hm hg hp (by simp) hl') hW hS h1 h2 h3 h4 hQ)
theorem cs_astore_n {k : Fin 4} {x : Int} (hx : x ≠ -1) (hlt : (k : Nat) < ls.length) (hp : cm_pl q k = false) (hd : decode q.2.1 pc = .ok (.astore_n k, 1)) (K : cm_WW l D cA B base ro q (pc + 1) (ls.set k (some (2, x))) st G M r G' M') : cm_WW l D cA B base ro q pc ls ((2, x) :: st) G M r G' M' := by
  intro p e R s m args below meth c H locs Ls N0 S0 Qc hX hL hW hS h1 h2 h3 h4 hQ
  obtain ⟨hlen, ⟨lv, hl, hm⟩, hg⟩ := hL
  rw [List.map_cons, cm_v2 B hx]
  exact lv_astore_n hX.1 hX.2.1 hd rfl hl (by omega) rfl (fun Ls' hl' => K p e R s m args below meth c H locs Ls' N0 S0 Qc hX (cm_L.set hlen hm hg hp (by simp) (by rw [cm_v2 B hx]; exact hl')) hW hS h1 h2 h3 h4 hQ)
theorem cs_lstore {k : Nat} {x : Int} (hlt : k + 1 < ls.length) (hp : cm_pl q k = false) (hi : k ∈ cm_lg q) (hd : decode q.2.1 pc = .ok (.lstore k, 2)) (K : cm_WW l D cA B base ro q (pc + 2) ((ls.set k (some (1, x))).set (k + 1) none) st G M r G' M') : cm_WW l D cA B base ro q pc ls ((1, x) :: st) G M r G' M' := by
  intro p e R s m args below meth c H locs Ls N0 S0 Qc hX hL hW hS h1 h2 h3 h4 hQ
  obtain ⟨hlen, ⟨lv, hl, hm⟩, hg⟩ := hL
  exact lv_lstore hX.1 hX.2.1 hd hl (by omega) rfl (fun Ls' hl' => K p e R s m args below meth c H locs Ls' N0 S0 Qc hX (cm_L.setL hlen hm hg hp hi hl') hW hS h1 h2 h3 h4 hQ)
theorem cs_iinc {k : Nat} {n x : Int} (hk : ls[k]? = some (some (0, x))) (hp : cm_pl q k = false) (hd : decode q.2.1 pc = .ok (.iinc k n, 3)) (K : cm_WW l D cA B base ro q (pc + 3) (ls.set k (some (0, x + n))) st G M r G' M') : cm_WW l D cA B base ro q pc ls st G M r G' M' := by
  intro p e R s m args below meth c H locs Ls N0 S0 Qc hX hL hW hS h1 h2 h3 h4 hQ
  obtain ⟨hlen, ⟨lv, hl, hm⟩, hg⟩ := hL
  have hlt : k < ls.length := (List.getElem?_eq_some_iff.mp hk).1
  obtain ⟨j, hj⟩ := List.getElem?_of_mem (hm k _ hk)
  exact lv_iinc hX.1 hX.2.1 hd hl hj (Int32.ofInt_add x n).symm (by omega) rfl (fun Ls' hl' => K p e R s m args below meth c H locs Ls' N0 S0 Qc hX (cm_L.set (v := (0, x + n)) hlen hm hg hp (by simp) hl') hW hS h1 h2 h3 h4 hQ)
theorem cs_iadd {a b : Int} (hd : decode q.2.1 pc = .ok (.iadd, 1)) (K : cm_WW l D cA B base ro q (pc + 1) ls ((0, a + b) :: st) G M r G' M') : cm_WW l D cA B base ro q pc ls ((0, b) :: (0, a) :: st) G M r G' M' := by
  intro p e R s m args below meth c H locs Ls N0 S0 Qc hX hL hW hS h1 h2 h3 h4 hQ
  have k := K p e R s m args below meth c H locs Ls N0 S0 Qc hX hL hW hS h1 h2 h3 h4 hQ
  rw [List.map_cons, cm_v0, Int32.ofInt_add] at k
  exact lv_iadd hX.1 hX.2.1 hd k
theorem cs_isub {a b : Int} (hd : decode q.2.1 pc = .ok (.isub, 1)) (K : cm_WW l D cA B base ro q (pc + 1) ls ((0, a - b) :: st) G M r G' M') : cm_WW l D cA B base ro q pc ls ((0, b) :: (0, a) :: st) G M r G' M' := by
  intro p e R s m args below meth c H locs Ls N0 S0 Qc hX hL hW hS h1 h2 h3 h4 hQ
  have k := K p e R s m args below meth c H locs Ls N0 S0 Qc hX hL hW hS h1 h2 h3 h4 hQ
  rw [List.map_cons, cm_v0, Int32.ofInt_sub] at k
  exact lv_isub hX.1 hX.2.1 hd k
theorem cs_imul {a b : Int} (hd : decode q.2.1 pc = .ok (.imul, 1)) (K : cm_WW l D cA B base ro q (pc + 1) ls ((0, a * b) :: st) G M r G' M') : cm_WW l D cA B base ro q pc ls ((0, b) :: (0, a) :: st) G M r G' M' := by
  intro p e R s m args below meth c H locs Ls N0 S0 Qc hX hL hW hS h1 h2 h3 h4 hQ
  have k := K p e R s m args below meth c H locs Ls N0 S0 Qc hX hL hW hS h1 h2 h3 h4 hQ
  rw [List.map_cons, cm_v0, Int32.ofInt_mul] at k
  exact lv_imul hX.1 hX.2.1 hd k
theorem cs_iand {a b : Int} (hd : decode q.2.1 pc = .ok (.iand, 1)) (K : cm_WW l D cA B base ro q (pc + 1) ls ((0, cm_iand a b) :: st) G M r G' M') : cm_WW l D cA B base ro q pc ls ((0, b) :: (0, a) :: st) G M r G' M' := by
  intro p e R s m args below meth c H locs Ls N0 S0 Qc hX hL hW hS h1 h2 h3 h4 hQ
  have k := K p e R s m args below meth c H locs Ls N0 S0 Qc hX hL hW hS h1 h2 h3 h4 hQ
  rw [List.map_cons, cm_v0, cm_iand, Int32.ofInt_toInt] at k
  exact lv_iand hX.1 hX.2.1 hd k
theorem cm_divI {a b : Int} (ha : cm_in a) (hb : cm_in b) (h0 : 0 < b) : Int32.ofInt a / Int32.ofInt b = Int32.ofInt (a.tdiv b) := by
  have h1 : cm_in (a.tdiv b) := by
    have h2 := Int.natAbs_tdiv_le_natAbs a b
    have ha1 := ha.1
    have ha2 := ha.2
    by_cases hz : a = -2147483648
    · subst hz
      have : Int.tdiv (-2147483648) b ≤ 0 := by
        rw [Int.neg_tdiv]
        have := Int.tdiv_nonneg (a := 2147483648) (b := b) (by decide) (by omega)
        omega
      constructor <;> omega
    · constructor <;> omega
  apply Int32.toInt.inj
  rw [Int32.toInt_div_of_ne_right _ _ (by
    intro h
    have := congrArg Int32.toInt h
    rw [cm_ti hb] at this
    have e : (-1 : Int32).toInt = -1 := by decide
    rw [e] at this
    omega), cm_ti ha, cm_ti hb, cm_ti h1]
theorem cs_idiv {a b : Int} (ha : cm_in a) (hb : cm_in b) (h0 : 0 < b) (hd : decode q.2.1 pc = .ok (.idiv, 1)) (K : cm_WW l D cA B base ro q (pc + 1) ls ((0, a.tdiv b) :: st) G M r G' M') : cm_WW l D cA B base ro q pc ls ((0, b) :: (0, a) :: st) G M r G' M' := by
  intro p e R s m args below meth c H locs Ls N0 S0 Qc hX hL hW hS h1 h2 h3 h4 hQ
  have k := K p e R s m args below meth c H locs Ls N0 S0 Qc hX hL hW hS h1 h2 h3 h4 hQ
  rw [List.map_cons, cm_v0, ← cm_divI ha hb h0] at k
  exact lv_idiv hX.1 hX.2.1 hd (fun h => by
    have h5 : Int32.ofInt b = Int32.ofInt 0 := h
    rw [cm_inj hb ⟨by decide, by decide⟩] at h5
    omega) k
theorem cs_irem {a b : Int} (ha : cm_in a) (hb : cm_in b) (h0 : 0 < b) (hd : decode q.2.1 pc = .ok (.irem, 1)) (K : cm_WW l D cA B base ro q (pc + 1) ls ((0, a.tmod b) :: st) G M r G' M') : cm_WW l D cA B base ro q pc ls ((0, b) :: (0, a) :: st) G M r G' M' := by
  intro p e R s m args below meth c H locs Ls N0 S0 Qc hX hL hW hS h1 h2 h3 h4 hQ
  have k := K p e R s m args below meth c H locs Ls N0 S0 Qc hX hL hW hS h1 h2 h3 h4 hQ
  have e1 : Int32.ofInt a - Int32.ofInt a / Int32.ofInt b * Int32.ofInt b = Int32.ofInt (a.tmod b) := by
    rw [cm_divI ha hb h0, ← Int32.ofInt_mul, ← Int32.ofInt_sub]
    congr 1
    have := Int.tmod_add_mul_tdiv a b
    rw [Int.mul_comm] at this
    omega
  rw [List.map_cons, cm_v0, ← e1] at k
  exact lv_irem hX.1 hX.2.1 hd (fun h => by
    have h5 : Int32.ofInt b = Int32.ofInt 0 := h
    rw [cm_inj hb ⟨by decide, by decide⟩] at h5
    omega) k
theorem cs_land {a b : Int} (hd : decode q.2.1 pc = .ok (.land, 1)) (K : cm_WW l D cA B base ro q (pc + 1) ls ((1, cm_land a b) :: st) G M r G' M') : cm_WW l D cA B base ro q pc ls ((1, b) :: (1, a) :: st) G M r G' M' := by
  intro p e R s m args below meth c H locs Ls N0 S0 Qc hX hL hW hS h1 h2 h3 h4 hQ
  have k := K p e R s m args below meth c H locs Ls N0 S0 Qc hX hL hW hS h1 h2 h3 h4 hQ
  rw [List.map_cons, cm_v1, cm_land, Int64.ofInt_toInt] at k
  exact lv_land hX.1 hX.2.1 hd k
theorem cs_lor {a b : Int} (hd : decode q.2.1 pc = .ok (.lor, 1)) (K : cm_WW l D cA B base ro q (pc + 1) ls ((1, cm_lor a b) :: st) G M r G' M') : cm_WW l D cA B base ro q pc ls ((1, b) :: (1, a) :: st) G M r G' M' := by
  intro p e R s m args below meth c H locs Ls N0 S0 Qc hX hL hW hS h1 h2 h3 h4 hQ
  have k := K p e R s m args below meth c H locs Ls N0 S0 Qc hX hL hW hS h1 h2 h3 h4 hQ
  rw [List.map_cons, cm_v1, cm_lor, Int64.ofInt_toInt] at k
  exact lv_lor hX.1 hX.2.1 hd k
theorem cs_lushr {a b : Int} (hd : decode q.2.1 pc = .ok (.lushr, 1)) (K : cm_WW l D cA B base ro q (pc + 1) ls ((1, cm_lushr a b) :: st) G M r G' M') : cm_WW l D cA B base ro q pc ls ((0, b) :: (1, a) :: st) G M r G' M' := by
  intro p e R s m args below meth c H locs Ls N0 S0 Qc hX hL hW hS h1 h2 h3 h4 hQ
  have k := K p e R s m args below meth c H locs Ls N0 S0 Qc hX hL hW hS h1 h2 h3 h4 hQ
  rw [List.map_cons, cm_v1, cm_lushr, Int64.ofInt_toInt] at k
  exact lv_lushr hX.1 hX.2.1 hd rfl k
theorem cs_lshl {a b : Int} (hd : decode q.2.1 pc = .ok (.lshl, 1)) (K : cm_WW l D cA B base ro q (pc + 1) ls ((1, cm_lshl a b) :: st) G M r G' M') : cm_WW l D cA B base ro q pc ls ((0, b) :: (1, a) :: st) G M r G' M' := by
  intro p e R s m args below meth c H locs Ls N0 S0 Qc hX hL hW hS h1 h2 h3 h4 hQ
  have k := K p e R s m args below meth c H locs Ls N0 S0 Qc hX hL hW hS h1 h2 h3 h4 hQ
  rw [List.map_cons, cm_v1, cm_lshl, Int64.ofInt_toInt] at k
  exact lv_lshl hX.1 hX.2.1 hd rfl k
theorem cs_l2i {a : Int} (hd : decode q.2.1 pc = .ok (.l2i, 1)) (K : cm_WW l D cA B base ro q (pc + 1) ls ((0, cm_l2i a) :: st) G M r G' M') : cm_WW l D cA B base ro q pc ls ((1, a) :: st) G M r G' M' := by
  intro p e R s m args below meth c H locs Ls N0 S0 Qc hX hL hW hS h1 h2 h3 h4 hQ
  have k := K p e R s m args below meth c H locs Ls N0 S0 Qc hX hL hW hS h1 h2 h3 h4 hQ
  rw [List.map_cons, cm_v0, cm_l2i, Int32.ofInt_toInt] at k
  exact lv_l2i hX.1 hX.2.1 hd rfl k
theorem cs_i2l {a : Int} (hd : decode q.2.1 pc = .ok (.i2l, 1)) (K : cm_WW l D cA B base ro q (pc + 1) ls ((1, cm_i2l a) :: st) G M r G' M') : cm_WW l D cA B base ro q pc ls ((0, a) :: st) G M r G' M' := by
  intro p e R s m args below meth c H locs Ls N0 S0 Qc hX hL hW hS h1 h2 h3 h4 hQ
  have k := K p e R s m args below meth c H locs Ls N0 S0 Qc hX hL hW hS h1 h2 h3 h4 hQ
  rw [List.map_cons, cm_v1, cm_i2l, Int64.ofInt_toInt] at k
  exact lv_i2l hX.1 hX.2.1 hd rfl k
theorem cm_char {a : Int} (ha : 0 ≤ a ∧ a < 65536) : ((Int32.ofInt a).toUInt32 % 65536).toInt32 = Int32.ofInt a := by
  obtain ⟨n, rfl⟩ : ∃ n : Nat, a = n := ⟨a.toNat, by omega⟩
  have hn : n < 65536 := by omega
  apply Int32.toInt.inj
  rw [cm_ti ⟨by omega, by omega⟩]
  have e1 : (Int32.ofInt (n : Int)).toUInt32 = UInt32.ofNat n := by
    rw [Int32.ofInt_eq_ofNat]
    rfl
  have e2 : UInt32.ofNat n % 65536 = UInt32.ofNat n := by
    apply UInt32.toNat.inj
    rw [UInt32.toNat_mod, UInt32.toNat_ofNat']
    show n % 4294967296 % 65536 = n % 4294967296
    omega
  rw [e1, e2]
  show (Int32.ofNat n).toInt = _
  rw [← Int32.ofInt_eq_ofNat, cm_ti ⟨by omega, by omega⟩]
theorem cs_i2c {a : Int} (ha : 0 ≤ a ∧ a < 65536) (hd : decode q.2.1 pc = .ok (.i2c, 1)) (K : cm_WW l D cA B base ro q (pc + 1) ls ((0, a) :: st) G M r G' M') : cm_WW l D cA B base ro q pc ls ((0, a) :: st) G M r G' M' := by
  intro p e R s m args below meth c H locs Ls N0 S0 Qc hX hL hW hS h1 h2 h3 h4 hQ
  exact lv_i2c hX.1 hX.2.1 hd (cm_char ha) (K p e R s m args below meth c H locs Ls N0 S0 Qc hX hL hW hS h1 h2 h3 h4 hQ)
theorem cs_lcmp {a b : Int} (hd : decode q.2.1 pc = .ok (.lcmp, 1)) (K : cm_WW l D cA B base ro q (pc + 1) ls ((0, cm_lcmp a b) :: st) G M r G' M') : cm_WW l D cA B base ro q pc ls ((1, b) :: (1, a) :: st) G M r G' M' := by
  intro p e R s m args below meth c H locs Ls N0 S0 Qc hX hL hW hS h1 h2 h3 h4 hQ
  have k := K p e R s m args below meth c H locs Ls N0 S0 Qc hX hL hW hS h1 h2 h3 h4 hQ
  rw [List.map_cons, cm_v0, cm_lcmp, Int32.ofInt_toInt] at k
  exact W.lcmp hX.1 hX.2.1 hd k
theorem cm_cat1 {v : cm_V} (h : v.1 ≠ 1) : (cm_v B v).category = 1 := by rw [cm_v_cat, cm_cat, if_neg h]
theorem cs_dup {v : cm_V} (hv : v.1 ≠ 1) (hd : decode q.2.1 pc = .ok (.dup, 1)) (K : cm_WW l D cA B base ro q (pc + 1) ls (v :: v :: st) G M r G' M') : cm_WW l D cA B base ro q pc ls (v :: st) G M r G' M' := by
  intro p e R s m args below meth c H locs Ls N0 S0 Qc hX hL hW hS h1 h2 h3 h4 hQ
  exact lv_dup hX.1 hX.2.1 hd (cm_cat1 hv) (K p e R s m args below meth c H locs Ls N0 S0 Qc hX hL hW hS h1 h2 h3 h4 hQ)
theorem cs_dup2 {v w : cm_V} (hv : v.1 ≠ 1) (hw : w.1 ≠ 1) (hd : decode q.2.1 pc = .ok (.dup2, 1)) (K : cm_WW l D cA B base ro q (pc + 1) ls (v :: w :: v :: w :: st) G M r G' M') : cm_WW l D cA B base ro q pc ls (v :: w :: st) G M r G' M' := by
  intro p e R s m args below meth c H locs Ls N0 S0 Qc hX hL hW hS h1 h2 h3 h4 hQ
  exact lv_dup2_11 hX.1 hX.2.1 hd (cm_cat1 hv) (cm_cat1 hw) (K p e R s m args below meth c H locs Ls N0 S0 Qc hX hL hW hS h1 h2 h3 h4 hQ)
theorem cs_pop {v : cm_V} (hv : v.1 ≠ 1) (hd : decode q.2.1 pc = .ok (.pop, 1)) (K : cm_WW l D cA B base ro q (pc + 1) ls st G M r G' M') : cm_WW l D cA B base ro q pc ls (v :: st) G M r G' M' := by
  intro p e R s m args below meth c H locs Ls N0 S0 Qc hX hL hW hS h1 h2 h3 h4 hQ
  exact lv_pop hX.1 hX.2.1 hd (cm_cat1 hv) (K p e R s m args below meth c H locs Ls N0 S0 Qc hX hL hW hS h1 h2 h3 h4 hQ)
theorem cs_goto {off : Int} {tgt : Nat} (ht : (pc : Int) + off = tgt) (hd : decode q.2.1 pc = .ok (.goto off, 3)) (K : cm_WW l D cA B base ro q tgt ls st G M r G' M') : cm_WW l D cA B base ro q pc ls st G M r G' M' := by
  intro p e R s m args below meth c H locs Ls N0 S0 Qc hX hL hW hS h1 h2 h3 h4 hQ
  exact lv_goto hX.1 hX.2.1 hd ht (K p e R s m args below meth c H locs Ls N0 S0 Qc hX hL hW hS h1 h2 h3 h4 hQ)
theorem cs_icmp {cd : Jvm.ClassFile.Cond} {off a b : Int} {tgt : Nat} (ha : cm_in a) (hb : cm_in b) (ht : (pc : Int) + off = tgt) (hd : decode q.2.1 pc = .ok (.if_icmp cd off, 3)) (Kt : cm_cmp cd a b = true → cm_WW l D cA B base ro q tgt ls st G M r G' M') (Kf : ¬ cm_cmp cd a b = true → cm_WW l D cA B base ro q (pc + 3) ls st G M r G' M') : cm_WW l D cA B base ro q pc ls ((0, b) :: (0, a) :: st) G M r G' M' := by
  intro p e R s m args below meth c H locs Ls N0 S0 Qc hX hL hW hS h1 h2 h3 h4 hQ
  have kt := fun h => Kt h p e R s m args below meth c H locs Ls N0 S0 Qc hX hL hW hS h1 h2 h3 h4 hQ
  have kf := fun h => Kf h p e R s m args below meth c H locs Ls N0 S0 Qc hX hL hW hS h1 h2 h3 h4 hQ
  rw [List.map_cons, List.map_cons, cm_v0, cm_v0]
  cases cd <;> simp only [cm_cmp, decide_eq_true_eq, Bool.not_eq_true', decide_eq_false_iff_not] at kt kf
  · exact lv_icmp_eq hX.1 hX.2.1 hd ht (fun h => kt ((cm_inj ha hb).mp h)) (fun h => kf (fun z => h ((cm_inj ha hb).mpr z)))
  · exact lv_icmp_ne hX.1 hX.2.1 hd ht (fun h => kt (fun z => h ((cm_inj ha hb).mpr z))) (fun h => kf (fun z => z ((cm_inj ha hb).mp h)))
  · exact lv_icmp_lt hX.1 hX.2.1 hd ht (fun h => kt ((cm_lt ha hb).mp h)) (fun h => kf (fun z => h ((cm_lt ha hb).mpr z)))
  · exact lv_icmp_ge hX.1 hX.2.1 hd ht (fun h => kt (by have := (cm_le hb ha).mp h; omega)) (fun h => kf (fun z => h ((cm_le hb ha).mpr (by omega))))
  · exact lv_icmp_gt hX.1 hX.2.1 hd ht (fun h => kt ((cm_lt hb ha).mp h)) (fun h => kf (fun z => h ((cm_lt hb ha).mpr z)))
  · exact lv_icmp_le hX.1 hX.2.1 hd ht (fun h => kt (by have := (cm_le ha hb).mp h; omega)) (fun h => kf (fun z => h ((cm_le ha hb).mpr (by omega))))
theorem cs_if {cd : Jvm.ClassFile.Cond} {off a : Int} {tgt : Nat} (ha : cm_in a) (ht : (pc : Int) + off = tgt) (hd : decode q.2.1 pc = .ok (.ifCond cd off, 3)) (Kt : cm_cmp cd a 0 = true → cm_WW l D cA B base ro q tgt ls st G M r G' M') (Kf : ¬ cm_cmp cd a 0 = true → cm_WW l D cA B base ro q (pc + 3) ls st G M r G' M') : cm_WW l D cA B base ro q pc ls ((0, a) :: st) G M r G' M' := by
  intro p e R s m args below meth c H locs Ls N0 S0 Qc hX hL hW hS h1 h2 h3 h4 hQ
  have kt := fun h => Kt h p e R s m args below meth c H locs Ls N0 S0 Qc hX hL hW hS h1 h2 h3 h4 hQ
  have kf := fun h => Kf h p e R s m args below meth c H locs Ls N0 S0 Qc hX hL hW hS h1 h2 h3 h4 hQ
  have hb : cm_in 0 := ⟨by decide, by decide⟩
  rw [List.map_cons, cm_v0]
  cases cd <;> simp only [cm_cmp, decide_eq_true_eq, Bool.not_eq_true', decide_eq_false_iff_not] at kt kf
  · exact lv_if_eq hX.1 hX.2.1 hd ht (fun h => kt ((cm_inj ha hb).mp h)) (fun h => kf (fun z => h ((cm_inj ha hb).mpr z)))
  · exact lv_if_ne hX.1 hX.2.1 hd ht (fun h => kt (fun z => h ((cm_inj ha hb).mpr z))) (fun h => kf (fun z => z ((cm_inj ha hb).mp h)))
  · exact lv_if_lt hX.1 hX.2.1 hd ht (fun h => kt ((cm_lt ha hb).mp h)) (fun h => kf (fun z => h ((cm_lt ha hb).mpr z)))
  · exact lv_if_ge hX.1 hX.2.1 hd ht (fun h => kt (by have := (cm_le hb ha).mp h; omega)) (fun h => kf (fun z => h ((cm_le hb ha).mpr (by omega))))
  · exact lv_if_gt hX.1 hX.2.1 hd ht (fun h => kt ((cm_lt hb ha).mp h)) (fun h => kf (fun z => h ((cm_lt hb ha).mpr z)))
  · exact lv_if_le hX.1 hX.2.1 hd ht (fun h => kt (by have := (cm_le ha hb).mp h; omega)) (fun h => kf (fun z => h ((cm_le ha hb).mpr (by omega))))
theorem cs_table {d lo hi x : Int} {offs : Array Int} {len tgt : Nat} (hx : cm_in x) (ho : x < lo ∨ hi < x ∨ (x - lo).toNat < offs.size) (ht : (pc : Int) + cm_tab d lo hi offs x = tgt) (hd : decode q.2.1 pc = .ok (.tableswitch d lo hi offs, len)) (K : cm_WW l D cA B base ro q tgt ls st G M r G' M') : cm_WW l D cA B base ro q pc ls ((0, x) :: st) G M r G' M' := by
  intro p e R s m args below meth c H locs Ls N0 S0 Qc hX hL hW hS h1 h2 h3 h4 hQ
  have k := K p e R s m args below meth c H locs Ls N0 S0 Qc hX hL hW hS h1 h2 h3 h4 hQ
  rw [List.map_cons, cm_v0]
  unfold cm_tab at ht
  by_cases hc : x < lo ∨ hi < x
  · rw [if_pos hc] at ht
    exact lv_tableOut hX.1 hX.2.1 hd (by rw [cm_ti hx]; exact hc) ht k
  · rw [if_neg hc] at ht
    have hlt : (x - lo).toNat < offs.size := by
      rcases ho with h | h | h
      · exact absurd (Or.inl h) hc
      · exact absurd (Or.inr h) hc
      · exact h
    refine lv_tableIn hX.1 hX.2.1 hd (by rw [cm_ti hx]; exact fun h => hc (Or.inl h)) (by rw [cm_ti hx]; exact fun h => hc (Or.inr h)) (off := offs.toList.getD (x - lo).toNat d) ?_ ht k
    rw [cm_ti hx, ← Array.getElem?_toList, List.getD_eq_getElem?_getD, List.getElem?_eq_getElem (by simpa using hlt)]
    rfl
theorem cs_lookup {d x : Int} {ps : Array (Int × Int)} {len tgt : Nat} (hx : cm_in x) (hp : (ps.toList.zip (ps.toList.drop 1)).all (fun (a, next) => a.1 < next.1) = true) (ht : (pc : Int) + cm_lk d ps.toList x = tgt) (hd : decode q.2.1 pc = .ok (.lookupswitch d ps, len)) (K : cm_WW l D cA B base ro q tgt ls st G M r G' M') : cm_WW l D cA B base ro q pc ls ((0, x) :: st) G M r G' M' := by
  intro p e R s m args below meth c H locs Ls N0 S0 Qc hX hL hW hS h1 h2 h3 h4 hQ
  have k := K p e R s m args below meth c H locs Ls N0 S0 Qc hX hL hW hS h1 h2 h3 h4 hQ
  rw [List.map_cons, cm_v0]
  exact lv_lookup hX.1 hX.2.1 hd hp rfl (by rw [cm_ti hx]; exact ht) k
/-! returns -/
theorem cs_ireturn {v : Int} (hr : cm_rt q = some .int) (hd : decode q.2.1 pc = .ok (.ireturn, 1)) : cm_WW l D cA B base ro q pc ls [(0, v)] G M (some (0, v)) G M := by
  intro p e R s m args below meth c H locs Ls N0 S0 Qc hX hL hW hS h1 h2 h3 h4 hQ
  exact W.iret hX.1 hX.2.1 (hX.2.2.2.1.trans hr) (fun t ht hw => hQ t hw (by rw [ht]; exact hW) (hS.F ht)) hS.2.2 hd (hlocks := hX.2.2.2.2.2.2.1)
theorem cs_zreturn {v : Int} (hv : v = 0 ∨ v = 1) (hr : cm_rt q = some .boolean) (hd : decode q.2.1 pc = .ok (.ireturn, 1)) : cm_WW l D cA B base ro q pc ls [(0, v)] G M (some (0, v)) G M := by
  intro p e R s m args below meth c H locs Ls N0 S0 Qc hX hL hW hS h1 h2 h3 h4 hQ
  exact W.zret hX.1 hX.2.1 (hX.2.2.2.1.trans hr) (by rcases hv with rfl | rfl <;> decide) (fun t ht hw => hQ t hw (by rw [ht]; exact hW) (hS.F ht)) hS.2.2 hd (hlocks := hX.2.2.2.2.2.2.1)
theorem cs_return (hr : cm_rt q = none) (hd : decode q.2.1 pc = .ok (.return_, 1)) : cm_WW l D cA B base ro q pc ls [] G M none G M := by
  intro p e R s m args below meth c H locs Ls N0 S0 Qc hX hL hW hS h1 h2 h3 h4 hQ
  exact W.vret hX.1 hX.2.1 (hX.2.2.2.1.trans hr) (fun t ht hw => hQ t hw (by rw [ht]; exact hW) (hS.F ht)) hS.2.2 hd (hlocks := hX.2.2.2.2.2.2.1)
end ARMS
end
section
/-! ===== the same: fields, arrays, new cells ===== -/
theorem cm_fs_len (B : Int → Nat) (ci : Nat) (f g : Int → Int) : (cm_fs B ci f g).length = cm_nf ci := by simp [cm_fs]
theorem cm_fs_at (B : Int → Nat) {ci j : Nat} (f g : Int → Int) (h : j < cm_nf ci) : (cm_fs B ci f g)[j]? = some (cm_fv B ci f g j) := by
  unfold cm_fs
  rw [List.getElem?_map, List.getElem?_range h]
  rfl
theorem cm_fs_set (B : Int → Nat) {ci j : Nat} {f g f' g' : Int → Int} {v : Value} (h : j < cm_nf ci) (h1 : ∀ i, i ≠ j → cm_fv B ci f' g' i = cm_fv B ci f g i) (h2 : cm_fv B ci f' g' j = v) : cm_fs B ci f' g' = (cm_fs B ci f g).set j v := by
  apply List.ext_getElem?
  intro i
  by_cases hi : i < cm_nf ci
  · rw [cm_fs_at B f' g' hi]
    by_cases hij : i = j
    · subst hij
      rw [List.getElem?_set_self (by rw [cm_fs_len]; exact hi), h2]
    · rw [List.getElem?_set_ne (Ne.symm hij), cm_fs_at B f g hi, h1 i hij]
  · rw [List.getElem?_eq_none (by rw [cm_fs_len]; omega), List.getElem?_eq_none (by rw [List.length_set, cm_fs_len]; omega)]
theorem cm_nf_of {ci : Nat} {r : vw_C} (h : vwCl[ci]? = some r) : cm_nf ci = r.2.2 := by unfold cm_nf; rw [h]
theorem cm_up_s (f : Int → Int → Int) (k j v : Int) : cm_up f k j v k j = v := if_pos ⟨rfl, rfl⟩
theorem cm_up_n (f : Int → Int → Int) {k j v a b : Int} (h : a ≠ k ∨ b ≠ j) : cm_up f k j v a b = f a b := if_neg (fun z => h.elim (fun y => y z.1) (fun y => y z.2))
section ARMS2
variable {l : Launch} {D : va_G} {cA : Nat → ClassId} {B : Int → Nat} {base : Nat} {ro : Int → Int → Int} {q : cm_MI} {pc : Nat} {ls : List (Option cm_V)} {st : List cm_V} {G : cm_G} {M : cm_M} {r : Option cm_V} {G' : cm_G} {M' : cm_M}
theorem cm_cell0 {H : Heap} (hW : cm_W D cA B base G M H) {k : Int} {ci : Nat} (hk : cm_sh G k = some (0, ci)) : va_at D vwCl (B k, .inr (ci, cm_fs B ci (M k) (G.2 k))) H := hW.cell hk
theorem cm_cell1 {H : Heap} (hW : cm_W D cA B base G M H) {k : Int} {t n : Nat} (h0 : t ≠ 0) (h4 : t ≠ 4) (hk : cm_sh G k = some (t, n)) : va_at D vwCl (B k, .inl (cA t, n, .inl (fun j => Int32.ofInt (M k j)))) H := by
  have := hW.cell hk
  unfold cm_c at this
  rwa [if_neg h0, if_neg h4] at this
theorem cm_cell4 {H : Heap} (hW : cm_W D cA B base G M H) {k : Int} {n : Nat} (hk : cm_sh G k = some (4, n)) : va_at D vwCl (B k, .inl (cA 4, n, .inr (.inr (.inr (.inr (cm_rr B (G.2 k))))))) H := hW.cell hk
theorem cm_al_sh {t : Nat} {k i : Int} (hk : 0 ≤ k) (h0 : 0 ≤ i) (h : i < cm_al t G M k) : ∃ n : Nat, cm_sh G k = some (t, n) ∧ i < n := by
  unfold cm_al at h
  rw [if_neg (by omega), if_neg (by omega)] at h
  cases hs : cm_sh G k with
  | none => rw [hs] at h; simp only at h; omega
  | some e =>
    obtain ⟨t', n⟩ := e
    rw [hs] at h
    simp only at h
    by_cases ht : t' = t
    · rw [if_pos ht] at h
      exact ⟨n, by rw [ht], h⟩
    · rw [if_neg ht] at h; omega
theorem cm_wf_at (hwf : cm_Wf G) {k : Int} {e : Nat × Nat} (h : cm_sh G k = some e) : e.2 < 2 ^ 31 := by
  obtain ⟨n, -, h1⟩ := cm_sh_some h
  exact hwf e (List.mem_of_getElem? h1)
theorem cs_get {ix ci j : Nat} {k : Int} {w : cm_V} (hf : cm_as cm_fld (cm_ci q) ix = some (ci, j)) (hk : cm_sh G k = some (0, ci)) (hw : (cm_fk ci j = some 0 ∧ w = (0, M k j)) ∨ (cm_fk ci j = some 2 ∧ w = (2, G.2 k j))) (hd : decode q.2.1 pc = .ok (.getfield ix, 3)) (K : cm_WW l D cA B base ro q (pc + 3) ls (w :: st) G M r G' M') : cm_WW l D cA B base ro q pc ls ((2, k) :: st) G M r G' M' := by
  intro p e R s m args below meth c H locs Ls N0 S0 Qc hX hL hW hS h1 h2 h3 h4 hQ
  have kk := K p e R s m args below meth c H locs Ls N0 S0 Qc hX hL hW hS h1 h2 h3 h4 hQ
  obtain ⟨hx, hb, hml, hr, hown, hts, hlk, hin, hSt, hdp, hlc⟩ := hX
  obtain ⟨hci, rc, hrc, hj, hlink⟩ := cm_fld_ok _ (cm_as_mem hf)
  obtain ⟨rc', ty, hrc', hty, hname, hws, -⟩ := cm_cl_ok ci hci
  cases hrc.symm.trans hrc'
  rw [List.map_cons, cm_v2 B (by have := (cm_sh_lt hk).1; omega)]
  refine va_get (D := D) (cl := vwCl) (ci := ci) (C := rc.1) (T := rc.2.1) (N := rc.2.2) hx hb hts hws hown hSt.1 (cm_P1 (cm_cell0 hW hk)) 0 rfl hrc j hj (hts _ hlink) (fun _ h => h) (v := cm_v B w) ?_ hd kk
  rw [cm_fs_at B _ _ (by rw [cm_nf_of hrc]; exact hj)]
  unfold cm_fv
  rcases hw with ⟨h5, rfl⟩ | ⟨h5, rfl⟩
  · rw [if_pos h5, cm_v0]
  · rw [if_neg (by rw [h5]; decide)]
theorem cs_put (hB : cm_B B base) {ix ci j t : Nat} {k v : Int} {G1 : cm_G} {M1 : cm_M} (hf : cm_as cm_fld (cm_ci q) ix = some (ci, j)) (hk : cm_sh G k = some (0, ci)) (ht : cm_fk ci j = some t) (hfin : cm_fin ci j = true → cm_kd q = 2 ∧ cm_ci q = ci)
    (hw : (t = 0 ∧ G1 = G ∧ M1 = cm_up M k j v) ∨ (t = 2 ∧ 0 ≤ v ∧ G1 = (G.1, cm_up G.2 k j v) ∧ M1 = M)) (hd : decode q.2.1 pc = .ok (.putfield ix, 3)) (K : cm_WW l D cA B base ro q (pc + 3) ls st G1 M1 r G' M') : cm_WW l D cA B base ro q pc ls ((t, v) :: (2, k) :: st) G M r G' M' := by
  intro p e R s m args below meth c H locs Ls N0 S0 Qc hX hL hW hS h1 h2 h3 h4 hQ
  have hX' := hX
  obtain ⟨hx, hb, hml, hr, hown, hts, hlk, hin, hSt, hdp, hlc⟩ := hX
  obtain ⟨hci, rc, hrc, hj, hlink⟩ := cm_fld_ok _ (cm_as_mem hf)
  obtain ⟨rc', ty, hrc', hty, hname, hws, hparse, hnm, -, -, -, hkinds, hdecl⟩ := cm_cl_ok ci hci
  cases hrc.symm.trans hrc'
  have hK := hSt.1
  have hG1 : G1.1 = G.1 := by rcases hw with ⟨-, rfl, -⟩ | ⟨-, -, rfl, -⟩ <;> rfl
  have hjn : j < cm_nf ci := by rw [cm_nf_of hrc]; exact hj
  have hset : cm_fs B ci (M1 k) (G1.2 k) = (cm_fs B ci (M k) (G.2 k)).set j (cm_v B (t, v)) := by
    rcases hw with ⟨rfl, rfl, rfl⟩ | ⟨rfl, h0, rfl, rfl⟩
    · refine cm_fs_set B hjn (fun i hi => ?_) ?_
      · unfold cm_fv cm_up
        rw [if_neg (show ¬ (k = k ∧ (i : Int) = j) by omega)]
      · unfold cm_fv cm_up
        rw [if_pos ht, if_pos ⟨rfl, rfl⟩, cm_v0]
    · refine cm_fs_set B hjn (fun i hi => ?_) ?_
      · show cm_fv B ci (M1 k) (cm_up G.2 k j v k) i = _
        unfold cm_fv
        rw [cm_up_n _ (Or.inr (by omega))]
      · show cm_fv B ci (M1 k) (cm_up G.2 k j v k) j = _
        unfold cm_fv
        rw [if_neg (by rw [ht]; decide), cm_up_s]
  have hap := va_apart (own := cm_cn (cm_ci q)) hts hws ty hparse hnm hK hrc
  obtain ⟨rd, hrd, cell, q1, q2, q3, q4⟩ := cm_cell0 hW hk
  have hr : rd = rc := Option.some.inj (hrd.symm.trans hrc)
  subst hr
  obtain ⟨hSl, hfc, kC, hkC, hkind⟩ := hK.1 ci _ hrc
  obtain ⟨cf, kf, fi, f, hi, hsl⟩ := hSl j hj
  have hst := (u_facts hfc hkC (u_lays hts hws hj) hi).1
  have hvt : narrow (ty j) (cm_v B (t, v)) = cm_v B (t, v) ∧ fits (ty j) (cm_v B (t, v)) = true := by
    rcases hw with ⟨rfl, -⟩ | ⟨rfl, h0, -⟩
    · rcases hkinds j hj with ⟨-, h6⟩ | ⟨h6, -⟩
      · rw [h6]; exact ⟨rfl, rfl⟩
      · rw [ht] at h6; cases h6
    · rcases hkinds j hj with ⟨h6, -⟩ | ⟨-, ⟨x, h6⟩ | ⟨x, h6⟩⟩
      · rw [ht] at h6; cases h6
      · rw [h6, cm_v2 B (by omega)]; exact ⟨rfl, rfl⟩
      · rw [h6, cm_v2 B (by omega)]; exact ⟨rfl, rfl⟩
  have fin : ∀ H1 : Heap, H1[B k]? = some (cell.setSlot f.slot (cm_v B (t, v))) → H1.size = H.size → (∀ q, q ≠ B k → H1[q]? = H[q]?) →
      W p l e R s m args below meth c H1 (locs ++ [⟨B k, f.slot⟩]) (G.1.length - N0) (cm_sl G - S0) (MQ below Qc args s (G'.1.length - N0) (cm_sl G' - S0) (cm_A base)) (F0 m (pc + 3) Ls (st.map (cm_v B))) := by
    intro H1 e1 e2 e3
    have hW1 : cm_W D cA B base G1 M1 H1 := by
      refine hW.put hB hk e2 e3 ?_ hG1 (fun i hi => ?_)
      · show va_at D vwCl (B k, .inr (ci, cm_fs B ci (M1 k) (G1.2 k))) H1
        rw [hset]
        rw [hsl] at e1
        exact ⟨_, hrc, t_OB.to (V := updV (vp_V (cm_fs B ci (M k) (G.2 k))) j (cm_v B (t, v))) ⟨_, e1, q2, q3, t_set q4 hap hj _⟩ (fun i _ => vp_updV_set (by rw [cm_fs_len]; exact hjn) _ i)⟩
      · rcases hw with ⟨-, rfl, rfl⟩ | ⟨-, -, rfl, rfl⟩
        · exact ⟨by funext b; unfold cm_up; rw [if_neg (fun h => hi h.1)], rfl⟩
        · exact ⟨rfl, by funext b; show cm_up _ _ _ _ _ _ = _; unfold cm_up; rw [if_neg (fun h => hi h.1)]⟩
    have hS1 := hS.put (k := f.slot) e2 e3 (show cm_A base (B k) by
      obtain ⟨n, rfl, -⟩ := cm_sh_some hk
      show base ≤ B n
      rw [hB.1]; omega)
    have hsG : cm_sl G1 = cm_sl G := by unfold cm_sl; rw [hG1]
    have := K p e R s m args below meth c H1 _ Ls N0 S0 Qc hX' hL hW1 hS1 (by rw [hG1]; exact h1) (by rw [hsG]; exact h2) h3 h4 hQ
    rwa [hG1, hsG] at this
  rw [List.map_cons, List.map_cons, cm_v2 B (x := k) (by have := (cm_sh_lt hk).1; omega)]
  have hlay := hts _ (hws _ (u_in_lay hj))
  unfold u_lay at hlay
  by_cases hfi : (rd.2.1 j).2.2.2 = true
  · rw [if_pos hfi] at hlay
    obtain ⟨hk2, hcq⟩ := hfin (by unfold cm_fin; rw [hrc]; exact hfi)
    have hcf : m.cls = cf := by
      obtain ⟨_, _, c', _, _, _, -, -, hf', -, -, -, hown2, -⟩ := Cond.laysFinal_spec hlay
      have e1 : c' = cf := by have := hi.symm.trans hf'; simp at this; exact this.1.symm
      rw [hdecl j hj, hname, ← hcq] at hown2
      rw [← e1]; exact Option.some.inj (hown.symm.trans hown2)
    have h6 := u_fits hfc hkC hkind (Or.inr hlay) hi (hparse j hj) hvt.1 hvt.2
    exact W.putFinK hx hb hown (hts _ hlink) hi hst hcf (hin hk2) (by rw [q2]; exact h6) q1 q3 (by rw [hsl]; exact k2_hasslot (q4 j hj)) rfl rfl hd fin
  · rw [if_neg hfi] at hlay
    have h6 := u_store hfc hkC hkind hlay hi (hparse j hj) hvt.1 hvt.2
    exact W.putK hx hb (f := f) ⟨hown, hts _ hlink, ⟨_, _, _, hi⟩, hst⟩ (by rw [q2]; exact h6) q1 q3 (by rw [hsl]; exact k2_hasslot (q4 j hj)) rfl rfl hd fin
theorem cs_gets {ix nst : Nat} {k : Int} (hf : cm_as cm_sta (cm_ci q) ix = some (nst, k)) (hd : decode q.2.1 pc = .ok (.getstatic ix, 3)) (K : cm_WW l D cA B base ro q (pc + 3) ls ((2, k) :: st) G M r G' M') : cm_WW l D cA B base ro q pc ls st G M r G' M' := by
  intro p e R s m args below meth c H locs Ls N0 S0 Qc hX hL hW hS h1 h2 h3 h4 hQ
  have kk := K p e R s m args below meth c H locs Ls N0 S0 Qc hX hL hW hS h1 h2 h3 h4 hQ
  obtain ⟨hx, hb, hml, hr, hown, hts, hlk, hin, hSt, hdp, hlc⟩ := hX
  have hz := cm_sta_ok _ (cm_as_mem hf)
  rcases hz with h | ⟨h5, h6, h7⟩ | ⟨h5, h6, h7⟩
  · have e1 : cm_ci q = 1 := congrArg (fun z => z.1.1) h
    have e2 : ix = 27 := congrArg (fun z => z.1.2) h
    have e3 : k = -3 := congrArg (fun z => z.2.2) h
    subst e2 e3
    rw [List.map_cons, cm_v2 B (by decide)] at kk
    rw [e1] at hown
    exact va_getsN hx hb (hSt.2.2.1 (-3) (Or.inl rfl)).1 hS hown (va_Nw.use rfl hSt.2.1.2.2.2.1) (fun _ h => h) hd kk
  · simp only at h5 h6 h7
    subst h6
    rw [List.map_cons, cm_v2 B (by decide)] at kk
    exact va_gets hx hb (hSt.2.2.1 (-4) (Or.inr (Or.inl rfl))).1 hS hown (hts _ h7) (fun _ h => h) hd kk
  · simp only at h5 h6 h7
    subst h6
    rw [List.map_cons, cm_v2 B (by decide)] at kk
    exact va_gets hx hb (hSt.2.2.1 (-5) (Or.inr (Or.inr rfl))).1 hS hown (hts _ h7) (fun _ h => h) hd kk
theorem cs_iald (hB : cm_B B base) (hro : cm_Ro ro M) (hwf : cm_Wf G) {i k : Int} (hi : 0 ≤ i ∧ i < cm_al 1 G M k) (hd : decode q.2.1 pc = .ok (.iaload, 1)) (K : cm_WW l D cA B base ro q (pc + 1) ls ((0, M k i) :: st) G M r G' M') : cm_WW l D cA B base ro q pc ls ((0, i) :: (2, k) :: st) G M r G' M' := by
  intro p e R s m args below meth c H locs Ls N0 S0 Qc hX hL hW hS h1 h2 h3 h4 hQ
  have kk := K p e R s m args below meth c H locs Ls N0 S0 Qc hX hL hW hS h1 h2 h3 h4 hQ
  obtain ⟨hx, hb, hml, hr, hown, hts, hlk, hin, hSt, hdp, hlc⟩ := hX
  rw [List.map_cons, cm_v0] at kk
  rw [List.map_cons, List.map_cons, cm_v0]
  by_cases hs : k = -2
  · subst hs
    obtain ⟨L, l1, l2, l3⟩ := hSt.2.2.2.1
    have hiL : i < L := by
      have := hi.2
      unfold cm_al at this
      rw [if_pos ⟨rfl, rfl⟩, hro (-2) (by decide), l2] at this
      exact this
    rw [cm_v2 B (by decide)]
    have hb2 := hB.2 (-2) (by decide)
    refine va_sld hx hb l3 (by have := hSt.2.2.2.2; omega) (by simp only [cm_A]; omega) hS (cm_vin hi.1 hiL l1) hd ?_
    rw [cm_clamp hi.1 (by omega), show ((i.toNat : Nat) : Int) = i by omega, ← hro (-2) (by decide)]
    exact kk
  · by_cases ht : k = -3 ∨ k = -4 ∨ k = -5
    · have hi3 : i < 3 := by
        have := hi.2
        unfold cm_al at this
        rw [if_neg (fun h => hs h.1), if_pos ⟨ht, rfl⟩] at this
        exact this
      rw [cm_v2 B (by omega)]
      refine va_ti hx hb (hSt.2.2.1 k ht).2 hS (cm_vin (n := 3) hi.1 hi3 (by decide)) rfl hd ?_
      rw [cm_clamp hi.1 (by omega), show ((i.toNat : Nat) : Int) = i by omega, ← hro k (by omega)]
      exact kk
    · have hk0 : 0 ≤ k := by
        by_cases hk0 : 0 ≤ k
        · exact hk0
        · exfalso
          have := hi.2
          unfold cm_al at this
          rw [if_neg (fun h => hs h.1), if_neg (fun h => ht h.1)] at this
          unfold cm_sh at this
          rw [if_pos (by omega)] at this
          simp only at this
          omega
      obtain ⟨n, hn, hin'⟩ := cm_al_sh hk0 hi.1 hi.2
      rw [cm_v2 B (by omega)]
      refine va_iald (D := D) (cl := vwCl) (tys := cm_ty4 cA) hx hb hSt.1 (cm_P1 (cm_cell1 hW (by decide) (by decide) hn)) 0 0 rfl rfl (cm_vin hi.1 hin' (cm_wf_at hwf hn)) hd ?_
      rw [cm_clamp hi.1 (by have := cm_wf_at hwf hn; simp only at this; omega), show ((i.toNat : Nat) : Int) = i by omega]
      exact kk
theorem cs_cald (hwf : cm_Wf G) {i k : Int} (hi : 0 ≤ i ∧ i < cm_al 2 G M k) (hd : decode q.2.1 pc = .ok (.caload, 1)) (K : cm_WW l D cA B base ro q (pc + 1) ls ((0, M k i) :: st) G M r G' M') : cm_WW l D cA B base ro q pc ls ((0, i) :: (2, k) :: st) G M r G' M' := by
  intro p e R s m args below meth c H locs Ls N0 S0 Qc hX hL hW hS h1 h2 h3 h4 hQ
  have kk := K p e R s m args below meth c H locs Ls N0 S0 Qc hX hL hW hS h1 h2 h3 h4 hQ
  obtain ⟨hx, hb, hml, hr, hown, hts, hlk, hin, hSt, hdp, hlc⟩ := hX
  rw [List.map_cons, cm_v0] at kk
  rw [List.map_cons, List.map_cons, cm_v0]
  have hk0 : 0 ≤ k := by
    by_cases hk0 : 0 ≤ k
    · exact hk0
    · exfalso
      have := hi.2
      unfold cm_al at this
      rw [if_neg (by omega), if_neg (by omega)] at this
      unfold cm_sh at this
      rw [if_pos (by omega)] at this
      simp only at this
      omega
  obtain ⟨n, hn, hin'⟩ := cm_al_sh hk0 hi.1 hi.2
  rw [cm_v2 B (by omega)]
  refine va_cald (D := D) (cl := vwCl) (tys := cm_ty4 cA) hx hb hSt.1 (cm_P1 (cm_cell1 hW (by decide) (by decide) hn)) 0 1 rfl rfl (cm_vin hi.1 hin' (cm_wf_at hwf hn)) hd ?_
  rw [cm_clamp hi.1 (by have := cm_wf_at hwf hn; simp only at this; omega), show ((i.toNat : Nat) : Int) = i by omega]
  exact kk
theorem cs_zald (hwf : cm_Wf G) {i k : Int} (hi : 0 ≤ i ∧ i < cm_al 3 G M k) (hd : decode q.2.1 pc = .ok (.baload, 1)) (K : cm_WW l D cA B base ro q (pc + 1) ls ((0, M k i) :: st) G M r G' M') : cm_WW l D cA B base ro q pc ls ((0, i) :: (2, k) :: st) G M r G' M' := by
  intro p e R s m args below meth c H locs Ls N0 S0 Qc hX hL hW hS h1 h2 h3 h4 hQ
  have kk := K p e R s m args below meth c H locs Ls N0 S0 Qc hX hL hW hS h1 h2 h3 h4 hQ
  obtain ⟨hx, hb, hml, hr, hown, hts, hlk, hin, hSt, hdp, hlc⟩ := hX
  rw [List.map_cons, cm_v0] at kk
  rw [List.map_cons, List.map_cons, cm_v0]
  have hk0 : 0 ≤ k := by
    by_cases hk0 : 0 ≤ k
    · exact hk0
    · exfalso
      have := hi.2
      unfold cm_al at this
      rw [if_neg (by omega), if_neg (by omega)] at this
      unfold cm_sh at this
      rw [if_pos (by omega)] at this
      simp only at this
      omega
  obtain ⟨n, hn, hin'⟩ := cm_al_sh hk0 hi.1 hi.2
  rw [cm_v2 B (by omega)]
  refine va_zald (D := D) (cl := vwCl) (tys := cm_ty4 cA) hx hb hSt.1 (cm_P1 (cm_cell1 hW (by decide) (by decide) hn)) 0 2 rfl rfl (cm_vin hi.1 hin' (cm_wf_at hwf hn)) hd ?_
  rw [cm_clamp hi.1 (by have := cm_wf_at hwf hn; simp only at this; omega), show ((i.toNat : Nat) : Int) = i by omega]
  exact kk
theorem cs_aald (hwf : cm_Wf G) {i k : Int} (hk0 : 0 ≤ k) (hi : 0 ≤ i ∧ i < cm_al 4 G M k) (hd : decode q.2.1 pc = .ok (.aaload, 1)) (K : cm_WW l D cA B base ro q (pc + 1) ls ((2, G.2 k i) :: st) G M r G' M') : cm_WW l D cA B base ro q pc ls ((0, i) :: (2, k) :: st) G M r G' M' := by
  intro p e R s m args below meth c H locs Ls N0 S0 Qc hX hL hW hS h1 h2 h3 h4 hQ
  have kk := K p e R s m args below meth c H locs Ls N0 S0 Qc hX hL hW hS h1 h2 h3 h4 hQ
  obtain ⟨hx, hb, hml, hr, hown, hts, hlk, hin, hSt, hdp, hlc⟩ := hX
  rw [List.map_cons] at kk
  rw [List.map_cons, List.map_cons, cm_v0]
  obtain ⟨n, hn, hin'⟩ := cm_al_sh hk0 hi.1 hi.2
  rw [cm_v2 B (by omega)]
  refine va_aldq (D := D) (cl := vwCl) (tys := cm_ty4 cA) hx hb hSt.1 (cm_P1 (cm_cell4 hW hn)) 0 3 rfl rfl (cm_vin hi.1 hin' (cm_wf_at hwf hn)) hd ?_
  rw [cm_clamp hi.1 (by have := cm_wf_at hwf hn; simp only at this; omega)]
  have e1 : va_rf (cm_rr B (G.2 k) i.toNat) = cm_v B (2, G.2 k i) := by
    unfold cm_rr
    rw [show ((i.toNat : Nat) : Int) = i by omega]
    by_cases hz : G.2 k i = -1
    · rw [if_pos hz, hz]; rfl
    · rw [if_neg hz, cm_v2 B hz]; rfl
  rw [e1]
  exact kk
theorem cm_arr_put (hB : cm_B B base) {H H1 : Heap} {t n : Nat} (h0 : t ≠ 0) (h4 : t ≠ 4) {k i v : Int} {x : Int32} (hx : x = Int32.ofInt v) (hi : 0 ≤ i) (hW : cm_W D cA B base G M H) (hk : cm_sh G k = some (t, n)) (e : H1[B k]? = some ((vp_cell (cA t) (n, .inl (fun j => Int32.ofInt (M k j)))).setSlot i.toNat (.int x))) (z : H1.size = H.size) (oq : ∀ q, q ≠ B k → H1[q]? = H[q]?) : cm_W D cA B base G (cm_up M k i v) H1 := by
  refine hW.put hB hk z oq ?_ rfl (fun j hj => ⟨by funext b; unfold cm_up; rw [if_neg (fun h => hj h.1)], rfl⟩)
  unfold cm_c
  rw [if_neg h0, if_neg h4]
  show H1[B k]? = some (vp_cell _ _)
  rw [e, vp_cell_i, vp_cell_i, arrV_store]
  congr 2
  funext j
  unfold updV cm_up
  by_cases hj : j = i.toNat
  · rw [if_pos hj, if_pos ⟨rfl, by omega⟩, hx]
  · rw [if_neg hj, if_neg (by omega)]
theorem cm_base (hB : cm_B B base) {k : Int} {e : Nat × Nat} (hk : cm_sh G k = some e) : cm_A base (B k) := by
  obtain ⟨n, rfl, -⟩ := cm_sh_some hk
  show base ≤ B n
  rw [hB.1]; omega
theorem cs_iast (hB : cm_B B base) (hwf : cm_Wf G) {i k v : Int} (hk0 : 0 ≤ k) (hi : 0 ≤ i ∧ i < cm_al 1 G M k) (hd : decode q.2.1 pc = .ok (.iastore, 1)) (K : cm_WW l D cA B base ro q (pc + 1) ls st G (cm_up M k i v) r G' M') : cm_WW l D cA B base ro q pc ls ((0, v) :: (0, i) :: (2, k) :: st) G M r G' M' := by
  intro p e R s m args below meth c H locs Ls N0 S0 Qc hX hL hW hS h1 h2 h3 h4 hQ
  have hX' := hX
  obtain ⟨hx, hb, hml, hr, hown, hts, hlk, hin, hSt, hdp, hlc⟩ := hX
  obtain ⟨n, hn, hin'⟩ := cm_al_sh hk0 hi.1 hi.2
  have hv := cm_vin hi.1 hin' (cm_wf_at hwf hn)
  have hcl := cm_clamp hi.1 (by have := cm_wf_at hwf hn; simp only at this; omega)
  rw [List.map_cons, List.map_cons, List.map_cons, cm_v0, cm_v0, cm_v2 B (by omega)]
  refine W.iast hx hb (cm_cell1 hW (by decide) (by decide) hn) ((hSt.1.2 0 _ rfl).1 n (fun j => .int (Int32.ofInt (M k j)))) (fun q => by cases q) (by show ¬ (_ < 0 ∨ (arrV _ _ _).slots.size ≤ _); rw [arrV_size]; exact hv) rfl rfl hd fun H1 e1 z oq => ?_
  rw [hcl] at e1 ⊢
  exact K p e R s m args below meth c H1 _ Ls N0 S0 Qc hX' hL (cm_arr_put hB (by decide) (by decide) rfl hi.1 hW hn e1 z oq) (hS.put z oq (cm_base hB hn)) h1 h2 h3 h4 hQ
theorem cs_cast (hB : cm_B B base) (hwf : cm_Wf G) {i k v : Int} (hk0 : 0 ≤ k) (hi : 0 ≤ i ∧ i < cm_al 2 G M k) (hv0 : 0 ≤ v ∧ v < 65536) (hd : decode q.2.1 pc = .ok (.castore, 1)) (K : cm_WW l D cA B base ro q (pc + 1) ls st G (cm_up M k i v) r G' M') : cm_WW l D cA B base ro q pc ls ((0, v) :: (0, i) :: (2, k) :: st) G M r G' M' := by
  intro p e R s m args below meth c H locs Ls N0 S0 Qc hX hL hW hS h1 h2 h3 h4 hQ
  have hX' := hX
  obtain ⟨hx, hb, hml, hr, hown, hts, hlk, hin, hSt, hdp, hlc⟩ := hX
  obtain ⟨n, hn, hin'⟩ := cm_al_sh hk0 hi.1 hi.2
  have hv := cm_vin hi.1 hin' (cm_wf_at hwf hn)
  have hcl := cm_clamp hi.1 (by have := cm_wf_at hwf hn; simp only at this; omega)
  rw [List.map_cons, List.map_cons, List.map_cons, cm_v0, cm_v0, cm_v2 B (by omega)]
  refine W.cast hx hb (cm_cell1 hW (by decide) (by decide) hn) ((hSt.1.2 1 _ rfl).1 n (fun j => .int (Int32.ofInt (M k j)))) (fun q => by cases q) (by show ¬ (_ < 0 ∨ (arrV _ _ _).slots.size ≤ _); rw [arrV_size]; exact hv) rfl rfl hd fun H1 e1 z oq => ?_
  rw [hcl] at e1 ⊢
  have hc : vp_nar .char (Int32.ofInt v) = Int32.ofInt v := by
    rw [vp_nar_char, ← cm_char hv0]
    apply Int32.toInt.inj
    congr 1
    apply congrArg UInt32.toInt32
    apply UInt32.toNat.inj
    rw [UInt32.toNat_mod]
    simp
  have e1' : H1[B k]? = some ((vp_cell (cA 2) (n, .inl (fun j => Int32.ofInt (M k j)))).setSlot i.toNat (.int (Int32.ofInt v))) := by
    rw [e1]
    have : narrow .char (.int (Int32.ofInt v)) = .int (Int32.ofInt v) := by
      show Value.int (vp_nar .char (Int32.ofInt v)) = _
      rw [hc]
    rw [this]
  exact K p e R s m args below meth c H1 _ Ls N0 S0 Qc hX' hL (cm_arr_put hB (by decide) (by decide) rfl hi.1 hW hn e1' z oq) (hS.put z oq (cm_base hB hn)) h1 h2 h3 h4 hQ
theorem cs_zast (hB : cm_B B base) (hwf : cm_Wf G) {i k v : Int} (hk0 : 0 ≤ k) (hi : 0 ≤ i ∧ i < cm_al 3 G M k) (hv0 : v = 0 ∨ v = 1) (hd : decode q.2.1 pc = .ok (.bastore, 1)) (K : cm_WW l D cA B base ro q (pc + 1) ls st G (cm_up M k i v) r G' M') : cm_WW l D cA B base ro q pc ls ((0, v) :: (0, i) :: (2, k) :: st) G M r G' M' := by
  intro p e R s m args below meth c H locs Ls N0 S0 Qc hX hL hW hS h1 h2 h3 h4 hQ
  have hX' := hX
  obtain ⟨hx, hb, hml, hr, hown, hts, hlk, hin, hSt, hdp, hlc⟩ := hX
  obtain ⟨n, hn, hin'⟩ := cm_al_sh hk0 hi.1 hi.2
  have hv := cm_vin hi.1 hin' (cm_wf_at hwf hn)
  have hcl := cm_clamp hi.1 (by have := cm_wf_at hwf hn; simp only at this; omega)
  rw [List.map_cons, List.map_cons, List.map_cons, cm_v0, cm_v0, cm_v2 B (by omega)]
  refine W.zast hx hb (cm_cell1 hW (by decide) (by decide) hn) ((hSt.1.2 2 _ rfl).1 n (fun j => .int (Int32.ofInt (M k j)))) (fun q => by cases q) (by show ¬ (_ < 0 ∨ (arrV _ _ _).slots.size ≤ _); rw [arrV_size]; exact hv) rfl rfl hd fun H1 e1 z oq => ?_
  rw [hcl] at e1 ⊢
  have e1' : H1[B k]? = some ((vp_cell (cA 3) (n, .inl (fun j => Int32.ofInt (M k j)))).setSlot i.toNat (.int (Int32.ofInt v))) := by
    rw [e1]
    rcases hv0 with rfl | rfl <;> rfl
  exact K p e R s m args below meth c H1 _ Ls N0 S0 Qc hX' hL (cm_arr_put hB (by decide) (by decide) rfl hi.1 hW hn e1' z oq) (hS.put z oq (cm_base hB hn)) h1 h2 h3 h4 hQ
theorem cs_aast (hB : cm_B B base) (hwf : cm_Wf G) {i k v : Int} (hk0 : 0 ≤ k) (hi : 0 ≤ i ∧ i < cm_al 4 G M k) (hv0 : cm_sh G v = some (0, 1)) (hd : decode q.2.1 pc = .ok (.aastore, 1)) (K : cm_WW l D cA B base ro q (pc + 1) ls st (G.1, cm_up G.2 k i v) M r G' M') : cm_WW l D cA B base ro q pc ls ((2, v) :: (0, i) :: (2, k) :: st) G M r G' M' := by
  intro p e R s m args below meth c H locs Ls N0 S0 Qc hX hL hW hS h1 h2 h3 h4 hQ
  have hX' := hX
  obtain ⟨hx, hb, hml, hr, hown, hts, hlk, hin, hSt, hdp, hlc⟩ := hX
  obtain ⟨n, hn, hin'⟩ := cm_al_sh hk0 hi.1 hi.2
  have hv := cm_vin hi.1 hin' (cm_wf_at hwf hn)
  have hcl := cm_clamp hi.1 (by have := cm_wf_at hwf hn; simp only at this; omega)
  have hvlt := (cm_sh_lt hv0).1
  rw [List.map_cons, List.map_cons, List.map_cons, cm_v2 B (x := v) (by omega), cm_v0, cm_v2 B (x := k) (by omega)]
  have hlt : (Int32.ofInt i).toNatClampNeg < n := Nat.not_le.mp fun q => hv (Or.inr q)
  have hn0 : ¬ Int32.ofInt i < 0 := fun q => hv (Or.inl q)
  obtain ⟨r', hr', cellV, g1, g2, g3, -⟩ := cm_cell0 hW hv0
  cases (show vwCl[1]? = some (RX1, TX1, 6) from rfl).symm.trans hr'
  have hcls := (hSt.1.1 1 _ hr').2
  obtain ⟨kA, comp, k1, k2, k3, -⟩ := (hSt.1.2 3 _ rfl).2
  have hcomp : comp = D.1 1 := Option.some.inj (k3.symm.trans hcls.1)
  subst hcomp
  obtain ⟨kC, hkC, -⟩ := hcls.2
  refine W.aast hx hb (cm_cell4 hW hn) (fun q h => by cases h) (fun h => by cases h) k1 k2 rfl hkC ⟨hn0, by show _ < (arrV _ _ _).slots.size; rw [arrV_size]; exact hlt⟩ g1 (fun q h => by rw [g3] at h; cases h) (by rw [g2]; exact hkC) (by rw [g2]; exact va_assign hcls) rfl rfl hd fun H1 e1 z oq => ?_
  rw [hcl] at e1 ⊢
  have hW1 : cm_W D cA B base (G.1, cm_up G.2 k i v) M H1 := by
    refine hW.put hB hn z oq ?_ rfl (fun j hj => ⟨rfl, by funext b; show cm_up _ _ _ _ _ _ = _; unfold cm_up; rw [if_neg (fun h => hj h.1)]⟩)
    show H1[B k]? = some (vp_cell (cA 4) (n, .inr (.inr (.inr (.inr (cm_rr B (cm_up G.2 k i v k)))))))
    rw [e1, vp_cell_q, vp_cell_q, arrV_store]
    congr 2
    funext j
    unfold updV cm_rr
    by_cases hj : j = i.toNat
    · rw [if_pos hj, show ((j : Nat) : Int) = i by omega, cm_up_s, if_neg (by omega)]; rfl
    · rw [if_neg hj, cm_up_n _ (Or.inr (by omega))]
  exact K p e R s m args below meth c H1 _ Ls N0 S0 Qc hX' hL hW1 (hS.put z oq (cm_base hB hn)) h1 h2 h3 h4 hQ
theorem cs_alen (hB : cm_B B base) (hro : cm_Ro ro M) (hd : decode q.2.1 pc = .ok (.arraylength, 1)) (K : cm_WW l D cA B base ro q (pc + 1) ls ((0, M (-2) (-1)) :: st) G M r G' M') : cm_WW l D cA B base ro q pc ls ((2, -2) :: st) G M r G' M' := by
  intro p e R s m args below meth c H locs Ls N0 S0 Qc hX hL hW hS h1 h2 h3 h4 hQ
  have kk := K p e R s m args below meth c H locs Ls N0 S0 Qc hX hL hW hS h1 h2 h3 h4 hQ
  obtain ⟨hx, hb, hml, hr, hown, hts, hlk, hin, hSt, hdp, hlc⟩ := hX
  obtain ⟨L, l1, l2, l3⟩ := hSt.2.2.2.1
  rw [List.map_cons, cm_v0, hro (-2) (by decide), l2, Int32.ofInt_eq_ofNat] at kk
  rw [List.map_cons, cm_v2 B (by decide)]
  have hb2 := hB.2 (-2) (by decide)
  exact va_slen hx hb l3 (by have := hSt.2.2.2.2; omega) (by simp only [cm_A]; omega) hS hd kk
end ARMS2
end
section
/-! ===== the same: new cells, copies, calls ===== -/
theorem cm_row_s (f : Int → Int → Int) (k v b : Int) : cm_row f k v k b = v := if_pos rfl
theorem cm_row_n (f : Int → Int → Int) {k v a : Int} (h : a ≠ k) : cm_row f k v a = f a := by funext b; exact if_neg h
section ARMS3
variable {l : Launch} {D : va_G} {cA : Nat → ClassId} {B : Int → Nat} {base : Nat} {ro : Int → Int → Int} {q : cm_MI} {pc : Nat} {ls : List (Option cm_V)} {st : List cm_V} {G : cm_G} {M : cm_M} {r : Option cm_V} {G' : cm_G} {M' : cm_M}
theorem cm_sl_app {G1 : cm_G} {e : Nat × Nat} (h : G1.1 = G.1 ++ [e]) : cm_sl G1 = cm_sl G + cm_sz e := by
  unfold cm_sl
  rw [h, List.map_append, List.sum_append]
  simp
theorem cm_S.grow {A : Nat → Prop} {H0 H H1 : Heap} {locs : List Loc} (h : va_S A H0 H locs) (z : H1.size = H.size + 1) (o : ∀ q, q < H.size → H1[q]? = H[q]?) : va_S A H0 H1 locs :=
  ⟨Nat.le_trans h.1 (by omega), fun x h1 h2 => (o x (Nat.lt_of_lt_of_le h1 h.1)).trans (h.2.1 x h1 h2), h.2.2⟩
theorem cs_new (hB : cm_B B base) {ix ci : Nat} (hf : cm_as cm_cls (cm_ci q) ix = some ci) (hlen : G.1.length + 1 ≤ G'.1.length) (hsl : cm_sl G + cm_sz (0, ci) ≤ cm_sl G') (hd : decode q.2.1 pc = .ok (.new ix, 3))
    (K : cm_WW l D cA B base ro q (pc + 3) ls ((2, (G.1.length : Int)) :: st) (G.1 ++ [(0, ci)], cm_row G.2 (G.1.length : Int) (-1)) (cm_row M (G.1.length : Int) 0) r G' M') : cm_WW l D cA B base ro q pc ls st G M r G' M' := by
  intro p e R s m args below meth c H locs Ls N0 S0 Qc hX hL hW hS h1 h2 h3 h4 hQ
  have hX' := hX
  obtain ⟨hx, hb, hml, hr, hown, hts, hlk, hin, hSt, hdp, hlc⟩ := hX
  obtain ⟨hci, hlink⟩ := cm_cls_ok _ (cm_as_mem hf)
  obtain ⟨rc, ty, hrc, hty, hname, hws, hparse, hnm, hinst, hinit, -, hkinds, hdecl⟩ := cm_cl_ok ci hci
  have hKn := hSt.1.1 ci _ hrc
  have hz : cm_sz (0, ci) = rc.2.2 := cm_nf_of hrc
  simp only at hlink
  rw [← hname] at hlink
  refine W.newcK hx hb hown (hts _ hlink) (hts _ hinst) (hts _ hinit) rfl hd (by omega) (by omega) hKn.2.1 rfl fun H1 kC hkC e1 z1 o1 => ?_
  have hW1 : cm_W D cA B base (G.1 ++ [(0, ci)], cm_row G.2 (G.1.length : Int) (-1)) (cm_row M (G.1.length : Int) 0) H1 := by
    refine hW.push hB z1 o1 ?_ rfl (fun j hj => ⟨cm_row_n _ hj, cm_row_n _ hj⟩)
    show va_at D vwCl (H.size, .inr (ci, cm_fs B ci _ _)) H1
    refine ⟨_, hrc, (u_born ty hts hws hKn hkC e1 hparse).to (fun j hj => ?_)⟩
    have hjn : j < cm_nf ci := by rw [cm_nf_of hrc]; exact hj
    unfold vp_V
    rw [List.getD_eq_getElem?_getD, cm_fs_at B _ _ hjn]
    unfold cm_fv
    rcases hkinds j hj with ⟨h6, h7⟩ | ⟨h6, ⟨x, h7⟩ | ⟨x, h7⟩⟩
    · rw [if_pos h6, h7, cm_row_s]; rfl
    · rw [if_neg (by rw [h6]; decide), h7]
      show _ = cm_v B (2, cm_row G.2 _ (-1) _ _)
      rw [cm_row_s]; rfl
    · rw [if_neg (by rw [h6]; decide), h7]
      show _ = cm_v B (2, cm_row G.2 _ (-1) _ _)
      rw [cm_row_s]; rfl
  have hl1 : (G.1 ++ [((0 : Nat), ci)]).length = G.1.length + 1 := by simp
  have hs1 : cm_sl (G.1 ++ [(0, ci)], cm_row G.2 (G.1.length : Int) (-1)) = cm_sl G + cm_sz (0, ci) := cm_sl_app rfl
  have kk := K p e R s m args below meth c H1 locs Ls N0 S0 Qc hX' hL hW1 (cm_S.grow hS z1 o1) (by rw [hl1]; omega) (by rw [hs1]; omega) h3 h4 hQ
  rw [List.map_cons, cm_v2 B (by omega), hB.1, ← hW.1, hl1, hs1, hz, show G.1.length + 1 - N0 = G.1.length - N0 + 1 by omega, show cm_sl G + rc.2.2 - S0 = cm_sl G - S0 + rc.2.2 by omega] at kk
  exact kk
theorem cm_newarr (hB : cm_B B base) {u : Nat} {t : ArrayType} {ty : FieldType} (h0 : u ≠ 0) (h4 : u ≠ 4) (hty : newarray.typeOf t = ty) (hac : Cond.arrayClass ty ∈ cm_T) (hkt : ∃ j : Nat, (cm_ty4 cA)[j]? = some (cA u, ty)) (hnm : ∀ U : State, ∀ cB : ClassId, va_RA U cB ty → U.vm.findClass ("[" ++ ty.toString) = some cB) (hdv : defaultValue ty = .int 0) (hcb : componentBytes ty ≤ 4) {n : Int} (hn : 0 ≤ n ∧ n ≤ 1000) (hlen : G.1.length + 1 ≤ G'.1.length) (hsl : cm_sl G + n.toNat ≤ cm_sl G') (hd : decode q.2.1 pc = .ok (.newarray t, 2))
    (K : cm_WW l D cA B base ro q (pc + 2) ls ((2, (G.1.length : Int)) :: st) (G.1 ++ [(u, n.toNat)], G.2) (cm_row M (G.1.length : Int) 0) r G' M') : cm_WW l D cA B base ro q pc ls ((0, n) :: st) G M r G' M' := by
  intro p e R s m args below meth c H locs Ls N0 S0 Qc hX hL hW hS h1 h2 h3 h4' hQ
  have hX' := hX
  obtain ⟨hx, hb, hml, hr, hown, hts, hlk, hin, hSt, hdp, hlc⟩ := hX
  obtain ⟨t0, ht0⟩ := hkt
  have hz : cm_sz (u, n.toNat) = n.toNat := if_neg h0
  subst hty
  refine va_newaK hx hb (hts _ hac) rfl hd rfl (cm_nneg hn.1 (by omega)) (cm_clamp hn.1 (by omega)) (by
    have : n.toNat ≤ 1000 := by omega
    calc n.toNat * componentBytes (newarray.typeOf t) ≤ 1000 * 4 := Nat.mul_le_mul this hcb
      _ ≤ 536870912 := by decide) (by omega) (by omega) rfl fun H1 cB e1 z1 o1 hAr hNm => ?_
  have hcB : cB = cA u := by
    have := hnm s _ (hSt.1.2 t0 _ ht0).2
    exact Option.some.inj (hNm.symm.trans this)
  subst hcB
  have hW1 : cm_W D cA B base (G.1 ++ [(u, n.toNat)], G.2) (cm_row M (G.1.length : Int) 0) H1 := by
    refine hW.push hB z1 o1 ?_ rfl (fun j hj => ⟨cm_row_n _ hj, rfl⟩)
    unfold cm_c
    rw [if_neg h0, if_neg h4]
    show H1[H.size]? = some (vp_cell (cA u) (n.toNat, .inl _))
    rw [e1, vp_cell_i, hdv]
    congr 2
    funext j
    rw [cm_row_s]
    rfl
  have hl1 : (G.1 ++ [(u, n.toNat)]).length = G.1.length + 1 := by simp
  have hs1 : cm_sl (G.1 ++ [(u, n.toNat)], G.2) = cm_sl G + n.toNat := by rw [cm_sl_app rfl, hz]
  have kk := K p e R s m args below meth c H1 locs Ls N0 S0 Qc hX' hL hW1 (cm_S.grow hS z1 o1) (by rw [hl1]; omega) (by rw [hs1]; omega) h3 h4' hQ
  rw [List.map_cons, cm_v2 B (by omega), hB.1, ← hW.1, hl1, hs1, show G.1.length + 1 - N0 = G.1.length - N0 + 1 by omega, show cm_sl G + n.toNat - S0 = cm_sl G - S0 + n.toNat by omega] at kk
  exact kk
theorem cs_newarray (hB : cm_B B base) {u : Nat} {t : ArrayType} {n : Int} (hu : cm_ty1 t = some u) (hn : 0 ≤ n ∧ n ≤ 1000) (hlen : G.1.length + 1 ≤ G'.1.length) (hsl : cm_sl G + n.toNat ≤ cm_sl G') (hd : decode q.2.1 pc = .ok (.newarray t, 2))
    (K : cm_WW l D cA B base ro q (pc + 2) ls ((2, (G.1.length : Int)) :: st) (G.1 ++ [(u, n.toNat)], G.2) (cm_row M (G.1.length : Int) 0) r G' M') : cm_WW l D cA B base ro q pc ls ((0, n) :: st) G M r G' M' := by
  cases t <;> simp only [cm_ty1, Option.some.injEq, reduceCtorEq] at hu
  · subst hu
    exact cm_newarr (t := .boolean) (ty := .boolean) hB (by decide) (by decide) rfl cm_ac3 ⟨2, rfl⟩ (fun _ _ h => h) rfl (by decide) hn hlen hsl hd K
  · subst hu
    exact cm_newarr (t := .char) (ty := .char) hB (by decide) (by decide) rfl cm_ac2 ⟨1, rfl⟩ (fun _ _ h => h) rfl (by decide) hn hlen hsl hd K
  · subst hu
    exact cm_newarr (t := .int) (ty := .int) hB (by decide) (by decide) rfl cm_ac1 ⟨0, rfl⟩ (fun _ _ h => h) rfl (by decide) hn hlen hsl hd K
theorem cs_anewarray (hB : cm_B B base) {ix : Nat} {n : Int} (hf : cm_as cm_cls (cm_ci q) ix = some 1) (hn : 0 ≤ n ∧ n ≤ 1000) (hlen : G.1.length + 1 ≤ G'.1.length) (hsl : cm_sl G + n.toNat ≤ cm_sl G') (hd : decode q.2.1 pc = .ok (.anewarray ix, 3))
    (K : cm_WW l D cA B base ro q (pc + 3) ls ((2, (G.1.length : Int)) :: st) (G.1 ++ [(4, n.toNat)], cm_row G.2 (G.1.length : Int) (-1)) M r G' M') : cm_WW l D cA B base ro q pc ls ((0, n) :: st) G M r G' M' := by
  intro p e R s m args below meth c H locs Ls N0 S0 Qc hX hL hW hS h1 h2 h3 h4' hQ
  have hX' := hX
  obtain ⟨hx, hb, hml, hr, hown, hts, hlk, hin, hSt, hdp, hlc⟩ := hX
  obtain ⟨hci, hlink⟩ := cm_cls_ok _ (cm_as_mem hf)
  have hcl := cm_clamp hn.1 (by omega : n < 2147483648)
  refine W.anew hx hb hown (hts _ hlink) (va_AO.use hSt.2.1.2.2.2.2) rfl hd rfl (cm_nneg hn.1 (by omega)) (by rw [hcl]; omega) (by omega) (by rw [hcl]; omega) fun cB kA comp f1 f2 f3 f4 => ?_
  rw [hcl]
  have hcB : cB = cA 4 := by
    obtain ⟨_, _, _, _, _, g4⟩ := (hSt.1.2 3 _ rfl).2
    exact Option.some.inj (f1.symm.trans g4)
  subst hcB
  generalize hH1 : H.push ({ cls := cA 4, slots := Array.replicate n.toNat .null, vm := .none } : Cell) = H1
  have z1 : H1.size = H.size + 1 := by rw [← hH1, Array.size_push]
  have e1 : H1[H.size]? = some (arrV (cA 4) n.toNat (fun _ => .null)) := by rw [← hH1, Array.getElem?_push_size, ← arrV_new]
  have o1 : ∀ q : Nat, q < H.size → H1[q]? = H[q]? := fun q hq => by rw [← hH1, Array.getElem?_push, if_neg (Nat.ne_of_lt hq)]
  have hW1 : cm_W D cA B base (G.1 ++ [(4, n.toNat)], cm_row G.2 (G.1.length : Int) (-1)) M H1 := by
    refine hW.push hB z1 o1 ?_ rfl (fun j hj => ⟨rfl, cm_row_n _ hj⟩)
    show H1[H.size]? = some (vp_cell (cA 4) (n.toNat, .inr (.inr (.inr (.inr _)))))
    rw [e1, vp_cell_q]
    congr 2
    funext j
    unfold cm_rr
    show _ = va_rf (if cm_row G.2 _ (-1) _ _ = -1 then _ else _)
    rw [cm_row_s]
    rfl
  have hl1 : (G.1 ++ [((4 : Nat), n.toNat)]).length = G.1.length + 1 := by simp
  have hs1 : cm_sl (G.1 ++ [(4, n.toNat)], cm_row G.2 (G.1.length : Int) (-1)) = cm_sl G + n.toNat := by rw [cm_sl_app (G := G) (e := (4, n.toNat)) rfl]; rfl
  have kk := K p e R s m args below meth c H1 locs Ls N0 S0 Qc hX' hL hW1 (cm_S.grow hS z1 o1) (by rw [hl1]; omega) (by rw [hs1]; omega) h3 h4' hQ
  rw [List.map_cons, cm_v2 B (by omega), hB.1, ← hW.1, hl1, hs1, show G.1.length + 1 - N0 = G.1.length - N0 + 1 by omega, show cm_sl G + n.toNat - S0 = cm_sl G - S0 + n.toNat by omega] at kk
  exact kk
theorem cm_cats (B : Int → Nat) (st : List cm_V) : ((st.map (cm_v B)).map fun v => v.category).sum = cm_sum st := by
  unfold cm_sum
  rw [List.map_map]
  congr 1
  apply List.map_congr_left
  intro v _
  exact cm_v_cat B v
theorem cs_max {ix nst : Nat} {a b : Int} (hf : cm_as cm_call (cm_ci q) ix = some (nst, 1001)) (ha : cm_in a) (hb' : cm_in b) (hs8 : cm_sum st ≤ 8) (hdq : 1 ≤ cm_dp q ∧ 21 ≤ cm_lc q) (hlen : G.1.length ≤ G'.1.length) (hsl : cm_sl G ≤ cm_sl G') (hd : decode q.2.1 pc = .ok (.invokestatic ix, 3))
    (K : cm_WW l D cA B base ro q (pc + 3) ls ((0, if a < b then b else a) :: st) G M r G' M') : cm_WW l D cA B base ro q pc ls ((0, b) :: (0, a) :: st) G M r G' M' := by
  intro p e R s m args below meth c H locs Ls N0 S0 Qc hX hL hW hS h1 h2 h3 h4 hQ
  have kk := K p e R s m args below meth c H locs Ls N0 S0 Qc hX hL hW hS h1 h2 h3 h4 hQ
  obtain ⟨hx, hb, hml, hr, hown, hts, hlk, hin, hSt, hdp, hlc⟩ := hX
  have hl := (cm_call_ok _ (cm_as_mem hf)).2.2.1 rfl
  have e1 : (if Int32.ofInt a < Int32.ofInt b then Int32.ofInt b else Int32.ofInt a) = Int32.ofInt (if a < b then b else a) := by
    by_cases h : a < b
    · rw [if_pos h, if_pos ((cm_lt ha hb').mpr h)]
    · rw [if_neg h, if_neg (fun z => h ((cm_lt ha hb').mp z))]
  rw [List.map_cons, cm_v0, ← e1] at kk
  exact va_mmax hx hb (by rw [hml, hL.size]) hown (hts _ hl) (hts _ cm_xs) (hts _ cm_xi) (hts _ cm_xc) (by omega) (by rw [cm_cats]; omega) (by omega) (by omega) hd kk
theorem cs_objInit {ix nst : Nat} {k : Int} (hk : 0 ≤ k) (hf : cm_as cm_call (cm_ci q) ix = some (nst, 1000)) (hdq : 1 ≤ cm_dp q ∧ 12 ≤ cm_lc q) (hd : decode q.2.1 pc = .ok (.invokespecial ix, 3))
    (K : cm_WW l D cA B base ro q (pc + 3) ls [] G M r G' M') : cm_WW l D cA B base ro q pc ls [(2, k)] G M r G' M' := by
  intro p e R s m args below meth c H locs Ls N0 S0 Qc hX hL hW hS h1 h2 h3 h4 hQ
  have kk := K p e R s m args below meth c H locs Ls N0 S0 Qc hX hL hW hS h1 h2 h3 h4 hQ
  obtain ⟨hx, hb, hml, hr, hown, hts, hlk, hin, hSt, hdp, hlc⟩ := hX
  have hl := (cm_call_ok _ (cm_as_mem hf)).2.1 rfl
  rw [List.map_cons, cm_v2 B (by omega)]
  refine W.objInit hx hb hown (hts _ hl) (hts _ cm_oi) (hts _ cm_oc) rfl (by rw [hml]; exact hL.size) rfl hd (by omega) (by show 2 * 0 + 0 + 12 ≤ _; omega) ?_
  exact kk
theorem cm_nn {z : Int32} (hz : ¬ z < 0) : z.toInt = (z.toNatClampNeg : Int) := by
  have hz0 : (0 : Int) ≤ z.toInt := by
    have := Int32.not_lt.mp hz
    simpa using Int32.le_iff_toInt_le.mp this
  show z.toInt = ((z.toInt.toNat : Nat) : Int)
  omega
theorem cs_copy (hB : cm_B B base) (hro : cm_Ro ro M) (hwf : cm_Wf G) {ix nst : Nat} {k1 sp k2 dp n : Int} (hf : cm_as cm_call (cm_ci q) ix = some (nst, 1002)) (hg : 0 ≤ k2 ∧ 1 ≤ n ∧ 0 ≤ dp ∧ 0 ≤ sp ∧ (0 ≤ k1 ∨ k1 = -3) ∧ dp + n ≤ cm_al 1 G M k2 ∧ sp + n ≤ cm_al 1 G M k1 ∧ cm_sum st ≤ 8) (hdq : 1 ≤ cm_dp q ∧ 39 ≤ cm_lc q) (hd : decode q.2.1 pc = .ok (.invokestatic ix, 3))
    (K : cm_WW l D cA B base ro q (pc + 3) ls st G (cm_cpy M k1 sp k2 dp n) r G' M') : cm_WW l D cA B base ro q pc ls ((0, n) :: (0, dp) :: (2, k2) :: (0, sp) :: (2, k1) :: st) G M r G' M' := by
  intro p e R s m args below meth c H locs Ls N0 S0 Qc hX hL hW hS h1 h2 h3 h4 hQ
  have hX' := hX
  obtain ⟨hx, hb, hml, hr, hown, hts, hlk, hin, hSt, hdp, hlc⟩ := hX
  have hl := (cm_call_ok _ (cm_as_mem hf)).2.2.2.1 rfl
  obtain ⟨g1, hn1, g3, g4, g5, g6, g7, g8⟩ := hg
  have g2 : 0 ≤ n := by omega
  obtain ⟨n2, hn2, hin2⟩ := cm_al_sh (t := 1) (G := G) (M := M) (i := dp + n - 1) g1 (by omega) (by omega)
  have hw2 := cm_wf_at hwf hn2
  simp only at hw2
  -- the source cell and its numbers
  have hsrc : ∃ (cs : Cell) (L : Nat), H[B k1]? = some cs ∧ s.isArrayOf cs .int ∧ cs.vm ≠ .unknown ∧ L ≤ cs.slots.size ∧ sp + n ≤ L ∧ L < 2 ^ 31 ∧ ∀ j : Nat, j < L → cs.slots[j]? = some (.int (Int32.ofInt (M k1 j))) := by
    rcases g5 with hk1 | rfl
    · obtain ⟨n1, hn1', hin1⟩ := cm_al_sh (t := 1) (G := G) (M := M) (i := sp + n - 1) hk1 (by omega) (by omega)
      have hw1 := cm_wf_at hwf hn1'
      refine ⟨_, n1, cm_cell1 hW (by decide) (by decide) hn1', (hSt.1.2 0 _ rfl).1 n1 (fun j => .int (Int32.ofInt (M k1 j))), (fun h => by cases h), Nat.le_of_eq (arrV_size _ _ _).symm, by omega, hw1, fun j hj => arrV_read _ _ hj⟩
    · obtain ⟨cell, c1, c2, c3, c4, c5, c6, c7⟩ := (hSt.2.2.1 (-3) (Or.inl rfl)).2
      have hs3 : sp + n ≤ 3 := g7
      refine ⟨cell, 3, by rw [hS.2.1 _ (Array.getElem?_eq_some_iff.mp c1).1 c7]; exact c1, c2, c3, c4, hs3, by decide, fun j hj => ?_⟩
      rw [c6 j hj, hro (-3) (by decide)]
  obtain ⟨cs, L, s1, s2, s3, s4, s5, s6, s7⟩ := hsrc
  have e1 : cm_v B (2, k1) = .ref (B k1) := cm_v2 B (by omega)
  have e2 : cm_v B (2, k2) = .ref (B k2) := cm_v2 B (by omega)
  rw [List.map_cons, List.map_cons, List.map_cons, List.map_cons, List.map_cons, cm_v0, cm_v0, cm_v0, e1, e2]
  have c1n : (Int32.ofInt n).toNatClampNeg = n.toNat := cm_clamp g2 (by omega)
  have c1d : (Int32.ofInt dp).toNatClampNeg = dp.toNat := cm_clamp g3 (by omega)
  have c1s : (Int32.ofInt sp).toNatClampNeg = sp.toNat := cm_clamp g4 (by omega)
  have i1 := cm_nneg g4 (by omega : sp < 2147483648)
  have i2 := cm_nneg g3 (by omega : dp < 2147483648)
  have i3 := cm_nneg g2 (by omega : n < 2147483648)
  intro T hT X
  have hc1 : H[B k2]? = some (vp_cell (cA 1) (n2, .inl (fun j => Int32.ofInt (M k2 j)))) := cm_cell1 hW (by decide) (by decide) hn2
  obtain ⟨hs2, k0, hk0, cm0, hkk0⟩ := s2
  obtain ⟨-, k1', hk1', cm1, hkk1⟩ := (hSt.1.2 0 _ rfl).1 n2 (fun j => .int (Int32.ofInt (M k2 j)))
  obtain ⟨vm', X', step⟩ := X.arraycopy hx hown (hts _ hl) (hts _ cm_an) (hts _ cm_as') (hts _ cm_ai) (src := B k1) (dst := B k2) (cs := cs) (cd := vp_cell (cA 1) (n2, .inl (fun j => Int32.ofInt (M k2 j)))) (srcPos := Int32.ofInt sp) (destPos := Int32.ofInt dp) (n := Int32.ofInt n) (by rw [hT]; exact s1) (by rw [hT]; exact hc1)
    hs2 (fun _ h => by cases h) s3 (fun h => by cases h) hk0 hk1' hkk0 hkk1 (by rfl) i1 i2 i3
    (by rw [cm_nn i1, cm_nn i3, c1n, c1s]; omega)
    (by rw [cm_nn i2, cm_nn i3, c1n, c1d]; show ¬ _ > ((arrV (cA 1) n2 (fun j => .int (Int32.ofInt (M k2 j)))).slots.size : Int); rw [arrV_size]; omega)
    (fun vm₁ _ i hi => by
      rw [c1n] at hi
      have e : cs.slots.getD ((Int32.ofInt sp).toNatClampNeg + i) .null = .int (Int32.ofInt (M k1 ((sp.toNat + i : Nat) : Int))) := by
        rw [c1s, Array.getD_eq_getD_getElem?, s7 _ (by omega)]
        rfl
      refine ⟨?_, ?_⟩
      · rw [e]
        rfl
      · rw [e]
        exact trivial)
    (g := F0 m pc Ls (.int (Int32.ofInt n) :: .int (Int32.ofInt dp) :: .ref (B k2) :: .int (Int32.ofInt sp) :: .ref (B k1) :: st.map (cm_v B))) rfl (by rw [hml]; exact hL.size) (rest := st.map (cm_v B)) rfl (by rw [hb]; exact hd) (by omega) (by
      have : nativeFrameWords "java/lang/System" "arraycopy" 5 = 7 := by decide +kernel
      rw [cm_cats, this]
      show 2 * 0 + _ + _ ≤ _
      omega)
  have e3 : copied cs (vp_cell (cA 1) (n2, .inl (fun j => Int32.ofInt (M k2 j)))) (Int32.ofInt sp) (Int32.ofInt dp) (Int32.ofInt n) = vp_cell (cA 1) (n2, .inl (va_cpy (fun j => Int32.ofInt (M k1 j)) (fun j => Int32.ofInt (M k2 j)) sp.toNat dp.toNat n.toNat)) := by
    rw [vp_cell_i, vp_cell_i]
    unfold copied
    rw [c1n, c1d, c1s]
    exact va_copiedX (fun z => .int z) cs (cA 1) (fun j : Nat => Int32.ofInt (M k1 j)) (fun j : Nat => Int32.ofInt (M k2 j)) s7 (by omega)
  rw [e3] at X' step
  have hlt : B k2 < H.size := (Array.getElem?_eq_some_iff.mp hc1).1
  have hheap : ((T.setVm vm').setCell (B k2) (vp_cell (cA 1) (n2, .inl (va_cpy (fun j => Int32.ofInt (M k1 j)) (fun j => Int32.ofInt (M k2 j)) sp.toNat dp.toNat n.toNat)))).heap = H.setIfInBounds (B k2) (vp_cell (cA 1) (n2, .inl (va_cpy (fun j => Int32.ofInt (M k1 j)) (fun j => Int32.ofInt (M k2 j)) sp.toNat dp.toNat n.toNat))) := by rw [← hT]; rfl
  have oq : ∀ q : Nat, q ≠ B k2 → (H.setIfInBounds (B k2) (vp_cell (cA 1) (n2, .inl (va_cpy (fun j => Int32.ofInt (M k1 j)) (fun j => Int32.ofInt (M k2 j)) sp.toNat dp.toNat n.toNat))))[q]? = H[q]? := fun q hq => by simp [Array.getElem?_setIfInBounds, Ne.symm hq]
  have hW1 : cm_W D cA B base G (cm_cpy M k1 sp k2 dp n) (H.setIfInBounds (B k2) (vp_cell (cA 1) (n2, .inl (va_cpy (fun j => Int32.ofInt (M k1 j)) (fun j => Int32.ofInt (M k2 j)) sp.toNat dp.toNat n.toNat)))) := by
    refine hW.put hB hn2 (by simp) oq ?_ rfl (fun j hj => ⟨by funext b; unfold cm_cpy; rw [if_neg (fun h => hj h.1)], rfl⟩)
    show (H.setIfInBounds (B k2) _)[B k2]? = some (vp_cell (cA 1) (n2, .inl _))
    rw [show (H.setIfInBounds (B k2) (vp_cell (cA 1) (n2, .inl (va_cpy (fun j => Int32.ofInt (M k1 j)) (fun j => Int32.ofInt (M k2 j)) sp.toNat dp.toNat n.toNat))))[B k2]? = some _ by simp [Array.getElem?_setIfInBounds, hlt]; rfl]
    congr 4
    funext j
    unfold va_cpy cm_cpy
    by_cases hj : dp.toNat ≤ j ∧ j < dp.toNat + n.toNat
    · rw [if_pos hj, if_pos ⟨rfl, by omega, by omega⟩]
      show Int32.ofInt (M k1 ((sp.toNat + (j - dp.toNat) : Nat) : Int)) = _
      rw [show ((sp.toNat + (j - dp.toNat) : Nat) : Int) = sp + (j - dp) by omega]
    · rw [if_neg hj, if_neg (by omega)]
  obtain ⟨t, a1, b1⟩ := K p e R s m args below meth c _ _ Ls N0 S0 Qc hX' hL hW1 ⟨by simp; exact hS.1, fun q g1 g2 => by
      rw [oq q (fun e => g2 (by rw [e]; exact cm_base hB hn2))]
      exact hS.2.1 q g1 g2, fun q hq => by
      rcases List.mem_append.mp hq with h | h
      · exact hS.2.2 q h
      · obtain ⟨z, -, hz⟩ := List.mem_map.mp h
        rw [← hz]
        exact cm_base hB hn2⟩ h1 h2 h3 h4 hQ _ hheap X'
  exact ⟨t, step t a1, b1⟩
end ARMS3
end
section
/-! ===== CALLS ===== -/
def cm_rk1 (q : cm_MI) (ix : Nat) : Bool := match cm_as cm_call (cm_ci q) ix with
  | some (_, n) => if n = 1000 then decide (1 ≤ cm_dp q ∧ 12 ≤ cm_lc q) else if n = 1001 then decide (1 ≤ cm_dp q ∧ 21 ≤ cm_lc q) else if n = 1002 then decide (1 ≤ cm_dp q ∧ 39 ≤ cm_lc q) else match cm_P[n]? with
    | some q' => decide (cm_dp q'.1 + 1 ≤ cm_dp q ∧ 8 + (cm_ml q'.1 + 11) + cm_lc q'.1 ≤ cm_lc q)
    | none => false
  | none => false
def cm_rk (q : cm_MI) (i : Instr) : Bool := match i with
  | .invokevirtual ix => cm_rk1 q ix
  | .invokestatic ix => cm_rk1 q ix
  | .invokespecial ix => cm_rk1 q ix
  | _ => true
set_option maxRecDepth 100000 in
theorem cm_rk_all : (cm_P.all (fun q => (q.2).all (fun e => cm_rk q.1 e.2.1))) = true := by decide +kernel
theorem cm_rk_ok {μ pc : Nat} {q : cm_Q} {i : Instr × Nat} (hq : cm_P[μ]? = some q) (h : cm_at q.2 pc = some i) : cm_rk q.1 i.1 = true :=
  List.all_eq_true.mp (List.all_eq_true.mp cm_rk_all q (List.mem_of_getElem? hq)) _ (cm_at_mem h)
section ARMS4
variable {l : Launch} {D : va_G} {cA : Nat → ClassId} {B : Int → Nat} {base : Nat} {ro : Int → Int → Int} {q : cm_MI} {pc : Nat} {ls : List (Option cm_V)} {st : List cm_V} {G : cm_G} {M : cm_M} {r : Option cm_V} {G' : cm_G} {M' : cm_M}
abbrev cm_Pre (D : va_G) (cA : Nat → ClassId) (B : Int → Nat) (base : Nat) (ro : Int → Int → Int) (G : cm_G) (M : cm_M) : State → Prop := fun U => cm_W D cA B base G M U.heap ∧ cm_S D cA B base ro U
abbrev cm_Post (D : va_G) (cA : Nat → ClassId) (B : Int → Nat) (base : Nat) (v : Option Value) (G : cm_G) (M : cm_M) : State → Outcome → State → Prop := fun st o t => o = .returned v ∧ cm_W D cA B base G M t.heap ∧ va_F (cm_A base) st t
abbrev cm_Rm (q' : cm_MI) (G G1 : cm_G) : Room := { frames := cm_dp q', cells := G1.1.length - G.1.length, slots := cm_sl G1 - cm_sl G, locals := cm_lc q' }
theorem cm_met {q' : cm_MI} (hok : cm_ok q') {as : List cm_V} {r1 : Option cm_V} {G1 : cm_G} {M1 : cm_M} (ht : as.map (fun v => v.1) = cm_tg q') (hs : cm_sum as ≤ cm_ml q') (K : cm_WW l D cA B base ro q' 0 (cm_ent (cm_ml q') as) [] G M r1 G1 M1) :
    Met l q'.1 (cm_wd q' :: cm_T) (cm_Rm q' G G1) (va_Pc (as.map (cm_v B)) (cm_Pre D cA B base ro G M)) (fun _ => cm_Post D cA B base (r1.map (cm_v B)) G1 M1) (G1.1.length - G.1.length) (cm_sl G1 - cm_sl G) (cm_A base) := by
  obtain ⟨k1, k2, k3, k4, k5, k6, k7, k8, k9, k10, k11⟩ := hok
  refine Met.ofW (cc := q'.2.1) (maxL := cm_ml q') (ret := cm_rt q') k7 rfl ?_
  intro p e s m args below meth c s₁ B' hml hv
  obtain ⟨rfl, hW, hSt⟩ := hv
  have hfc : s.vm.findClass q'.1.cls = some m.cls := findClass_of_methodNamed B'.named
  have hts := atoms_spec (ws := cm_wd q' :: cm_T) B'.pre
  have hX : cm_X D cA B base ro q' p (headSpec (cm_wd q' :: cm_T) (cm_Rm q' G G1)).room s m (as.map (cm_v B)).toArray meth c :=
    ⟨B'.exec, B'.bytes, hml, B'.returns, by rw [← k8]; exact hfc, fun w hw => hts w (List.mem_cons_of_mem _ hw), B'.notSynchronized, fun h => by rw [(name_of_methodNamed B'.named B'.method).1]; exact (k5 h).2.1, hSt, Nat.le_refl _, Nat.le_refl _⟩
  rw [lg_entry_eq]
  have k := K p e _ s m _ below meth c s.heap [] _ G.1.length (cm_sl G) (fun _ => cm_Post D cA B base (r1.map (cm_v B)) G1 M1) hX (cm_ent_L B q' as ht hs k9) hW va_S.rf (Nat.le_refl _) (Nat.le_refl _) (Nat.le_refl _) (Nat.le_refl _) (fun t _ h1 h2 => ⟨rfl, h1, h2⟩)
  rw [Nat.sub_self, Nat.sub_self] at k
  exact k
theorem cm_after {p : Program} {e : Env} {R : Room} {s : State} {m : MethodId} {args : Array Value} {below : List Frame} {meth : Method} {c : Code} {H : Heap} {locs : List Loc} {cells slots mc ms : Nat} {Q : State → Prop} {Ls : Array Slot} {st0 rest : List Value} {v : Option Value} {G1 : cm_G} {M1 : cm_M}
    (hr : va_Run p l e R s m args below meth c H locs cells slots mc ms (F0 m pc Ls st0) rest (cm_Post D cA B base v G1 M1) (cm_A base)) (hS : va_S (cm_A base) s.heap H locs)
    (kk : ∀ (H1 : Heap) (locs1 : List Loc), cm_W D cA B base G1 M1 H1 → va_S (cm_A base) s.heap H1 locs1 → W p l e R s m args below meth c H1 locs1 (cells + mc) (slots + ms) Q (F0 m (pc + 3) Ls (v.toList ++ rest))) : W p l e R s m args below meth c H locs cells slots Q (F0 m pc Ls st0) := by
  intro T hT X
  obtain ⟨v', st₀, t, T', L, h0, X', hL, e1, e2, ⟨hv, hw, hz, hk⟩, st⟩ := hr T hT X
  cases hv
  rw [h0] at hz hk
  obtain ⟨t2, a1, b1⟩ := kk T'.heap (locs ++ L) (by rw [e1]; exact hw)
    ⟨Nat.le_trans hS.1 (by rw [e1]; exact hz), fun q h1 h2 => by rw [e1, hk q (Nat.lt_of_lt_of_le h1 hS.1) h2]; exact hS.2.1 q h1 h2, fun q hq => by
      rcases List.mem_append.mp hq with h | h
      · exact hS.2.2 q h
      · exact hL q h⟩ T' rfl X'
  exact ⟨t2, st t2 a1, b1⟩
theorem cm_gin {ws : List Cond} (h : ∀ w ∈ ws, w ∈ cm_T) : GoodIn cm_T ws := fun w hw => ⟨h w hw, cm_T_good (h w hw)⟩
theorem cm_blind (av : List Value) : FrameBlind (va_Pc av (cm_Pre D cA B base ro G M)) := fun a U g mk ⟨h1, h2, h3⟩ => ⟨h1, h2, h3.blind g mk a⟩
/-- what a call gives, whichever way it goes -/
theorem cm_goes {q' : cm_MI} {rest : List cm_V} {r1 : Option cm_V} {G1 : cm_G} {M1 : cm_M} (hpre : G.1.length ≤ G1.1.length ∧ cm_sl G ≤ cm_sl G1) (hpost : G1.1.length ≤ G'.1.length ∧ cm_sl G1 ≤ cm_sl G')
    (K : cm_WW l D cA B base ro q (pc + 3) ls (r1.toList ++ rest) G1 M1 r G' M')
    (hrun : ∀ (p : Program) (e : Env) (R : Room) (s : State) (m : MethodId) (args : Array Value) (below : List Frame) (meth : Method) (c : Code) (H : Heap) (locs : List Loc) (Ls : Array Slot) (cells slots : Nat), cm_X D cA B base ro q p R s m args meth c → cm_L B q Ls ls → cm_W D cA B base G M H → va_S (cm_A base) s.heap H locs → cells + (G1.1.length - G.1.length) ≤ R.cells → slots + (cm_sl G1 - cm_sl G) ≤ R.slots →
      va_Run p l e R s m args below meth c H locs cells slots (G1.1.length - G.1.length) (cm_sl G1 - cm_sl G) (F0 m pc Ls (st.map (cm_v B))) (rest.map (cm_v B)) (cm_Post D cA B base (r1.map (cm_v B)) G1 M1) (cm_A base)) : cm_WW l D cA B base ro q pc ls st G M r G' M' := by
  intro p e R s m args below meth c H locs Ls N0 S0 Qc hX hL hW hS h1 h2 h3 h4 hQ
  refine cm_after (hrun p e R s m args below meth c H locs Ls _ _ hX hL hW hS (by omega) (by omega)) hS (fun H1 locs1 hW1 hS1 => ?_)
  have k := K p e R s m args below meth c H1 locs1 Ls N0 S0 Qc hX hL hW1 hS1 (by omega) (by omega) h3 h4 hQ
  rw [show G1.1.length - N0 = G.1.length - N0 + (G1.1.length - G.1.length) by omega, show cm_sl G1 - S0 = cm_sl G - S0 + (cm_sl G1 - cm_sl G) by omega, List.map_append] at k
  have e1 : (r1.toList).map (cm_v B) = (r1.map (cm_v B)).toList := by cases r1 <;> rfl
  rw [e1] at k
  exact k
theorem cm_recv (hB : cm_B B base) {s : State} {H : Heap} (hSt : cm_S D cA B base ro s) (hW : cm_W D cA B base G M H) {q' : cm_MI} (hok : cm_ok q') {k : Int} (hk : cm_sh G k = some (0, cm_ci q')) : ∃ cell : Cell, H[B k]? = some cell ∧ cell.vm.isStatics = false ∧ s.vm.findClass q'.1.cls = some cell.cls := by
  obtain ⟨rc, hrc, hn⟩ := hok.2.2.2.2.2.2.2.2.2.2
  have := va_recv hSt.1 (cm_P1 (cm_cell0 hW hk)) hrc (q0 := 0) rfl
  rwa [hn] at this
theorem cs_callV (hB : cm_B B base) {ix n : Nat} {q' : cm_Q} {k : Int} {as rest : List cm_V} {r1 : Option cm_V} {G1 : cm_G} {M1 : cm_M} (hf : cm_as cm_call (cm_ci q) ix = some (0, n)) (hq' : cm_P[n]? = some q') (hn : n < 1000) (hkd : cm_kd q'.1 = 0) (hk : cm_sh G k = some (0, cm_ci q'.1)) (hst : st = as.reverse ++ (2, k) :: rest) (ht : ((2, k) :: as).map (fun v => v.1) = cm_tg q'.1) (hr8 : cm_sum rest ≤ 8) (hs : cm_sum ((2, k) :: as) ≤ cm_ml q'.1)
    (hdq : cm_dp q'.1 + 1 ≤ cm_dp q ∧ 8 + (cm_ml q'.1 + 11) + cm_lc q'.1 ≤ cm_lc q) (hd : decode q.2.1 pc = .ok (.invokevirtual ix, 3)) (hpre : G.1.length ≤ G1.1.length ∧ cm_sl G ≤ cm_sl G1) (hpost : G1.1.length ≤ G'.1.length ∧ cm_sl G1 ≤ cm_sl G')
    (C : cm_WW l D cA B base ro q'.1 0 (cm_ent (cm_ml q'.1) ((2, k) :: as)) [] G M r1 G1 M1) (K : cm_WW l D cA B base ro q (pc + 3) ls (r1.toList ++ rest) G1 M1 r G' M') : cm_WW l D cA B base ro q pc ls st G M r G' M' := by
  refine cm_goes (rest := rest) (q' := q'.1) hpre hpost K ?_
  intro p e R s m args below meth c H locs Ls cells slots hX hL hW hS hc1 hc2
  obtain ⟨hx, hb, hml, hr, hown, hts, hlk, hin, hSt, hdp, hlc⟩ := hX
  obtain ⟨q'', hq'', hok, hl, -⟩ := (cm_call_ok _ (cm_as_mem hf)).1 hn
  cases hq'.symm.trans hq''
  have hl := hl rfl
  have hok' := hok
  obtain ⟨k1, k2, k3, k4, k5, k6, k7, k8, k9, k10, k11⟩ := hok
  have e2 : cm_v B (2, k) = .ref (B k) := cm_v2 B (by have := (cm_sh_lt hk).1; omega)
  have hM := cm_met hok' ht hs C
  have hlen : (as.map (cm_v B)).length = (cm_tg q'.1).length - 1 := by
    rw [← ht]
    simp
  have hwn : ∀ w ∈ wsV (cm_cn (cm_ci q)) ix q'.1.1.cls q'.1.1 (cm_wd q'.1 :: cm_T), w ∈ cm_T := by
    intro w hw
    unfold wsV at hw
    simp only [List.cons_append, List.nil_append, List.mem_cons] at hw
    rcases hw with rfl | rfl | rfl | rfl | rfl | hw
    · exact hl
    · exact (k3 hkd).1
    · exact (k3 hkd).2
    · exact k2
    · exact k1
    · exact hw
  have hrun := va_runV (e := e) (below := below) (meth := meth) (H := H) (locs := locs) (cells := cells) (slots := slots) (As := as.map (cm_v B)) (rest := rest.map (cm_v B)) (b := B k) (g := F0 m pc Ls (st.map (cm_v B))) ⟨hx, hb, hml, hown, hts⟩ hM (cwV ((cm_tg q'.1).length - 1) hts (cm_gin hwn) rfl rfl rfl ⟨rfl, k6.1, k6.2.1, by rw [k6.2.2, hkd]; rfl⟩ ⟨by show cm_dp q'.1 + 1 ≤ _; omega, by show 8 + (cm_ml q'.1 + 11) + cm_lc q'.1 ≤ _; omega⟩)
    ⟨cm_blind _, cm_recv hB hSt hW hok' hk, fun U hU hWm => ⟨by rw [List.map_cons, e2], by rw [hU]; exact hW, hSt.moved hB hWm (by rw [hU]; exact hS)⟩⟩ rfl hlen hL.size (by rw [hst]; simp [F0, e2]) (lv_room (by rw [cm_cats]; exact hr8)) hd ⟨hc1, hc2⟩
  exact hrun
theorem cs_callI (hB : cm_B B base) {ix nst n : Nat} {q' : cm_Q} {k : Int} {as rest : List cm_V} {r1 : Option cm_V} {G1 : cm_G} {M1 : cm_M} (hf : cm_as cm_call (cm_ci q) ix = some (nst, n)) (hq' : cm_P[n]? = some q') (hn : n < 1000) (hkd : cm_kd q'.1 = 2) (hk : cm_sh G k = some (0, cm_ci q'.1)) (hst : st = as.reverse ++ (2, k) :: rest) (ht : ((2, k) :: as).map (fun v => v.1) = cm_tg q'.1) (hr8 : cm_sum rest ≤ 8) (hs : cm_sum ((2, k) :: as) ≤ cm_ml q'.1)
    (hdq : cm_dp q'.1 + 1 ≤ cm_dp q ∧ 8 + (cm_ml q'.1 + 11) + cm_lc q'.1 ≤ cm_lc q) (hd : decode q.2.1 pc = .ok (.invokespecial ix, 3)) (hpre : G.1.length ≤ G1.1.length ∧ cm_sl G ≤ cm_sl G1) (hpost : G1.1.length ≤ G'.1.length ∧ cm_sl G1 ≤ cm_sl G')
    (C : cm_WW l D cA B base ro q'.1 0 (cm_ent (cm_ml q'.1) ((2, k) :: as)) [] G M r1 G1 M1) (K : cm_WW l D cA B base ro q (pc + 3) ls (r1.toList ++ rest) G1 M1 r G' M') : cm_WW l D cA B base ro q pc ls st G M r G' M' := by
  refine cm_goes (rest := rest) (q' := q'.1) hpre hpost K ?_
  intro p e R s m args below meth c H locs Ls cells slots hX hL hW hS hc1 hc2
  obtain ⟨hx, hb, hml, hr, hown, hts, hlk, hin, hSt, hdp, hlc⟩ := hX
  obtain ⟨q'', hq'', hok, hl, hnl⟩ := (cm_call_ok _ (cm_as_mem hf)).1 hn
  cases hq'.symm.trans hq''
  have hok' := hok
  obtain ⟨k1, k2, k3, k4, k5, k6, k7, k8, k9, k10, k11⟩ := hok
  have e2 : cm_v B (2, k) = .ref (B k) := cm_v2 B (by have := (cm_sh_lt hk).1; omega)
  have hM := cm_met hok' ht hs C
  have hlen : (as.map (cm_v B)).length = (cm_tg q'.1).length - 1 := by
    rw [← ht]
    simp
  have hwn : ∀ w ∈ cm_wd q'.1 :: cm_T, w ∈ cm_T := by
    intro w hw
    rcases List.mem_cons.mp hw with rfl | hw
    · exact k1
    · exact hw
  have hret := (k5 hkd).2.2
  have hR : cm_dp q'.1 + 1 ≤ R.frames ∧ 8 + (cm_ml q'.1 + 11) + cm_lc q'.1 ≤ R.locals := ⟨by omega, by omega⟩
  have hpp : PreS s H (va_Pc (((2, k) :: as).map (cm_v B)) (cm_Pre D cA B base ro G M)) (.ref (B k) :: as.map (cm_v B)) := ⟨cm_blind _, fun U hU hWm => ⟨by rw [List.map_cons, e2], by rw [hU]; exact hW, hSt.moved hB hWm (by rw [hU]; exact hS)⟩⟩
  have hws : cm_wd q'.1 :: cm_T = Cond.code q'.1.1 q'.1.2.1 (cm_ml q'.1) none :: cm_T := by unfold cm_wd; rw [hret]
  by_cases hnst : nst = 0
  · have hrun := va_runI (e := e) (below := below) (meth := meth) (H := H) (locs := locs) (cells := cells) (slots := slots) (As := as.map (cm_v B)) (rest := rest.map (cm_v B)) (b := B k) (g := F0 m pc Ls (st.map (cm_v B))) ⟨hx, hb, hml, hown, hts⟩ hM (cwI ((cm_tg q'.1).length - 1) hts (cm_gin hwn) hws rfl rfl (hts _ k2) (hts _ (hl hnst)) (hts _ (k5 hkd).1) (k5 hkd).2.1 ⟨k6.1, k6.2.1, by rw [k6.2.2, hkd]; rfl⟩ hR)
      hpp rfl hlen hL.size (by rw [hst]; simp [F0, e2]) (lv_room (by rw [cm_cats]; exact hr8)) hd ⟨hc1, hc2⟩
    exact hrun
  · have hin3 := hnl hnst
    have h33 : cm_ci q = 5 ∧ ix = 33 ∧ n = 45 := by
      simp only [List.mem_cons, Prod.mk.injEq, List.not_mem_nil, or_false] at hin3
      rcases hin3 with h | ⟨h1, h2, h3⟩ | ⟨h1, h2, h3⟩
      · exact h
      · rw [h3] at hq'
        cases (show cm_P[80]? = some (mi_80, ins_80) from rfl).symm.trans hq'
        cases hkd
      · rw [h3] at hq'
        cases (show cm_P[81]? = some (mi_81, ins_81) from rfl).symm.trans hq'
        cases hkd
    obtain ⟨h5, h33, hnp⟩ := h33
    rw [h5] at hown
    subst h33 hnp
    cases (show cm_P[45]? = some (mi_45, ins_45) from rfl).symm.trans hq'
    have hrun := va_runIN (e := e) (below := below) (meth := meth) (H := H) (locs := locs) (cells := cells) (slots := slots) (As := as.map (cm_v B)) (rest := rest.map (cm_v B)) (b := B k) (g := F0 m pc Ls (st.map (cm_v B))) ⟨hx, hb, hml, hown, hts⟩ hM ⟨va_cnB ((cm_tg mi_45).length - 1) hts (cm_gin hwn) hws rfl rfl hSt.2.1.1 (hts _ k2) ⟨k6.1, k6.2.1, by rw [k6.2.2, hkd]; rfl⟩ hR, (k5 hkd).2.1, hts _ (k5 hkd).1⟩
      hpp rfl hlen hL.size (by rw [hst]; simp [F0, e2]) (lv_room (by rw [cm_cats]; exact hr8)) hd ⟨hc1, hc2⟩
    exact hrun
theorem cs_callS (hB : cm_B B base) {ix nst n : Nat} {q' : cm_Q} {as rest : List cm_V} {r1 : Option cm_V} {G1 : cm_G} {M1 : cm_M} (hf : cm_as cm_call (cm_ci q) ix = some (nst, n)) (hq' : cm_P[n]? = some q') (hn : n < 1000) (hkd : cm_kd q'.1 = 1) (hst : st = as.reverse ++ rest) (ht : as.map (fun v => v.1) = cm_tg q'.1) (hr8 : cm_sum rest ≤ 8) (hs : cm_sum as ≤ cm_ml q'.1)
    (hdq : cm_dp q'.1 + 1 ≤ cm_dp q ∧ 8 + (cm_ml q'.1 + 11) + cm_lc q'.1 ≤ cm_lc q) (hd : decode q.2.1 pc = .ok (.invokestatic ix, 3)) (hpre : G.1.length ≤ G1.1.length ∧ cm_sl G ≤ cm_sl G1) (hpost : G1.1.length ≤ G'.1.length ∧ cm_sl G1 ≤ cm_sl G')
    (C : cm_WW l D cA B base ro q'.1 0 (cm_ent (cm_ml q'.1) as) [] G M r1 G1 M1) (K : cm_WW l D cA B base ro q (pc + 3) ls (r1.toList ++ rest) G1 M1 r G' M') : cm_WW l D cA B base ro q pc ls st G M r G' M' := by
  refine cm_goes (rest := rest) (q' := q'.1) hpre hpost K ?_
  intro p e R s m args below meth c H locs Ls cells slots hX hL hW hS hc1 hc2
  obtain ⟨hx, hb, hml, hr, hown, hts, hlk, hin, hSt, hdp, hlc⟩ := hX
  obtain ⟨q'', hq'', hok, hl, hnl⟩ := (cm_call_ok _ (cm_as_mem hf)).1 hn
  cases hq'.symm.trans hq''
  have hok' := hok
  obtain ⟨k1, k2, k3, k4, k5, k6, k7, k8, k9, k10, k11⟩ := hok
  have hM := cm_met hok' ht hs C
  have hlen : (as.map (cm_v B)).length = (cm_tg q'.1).length := by
    rw [← ht]
    simp
  have hwt : ∀ w ∈ cm_wd q'.1 :: cm_T, w ∈ cm_T := by
    intro w hw
    rcases List.mem_cons.mp hw with rfl | hw
    · exact k1
    · exact hw
  have hR : cm_dp q'.1 + 1 ≤ R.frames ∧ 8 + (cm_ml q'.1 + 11) + cm_lc q'.1 ≤ R.locals := ⟨by omega, by omega⟩
  have hpp : PreS s H (va_Pc (as.map (cm_v B)) (cm_Pre D cA B base ro G M)) (as.map (cm_v B)) := ⟨cm_blind _, fun U hU hWm => ⟨rfl, by rw [hU]; exact hW, hSt.moved hB hWm (by rw [hU]; exact hS)⟩⟩
  have hpn : (parseMethodDescriptor q'.1.1.desc).map (fun d => d.parameters.length) = some (cm_tg q'.1).length := by rw [k6.2.2, hkd]; rfl
  by_cases hnst : nst = 0
  · have hwn : ∀ w ∈ va_wsS (cm_cn (cm_ci q)) ix q'.1.1 (cm_wd q'.1 :: cm_T), w ∈ cm_T := by
      intro w hw
      unfold va_wsS at hw
      simp only [List.cons_append, List.nil_append, List.mem_cons] at hw
      rcases hw with rfl | rfl | rfl | rfl | hw
      · exact hl hnst
      · exact k4 hkd
      · exact k2
      · exact k1
      · exact hw
    have hrun := va_runS (e := e) (below := below) (meth := meth) (H := H) (locs := locs) (cells := cells) (slots := slots) (As := as.map (cm_v B)) (rest := rest.map (cm_v B)) (g := F0 m pc Ls (st.map (cm_v B))) ⟨hx, hb, hml, hown, hts⟩ hM (va_cwS ((cm_tg q'.1).length) hts (cm_gin hwn) rfl rfl rfl ⟨k6.1, k6.2.1, hpn⟩ hR)
      hpp rfl hlen hL.size (by rw [hst]; simp [F0]) (lv_room (by rw [cm_cats]; exact hr8)) hd ⟨hc1, hc2⟩
    exact hrun
  · have hin3 := hnl hnst
    simp only [List.mem_cons, Prod.mk.injEq, List.not_mem_nil, or_false] at hin3
    rcases hin3 with ⟨h1, h2, h3⟩ | ⟨h1, h2, h3⟩ | ⟨h1, h2, h3⟩
    · subst h3
      cases (show cm_P[45]? = some (mi_45, ins_45) from rfl).symm.trans hq'
      cases hkd
    · rw [h1] at hown
      subst h2 h3
      cases (show cm_P[80]? = some (mi_80, ins_80) from rfl).symm.trans hq'
      have hrun := va_runSN (e := e) (below := below) (meth := meth) (H := H) (locs := locs) (cells := cells) (slots := slots) (As := as.map (cm_v B)) (rest := rest.map (cm_v B)) (g := F0 m pc Ls (st.map (cm_v B))) ⟨hx, hb, hml, hown, hts⟩ hM ⟨va_cnB ((cm_tg mi_80).length) hts (cm_gin hwt) rfl rfl rfl hSt.2.1.2.1 (hts _ k2) ⟨k6.1, k6.2.1, hpn⟩ hR, hts _ (k4 hkd), trivial⟩
        hpp rfl hlen hL.size (by rw [hst]; simp [F0]) (lv_room (by rw [cm_cats]; exact hr8)) hd ⟨hc1, hc2⟩
      exact hrun
    · rw [h1] at hown
      subst h2 h3
      cases (show cm_P[81]? = some (mi_81, ins_81) from rfl).symm.trans hq'
      have hrun := va_runSN (e := e) (below := below) (meth := meth) (H := H) (locs := locs) (cells := cells) (slots := slots) (As := as.map (cm_v B)) (rest := rest.map (cm_v B)) (g := F0 m pc Ls (st.map (cm_v B))) ⟨hx, hb, hml, hown, hts⟩ hM ⟨va_cnB ((cm_tg mi_81).length) hts (cm_gin hwt) rfl rfl rfl hSt.2.1.2.2.1 (hts _ k2) ⟨k6.1, k6.2.1, hpn⟩ hR, hts _ (k4 hkd), trivial⟩
        hpp rfl hlen hL.size (by rw [hst]; simp [F0]) (lv_room (by rw [cm_cats]; exact hr8)) hd ⟨hc1, hc2⟩
      exact hrun
end ARMS4
end
section
/-! ===== THE SMALL MACHINE IS SOUND ===== -/
section SOUND
variable {l : Launch} {D : va_G} {cA : Nat → ClassId} {B : Int → Nat} {base : Nat} {ro : Int → Int → Int}
def cm_Rs (l : Launch) (D : va_G) (cA : Nat → ClassId) (B : Int → Nat) (base : Nat) (ro : Int → Int → Int) (q : cm_MI) (pc : Nat) (ls : List (Option cm_V)) (st : List cm_V) (G : cm_G) (M : cm_M) (r : Option cm_V) (G' : cm_G) (M' : cm_M) : Prop :=
  cm_Ro ro M → cm_Wf G → (∃ D1, G'.1 = G.1 ++ D1) ∧ cm_Ro ro M' ∧ cm_Wf G' ∧ cm_WW l D cA B base ro q pc ls st G M r G' M'
theorem cm_grow {G G' : cm_G} (h : ∃ D1, G'.1 = G.1 ++ D1) : G.1.length ≤ G'.1.length ∧ cm_sl G ≤ cm_sl G' := by
  obtain ⟨D1, h⟩ := h
  unfold cm_sl
  rw [h, List.length_append, List.map_append, List.sum_append]
  exact ⟨Nat.le_add_right _ _, Nat.le_add_right _ _⟩
variable {q : cm_MI} {pc : Nat} {ls : List (Option cm_V)} {st : List cm_V} {G : cm_G} {M : cm_M} {r : Option cm_V} {G' : cm_G} {M' : cm_M}
theorem cm_Rs.gen {q2 : cm_MI} {pc2 : Nat} {ls2 : List (Option cm_V)} {st2 : List cm_V} {G1 : cm_G} {M1 : cm_M} (K : cm_Rs l D cA B base ro q2 pc2 ls2 st2 G1 M1 r G' M') (hro : cm_Ro ro M → cm_Ro ro M1) (hwf : cm_Wf G → cm_Wf G1) (hpre : ∃ D1, G1.1 = G.1 ++ D1)
    (h : cm_Ro ro M → cm_Wf G → (G1.1.length ≤ G'.1.length ∧ cm_sl G1 ≤ cm_sl G') → cm_WW l D cA B base ro q2 pc2 ls2 st2 G1 M1 r G' M' → cm_WW l D cA B base ro q pc ls st G M r G' M') : cm_Rs l D cA B base ro q pc ls st G M r G' M' := by
  intro h1 h2
  obtain ⟨⟨D2, k1⟩, k2, k3, k4⟩ := K (hro h1) (hwf h2)
  obtain ⟨D1, k0⟩ := hpre
  exact ⟨⟨D1 ++ D2, by rw [k1, k0, List.append_assoc]⟩, k2, k3, h h1 h2 (cm_grow ⟨D2, k1⟩) k4⟩
theorem cm_Rs.same {pc2 : Nat} {ls2 : List (Option cm_V)} {st2 : List cm_V} (K : cm_Rs l D cA B base ro q pc2 ls2 st2 G M r G' M')
    (h : cm_Ro ro M → cm_Wf G → (G.1.length ≤ G'.1.length ∧ cm_sl G ≤ cm_sl G') → cm_WW l D cA B base ro q pc2 ls2 st2 G M r G' M' → cm_WW l D cA B base ro q pc ls st G M r G' M') : cm_Rs l D cA B base ro q pc ls st G M r G' M' :=
  cm_Rs.gen K id id ⟨[], (List.append_nil _).symm⟩ h
theorem cm_Ro.up {k j v : Int} (hk : 0 ≤ k) (h : cm_Ro ro M) : cm_Ro ro (cm_up M k j v) := fun a ha b => by rw [cm_up_n _ (Or.inl (by omega))]; exact h a ha b
theorem cm_Ro.row {k v : Int} (hk : 0 ≤ k) (h : cm_Ro ro M) : cm_Ro ro (cm_row M k v) := fun a ha b => by rw [cm_row_n _ (by omega)]; exact h a ha b
theorem cm_Ro.cpy {k1 sp k2 dp n : Int} (hk : 0 ≤ k2) (h : cm_Ro ro M) : cm_Ro ro (cm_cpy M k1 sp k2 dp n) := fun a ha b => by unfold cm_cpy; rw [if_neg (by omega)]; exact h a ha b
theorem cm_Wf.push {e : Nat × Nat} {f : Int → Int → Int} (he : e.2 < 2 ^ 31) (h : cm_Wf G) : cm_Wf (G.1 ++ [e], f) := fun x hx => by
  rcases List.mem_append.mp hx with h1 | h1
  · exact h x h1
  · rw [List.mem_singleton.mp h1]; exact he
theorem cm_rc_of {q' : cm_MI} {n : Nat} (hn : n = (cm_tg q').length) (h : cm_rcb G q' st = true) : ∃ k, st[n - 1]? = some (2, k) ∧ cm_sh G k = some (0, cm_ci q') := by
  subst hn
  unfold cm_rcb at h
  split at h
  · rename_i k hk
    exact ⟨k, hk, of_decide_eq_true h⟩
  · cases h
theorem cm_split {n : Nat} {k : Int} (hn : 0 < n) (h : st[n - 1]? = some (2, k)) : (st.take n).reverse = (2, k) :: (st.take (n - 1)).reverse ∧ st = ((st.take (n - 1)).reverse).reverse ++ (2, k) :: st.drop n := by
  obtain ⟨n, rfl⟩ : ∃ m, n = m + 1 := ⟨n - 1, by omega⟩
  rw [Nat.add_sub_cancel] at h ⊢
  have hlt : n < st.length := (List.getElem?_eq_some_iff.mp h).1
  have e1 : st.take (n + 1) = st.take n ++ [(2, k)] := by rw [List.take_add_one, h]; rfl
  refine ⟨by rw [e1]; simp, ?_⟩
  rw [List.reverse_reverse]
  conv => lhs; rw [← List.take_append_drop (n + 1) st]
  rw [e1]
  simp
/-- what a run of n rounds says -/
def cm_IH (l : Launch) (D : va_G) (cA : Nat → ClassId) (B : Int → Nat) (base : Nat) (ro : Int → Int → Int) (f : cm_K) : Prop := ∀ (μ : Nat) (q : cm_Q) (pc : Nat) (ls : List (Option cm_V)) (st : List cm_V) (G : cm_G) (M : cm_M) (r : Option cm_V) (G' : cm_G) (M' : cm_M), cm_P[μ]? = some q → f μ pc ls st G M = some (r, G', M') → cm_Rs l D cA B base ro q.1 pc ls st G M r G' M'
/-- a call in the small machine -/
theorem cm_cl_of {f : cm_K} {n : Nat} {q' : cm_MI} {k : Option cm_V → List cm_V → cm_G → cm_M → Option cm_R} {R : cm_R} (h : cm_cl f n q' st G M k = some R) :
    (((st.take (cm_tg q').length).reverse).map (fun v => v.1) = cm_tg q' ∧ cm_sum (st.drop (cm_tg q').length) ≤ 8 ∧ cm_sum ((st.take (cm_tg q').length).reverse) ≤ cm_ml q') ∧ ∃ v G1 M1, f n 0 (cm_ent (cm_ml q') ((st.take (cm_tg q').length).reverse)) [] G M = some (v, G1, M1) ∧ k v (st.drop (cm_tg q').length) G1 M1 = some R := by
  unfold cm_cl at h
  simp only at h
  split at h
  · rename_i hg
    refine ⟨hg, ?_⟩
    split at h
    · rename_i v G1 M1 hv
      exact ⟨v, G1, M1, hv, h⟩
    · cases h
  · cases h
theorem cm_tgt {pc : Nat} {off : Int} (h : 0 ≤ (pc : Int) + off) : (pc : Int) + off = (((pc : Int) + off).toNat : Nat) := by omega
theorem cm_do_sound (hB : cm_B B base) {f : cm_K} (IH : cm_IH l D cA B base ro f) {μ : Nat} {q : cm_Q} {i : Instr × Nat} (hq : cm_P[μ]? = some q) (hd : decode q.1.2.1 pc = .ok i) (hrk : cm_rk q.1 i.1 = true) (h : cm_do f μ q.1 i pc ls st G M = some (r, G', M')) : cm_Rs l D cA B base ro q.1 pc ls st G M r G' M' := by
  unfold cm_do at h
  split at h
  · exact (IH _ _ _ _ _ _ _ _ _ _ hq h).same (fun _ _ _ K => cs_iconst hd K)
  · split at h
    · rename_i hg
      exact (IH _ _ _ _ _ _ _ _ _ _ hq h).same (fun _ _ _ K => cs_bipush hg hd K)
    · cases h
  · split at h
    · rename_i hg
      exact (IH _ _ _ _ _ _ _ _ _ _ hq h).same (fun _ _ _ K => cs_sipush hg hd K)
    · cases h
  · exact (IH _ _ _ _ _ _ _ _ _ _ hq h).same (fun _ _ _ K => cs_lconst hd K)
  · split at h
    · rename_i v hv
      exact (IH _ _ _ _ _ _ _ _ _ _ hq h).same (fun _ _ _ K => cs_ldc2 hv hd K)
    · cases h
  -- loads
  · unfold cm_ld at h
    split at h
    · rename_i v hv
      split at h
      · rename_i hg
        obtain ⟨t, x⟩ := v
        obtain ⟨ht, -⟩ := hg
        simp only at ht
        subst ht
        exact (IH _ _ _ _ _ _ _ _ _ _ hq h).same (fun _ _ _ K => cs_iload_n hv hd K)
      · cases h
    · cases h
  · unfold cm_ld at h
    split at h
    · rename_i v hv
      split at h
      · rename_i hg
        obtain ⟨t, x⟩ := v
        obtain ⟨ht, -⟩ := hg
        simp only at ht
        subst ht
        exact (IH _ _ _ _ _ _ _ _ _ _ hq h).same (fun _ _ _ K => cs_iload hv hd K)
      · cases h
    · cases h
  · unfold cm_ld at h
    split at h
    · rename_i v hv
      split at h
      · rename_i hg
        obtain ⟨t, x⟩ := v
        obtain ⟨ht, -⟩ := hg
        simp only at ht
        subst ht
        exact (IH _ _ _ _ _ _ _ _ _ _ hq h).same (fun _ _ _ K => cs_lload_n hv hd K)
      · cases h
    · cases h
  · unfold cm_ld at h
    split at h
    · rename_i v hv
      split at h
      · rename_i hg
        obtain ⟨t, x⟩ := v
        obtain ⟨ht, -⟩ := hg
        simp only at ht
        subst ht
        exact (IH _ _ _ _ _ _ _ _ _ _ hq h).same (fun _ _ _ K => cs_lload hv hd K)
      · cases h
    · cases h
  · unfold cm_ld at h
    split at h
    · rename_i v hv
      split at h
      · rename_i hg
        obtain ⟨t, x⟩ := v
        obtain ⟨ht, hx⟩ := hg
        simp only at ht hx
        subst ht
        exact (IH _ _ _ _ _ _ _ _ _ _ hq h).same (fun _ _ _ K => cs_aload_n (hx trivial) hv hd K)
      · cases h
    · cases h
  -- stores
  · unfold cm_st at h
    split at h
    · rename_i v st'
      split at h
      · rename_i hg
        obtain ⟨t, x⟩ := v
        obtain ⟨ht, h1, h2, -, -⟩ := hg
        simp only at ht
        subst ht
        exact (IH _ _ _ _ _ _ _ _ _ _ hq h).same (fun _ _ _ K => cs_istore_n h1 h2 hd K)
      · cases h
    · cases h
  · unfold cm_st at h
    split at h
    · rename_i v st'
      split at h
      · rename_i hg
        obtain ⟨t, x⟩ := v
        obtain ⟨ht, h1, h2, -, -⟩ := hg
        simp only at ht
        subst ht
        exact (IH _ _ _ _ _ _ _ _ _ _ hq h).same (fun _ _ _ K => cs_istore h1 h2 hd K)
      · cases h
    · cases h
  · unfold cm_st at h
    split at h
    · rename_i v st'
      split at h
      · rename_i hg
        obtain ⟨t, x⟩ := v
        obtain ⟨ht, h1, h2, -, hx⟩ := hg
        simp only at ht hx
        subst ht
        exact (IH _ _ _ _ _ _ _ _ _ _ hq h).same (fun _ _ _ K => cs_astore_n (hx trivial) h1 h2 hd K)
      · cases h
    · cases h
  · unfold cm_lst at h
    split at h
    · split at h
      · rename_i hg
        exact (IH _ _ _ _ _ _ _ _ _ _ hq h).same (fun _ _ _ K => cs_lstore hg.1 hg.2.1 hg.2.2.1 hd K)
      · cases h
    · cases h
  · split at h
    · rename_i x hx
      split at h
      · rename_i hg
        exact (IH _ _ _ _ _ _ _ _ _ _ hq h).same (fun _ _ _ K => cs_iinc hx hg.1 hd K)
      · cases h
    · cases h
  -- arithmetic
  · unfold cm_ari at h
    split at h
    · exact (IH _ _ _ _ _ _ _ _ _ _ hq h).same (fun _ _ _ K => cs_iadd hd K)
    · cases h
  · unfold cm_ari at h
    split at h
    · exact (IH _ _ _ _ _ _ _ _ _ _ hq h).same (fun _ _ _ K => cs_isub hd K)
    · cases h
  · unfold cm_ari at h
    split at h
    · exact (IH _ _ _ _ _ _ _ _ _ _ hq h).same (fun _ _ _ K => cs_imul hd K)
    · cases h
  · unfold cm_ari at h
    split at h
    · exact (IH _ _ _ _ _ _ _ _ _ _ hq h).same (fun _ _ _ K => cs_iand hd K)
    · cases h
  · unfold cm_div at h
    split at h
    · split at h
      · rename_i hg
        exact (IH _ _ _ _ _ _ _ _ _ _ hq h).same (fun _ _ _ K => cs_idiv hg.1 hg.2.1 hg.2.2 hd K)
      · cases h
    · cases h
  · unfold cm_div at h
    split at h
    · split at h
      · rename_i hg
        exact (IH _ _ _ _ _ _ _ _ _ _ hq h).same (fun _ _ _ K => cs_irem hg.1 hg.2.1 hg.2.2 hd K)
      · cases h
    · cases h
  · unfold cm_arl at h
    split at h
    · exact (IH _ _ _ _ _ _ _ _ _ _ hq h).same (fun _ _ _ K => cs_land hd K)
    · cases h
  · unfold cm_arl at h
    split at h
    · exact (IH _ _ _ _ _ _ _ _ _ _ hq h).same (fun _ _ _ K => cs_lor hd K)
    · cases h
  · unfold cm_shl at h
    split at h
    · exact (IH _ _ _ _ _ _ _ _ _ _ hq h).same (fun _ _ _ K => cs_lushr hd K)
    · cases h
  · unfold cm_shl at h
    split at h
    · exact (IH _ _ _ _ _ _ _ _ _ _ hq h).same (fun _ _ _ K => cs_lshl hd K)
    · cases h
  · split at h
    · exact (IH _ _ _ _ _ _ _ _ _ _ hq h).same (fun _ _ _ K => cs_l2i hd K)
    · cases h
  · split at h
    · exact (IH _ _ _ _ _ _ _ _ _ _ hq h).same (fun _ _ _ K => cs_i2l hd K)
    · cases h
  · split at h
    · split at h
      · rename_i hg
        exact (IH _ _ _ _ _ _ _ _ _ _ hq h).same (fun _ _ _ K => cs_i2c hg hd K)
      · cases h
    · cases h
  · split at h
    · exact (IH _ _ _ _ _ _ _ _ _ _ hq h).same (fun _ _ _ K => cs_lcmp hd K)
    · cases h
  -- the stack
  · split at h
    · split at h
      · rename_i hg
        exact (IH _ _ _ _ _ _ _ _ _ _ hq h).same (fun _ _ _ K => cs_dup hg hd K)
      · cases h
    · cases h
  · split at h
    · split at h
      · rename_i hg
        exact (IH _ _ _ _ _ _ _ _ _ _ hq h).same (fun _ _ _ K => cs_dup2 hg.1 hg.2 hd K)
      · cases h
    · cases h
  · split at h
    · split at h
      · rename_i hg
        exact (IH _ _ _ _ _ _ _ _ _ _ hq h).same (fun _ _ _ K => cs_pop hg hd K)
      · cases h
    · cases h
  -- jumps
  · unfold cm_go at h
    split at h
    · rename_i hg
      exact (IH _ _ _ _ _ _ _ _ _ _ hq h).same (fun _ _ _ K => cs_goto (cm_tgt hg) hd K)
    · cases h
  · unfold cm_icmp at h
    split at h
    · split at h
      · rename_i hg
        split at h
        · rename_i hc
          exact (IH _ _ _ _ _ _ _ _ _ _ hq h).same (fun _ _ _ K => cs_icmp hg.1 hg.2.1 (cm_tgt hg.2.2) hd (fun _ => K) (fun z => absurd hc z))
        · rename_i hc
          exact (IH _ _ _ _ _ _ _ _ _ _ hq h).same (fun _ _ _ K => cs_icmp hg.1 hg.2.1 (cm_tgt hg.2.2) hd (fun z => absurd z hc) (fun _ => K))
      · cases h
    · cases h
  · unfold cm_if at h
    split at h
    · split at h
      · rename_i hg
        split at h
        · rename_i hc
          exact (IH _ _ _ _ _ _ _ _ _ _ hq h).same (fun _ _ _ K => cs_if hg.1 (cm_tgt hg.2) hd (fun _ => K) (fun z => absurd hc z))
        · rename_i hc
          exact (IH _ _ _ _ _ _ _ _ _ _ hq h).same (fun _ _ _ K => cs_if hg.1 (cm_tgt hg.2) hd (fun z => absurd z hc) (fun _ => K))
      · cases h
    · cases h
  · split at h
    · split at h
      · rename_i hg
        unfold cm_go at h
        split at h
        · rename_i ht
          exact (IH _ _ _ _ _ _ _ _ _ _ hq h).same (fun _ _ _ K => cs_table hg.1 hg.2 (cm_tgt ht) hd K)
        · cases h
      · cases h
    · cases h
  · split at h
    · split at h
      · rename_i hg
        unfold cm_go at h
        split at h
        · rename_i ht
          exact (IH _ _ _ _ _ _ _ _ _ _ hq h).same (fun _ _ _ K => cs_lookup hg.1 hg.2 (cm_tgt ht) hd K)
        · cases h
      · cases h
    · cases h
  -- fields
  · unfold cm_get at h
    split at h
    · rename_i k st' ci j hf
      split at h
      · rename_i hk
        split at h
        · rename_i hfk
          exact (IH _ _ _ _ _ _ _ _ _ _ hq h).same (fun _ _ _ K => cs_get hf hk (Or.inl ⟨hfk, rfl⟩) hd K)
        · rename_i hfk
          exact (IH _ _ _ _ _ _ _ _ _ _ hq h).same (fun _ _ _ K => cs_get hf hk (Or.inr ⟨hfk, rfl⟩) hd K)
        · cases h
      · cases h
    · cases h
  · unfold cm_put at h
    split at h
    · rename_i t v k st' ci j hf
      split at h
      · rename_i hg
        obtain ⟨hk, ht, hfin⟩ := hg
        split at h
        · rename_i ht0
          subst ht0
          exact (IH _ _ _ _ _ _ _ _ _ _ hq h).gen (cm_Ro.up (cm_sh_lt hk).1) id ⟨[], (List.append_nil _).symm⟩ (fun _ _ _ K => cs_put hB hf hk ht hfin (Or.inl ⟨rfl, rfl, rfl⟩) hd K)
        · split at h
          · rename_i ht2
            obtain ⟨rfl, hv⟩ := ht2
            exact (IH _ _ _ _ _ _ _ _ _ _ hq h).gen id (fun hw => hw) ⟨[], (List.append_nil _).symm⟩ (fun _ _ _ K => cs_put hB hf hk ht hfin (Or.inr ⟨rfl, hv, rfl, rfl⟩) hd K)
          · cases h
      · cases h
    · cases h
  · split at h
    · rename_i nst k hf
      exact (IH _ _ _ _ _ _ _ _ _ _ hq h).same (fun _ _ _ K => cs_gets hf hd K)
    · cases h
  -- arrays
  · unfold cm_ald at h
    split at h
    · split at h
      · rename_i hg
        exact (IH _ _ _ _ _ _ _ _ _ _ hq h).same (fun hro hwf _ K => cs_iald hB hro hwf hg hd K)
      · cases h
    · cases h
  · unfold cm_ald at h
    split at h
    · split at h
      · rename_i hg
        exact (IH _ _ _ _ _ _ _ _ _ _ hq h).same (fun hro hwf _ K => cs_cald hwf hg hd K)
      · cases h
    · cases h
  · unfold cm_ald at h
    split at h
    · split at h
      · rename_i hg
        exact (IH _ _ _ _ _ _ _ _ _ _ hq h).same (fun hro hwf _ K => cs_zald hwf hg hd K)
      · cases h
    · cases h
  · unfold cm_ast at h
    split at h
    · split at h
      · rename_i hg
        exact (IH _ _ _ _ _ _ _ _ _ _ hq h).gen (cm_Ro.up hg.1) id ⟨[], (List.append_nil _).symm⟩ (fun _ hwf _ K => cs_iast hB hwf hg.1 ⟨hg.2.1, hg.2.2.1⟩ hd K)
      · cases h
    · cases h
  · unfold cm_ast at h
    split at h
    · split at h
      · rename_i hg
        exact (IH _ _ _ _ _ _ _ _ _ _ hq h).gen (cm_Ro.up hg.1) id ⟨[], (List.append_nil _).symm⟩ (fun _ hwf _ K => cs_cast hB hwf hg.1 ⟨hg.2.1, hg.2.2.1⟩ (of_decide_eq_true hg.2.2.2) hd K)
      · cases h
    · cases h
  · unfold cm_ast at h
    split at h
    · split at h
      · rename_i hg
        exact (IH _ _ _ _ _ _ _ _ _ _ hq h).gen (cm_Ro.up hg.1) id ⟨[], (List.append_nil _).symm⟩ (fun _ hwf _ K => cs_zast hB hwf hg.1 ⟨hg.2.1, hg.2.2.1⟩ (of_decide_eq_true hg.2.2.2) hd K)
      · cases h
    · cases h
  · split at h
    · split at h
      · rename_i hg
        exact (IH _ _ _ _ _ _ _ _ _ _ hq h).same (fun hro hwf _ K => cs_aald hwf hg.1 hg.2 hd K)
      · cases h
    · cases h
  · split at h
    · split at h
      · rename_i hg
        exact (IH _ _ _ _ _ _ _ _ _ _ hq h).gen id (fun hw => hw) ⟨[], (List.append_nil _).symm⟩ (fun _ hwf _ K => cs_aast hB hwf hg.1 ⟨hg.2.1, hg.2.2.1⟩ hg.2.2.2 hd K)
      · cases h
    · cases h
  · split at h
    · split at h
      · rename_i hg
        subst hg
        exact (IH _ _ _ _ _ _ _ _ _ _ hq h).same (fun hro hwf _ K => cs_alen hB hro hd K)
      · cases h
    · cases h
  -- new cells
  · split at h
    · rename_i n st' u hu
      split at h
      · rename_i hg
        refine (IH _ _ _ _ _ _ _ _ _ _ hq h).gen (cm_Ro.row (by omega)) (cm_Wf.push (by show n.toNat < _; omega)) ⟨_, rfl⟩ (fun _ _ hg2 K => cs_newarray hB hu hg ?_ ?_ hd K)
        · have := hg2.1; simp at this; omega
        · have := hg2.2
          rw [cm_sl_app (G := G) rfl] at this
          have hz : cm_sz (u, n.toNat) = n.toNat := by
            cases ‹ArrayType› <;> simp only [cm_ty1, Option.some.injEq, reduceCtorEq] at hu <;> subst hu <;> rfl
          omega
      · cases h
    · cases h
  · split at h
    · rename_i n st' hf
      split at h
      · rename_i hg
        refine (IH _ _ _ _ _ _ _ _ _ _ hq h).gen id (cm_Wf.push (by show n.toNat < _; omega)) ⟨_, rfl⟩ (fun _ _ hg2 K => cs_anewarray hB hf hg ?_ ?_ hd K)
        · have := hg2.1; simp at this; omega
        · have := hg2.2
          rw [cm_sl_app (G := G) rfl] at this
          exact this
      · cases h
    · cases h
  · split at h
    · rename_i ci hf
      refine (IH _ _ _ _ _ _ _ _ _ _ hq h).gen (cm_Ro.row (by omega)) (cm_Wf.push ?_) ⟨_, rfl⟩ (fun _ _ hg2 K => cs_new hB hf ?_ ?_ hd K)
      · have := (cm_cls_ok _ (cm_as_mem hf)).1
        show ci < _
        simp only at this
        omega
      · have := hg2.1; simp at this; omega
      · have := hg2.2
        rw [cm_sl_app (G := G) rfl] at this
        exact this
    · cases h
  -- calls
  · split at h
    · rename_i nst n hf
      split at h
      · rename_i q' hq'
        split at h
        · rename_i hg
          obtain ⟨hkd, hrc⟩ := hg
          obtain ⟨⟨ht, hr8, hs⟩, v, G1, M1, hc, hk2⟩ := cm_cl_of h
          have hn : n < 1000 := by
            have := (List.getElem?_eq_some_iff.mp hq').1
            have hl : cm_P.length = 140 := by decide +kernel
            omega
          obtain ⟨q'', hq'', hok, hl0, hnl⟩ := (cm_call_ok _ (cm_as_mem hf)).1 hn
          cases hq'.symm.trans hq''
          have hnst : nst = 0 := by
            by_cases z : nst = 0
            · exact z
            · exfalso
              have hin3 := hnl z
              simp only [List.mem_cons, Prod.mk.injEq, List.not_mem_nil, or_false] at hin3
              rcases hin3 with ⟨h1, h2, h3⟩ | ⟨h1, h2, h3⟩ | ⟨h1, h2, h3⟩
              · rw [h3] at hq'
                cases (show cm_P[45]? = some (mi_45, ins_45) from rfl).symm.trans hq'
                cases hkd
              · rw [h3] at hq'
                cases (show cm_P[80]? = some (mi_80, ins_80) from rfl).symm.trans hq'
                cases hkd
              · rw [h3] at hq'
                cases (show cm_P[81]? = some (mi_81, ins_81) from rfl).symm.trans hq'
                cases hkd
          subst hnst
          obtain ⟨k, hk, hsh⟩ := cm_rc_of rfl hrc
          have hpos : 0 < (cm_tg q'.1).length := by
            obtain ⟨tl, htl⟩ := hok.2.2.2.2.2.2.2.2.2.1 (by rw [hkd]; decide)
            rw [htl]; simp
          obtain ⟨e1, e2⟩ := cm_split hpos hk
          rw [e1] at ht hs hc
          have hrk1 : cm_dp q'.1 + 1 ≤ cm_dp q.1 ∧ 8 + (cm_ml q'.1 + 11) + cm_lc q'.1 ≤ cm_lc q.1 := by
            have hz : cm_rk1 q.1 _ = true := hrk
            unfold cm_rk1 at hz
            rw [hf] at hz
            simp only at hz
            rw [if_neg (by omega), if_neg (by omega), if_neg (by omega), hq'] at hz
            exact of_decide_eq_true hz
          intro hro hwf
          obtain ⟨p1, p2, p3, C⟩ := IH _ _ _ _ _ _ _ _ _ _ hq' hc hro hwf
          obtain ⟨r1, r2, r3, K⟩ := IH _ _ _ _ _ _ _ _ _ _ hq hk2 p2 p3
          refine ⟨?_, r2, r3, cs_callV hB hf hq' hn hkd hsh e2 ht hr8 hs hrk1 hd (cm_grow p1) (cm_grow r1) C K⟩
          obtain ⟨D1, p1⟩ := p1
          obtain ⟨D2, r1⟩ := r1
          exact ⟨D1 ++ D2, by rw [r1, p1, List.append_assoc]⟩
        · cases h
      · cases h
    · cases h
  · split at h
    · rename_i nst n hf
      split at h
      · rename_i hn
        subst hn
        split at h
        · split at h
          · rename_i hk
            have hrk1 : 1 ≤ cm_dp q.1 ∧ 12 ≤ cm_lc q.1 := by
              have hz : cm_rk1 q.1 _ = true := hrk
              unfold cm_rk1 at hz
              rw [hf] at hz
              exact of_decide_eq_true hz
            exact (IH _ _ _ _ _ _ _ _ _ _ hq h).same (fun _ _ _ K => cs_objInit hk hf hrk1 hd K)
          · cases h
        · cases h
      · split at h
        · rename_i q' hq'
          split at h
          · rename_i hg
            obtain ⟨hkd, hrc⟩ := hg
            obtain ⟨⟨ht, hr8, hs⟩, v, G1, M1, hc, hk2⟩ := cm_cl_of h
            have hn : n < 1000 := by
              have := (List.getElem?_eq_some_iff.mp hq').1
              have hl : cm_P.length = 140 := by decide +kernel
              omega
            obtain ⟨q'', hq'', hok, hl0, hnl⟩ := (cm_call_ok _ (cm_as_mem hf)).1 hn
            cases hq'.symm.trans hq''
            obtain ⟨k, hk, hsh⟩ := cm_rc_of rfl hrc
            have hpos : 0 < (cm_tg q'.1).length := by
              obtain ⟨tl, htl⟩ := hok.2.2.2.2.2.2.2.2.2.1 (by rw [hkd]; decide)
              rw [htl]; simp
            obtain ⟨e1, e2⟩ := cm_split hpos hk
            rw [e1] at ht hs hc
            have hrk1 : cm_dp q'.1 + 1 ≤ cm_dp q.1 ∧ 8 + (cm_ml q'.1 + 11) + cm_lc q'.1 ≤ cm_lc q.1 := by
              have hz : cm_rk1 q.1 _ = true := hrk
              unfold cm_rk1 at hz
              rw [hf] at hz
              simp only at hz
              rw [if_neg (by omega), if_neg (by omega), if_neg (by omega), hq'] at hz
              exact of_decide_eq_true hz
            intro hro hwf
            obtain ⟨p1, p2, p3, C⟩ := IH _ _ _ _ _ _ _ _ _ _ hq' hc hro hwf
            obtain ⟨r1, r2, r3, K⟩ := IH _ _ _ _ _ _ _ _ _ _ hq hk2 p2 p3
            refine ⟨?_, r2, r3, cs_callI hB hf hq' hn hkd hsh e2 ht hr8 hs hrk1 hd (cm_grow p1) (cm_grow r1) C K⟩
            obtain ⟨D1, p1⟩ := p1
            obtain ⟨D2, r1⟩ := r1
            exact ⟨D1 ++ D2, by rw [r1, p1, List.append_assoc]⟩
          · cases h
        · cases h
    · cases h
  · split at h
    · rename_i nst n hf
      split at h
      · rename_i hn
        subst hn
        split at h
        · split at h
          · rename_i hg
            have hrk1 : 1 ≤ cm_dp q.1 ∧ 21 ≤ cm_lc q.1 := by
              have hz : cm_rk1 q.1 _ = true := hrk
              unfold cm_rk1 at hz
              rw [hf] at hz
              exact of_decide_eq_true hz
            exact (IH _ _ _ _ _ _ _ _ _ _ hq h).same (fun _ _ hg2 K => cs_max hf hg.1 hg.2.1 hg.2.2 hrk1 hg2.1 hg2.2 hd K)
          · cases h
        · cases h
      · split at h
        · rename_i hn
          subst hn
          split at h
          · split at h
            · rename_i hg
              have hrk1 : 1 ≤ cm_dp q.1 ∧ 39 ≤ cm_lc q.1 := by
                have hz : cm_rk1 q.1 _ = true := hrk
                unfold cm_rk1 at hz
                rw [hf] at hz
                exact of_decide_eq_true hz
              exact (IH _ _ _ _ _ _ _ _ _ _ hq h).gen (cm_Ro.cpy hg.1) id ⟨[], (List.append_nil _).symm⟩ (fun hro hwf _ K => cs_copy hB hro hwf hf hg hrk1 hd K)
            · cases h
          · cases h
        · split at h
          · rename_i q' hq'
            split at h
            · rename_i hkd
              obtain ⟨⟨ht, hr8, hs⟩, v, G1, M1, hc, hk2⟩ := cm_cl_of h
              have hn : n < 1000 := by
                have := (List.getElem?_eq_some_iff.mp hq').1
                have hl : cm_P.length = 140 := by decide +kernel
                omega
              have hrk1 : cm_dp q'.1 + 1 ≤ cm_dp q.1 ∧ 8 + (cm_ml q'.1 + 11) + cm_lc q'.1 ≤ cm_lc q.1 := by
                have hz : cm_rk1 q.1 _ = true := hrk
                unfold cm_rk1 at hz
                rw [hf] at hz
                simp only at hz
                rw [if_neg (by omega), if_neg (by omega), if_neg (by omega), hq'] at hz
                exact of_decide_eq_true hz
              intro hro hwf
              obtain ⟨p1, p2, p3, C⟩ := IH _ _ _ _ _ _ _ _ _ _ hq' hc hro hwf
              obtain ⟨r1, r2, r3, K⟩ := IH _ _ _ _ _ _ _ _ _ _ hq hk2 p2 p3
              refine ⟨?_, r2, r3, cs_callS hB hf hq' hn hkd (by rw [List.reverse_reverse, List.take_append_drop]) ht hr8 hs hrk1 hd (cm_grow p1) (cm_grow r1) C K⟩
              obtain ⟨D1, p1⟩ := p1
              obtain ⟨D2, r1⟩ := r1
              exact ⟨D1 ++ D2, by rw [r1, p1, List.append_assoc]⟩
            · cases h
          · cases h
    · cases h
  -- returns
  · split at h
    · rename_i v hrt
      cases h
      exact fun hro hwf => ⟨⟨[], (List.append_nil _).symm⟩, hro, hwf, cs_ireturn hrt hd⟩
    · rename_i v hrt
      split at h
      · rename_i hv
        cases h
        exact fun hro hwf => ⟨⟨[], (List.append_nil _).symm⟩, hro, hwf, cs_zreturn hv hrt hd⟩
      · cases h
    · cases h
  · split at h
    · rename_i hrt
      cases h
      exact fun hro hwf => ⟨⟨[], (List.append_nil _).symm⟩, hro, hwf, cs_return hrt hd⟩
    · cases h
  · cases h
theorem cm_sound (hB : cm_B B base) (n : Nat) : cm_IH l D cA B base ro (cm_run n) := by
  induction n with
  | zero =>
    intro μ q pc ls st G M r G' M' hq h
    rw [cm_run_0] at h
    cases h
  | succ n ih =>
    intro μ q pc ls st G M r G' M' hq h
    rw [cm_run_s] at h
    unfold cm_step at h
    rw [hq] at h
    simp only at h
    split at h
    · cases h
    · rename_i i hi
      exact cm_do_sound hB ih hq (cm_dec hq hi) (cm_rk_ok hq hi) h
end SOUND
end
section
/-! THE CLAIM OUT OF ONE WALK OF THE LAW'S BODY. Your part is whole_start (and what it stands on); all else here is the same for every law, but numbers. -/
def R_law : String := "CreditScrollLaw"
def lw_P (b : Addr) (xs : List Int32) (args : Array Value) (s : State) : Prop := args = #[.ref b] ∧ s.IntsAt b xs ∧ xs.length ≤ 2048 ∧ (Jvm.Cond.and given_1 narrow_1).before args s = true
def lw_Q (_ : Array Value) (s : State) (o : Outcome) (t : State) : Prop := o = .returned (some (.int 1)) ∧ Framed s o t [] 600000 7302250
def lw_Z (below : List Frame) (a : Array Value) (s : State) : State → Prop := fun t => ∃ o, t.status = .running ∧ Ended t below o ∧ lw_Q a s o t
/-- the law's own end, with 1 on the stack, nothing written that was there before, its room as the claim has it -/
theorem lw_ret {p : Program} {l : Launch} {e : Env} {s : State} {m : MethodId} {below : List Frame} {meth : Method} {c : Code} {b : Nat} (hx : p.tables.exec = Jvm.exec) (hb : c.code = code) (hr : meth.sig.returnType = ret) (hlocks : meth.locks = false) {pc : Nat} {H : Heap} {ls : Array Slot} (hdg : decode code pc = .ok (.ireturn, 1)) : W p l e room_1 s m #[Value.ref b] below meth c H [] 600000 7302250 (lw_Z below #[Value.ref b] s) (F0 m pc ls [.int 1]) := by
  intro T hT X
  obtain ⟨fs, hret, hrun, hended, hW, hframe⟩ := X.leave (v := some (.int 1)) (hlocks := hlocks) (fun h => by rw [hr] at h; cases h)
  have hmeth' : T.vm.method? m = some meth := X.method'
  refine ⟨T.setFrames fs, ?_, .returned (some (.int 1)), hrun, hended, rfl, ⟨_, rfl⟩, hW, hframe⟩
  jvm_step X.here [X.here.top, hx, hb, hdg, hmeth', hr, ret, narrow_b1]
  (try refine ⟨rfl, ?_⟩); (try refine ⟨rfl, ?_⟩)
  first | (intro acts; rw [hret _ acts rfl rfl rfl]) | rw [hret _ _ rfl rfl rfl]
  exact Steps.refl _
/-- what holds at the law's entry: the machine, the code, the tables' words (any of lw_tbl by 'hts w (by decide +kernel)'), the script of L ints xs at the cell b, what the Statement gives of the start (any of its parts by flat_of_before) -/
def lw_At (p : Program) (s : State) (m : MethodId) (meth : Method) (c : Code) (b L : Nat) (xs : Nat → Int32) : Prop :=
  p.tables.exec = Jvm.exec ∧ c.code = code ∧ meth.sig.returnType = ret ∧ c.maxLocals = 4 ∧ s.vm.findClass R_law = some m.cls ∧ (∀ w ∈ lw_tbl, w.before #[Value.ref b] s = true) ∧ va_X b L xs s s.heap ∧ b < s.heap.size ∧ meth.locks = false ∧ (Jvm.Cond.and given_1 narrow_1).before #[Value.ref b] s = true
-- ===== FROM THE SMALL MACHINE TO THE LAW'S WALK =====
def cm_Bf (base b t3 t4 t5 : Nat) (k : Int) : Nat := if 0 ≤ k then base + k.toNat else if k = -3 then t3 else if k = -4 then t4 else if k = -5 then t5 else b
/-- the numbers at the start: the static tables, the script -/
def cm_ro (L : Nat) (xs : Nat → Int32) (k j : Int) : Int :=
  if k = -2 then (if j = -1 then (L : Int) else (xs j.toNat).toInt) else if k = -3 then (if j = 0 then 10 else if j = 1 then 5 else 3) else if k = -4 then (if j = 0 then 4 else 1) else if k = -5 then (if j = 0 then 20 else if j = 1 then 30 else 4) else 0
theorem cm_pure (L : Nat) (xs : Nat → Int32) (hL : L ≤ 2048) : ∃ (n : Nat) (G' : cm_G) (M' : cm_M), cm_run n 139 0 [some (2, -2), none, none, none] [] ([], fun _ _ => -1) (cm_ro L xs) = some (some (0, 1), G', M') ∧ G'.1.length - 0 ≤ 600000 ∧ cm_sl G' - 0 ≤ 7302250 := sorry
theorem cm_tabOf {b : Nat} {s : State} {nm : String} {f : Nat → Int32} {x0 x1 x2 : Int32} (A : Nat → Prop) (e0 : f 0 = x0) (e1 : f 1 = x1) (e2 : f 2 = x2) (hA : ∀ a : Nat, a < s.heap.size → ¬ A a) (hl : (Cond.laysStatic RX5 nm "[I").before #[Value.ref b] s = true) (hini : (Cond.initialized RX5).before #[Value.ref b] s = true) (harr : (Cond.arrayOf (.static RX5 nm "[I") .int).before #[Value.ref b] s = true) (hlen : (Cond.eq (.length (.static RX5 nm "[I")) (.int 3)).before #[Value.ref b] s = true)
    (h0 : (Cond.eq (.elem (.static RX5 nm "[I") (.int 0)) (.int x0)).before #[Value.ref b] s = true) (h1 : (Cond.eq (.elem (.static RX5 nm "[I") (.int 1)) (.int x1)).before #[Value.ref b] s = true) (h2 : (Cond.eq (.elem (.static RX5 nm "[I") (.int 2)) (.int x2)).before #[Value.ref b] s = true) :
    ∃ t : Nat, va_Z RX5 nm "[I" (.ref t) A s s.heap ∧ va_T .int t 3 (fun j => .int (f j)) A s s.heap ∧ t < s.heap.size := by
  obtain ⟨t, ht, hT⟩ := va_Tof (N := 3) (f := fun j => .int (f j)) (by decide) harr (va_eqt hlen) (fun j hj => by
    match j, hj with
    | 0, _ => rw [e0]; exact va_eqt h0
    | 1, _ => rw [e1]; exact va_eqt h1
    | 2, _ => rw [e2]; exact va_eqt h2
    | j + 3, hj => exact absurd hj (by omega)) hA
  have hlt : t < s.heap.size := by
    obtain ⟨cell, h1, -⟩ := hT
    exact (Array.getElem?_eq_some_iff.mp h1).1
  exact ⟨t, va_Zref hl hini ht hA, hT, hlt⟩
theorem cm_arrK {s : State} {ty : FieldType} {args : Array Value} (h : (Cond.arrayClass ty).before args s = true) : ∃ cA : ClassId, ArrOfT s cA ty ∧ s.vm.findClass ("[" ++ ty.toString) = some cA := by
  obtain ⟨cA, kA, comp, h1, h2, h3⟩ := Cond.arrayClass_spec h
  exact ⟨cA, fun n z => ⟨fun k h => (by cases h), kA, h2, comp, h3⟩, h1⟩
set_option maxHeartbeats 4000000 in
set_option maxRecDepth 100000 in
theorem whole_start {p : Program} {e : Env} {s : State} {m : MethodId} {below : List Frame} {meth : Method} {c : Code} (l : Launch) (hflags : l.flags = flags0) {b L : Nat} {xs : Nat → Int32} (hL : L ≤ 2048) (C0 : lw_At p s m meth c b L xs) : W p l e room_1 s m #[Value.ref b] below meth c s.heap [] 0 0 (lw_Z below #[Value.ref b] s) (entryFrame m ([Value.ref b] : List Value).toArray 4) := by
  obtain ⟨hx, hb, hr, hml, hown, hts0, hX, hbl, hlocks, hgv⟩ := C0
  have hts : ∀ w ∈ cm_T, w.before #[Value.ref b] s = true := fun w hw => hts0 w (List.mem_filter.mp hw).1
  have hs := flat_of_before _ hgv
  have hA : ∀ a : Nat, a < s.heap.size → ¬ cm_A s.heap.size a := fun a h => Nat.not_le.mpr h
  have hini : (Cond.initialized RX5).before #[Value.ref b] s = true := hts _ (mo_67).2.1
  obtain ⟨t3, z3, T3, l3⟩ := cm_tabOf (nm := "FIRST_SETTINGS") (f := fun j => Int32.ofInt (cm_ro L xs (-3) j)) (cm_A s.heap.size) (by simp [cm_ro]) (by simp [cm_ro]) (by simp [cm_ro]) hA (hts0 _ (List.mem_of_getElem? (i := 71) (by decide +kernel))) hini (hs _ (by decide +kernel)) (hs _ (by decide +kernel)) (hs (Cond.eq (.elem (.static "CreditScroll" "FIRST_SETTINGS" "[I") (.int 0)) (.int 10)) (by decide +kernel)) (hs (Cond.eq (.elem (.static "CreditScroll" "FIRST_SETTINGS" "[I") (.int 1)) (.int 5)) (by decide +kernel)) (hs (Cond.eq (.elem (.static "CreditScroll" "FIRST_SETTINGS" "[I") (.int 2)) (.int 3)) (by decide +kernel))
  obtain ⟨t4, z4, T4, l4⟩ := cm_tabOf (nm := "LEAST_SETTINGS") (f := fun j => Int32.ofInt (cm_ro L xs (-4) j)) (cm_A s.heap.size) (by simp [cm_ro]) (by simp [cm_ro]) (by simp [cm_ro]) hA (hts0 _ (List.mem_of_getElem? (i := 227) (by decide +kernel))) hini (hs _ (by decide +kernel)) (hs _ (by decide +kernel)) (hs (Cond.eq (.elem (.static "CreditScroll" "LEAST_SETTINGS" "[I") (.int 0)) (.int 4)) (by decide +kernel)) (hs (Cond.eq (.elem (.static "CreditScroll" "LEAST_SETTINGS" "[I") (.int 1)) (.int 1)) (by decide +kernel)) (hs (Cond.eq (.elem (.static "CreditScroll" "LEAST_SETTINGS" "[I") (.int 2)) (.int 1)) (by decide +kernel))
  obtain ⟨t5, z5, T5, l5⟩ := cm_tabOf (nm := "MOST_SETTINGS") (f := fun j => Int32.ofInt (cm_ro L xs (-5) j)) (cm_A s.heap.size) (by simp [cm_ro]) (by simp [cm_ro]) (by simp [cm_ro]) hA (hts0 _ (List.mem_of_getElem? (i := 229) (by decide +kernel))) hini (hs _ (by decide +kernel)) (hs _ (by decide +kernel)) (hs (Cond.eq (.elem (.static "CreditScroll" "MOST_SETTINGS" "[I") (.int 0)) (.int 20)) (by decide +kernel)) (hs (Cond.eq (.elem (.static "CreditScroll" "MOST_SETTINGS" "[I") (.int 1)) (.int 30)) (by decide +kernel)) (hs (Cond.eq (.elem (.static "CreditScroll" "MOST_SETTINGS" "[I") (.int 2)) (.int 4)) (by decide +kernel))
  -- classes
  have hcl : ∀ ci : Nat, ∃ x : ClassId × (Nat → Nat), ∀ r, vwCl[ci]? = some r → u_Kn s r.1 r.2.1 r.2.2 x.1 x.2 := by
    intro ci
    by_cases h : ci < 7
    · obtain ⟨r, ty, hr, hty, hname, hws, hparse, hnm, hinst, hrest⟩ := cm_cl_ok ci h
      obtain ⟨cC, iS, hKn⟩ := u_known hts hws (hts _ hinst)
      exact ⟨(cC, iS), fun r' hr' => by cases hr.symm.trans hr'; exact hKn⟩
    · refine ⟨(0, fun _ => 0), fun r' hr' => ?_⟩
      have := (List.getElem?_eq_some_iff.mp hr').1
      exact absurd this h
  obtain ⟨D, hD⟩ := Classical.axiomOfChoice hcl
  obtain ⟨a1, a1a, a1b⟩ := cm_arrK (hts _ cm_ac1)
  obtain ⟨a2, a2a, a2b⟩ := cm_arrK (hts _ cm_ac2)
  obtain ⟨a3, a3a, a3b⟩ := cm_arrK (hts _ cm_ac3)
  have hov : va_AO RX1 s := va_AO.of (hts0 _ (List.mem_of_getElem? (i := 169) (by decide +kernel)))
  obtain ⟨comp, a4, k4, o1, o2, o3, o4, o5⟩ := Cond.arrayOver_spec hov
  have hK : va_K (fun ci => (D ci).1, fun ci => (D ci).2) vwCl (cm_ty4 (fun t => if t = 1 then a1 else if t = 2 then a2 else if t = 3 then a3 else a4)) s := by
    refine ⟨fun ci r h => hD ci r h, fun k q h => ?_⟩
    match k, h with
    | 0, h => cases h; exact ⟨a1a, a1b⟩
    | 1, h => cases h; exact ⟨a2a, a2b⟩
    | 2, h => cases h; exact ⟨a3a, a3b⟩
    | 3, h => cases h; exact ⟨fun n z => ⟨fun k h => (by cases h), k4, o3, comp, o4⟩, k4, comp, o3, o4, o1, o5⟩
    | k + 4, h => cases h
  have hB : cm_B (cm_Bf s.heap.size b t3 t4 t5) s.heap.size := by
    refine ⟨fun k => ?_, fun k hk => ?_⟩
    · unfold cm_Bf
      rw [if_pos (by omega)]
      simp
    · unfold cm_Bf
      rw [if_neg (by omega)]
      split
      · exact l3
      · split
        · exact l4
        · split
          · exact l5
          · exact hbl
  have hS : cm_S (fun ci => (D ci).1, fun ci => (D ci).2) (fun t => if t = 1 then a1 else if t = 2 then a2 else if t = 3 then a3 else a4) (cm_Bf s.heap.size b t3 t4 t5) s.heap.size (cm_ro L xs) s := by
    refine ⟨hK, ⟨va_Nw.of rfl (hts0 _ (List.mem_of_getElem? (i := 146) (by decide +kernel))), va_Nw.of rfl (hts0 _ (List.mem_of_getElem? (i := 380) (by decide +kernel))), va_Nw.of rfl (hts0 _ (List.mem_of_getElem? (i := 381) (by decide +kernel))), va_Nw.of rfl (hts0 _ (List.mem_of_getElem? (i := 70) (by decide +kernel))), hov⟩, fun k hk => ?_, ⟨L, by omega, rfl, ?_⟩, Nat.le_refl _⟩
    · rcases hk with rfl | rfl | rfl
      · exact ⟨z3, T3⟩
      · exact ⟨z4, T4⟩
      · exact ⟨z5, T5⟩
    · have e1 : (fun j : Nat => Int32.ofInt (cm_ro L xs (-2) j)) = xs := by
        funext j
        unfold cm_ro
        rw [if_pos rfl, if_neg (by omega)]
        show Int32.ofInt (xs j).toInt = _
        rw [Int32.ofInt_toInt]
      rw [e1]
      exact hX
  obtain ⟨n, G', M', hrun, hg1, hg2⟩ := cm_pure L xs hL
  have hro : cm_Ro (cm_ro L xs) (cm_ro L xs) := fun k _ j => rfl
  obtain ⟨-, -, -, K⟩ := cm_sound (l := l) (D := (fun ci => (D ci).1, fun ci => (D ci).2)) (cA := fun t => if t = 1 then a1 else if t = 2 then a2 else if t = 3 then a3 else a4) hB n 139 (mi_139, ins_139) 0 _ _ _ _ _ _ _ rfl hrun hro (fun e he => absurd he List.not_mem_nil)
  have hXX : cm_X (fun ci => (D ci).1, fun ci => (D ci).2) (fun t => if t = 1 then a1 else if t = 2 then a2 else if t = 3 then a3 else a4) (cm_Bf s.heap.size b t3 t4 t5) s.heap.size (cm_ro L xs) mi_139 p room_1 s m #[Value.ref b] meth c :=
    ⟨hx, hb, hml, hr, hown, hts, hlocks, fun h => absurd h (by decide), hS, by decide, by decide⟩
  have hLL := cm_ent_L (cm_Bf s.heap.size b t3 t4 t5) mi_139 [(2, -2)] rfl (by decide) (by decide)
  have k := K p e room_1 s m #[Value.ref b] below meth c s.heap [] _ 0 0 (fun _ _ o _ => o = .returned (some (.int 1))) hXX hLL ⟨rfl, fun k e h => by cases h⟩ va_S.rf (Nat.le_refl _) (Nat.le_refl _) hg1 hg2 (fun t _ _ _ => rfl)
  rw [lg_entry_eq]
  intro T hT X
  obtain ⟨t, q1, o, q2, q3, q4, LL, ⟨f1, f2, f3⟩, f4⟩ := k T hT X
  refine ⟨t, q1, o, q2, q3, q4, f1, f2, ?_⟩
  exact (State.sameButNew.drop_fresh (L := []) f3 f4).mono hg1 hg2
-- ===== YOUR PART ENDS =====
set_option maxHeartbeats 4000000 in
theorem lw_walk (l : Launch) (hflags : l.flags = flags0) (b : Addr) (xs : List Int32) : MetFree l x (headSpec (Jvm.Cond.code x code maxLocals ret :: tables_1) room_1) (lw_P b xs) (fun _ _ _ _ _ => True) lw_Q := by
  refine MetFree.of_bodyS (code := code) (maxLocals := maxLocals) (ret := ret) (by decide) ?_ ?_
  · intro args s m h hn
    obtain ⟨meth, c, h1, h2, h3, h4, h5, h6, -, -⟩ := Cond.code_spec hn (atoms_spec (ws := Jvm.Cond.code x code maxLocals ret :: tables_1) h _ List.mem_cons_self)
    exact ⟨meth, c, h1, h2, h3, h4, h5, h6⟩
  · intro p e s m args below meth c s₁ B hml0 hP _
    obtain ⟨rfl, hx, hbd, hgv⟩ := hP
    obtain ⟨scr, harrAt, hlist, hof, hsmall⟩ := hx
    obtain ⟨hcb, hkn, -, -⟩ := State.arrayAt?_spec harrAt
    have hown : s.vm.findClass R_law = some m.cls := findClass_of_methodNamed B.named
    have hts0 : ∀ c ∈ (Jvm.Cond.code x code maxLocals ret :: tables_1), c.before #[Value.ref b] s = true := atoms_spec (ws := Jvm.Cond.code x code maxLocals ret :: tables_1) B.pre
    have hts : ∀ w ∈ lw_tbl, w.before #[Value.ref b] s = true := k2_hts_sels lw_privs (fun w hw => hts0 w (List.mem_cons_of_mem _ hw)) lw_privs_ok
    have hml : c.maxLocals = 4 := B.maxLocals_eq (hts0 _ List.mem_cons_self)
    have X₀ : Stand p l e room_1 s m #[Value.ref b] below meth c s₁ [] 0 0 := Stand.of_body B
    have hh0 : s₁.heap = s.heap := by rw [B.state]; rfl
    have hsz : scr.slots.size = xs.length := by rw [← Array.length_toList, hlist, List.length_map]
    have hval : ∀ j : Nat, j < xs.length → scr.slots[j]? = some (.int (xs.getD j 0)) := fun j hj => by
      rw [← Array.getElem?_toList, hlist]
      simp [hj]
    have hbl : b < s.heap.size := (Array.getElem?_eq_some_iff.mp hcb).1
    have hX : va_X b xs.length (fun j => xs.getD j 0) s s.heap := ⟨scr, hcb, hof, hkn, hsz, hval⟩
    have K : W p l e room_1 s m #[Value.ref b] below meth c s₁.heap [] 0 0 (lw_Z below #[Value.ref b] s) (entryFrame m ([Value.ref b] : List Value).toArray 4) := by
      rw [hh0]
      exact whole_start l hflags hbd ⟨B.exec, B.bytes, B.returns, hml, hown, hts, hX, hbl, B.notSynchronized, hgv⟩
    obtain ⟨t, a1, o, b1, b2, b3⟩ := K s₁ rfl X₀
    exact ⟨t, o, a1, b1, b2, b3⟩
theorem lw_pre_spec {args : Array Value} {s : State} (h : (Jvm.Cond.and given_1 narrow_1).before args s = true) (hr : rest_1_c.before args s = true) : ∃ (b : Addr) (xs : List Int32), lw_P b xs args s := by
  have hs := flat_of_before _ h
  have hq := flat_of_before _ hr
  have hc : (Cond.count 1).before args s = true := hs _ (by decide +kernel)
  have harr : (Cond.arrayOf (.arg 0) .int).before args s = true := hs _ (by decide +kernel)
  have hle : (Cond.le (.length (.arg 0)) (.int 2048)).before args s = true := hs _ (by decide +kernel)
  have hlen : (Cond.isInt (.length (.arg 0))).before args s = true := hq _ (by decide +kernel)
  have hall : (Cond.all (.arg 0) (.isInt (.elem (.arg 0) (.index 0)))).before args s = true := hq _ (by decide +kernel)
  obtain ⟨b, xs, hb, hx⟩ := State.ints_of_pre rfl harr hlen hall
  have hsm : xs.length < 2 ^ 31 := hx.choose_spec.2.2.2
  have hev : (Term.length (.arg 0)).eval args s none [] s = some (.int xs.length.toInt32) := hx.length_eval hb
  have hv := Cond.le_ints hev (show (Term.int 2048).eval args s none [] s = some (.int 2048) from rfl)
  have hd : xs.length.toInt32 ≤ 2048 := by
    simpa [Cond.before, Cond.holds, hv] using hle
  have hN : xs.length ≤ 2048 := (Int32.ofNat_le_ofNat hsm (by decide)).mp (show Int32.ofNat xs.length ≤ Int32.ofNat 2048 from hd)
  exact ⟨b, xs, Cond.one_arg hc (show args[0]? = some (.ref b) from hb), hx, hN, h⟩
theorem lw_comes (l : Launch) (hflags : l.flags = flags0) : Comes l x (Jvm.Cond.code x code maxLocals ret :: tables_1) room_1 (fun tb e args s => Calls_1 tb e args s ∧ rest_1 tb e args s ∧ Pre_1 tb e args s)
    (fun _ _ args s o t => lw_Q args s o t) := by
  intro p e ha hc hk s m args below hf hfit hheap happ hpre
  obtain ⟨b, xs, hP⟩ := lw_pre_spec hpre.2.2 hpre.2.1
  obtain ⟨k, o, h1, h2, h3, hQ⟩ := lw_walk l hflags b xs p e ha hc hk s m args below hf ((Spec.applies_iff_loose hf).mp happ).1 hP trivial
  exact ⟨k, o, h1, h2, h3, hQ⟩
theorem lw_frame {s t : State} {o : Outcome} {args : Array Value} (h : Framed s o t [] 600000 7302250) :
    Framed s o t (fieldLocs frame_1_writes args s ++ arrayLocs frame_1_arrays args s ++ staticLocs frame_1_statics s) 600000 7302250 := h
theorem lw_limb (L : Cond) (hL : ∀ (args : Array Value) (s t : State), L.after args s (.returned (some (.int 1))) t = true) :
    ArmFor flags0 classFile x code maxLocals ret World_1 tables_1 room_1 Calls_1 rest_1 Pre_1
      (fun tb e a s o t => postC L tb e a s o t ∧ Framed s o t (fieldLocs frame_1_writes a s ++ arrayLocs frame_1_arrays a s ++ staticLocs frame_1_statics s) 600000 7302250) := by
  intro l hflags _ _ p e ha hc hk s m args below hf hfit hheap happ hpre
  obtain ⟨k, o, h1, h2, h3, rfl, hF⟩ := lw_comes l hflags p e ha hc hk s m args below hf hfit hheap happ hpre
  exact ⟨k, _, h1, h2, h3, hL args s _, lw_frame hF⟩
theorem i_vc : Claimed_1_1 ∧ Claimed_1_2 := ⟨lw_limb limb_1_1 (fun args s t => by simp [limb_1_1, Cond.after, Cond.holds, Cond.value]), lw_limb limb_1_2 (fun args s t => Cond.after_iff.mpr (by
  first | (rw [show limb_1_2 = Cond.eq .result (.int 1) from rfl, Cond.eq_ints (x := 1) (y := 1) rfl rfl]; simp; done) | (simp [limb_1_2, Cond.value, Term.eval]; done)))⟩
end
