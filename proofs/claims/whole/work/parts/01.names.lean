-- ===== PART A: goes FIRST, ahead of the names: the tables' words, and 'selects' of the private methods out of them =====
/-- a private method of a class that the tables say can be made, by its rows of tables_1 -/
def lw_okq (q : MethodName × Nat) : Prop := (q.1.cls ≠ "java/lang/invoke/MethodHandle" ∧ q.1.cls ≠ "java/lang/invoke/VarHandle") ∧ Cond.instantiable q.1.cls q.2 ∈ tables_1 ∧ Cond.privateMethod q.1 ∈ tables_1 ∧ Cond.instanceMethod q.1 ∈ tables_1
theorem lw_p0 : lw_okq (⟨"HullRegister$Ledger", "goThrough", "()V"⟩, 9) := ⟨⟨by decide +kernel, by decide +kernel⟩, List.mem_of_getElem? (i := 92) (by decide +kernel), List.mem_of_getElem? (i := 98) (by decide +kernel), List.mem_of_getElem? (i := 99) (by decide +kernel)⟩
theorem lw_p1 : lw_okq (⟨"HullRegister$Ledger", "beginAnew", "()V"⟩, 9) := ⟨⟨by decide +kernel, by decide +kernel⟩, List.mem_of_getElem? (i := 92) (by decide +kernel), List.mem_of_getElem? (i := 102) (by decide +kernel), List.mem_of_getElem? (i := 103) (by decide +kernel)⟩
theorem lw_p2 : lw_okq (⟨"HullRegister$Ledger", "isForged", "(I)Z"⟩, 9) := ⟨⟨by decide +kernel, by decide +kernel⟩, List.mem_of_getElem? (i := 92) (by decide +kernel), List.mem_of_getElem? (i := 112) (by decide +kernel), List.mem_of_getElem? (i := 113) (by decide +kernel)⟩
theorem lw_p3 : lw_okq (⟨"HullRegister$Ledger", "takesEffect", "(I)Z"⟩, 9) := ⟨⟨by decide +kernel, by decide +kernel⟩, List.mem_of_getElem? (i := 92) (by decide +kernel), List.mem_of_getElem? (i := 120) (by decide +kernel), List.mem_of_getElem? (i := 121) (by decide +kernel)⟩
theorem lw_p4 : lw_okq (⟨"HullRegister$Ledger", "bringParts", "(I)Z"⟩, 9) := ⟨⟨by decide +kernel, by decide +kernel⟩, List.mem_of_getElem? (i := 92) (by decide +kernel), List.mem_of_getElem? (i := 124) (by decide +kernel), List.mem_of_getElem? (i := 125) (by decide +kernel)⟩
theorem lw_p5 : lw_okq (⟨"HullRegister$Ledger", "freeOf", "(I)I"⟩, 9) := ⟨⟨by decide +kernel, by decide +kernel⟩, List.mem_of_getElem? (i := 92) (by decide +kernel), List.mem_of_getElem? (i := 128) (by decide +kernel), List.mem_of_getElem? (i := 129) (by decide +kernel)⟩
theorem lw_p6 : lw_okq (⟨"HullRegister$Ledger", "beginPledge", "(I)Z"⟩, 9) := ⟨⟨by decide +kernel, by decide +kernel⟩, List.mem_of_getElem? (i := 92) (by decide +kernel), List.mem_of_getElem? (i := 132) (by decide +kernel), List.mem_of_getElem? (i := 133) (by decide +kernel)⟩
theorem lw_p7 : lw_okq (⟨"HullRegister$Ledger", "setStanding", "(IZ)V"⟩, 9) := ⟨⟨by decide +kernel, by decide +kernel⟩, List.mem_of_getElem? (i := 92) (by decide +kernel), List.mem_of_getElem? (i := 136) (by decide +kernel), List.mem_of_getElem? (i := 137) (by decide +kernel)⟩
theorem lw_p8 : lw_okq (⟨"HullRegister$Ledger", "endPledge", "(I)Z"⟩, 9) := ⟨⟨by decide +kernel, by decide +kernel⟩, List.mem_of_getElem? (i := 92) (by decide +kernel), List.mem_of_getElem? (i := 140) (by decide +kernel), List.mem_of_getElem? (i := 141) (by decide +kernel)⟩
theorem lw_p9 : lw_okq (⟨"HullRegister$Ledger", "put", "(III)V"⟩, 9) := ⟨⟨by decide +kernel, by decide +kernel⟩, List.mem_of_getElem? (i := 92) (by decide +kernel), List.mem_of_getElem? (i := 151) (by decide +kernel), List.mem_of_getElem? (i := 152) (by decide +kernel)⟩
theorem lw_p10 : lw_okq (⟨"HullRegister$Ledger", "rankPledges", "()V"⟩, 9) := ⟨⟨by decide +kernel, by decide +kernel⟩, List.mem_of_getElem? (i := 92) (by decide +kernel), List.mem_of_getElem? (i := 155) (by decide +kernel), List.mem_of_getElem? (i := 156) (by decide +kernel)⟩
theorem lw_p11 : lw_okq (⟨"HullRegister$Reckoner", "read", "(I)Z"⟩, 7) := ⟨⟨by decide +kernel, by decide +kernel⟩, List.mem_of_getElem? (i := 28) (by decide +kernel), List.mem_of_getElem? (i := 283) (by decide +kernel), List.mem_of_getElem? (i := 284) (by decide +kernel)⟩
theorem lw_p12 : lw_okq (⟨"HullRegister$Reckoner", "readFigure", "(I)Z"⟩, 7) := ⟨⟨by decide +kernel, by decide +kernel⟩, List.mem_of_getElem? (i := 28) (by decide +kernel), List.mem_of_getElem? (i := 288) (by decide +kernel), List.mem_of_getElem? (i := 289) (by decide +kernel)⟩
theorem lw_p13 : lw_okq (⟨"HullRegister$Reckoner", "push", "(I)Z"⟩, 7) := ⟨⟨by decide +kernel, by decide +kernel⟩, List.mem_of_getElem? (i := 28) (by decide +kernel), List.mem_of_getElem? (i := 292) (by decide +kernel), List.mem_of_getElem? (i := 293) (by decide +kernel)⟩
theorem lw_p14 : lw_okq (⟨"HullRegister$Reckoner", "liftToZero", "()Z"⟩, 7) := ⟨⟨by decide +kernel, by decide +kernel⟩, List.mem_of_getElem? (i := 28) (by decide +kernel), List.mem_of_getElem? (i := 296) (by decide +kernel), List.mem_of_getElem? (i := 297) (by decide +kernel)⟩
theorem lw_p15 : lw_okq (⟨"HullRegister$Reckoner", "joinTwo", "(I)Z"⟩, 7) := ⟨⟨by decide +kernel, by decide +kernel⟩, List.mem_of_getElem? (i := 28) (by decide +kernel), List.mem_of_getElem? (i := 303) (by decide +kernel), List.mem_of_getElem? (i := 304) (by decide +kernel)⟩
def lw_privs_1 : List (MethodName × Nat) := [(⟨"HullRegister$Ledger", "goThrough", "()V"⟩, 9), (⟨"HullRegister$Ledger", "beginAnew", "()V"⟩, 9), (⟨"HullRegister$Ledger", "isForged", "(I)Z"⟩, 9), (⟨"HullRegister$Ledger", "takesEffect", "(I)Z"⟩, 9), (⟨"HullRegister$Ledger", "bringParts", "(I)Z"⟩, 9), (⟨"HullRegister$Ledger", "freeOf", "(I)I"⟩, 9), (⟨"HullRegister$Ledger", "beginPledge", "(I)Z"⟩, 9), (⟨"HullRegister$Ledger", "setStanding", "(IZ)V"⟩, 9), (⟨"HullRegister$Ledger", "endPledge", "(I)Z"⟩, 9), (⟨"HullRegister$Ledger", "put", "(III)V"⟩, 9), (⟨"HullRegister$Ledger", "rankPledges", "()V"⟩, 9), (⟨"HullRegister$Reckoner", "read", "(I)Z"⟩, 7), (⟨"HullRegister$Reckoner", "readFigure", "(I)Z"⟩, 7), (⟨"HullRegister$Reckoner", "push", "(I)Z"⟩, 7), (⟨"HullRegister$Reckoner", "liftToZero", "()Z"⟩, 7), (⟨"HullRegister$Reckoner", "joinTwo", "(I)Z"⟩, 7)]
theorem lw_r1 : ∀ q ∈ lw_privs_1, lw_okq q := List.forall_mem_cons.mpr ⟨lw_p0, List.forall_mem_cons.mpr ⟨lw_p1, List.forall_mem_cons.mpr ⟨lw_p2, List.forall_mem_cons.mpr ⟨lw_p3, List.forall_mem_cons.mpr ⟨lw_p4, List.forall_mem_cons.mpr ⟨lw_p5, List.forall_mem_cons.mpr ⟨lw_p6, List.forall_mem_cons.mpr ⟨lw_p7, List.forall_mem_cons.mpr ⟨lw_p8, List.forall_mem_cons.mpr ⟨lw_p9, List.forall_mem_cons.mpr ⟨lw_p10, List.forall_mem_cons.mpr ⟨lw_p11, List.forall_mem_cons.mpr ⟨lw_p12, List.forall_mem_cons.mpr ⟨lw_p13, List.forall_mem_cons.mpr ⟨lw_p14, List.forall_mem_cons.mpr ⟨lw_p15, fun _ h => absurd h List.not_mem_nil⟩⟩⟩⟩⟩⟩⟩⟩⟩⟩⟩⟩⟩⟩⟩⟩
theorem lw_p16 : lw_okq (⟨"HullRegister$Acts", "tonsOfShapes", "(I)[I"⟩, 7) := ⟨⟨by decide +kernel, by decide +kernel⟩, List.mem_of_getElem? (i := 20) (by decide +kernel), List.mem_of_getElem? (i := 364) (by decide +kernel), List.mem_of_getElem? (i := 365) (by decide +kernel)⟩
theorem lw_p17 : lw_okq (⟨"HullRegister", "enter", "(IIIII)I"⟩, 4) := ⟨⟨by decide +kernel, by decide +kernel⟩, List.mem_of_getElem? (i := 12) (by decide +kernel), List.mem_of_getElem? (i := 425) (by decide +kernel), List.mem_of_getElem? (i := 426) (by decide +kernel)⟩
theorem lw_p18 : lw_okq (⟨"HullRegister$Papers", "seemAlike", "(II)Z"⟩, 12) := ⟨⟨by decide +kernel, by decide +kernel⟩, List.mem_of_getElem? (i := 188) (by decide +kernel), List.mem_of_getElem? (i := 500) (by decide +kernel), List.mem_of_getElem? (i := 501) (by decide +kernel)⟩
theorem lw_p19 : lw_okq (⟨"HullRegister$Papers", "setLike", "(IIZ)V"⟩, 12) := ⟨⟨by decide +kernel, by decide +kernel⟩, List.mem_of_getElem? (i := 188) (by decide +kernel), List.mem_of_getElem? (i := 504) (by decide +kernel), List.mem_of_getElem? (i := 505) (by decide +kernel)⟩
theorem lw_p20 : lw_okq (⟨"HullRegister$Papers", "joinAnew", "()V"⟩, 12) := ⟨⟨by decide +kernel, by decide +kernel⟩, List.mem_of_getElem? (i := 188) (by decide +kernel), List.mem_of_getElem? (i := 508) (by decide +kernel), List.mem_of_getElem? (i := 509) (by decide +kernel)⟩
theorem lw_p21 : lw_okq (⟨"HullRegister$Papers", "placeFrom", "(III)Z"⟩, 12) := ⟨⟨by decide +kernel, by decide +kernel⟩, List.mem_of_getElem? (i := 188) (by decide +kernel), List.mem_of_getElem? (i := 513) (by decide +kernel), List.mem_of_getElem? (i := 514) (by decide +kernel)⟩
theorem lw_p22 : lw_okq (⟨"HullRegister$Papers", "placeInto", "(IIII)Z"⟩, 12) := ⟨⟨by decide +kernel, by decide +kernel⟩, List.mem_of_getElem? (i := 188) (by decide +kernel), List.mem_of_getElem? (i := 520) (by decide +kernel), List.mem_of_getElem? (i := 521) (by decide +kernel)⟩
theorem lw_p23 : lw_okq (⟨"HullRegister$Ledger", "sumOf", "(I)I"⟩, 9) := ⟨⟨by decide +kernel, by decide +kernel⟩, List.mem_of_getElem? (i := 92) (by decide +kernel), List.mem_of_getElem? (i := 590) (by decide +kernel), List.mem_of_getElem? (i := 591) (by decide +kernel)⟩
theorem lw_p24 : lw_okq (⟨"HullRegisterModel", "isGood", "()Z"⟩, 33) := ⟨⟨by decide +kernel, by decide +kernel⟩, List.mem_of_getElem? (i := 614) (by decide +kernel), List.mem_of_getElem? (i := 735) (by decide +kernel), List.mem_of_getElem? (i := 736) (by decide +kernel)⟩
theorem lw_p25 : lw_okq (⟨"HullRegisterModel", "forceOn", "(I)I"⟩, 33) := ⟨⟨by decide +kernel, by decide +kernel⟩, List.mem_of_getElem? (i := 614) (by decide +kernel), List.mem_of_getElem? (i := 749) (by decide +kernel), List.mem_of_getElem? (i := 750) (by decide +kernel)⟩
theorem lw_p26 : lw_okq (⟨"HullRegisterModel", "isAct", "(I)Z"⟩, 33) := ⟨⟨by decide +kernel, by decide +kernel⟩, List.mem_of_getElem? (i := 614) (by decide +kernel), List.mem_of_getElem? (i := 757) (by decide +kernel), List.mem_of_getElem? (i := 758) (by decide +kernel)⟩
theorem lw_p27 : lw_okq (⟨"HullRegisterModel", "tonsBy", "(IIIII)I"⟩, 33) := ⟨⟨by decide +kernel, by decide +kernel⟩, List.mem_of_getElem? (i := 614) (by decide +kernel), List.mem_of_getElem? (i := 764) (by decide +kernel), List.mem_of_getElem? (i := 765) (by decide +kernel)⟩
theorem lw_p28 : lw_okq (⟨"HullRegisterModel", "push", "(J)V"⟩, 33) := ⟨⟨by decide +kernel, by decide +kernel⟩, List.mem_of_getElem? (i := 614) (by decide +kernel), List.mem_of_getElem? (i := 770) (by decide +kernel), List.mem_of_getElem? (i := 771) (by decide +kernel)⟩
theorem lw_p29 : lw_okq (⟨"HullRegisterModel", "combine", "(I)V"⟩, 33) := ⟨⟨by decide +kernel, by decide +kernel⟩, List.mem_of_getElem? (i := 614) (by decide +kernel), List.mem_of_getElem? (i := 778) (by decide +kernel), List.mem_of_getElem? (i := 779) (by decide +kernel)⟩
theorem lw_p30 : lw_okq (⟨"HullRegisterModel", "put", "(IIIII)V"⟩, 33) := ⟨⟨by decide +kernel, by decide +kernel⟩, List.mem_of_getElem? (i := 614) (by decide +kernel), List.mem_of_getElem? (i := 792) (by decide +kernel), List.mem_of_getElem? (i := 793) (by decide +kernel)⟩
theorem lw_p31 : lw_okq (⟨"HullRegisterModel", "isHull", "(I)Z"⟩, 33) := ⟨⟨by decide +kernel, by decide +kernel⟩, List.mem_of_getElem? (i := 614) (by decide +kernel), List.mem_of_getElem? (i := 800) (by decide +kernel), List.mem_of_getElem? (i := 801) (by decide +kernel)⟩
def lw_privs_2 : List (MethodName × Nat) := [(⟨"HullRegister$Acts", "tonsOfShapes", "(I)[I"⟩, 7), (⟨"HullRegister", "enter", "(IIIII)I"⟩, 4), (⟨"HullRegister$Papers", "seemAlike", "(II)Z"⟩, 12), (⟨"HullRegister$Papers", "setLike", "(IIZ)V"⟩, 12), (⟨"HullRegister$Papers", "joinAnew", "()V"⟩, 12), (⟨"HullRegister$Papers", "placeFrom", "(III)Z"⟩, 12), (⟨"HullRegister$Papers", "placeInto", "(IIII)Z"⟩, 12), (⟨"HullRegister$Ledger", "sumOf", "(I)I"⟩, 9), (⟨"HullRegisterModel", "isGood", "()Z"⟩, 33), (⟨"HullRegisterModel", "forceOn", "(I)I"⟩, 33), (⟨"HullRegisterModel", "isAct", "(I)Z"⟩, 33), (⟨"HullRegisterModel", "tonsBy", "(IIIII)I"⟩, 33), (⟨"HullRegisterModel", "push", "(J)V"⟩, 33), (⟨"HullRegisterModel", "combine", "(I)V"⟩, 33), (⟨"HullRegisterModel", "put", "(IIIII)V"⟩, 33), (⟨"HullRegisterModel", "isHull", "(I)Z"⟩, 33)]
theorem lw_r2 : ∀ q ∈ lw_privs_2, lw_okq q := List.forall_mem_cons.mpr ⟨lw_p16, List.forall_mem_cons.mpr ⟨lw_p17, List.forall_mem_cons.mpr ⟨lw_p18, List.forall_mem_cons.mpr ⟨lw_p19, List.forall_mem_cons.mpr ⟨lw_p20, List.forall_mem_cons.mpr ⟨lw_p21, List.forall_mem_cons.mpr ⟨lw_p22, List.forall_mem_cons.mpr ⟨lw_p23, List.forall_mem_cons.mpr ⟨lw_p24, List.forall_mem_cons.mpr ⟨lw_p25, List.forall_mem_cons.mpr ⟨lw_p26, List.forall_mem_cons.mpr ⟨lw_p27, List.forall_mem_cons.mpr ⟨lw_p28, List.forall_mem_cons.mpr ⟨lw_p29, List.forall_mem_cons.mpr ⟨lw_p30, List.forall_mem_cons.mpr ⟨lw_p31, fun _ h => absurd h List.not_mem_nil⟩⟩⟩⟩⟩⟩⟩⟩⟩⟩⟩⟩⟩⟩⟩⟩
theorem lw_p32 : lw_okq (⟨"HullRegisterModel", "deal", "(IIIII)I"⟩, 33) := ⟨⟨by decide +kernel, by decide +kernel⟩, List.mem_of_getElem? (i := 614) (by decide +kernel), List.mem_of_getElem? (i := 816) (by decide +kernel), List.mem_of_getElem? (i := 817) (by decide +kernel)⟩
theorem lw_p33 : lw_okq (⟨"HullRegisterModel", "enter", "(IIIIII)I"⟩, 33) := ⟨⟨by decide +kernel, by decide +kernel⟩, List.mem_of_getElem? (i := 614) (by decide +kernel), List.mem_of_getElem? (i := 823) (by decide +kernel), List.mem_of_getElem? (i := 824) (by decide +kernel)⟩
theorem lw_p34 : lw_okq (⟨"HullRegisterModel", "isEntry", "(I)Z"⟩, 33) := ⟨⟨by decide +kernel, by decide +kernel⟩, List.mem_of_getElem? (i := 614) (by decide +kernel), List.mem_of_getElem? (i := 835) (by decide +kernel), List.mem_of_getElem? (i := 836) (by decide +kernel)⟩
theorem lw_p35 : lw_okq (⟨"HullRegisterModel", "goThrough", "()V"⟩, 33) := ⟨⟨by decide +kernel, by decide +kernel⟩, List.mem_of_getElem? (i := 614) (by decide +kernel), List.mem_of_getElem? (i := 847) (by decide +kernel), List.mem_of_getElem? (i := 848) (by decide +kernel)⟩
theorem lw_p36 : lw_okq (⟨"HullRegisterModel", "does", "(I)V"⟩, 33) := ⟨⟨by decide +kernel, by decide +kernel⟩, List.mem_of_getElem? (i := 614) (by decide +kernel), List.mem_of_getElem? (i := 851) (by decide +kernel), List.mem_of_getElem? (i := 852) (by decide +kernel)⟩
theorem lw_p37 : lw_okq (⟨"HullRegisterModel", "rankOf", "(I)I"⟩, 33) := ⟨⟨by decide +kernel, by decide +kernel⟩, List.mem_of_getElem? (i := 614) (by decide +kernel), List.mem_of_getElem? (i := 855) (by decide +kernel), List.mem_of_getElem? (i := 856) (by decide +kernel)⟩
theorem lw_p38 : lw_okq (⟨"HullRegisterModel", "isPaper", "(I)Z"⟩, 33) := ⟨⟨by decide +kernel, by decide +kernel⟩, List.mem_of_getElem? (i := 614) (by decide +kernel), List.mem_of_getElem? (i := 879) (by decide +kernel), List.mem_of_getElem? (i := 880) (by decide +kernel)⟩
theorem lw_p39 : lw_okq (⟨"HullRegisterModel", "witnessOf", "(II)I"⟩, 33) := ⟨⟨by decide +kernel, by decide +kernel⟩, List.mem_of_getElem? (i := 614) (by decide +kernel), List.mem_of_getElem? (i := 883) (by decide +kernel), List.mem_of_getElem? (i := 884) (by decide +kernel)⟩
theorem lw_p40 : lw_okq (⟨"HullRegisterModel", "areAlike", "(II)Z"⟩, 33) := ⟨⟨by decide +kernel, by decide +kernel⟩, List.mem_of_getElem? (i := 614) (by decide +kernel), List.mem_of_getElem? (i := 891) (by decide +kernel), List.mem_of_getElem? (i := 892) (by decide +kernel)⟩
theorem lw_p41 : lw_okq (⟨"HullRegisterModel", "join", "()I"⟩, 33) := ⟨⟨by decide +kernel, by decide +kernel⟩, List.mem_of_getElem? (i := 614) (by decide +kernel), List.mem_of_getElem? (i := 899) (by decide +kernel), List.mem_of_getElem? (i := 900) (by decide +kernel)⟩
theorem lw_p42 : lw_okq (⟨"HullRegisterModel", "findJoining", "(I)Z"⟩, 33) := ⟨⟨by decide +kernel, by decide +kernel⟩, List.mem_of_getElem? (i := 614) (by decide +kernel), List.mem_of_getElem? (i := 903) (by decide +kernel), List.mem_of_getElem? (i := 904) (by decide +kernel)⟩
theorem lw_p43 : lw_okq (⟨"HullRegisterModel", "mayJoin", "(I)Z"⟩, 33) := ⟨⟨by decide +kernel, by decide +kernel⟩, List.mem_of_getElem? (i := 614) (by decide +kernel), List.mem_of_getElem? (i := 907) (by decide +kernel), List.mem_of_getElem? (i := 908) (by decide +kernel)⟩
theorem lw_p44 : lw_okq (⟨"HullRegisterModel", "entriesThat", "(Z)I"⟩, 33) := ⟨⟨by decide +kernel, by decide +kernel⟩, List.mem_of_getElem? (i := 614) (by decide +kernel), List.mem_of_getElem? (i := 919) (by decide +kernel), List.mem_of_getElem? (i := 920) (by decide +kernel)⟩
theorem lw_p45 : lw_okq (⟨"HullRegisterModel", "standing", "()I"⟩, 33) := ⟨⟨by decide +kernel, by decide +kernel⟩, List.mem_of_getElem? (i := 614) (by decide +kernel), List.mem_of_getElem? (i := 923) (by decide +kernel), List.mem_of_getElem? (i := 924) (by decide +kernel)⟩
def lw_privs_3 : List (MethodName × Nat) := [(⟨"HullRegisterModel", "deal", "(IIIII)I"⟩, 33), (⟨"HullRegisterModel", "enter", "(IIIIII)I"⟩, 33), (⟨"HullRegisterModel", "isEntry", "(I)Z"⟩, 33), (⟨"HullRegisterModel", "goThrough", "()V"⟩, 33), (⟨"HullRegisterModel", "does", "(I)V"⟩, 33), (⟨"HullRegisterModel", "rankOf", "(I)I"⟩, 33), (⟨"HullRegisterModel", "isPaper", "(I)Z"⟩, 33), (⟨"HullRegisterModel", "witnessOf", "(II)I"⟩, 33), (⟨"HullRegisterModel", "areAlike", "(II)Z"⟩, 33), (⟨"HullRegisterModel", "join", "()I"⟩, 33), (⟨"HullRegisterModel", "findJoining", "(I)Z"⟩, 33), (⟨"HullRegisterModel", "mayJoin", "(I)Z"⟩, 33), (⟨"HullRegisterModel", "entriesThat", "(Z)I"⟩, 33), (⟨"HullRegisterModel", "standing", "()I"⟩, 33)]
theorem lw_r3 : ∀ q ∈ lw_privs_3, lw_okq q := List.forall_mem_cons.mpr ⟨lw_p32, List.forall_mem_cons.mpr ⟨lw_p33, List.forall_mem_cons.mpr ⟨lw_p34, List.forall_mem_cons.mpr ⟨lw_p35, List.forall_mem_cons.mpr ⟨lw_p36, List.forall_mem_cons.mpr ⟨lw_p37, List.forall_mem_cons.mpr ⟨lw_p38, List.forall_mem_cons.mpr ⟨lw_p39, List.forall_mem_cons.mpr ⟨lw_p40, List.forall_mem_cons.mpr ⟨lw_p41, List.forall_mem_cons.mpr ⟨lw_p42, List.forall_mem_cons.mpr ⟨lw_p43, List.forall_mem_cons.mpr ⟨lw_p44, List.forall_mem_cons.mpr ⟨lw_p45, fun _ h => absurd h List.not_mem_nil⟩⟩⟩⟩⟩⟩⟩⟩⟩⟩⟩⟩⟩⟩
def lw_privs : List (MethodName × Nat) := lw_privs_1 ++ (lw_privs_2 ++ (lw_privs_3))
def lw_tbl : List Cond := k2_sels lw_privs ++ tables_1
theorem lw_privs_ok : ∀ q ∈ lw_privs, lw_okq q := by
  show ∀ q ∈ lw_privs_1 ++ (lw_privs_2 ++ (lw_privs_3)), lw_okq q
  exact List.forall_mem_append.mpr ⟨lw_r1, List.forall_mem_append.mpr ⟨lw_r2, lw_r3⟩⟩

def RX0 : String := "HullRegister$Acts"
def TX0 : u_T := fun k => match k with
  | 0 => ("HullRegister$Acts", "fed", "[I", true)
  | 1 => ("HullRegister$Acts", "fedCount", "I", false)
  | 2 => ("HullRegister$Acts", "texts", "[[I", true)
  | 3 => ("HullRegister$Acts", "days", "[I", true)
  | 4 => ("HullRegister$Acts", "count", "I", false)
  | 5 => ("HullRegister$Acts", "shapeTons", "[[I", true)
  | _ => ("HullRegister$Acts", "reckoner", "LHullRegister$Reckoner;", true)
def tyX0 : Nat → FieldType := fun k => match k with
  | 0 => .array .int
  | 1 => .int
  | 2 => .array (.array .int)
  | 3 => .array .int
  | 4 => .int
  | 5 => .array (.array .int)
  | _ => .object "HullRegister$Reckoner"
theorem nmX0 : ∀ a, a < 7 → ∀ b, b < 7 → a ≠ b → (TX0 a).2.1 ≠ (TX0 b).2.1 := by decide +kernel
theorem tyX0_ok : ∀ k, k < 7 → parseFieldDescriptor (TX0 k).2.2.1 = some (tyX0 k) := by decide +kernel
abbrev cX0_init : ByteArray := prog_2_method_1_code
def yX0_init : MethodName := ⟨RX0, "<init>", "()V"⟩
abbrev cX0_size : ByteArray := prog_2_method_2_code
def yX0_size : MethodName := ⟨RX0, "size", "()I"⟩
abbrev cX0_has : ByteArray := prog_2_method_3_code
def yX0_has : MethodName := ⟨RX0, "has", "(I)Z"⟩
abbrev cX0_lettersFed : ByteArray := prog_2_method_4_code
def yX0_lettersFed : MethodName := ⟨RX0, "lettersFed", "()I"⟩
abbrev cX0_takeLetters : ByteArray := prog_2_method_5_code
def yX0_takeLetters : MethodName := ⟨RX0, "takeLetters", "(I)I"⟩
abbrev cX0_lettersIn : ByteArray := prog_2_method_6_code
def yX0_lettersIn : MethodName := ⟨RX0, "lettersIn", "(I)I"⟩
abbrev cX0_letterAt : ByteArray := prog_2_method_7_code
def yX0_letterAt : MethodName := ⟨RX0, "letterAt", "(II)I"⟩
abbrev cX0_dropLetters : ByteArray := prog_2_method_8_code
def yX0_dropLetters : MethodName := ⟨RX0, "dropLetters", "()I"⟩
abbrev cX0_enact : ByteArray := prog_2_method_9_code
def yX0_enact : MethodName := ⟨RX0, "enact", "(I)I"⟩
abbrev cX0_onDay : ByteArray := prog_2_method_10_code
def yX0_onDay : MethodName := ⟨RX0, "onDay", "(I)I"⟩
abbrev cX0_tonsBy : ByteArray := prog_2_method_11_code
def yX0_tonsBy : MethodName := ⟨RX0, "tonsBy", "(IIIII)I"⟩
abbrev cX0_ofLeastShape : ByteArray := prog_2_method_12_code
def yX0_ofLeastShape : MethodName := ⟨RX0, "ofLeastShape", "(III)I"⟩
abbrev cX0_tonsOfShapes : ByteArray := prog_2_method_13_code
def yX0_tonsOfShapes : MethodName := ⟨RX0, "tonsOfShapes", "(I)[I"⟩
abbrev cX0_leastShape : ByteArray := prog_2_method_14_code
def yX0_leastShape : MethodName := ⟨RX0, "leastShape", "([II)I"⟩
abbrev cX0_lengthOf : ByteArray := prog_2_method_15_code
def yX0_lengthOf : MethodName := ⟨RX0, "lengthOf", "(I)I"⟩
abbrev cX0_breadthOf : ByteArray := prog_2_method_16_code
def yX0_breadthOf : MethodName := ⟨RX0, "breadthOf", "(I)I"⟩
abbrev cX0_depthOf : ByteArray := prog_2_method_17_code
def yX0_depthOf : MethodName := ⟨RX0, "depthOf", "(I)I"⟩
def RX1 : String := "HullRegister$Hulls"
def TX1 : u_T := fun k => match k with
  | 0 => ("HullRegister$Hulls", "table", "[I", true)
  | _ => ("HullRegister$Hulls", "count", "I", false)
def tyX1 : Nat → FieldType := fun k => match k with
  | 0 => .array .int
  | _ => .int
theorem nmX1 : ∀ a, a < 2 → ∀ b, b < 2 → a ≠ b → (TX1 a).2.1 ≠ (TX1 b).2.1 := by decide +kernel
theorem tyX1_ok : ∀ k, k < 2 → parseFieldDescriptor (TX1 k).2.2.1 = some (tyX1 k) := by decide +kernel
abbrev cX1_init : ByteArray := prog_3_method_1_code
def yX1_init : MethodName := ⟨RX1, "<init>", "()V"⟩
abbrev cX1_size : ByteArray := prog_3_method_2_code
def yX1_size : MethodName := ⟨RX1, "size", "()I"⟩
abbrev cX1_has : ByteArray := prog_3_method_3_code
def yX1_has : MethodName := ⟨RX1, "has", "(I)Z"⟩
abbrev cX1_told : ByteArray := prog_3_method_4_code
def yX1_told : MethodName := ⟨RX1, "told", "(II)I"⟩
abbrev cX1_add : ByteArray := prog_3_method_5_code
def yX1_add : MethodName := ⟨RX1, "add", "(IIII)I"⟩
abbrev cX1_setSizes : ByteArray := prog_3_method_6_code
def yX1_setSizes : MethodName := ⟨RX1, "setSizes", "(IIIII)V"⟩
abbrev cX1_setMeasuring : ByteArray := prog_3_method_7_code
def yX1_setMeasuring : MethodName := ⟨RX1, "setMeasuring", "(IIII)V"⟩
def RX2 : String := "HullRegister$Ledger"
def TX2 : u_T := fun k => match k with
  | 0 => ("HullRegister$Ledger", "table", "[I", true)
  | 1 => ("HullRegister$Ledger", "stands", "[Z", true)
  | 2 => ("HullRegister$Ledger", "count", "I", false)
  | 3 => ("HullRegister$Ledger", "firstAccounts", "[I", true)
  | 4 => ("HullRegister$Ledger", "otherAccounts", "[I", true)
  | 5 => ("HullRegister$Ledger", "owned", "[I", true)
  | 6 => ("HullRegister$Ledger", "pledged", "[I", true)
  | 7 => ("HullRegister$Ledger", "heldInPledge", "[I", true)
  | _ => ("HullRegister$Ledger", "pledges", "[I", true)
def tyX2 : Nat → FieldType := fun k => match k with
  | 0 => .array .int
  | 1 => .array .boolean
  | 2 => .int
  | 3 => .array .int
  | 4 => .array .int
  | 5 => .array .int
  | 6 => .array .int
  | 7 => .array .int
  | _ => .array .int
theorem nmX2 : ∀ a, a < 9 → ∀ b, b < 9 → a ≠ b → (TX2 a).2.1 ≠ (TX2 b).2.1 := by decide +kernel
theorem tyX2_ok : ∀ k, k < 9 → parseFieldDescriptor (TX2 k).2.2.1 = some (tyX2 k) := by decide +kernel
abbrev cX2_init : ByteArray := prog_4_method_1_code
def yX2_init : MethodName := ⟨RX2, "<init>", "()V"⟩
abbrev cX2_size : ByteArray := prog_4_method_2_code
def yX2_size : MethodName := ⟨RX2, "size", "()I"⟩
abbrev cX2_has : ByteArray := prog_4_method_3_code
def yX2_has : MethodName := ⟨RX2, "has", "(I)Z"⟩
abbrev cX2_told : ByteArray := prog_4_method_4_code
def yX2_told : MethodName := ⟨RX2, "told", "(II)I"⟩
abbrev cX2_addRedeem : ByteArray := prog_4_method_5_code
def yX2_addRedeem : MethodName := ⟨RX2, "addRedeem", "(I)I"⟩
abbrev cX2_add : ByteArray := prog_4_method_6_code
def yX2_add : MethodName := ⟨RX2, "add", "(IIIIII)I"⟩
abbrev cX2_markForged : ByteArray := prog_4_method_7_code
def yX2_markForged : MethodName := ⟨RX2, "markForged", "(I)I"⟩
abbrev cX2_allParts : ByteArray := prog_4_method_8_code
def yX2_allParts : MethodName := ⟨RX2, "allParts", "(II)I"⟩
abbrev cX2_freeParts : ByteArray := prog_4_method_9_code
def yX2_freeParts : MethodName := ⟨RX2, "freeParts", "(II)I"⟩
abbrev cX2_partsHeld : ByteArray := prog_4_method_10_code
def yX2_partsHeld : MethodName := ⟨RX2, "partsHeld", "(II)I"⟩
abbrev cX2_greatestOwner : ByteArray := prog_4_method_11_code
def yX2_greatestOwner : MethodName := ⟨RX2, "greatestOwner", "(I)I"⟩
abbrev cX2_forgedEntries : ByteArray := prog_4_method_12_code
def yX2_forgedEntries : MethodName := ⟨RX2, "forgedEntries", "()I"⟩
abbrev cX2_voidEntries : ByteArray := prog_4_method_13_code
def yX2_voidEntries : MethodName := ⟨RX2, "voidEntries", "()I"⟩
abbrev cX2_standingPledges : ByteArray := prog_4_method_14_code
def yX2_standingPledges : MethodName := ⟨RX2, "standingPledges", "()I"⟩
abbrev cX2_sumOf : ByteArray := prog_4_method_15_code
def yX2_sumOf : MethodName := ⟨RX2, "sumOf", "(I)I"⟩
abbrev cX2_put : ByteArray := prog_4_method_16_code
def yX2_put : MethodName := ⟨RX2, "put", "(III)V"⟩
abbrev cX2_isForged : ByteArray := prog_4_method_17_code
def yX2_isForged : MethodName := ⟨RX2, "isForged", "(I)Z"⟩
abbrev cX2_account : ByteArray := prog_4_method_18_code
def yX2_account : MethodName := ⟨RX2, "account", "(II)I"⟩
abbrev cX2_freeOf : ByteArray := prog_4_method_19_code
def yX2_freeOf : MethodName := ⟨RX2, "freeOf", "(I)I"⟩
abbrev cX2_goThrough : ByteArray := prog_4_method_20_code
def yX2_goThrough : MethodName := ⟨RX2, "goThrough", "()V"⟩
abbrev cX2_beginAnew : ByteArray := prog_4_method_21_code
def yX2_beginAnew : MethodName := ⟨RX2, "beginAnew", "()V"⟩
abbrev cX2_takesEffect : ByteArray := prog_4_method_22_code
def yX2_takesEffect : MethodName := ⟨RX2, "takesEffect", "(I)Z"⟩
abbrev cX2_bringParts : ByteArray := prog_4_method_23_code
def yX2_bringParts : MethodName := ⟨RX2, "bringParts", "(I)Z"⟩
abbrev cX2_beginPledge : ByteArray := prog_4_method_24_code
def yX2_beginPledge : MethodName := ⟨RX2, "beginPledge", "(I)Z"⟩
abbrev cX2_endPledge : ByteArray := prog_4_method_25_code
def yX2_endPledge : MethodName := ⟨RX2, "endPledge", "(I)Z"⟩
abbrev cX2_setStanding : ByteArray := prog_4_method_26_code
def yX2_setStanding : MethodName := ⟨RX2, "setStanding", "(IZ)V"⟩
abbrev cX2_rankPledges : ByteArray := prog_4_method_27_code
def yX2_rankPledges : MethodName := ⟨RX2, "rankPledges", "()V"⟩
def RX3 : String := "HullRegister$Papers"
def TX3 : u_T := fun k => match k with
  | 0 => ("HullRegister$Papers", "firstDays", "[I", true)
  | 1 => ("HullRegister$Papers", "lastDays", "[I", true)
  | 2 => ("HullRegister$Papers", "leastLengths", "[I", true)
  | 3 => ("HullRegister$Papers", "mostLengths", "[I", true)
  | 4 => ("HullRegister$Papers", "marks", "[I", true)
  | 5 => ("HullRegister$Papers", "count", "I", false)
  | 6 => ("HullRegister$Papers", "likes", "[I", true)
  | 7 => ("HullRegister$Papers", "witnessed", "[I", true)
  | 8 => ("HullRegister$Papers", "witnessCount", "I", false)
  | 9 => ("HullRegister$Papers", "groupOf", "[I", true)
  | 10 => ("HullRegister$Papers", "members", "[I", true)
  | _ => ("HullRegister$Papers", "groupCount", "I", false)
def tyX3 : Nat → FieldType := fun k => match k with
  | 0 => .array .int
  | 1 => .array .int
  | 2 => .array .int
  | 3 => .array .int
  | 4 => .array .int
  | 5 => .int
  | 6 => .array .int
  | 7 => .array .int
  | 8 => .int
  | 9 => .array .int
  | 10 => .array .int
  | _ => .int
theorem nmX3 : ∀ a, a < 12 → ∀ b, b < 12 → a ≠ b → (TX3 a).2.1 ≠ (TX3 b).2.1 := by decide +kernel
theorem tyX3_ok : ∀ k, k < 12 → parseFieldDescriptor (TX3 k).2.2.1 = some (tyX3 k) := by decide +kernel
abbrev cX3_init : ByteArray := prog_5_method_1_code
def yX3_init : MethodName := ⟨RX3, "<init>", "()V"⟩
abbrev cX3_size : ByteArray := prog_5_method_2_code
def yX3_size : MethodName := ⟨RX3, "size", "()I"⟩
abbrev cX3_witnesses : ByteArray := prog_5_method_3_code
def yX3_witnesses : MethodName := ⟨RX3, "witnesses", "()I"⟩
abbrev cX3_has : ByteArray := prog_5_method_4_code
def yX3_has : MethodName := ⟨RX3, "has", "(I)Z"⟩
abbrev cX3_areTwo : ByteArray := prog_5_method_5_code
def yX3_areTwo : MethodName := ⟨RX3, "areTwo", "(II)Z"⟩
abbrev cX3_mayBeOne : ByteArray := prog_5_method_6_code
def yX3_mayBeOne : MethodName := ⟨RX3, "mayBeOne", "(II)Z"⟩
abbrev cX3_joinedGroup : ByteArray := prog_5_method_7_code
def yX3_joinedGroup : MethodName := ⟨RX3, "joinedGroup", "(I)I"⟩
abbrev cX3_joinedGroups : ByteArray := prog_5_method_8_code
def yX3_joinedGroups : MethodName := ⟨RX3, "joinedGroups", "()I"⟩
abbrev cX3_add : ByteArray := prog_5_method_9_code
def yX3_add : MethodName := ⟨RX3, "add", "(IIIII)I"⟩
abbrev cX3_hear : ByteArray := prog_5_method_10_code
def yX3_hear : MethodName := ⟨RX3, "hear", "(IIZ)I"⟩
abbrev cX3_isIn : ByteArray := prog_5_method_11_code
def yX3_isIn : MethodName := ⟨RX3, "isIn", "(II)Z"⟩
abbrev cX3_setLike : ByteArray := prog_5_method_12_code
def yX3_setLike : MethodName := ⟨RX3, "setLike", "(IIZ)V"⟩
abbrev cX3_seemAlike : ByteArray := prog_5_method_13_code
def yX3_seemAlike : MethodName := ⟨RX3, "seemAlike", "(II)Z"⟩
abbrev cX3_joinAnew : ByteArray := prog_5_method_14_code
def yX3_joinAnew : MethodName := ⟨RX3, "joinAnew", "()V"⟩
abbrev cX3_placeFrom : ByteArray := prog_5_method_15_code
def yX3_placeFrom : MethodName := ⟨RX3, "placeFrom", "(III)Z"⟩
abbrev cX3_placeInto : ByteArray := prog_5_method_16_code
def yX3_placeInto : MethodName := ⟨RX3, "placeInto", "(IIII)Z"⟩
def RX4 : String := "HullRegister$Reckoner"
def TX4 : u_T := fun k => match k with
  | 0 => ("HullRegister$Reckoner", "pile", "[I", true)
  | 1 => ("HullRegister$Reckoner", "height", "I", false)
  | 2 => ("HullRegister$Reckoner", "figures", "I", false)
  | 3 => ("HullRegister$Reckoner", "length", "I", false)
  | 4 => ("HullRegister$Reckoner", "breadth", "I", false)
  | 5 => ("HullRegister$Reckoner", "depth", "I", false)
  | _ => ("HullRegister$Reckoner", "rooms", "I", false)
def tyX4 : Nat → FieldType := fun k => match k with
  | 0 => .array .int
  | 1 => .int
  | 2 => .int
  | 3 => .int
  | 4 => .int
  | 5 => .int
  | _ => .int
theorem nmX4 : ∀ a, a < 7 → ∀ b, b < 7 → a ≠ b → (TX4 a).2.1 ≠ (TX4 b).2.1 := by decide +kernel
theorem tyX4_ok : ∀ k, k < 7 → parseFieldDescriptor (TX4 k).2.2.1 = some (tyX4 k) := by decide +kernel
abbrev cX4_init : ByteArray := prog_6_method_1_code
def yX4_init : MethodName := ⟨RX4, "<init>", "()V"⟩
abbrev cX4_setSizes : ByteArray := prog_6_method_2_code
def yX4_setSizes : MethodName := ⟨RX4, "setSizes", "(IIII)V"⟩
abbrev cX4_reckon : ByteArray := prog_6_method_3_code
def yX4_reckon : MethodName := ⟨RX4, "reckon", "([I)I"⟩
abbrev cX4_read : ByteArray := prog_6_method_4_code
def yX4_read : MethodName := ⟨RX4, "read", "(I)Z"⟩
abbrev cX4_readFigure : ByteArray := prog_6_method_5_code
def yX4_readFigure : MethodName := ⟨RX4, "readFigure", "(I)Z"⟩
abbrev cX4_push : ByteArray := prog_6_method_6_code
def yX4_push : MethodName := ⟨RX4, "push", "(I)Z"⟩
abbrev cX4_liftToZero : ByteArray := prog_6_method_7_code
def yX4_liftToZero : MethodName := ⟨RX4, "liftToZero", "()Z"⟩
abbrev cX4_joinTwo : ByteArray := prog_6_method_8_code
def yX4_joinTwo : MethodName := ⟨RX4, "joinTwo", "(I)Z"⟩
abbrev cX4_joined : ByteArray := prog_6_method_9_code
def yX4_joined : MethodName := ⟨RX4, "joined", "(IJJ)J"⟩
abbrev cX4_bounded : ByteArray := prog_6_method_10_code
def yX4_bounded : MethodName := ⟨RX4, "bounded", "(J)I"⟩
def RX5 : String := "HullRegister"
def TX5 : u_T := fun k => match k with
  | 0 => ("HullRegister", "acts", "LHullRegister$Acts;", true)
  | 1 => ("HullRegister", "hulls", "LHullRegister$Hulls;", true)
  | 2 => ("HullRegister", "ledger", "LHullRegister$Ledger;", true)
  | _ => ("HullRegister", "papers", "LHullRegister$Papers;", true)
def tyX5 : Nat → FieldType := fun k => match k with
  | 0 => .object "HullRegister$Acts"
  | 1 => .object "HullRegister$Hulls"
  | 2 => .object "HullRegister$Ledger"
  | _ => .object "HullRegister$Papers"
theorem nmX5 : ∀ a, a < 4 → ∀ b, b < 4 → a ≠ b → (TX5 a).2.1 ≠ (TX5 b).2.1 := by decide +kernel
theorem tyX5_ok : ∀ k, k < 4 → parseFieldDescriptor (TX5 k).2.2.1 = some (tyX5 k) := by decide +kernel
abbrev cX5_init : ByteArray := prog_1_method_1_code
def yX5_init : MethodName := ⟨RX5, "<init>", "()V"⟩
abbrev cX5_feed : ByteArray := prog_1_method_2_code
def yX5_feed : MethodName := ⟨RX5, "feed", "(I)I"⟩
abbrev cX5_scrap : ByteArray := prog_1_method_3_code
def yX5_scrap : MethodName := ⟨RX5, "scrap", "()I"⟩
abbrev cX5_act : ByteArray := prog_1_method_4_code
def yX5_act : MethodName := ⟨RX5, "act", "(I)I"⟩
abbrev cX5_inForce : ByteArray := prog_1_method_5_code
def yX5_inForce : MethodName := ⟨RX5, "inForce", "(I)I"⟩
abbrev cX5_tons : ByteArray := prog_1_method_6_code
def yX5_tons : MethodName := ⟨RX5, "tons", "(IIIII)I"⟩
abbrev cX5_shape : ByteArray := prog_1_method_7_code
def yX5_shape : MethodName := ⟨RX5, "shape", "(III)I"⟩
abbrev cX5_hull : ByteArray := prog_1_method_8_code
def yX5_hull : MethodName := ⟨RX5, "hull", "(IIII)I"⟩
abbrev cX5_alter : ByteArray := prog_1_method_9_code
def yX5_alter : MethodName := ⟨RX5, "alter", "(IIIII)I"⟩
abbrev cX5_measure : ByteArray := prog_1_method_10_code
def yX5_measure : MethodName := ⟨RX5, "measure", "(II)I"⟩
abbrev cX5_of : ByteArray := prog_1_method_11_code
def yX5_of : MethodName := ⟨RX5, "of", "(II)I"⟩
abbrev cX5_sell : ByteArray := prog_1_method_12_code
def yX5_sell : MethodName := ⟨RX5, "sell", "(IIII)I"⟩
abbrev cX5_pledge : ByteArray := prog_1_method_13_code
def yX5_pledge : MethodName := ⟨RX5, "pledge", "(IIII)I"⟩
abbrev cX5_redeem : ByteArray := prog_1_method_14_code
def yX5_redeem : MethodName := ⟨RX5, "redeem", "(I)I"⟩
abbrev cX5_forge : ByteArray := prog_1_method_15_code
def yX5_forge : MethodName := ⟨RX5, "forge", "(I)I"⟩
abbrev cX5_entry : ByteArray := prog_1_method_16_code
def yX5_entry : MethodName := ⟨RX5, "entry", "(II)I"⟩
abbrev cX5_parts : ByteArray := prog_1_method_17_code
def yX5_parts : MethodName := ⟨RX5, "parts", "(IIZ)I"⟩
abbrev cX5_manager : ByteArray := prog_1_method_18_code
def yX5_manager : MethodName := ⟨RX5, "manager", "(I)I"⟩
abbrev cX5_held : ByteArray := prog_1_method_19_code
def yX5_held : MethodName := ⟨RX5, "held", "(II)I"⟩
abbrev cX5_paper : ByteArray := prog_1_method_20_code
def yX5_paper : MethodName := ⟨RX5, "paper", "(IIIII)I"⟩
abbrev cX5_witness : ByteArray := prog_1_method_21_code
def yX5_witness : MethodName := ⟨RX5, "witness", "(IIZ)I"⟩
abbrev cX5_alike : ByteArray := prog_1_method_22_code
def yX5_alike : MethodName := ⟨RX5, "alike", "(II)I"⟩
abbrev cX5_group : ByteArray := prog_1_method_23_code
def yX5_group : MethodName := ⟨RX5, "group", "(I)I"⟩
abbrev cX5_groups : ByteArray := prog_1_method_24_code
def yX5_groups : MethodName := ⟨RX5, "groups", "()I"⟩
abbrev cX5_many : ByteArray := prog_1_method_25_code
def yX5_many : MethodName := ⟨RX5, "many", "(I)I"⟩
abbrev cX5_enter : ByteArray := prog_1_method_26_code
def yX5_enter : MethodName := ⟨RX5, "enter", "(IIIII)I"⟩
abbrev cX5_isWithin : ByteArray := prog_1_method_27_code
def yX5_isWithin : MethodName := ⟨RX5, "isWithin", "(III)Z"⟩
abbrev cX5_isDay : ByteArray := prog_1_method_28_code
def yX5_isDay : MethodName := ⟨RX5, "isDay", "(I)Z"⟩
abbrev cX5_isMeasure : ByteArray := prog_1_method_29_code
def yX5_isMeasure : MethodName := ⟨RX5, "isMeasure", "(I)Z"⟩
abbrev cX5_areSizes : ByteArray := prog_1_method_30_code
def yX5_areSizes : MethodName := ⟨RX5, "areSizes", "(IIII)Z"⟩
abbrev cX5_isPerson : ByteArray := prog_1_method_31_code
def yX5_isPerson : MethodName := ⟨RX5, "isPerson", "(I)Z"⟩
def RX6 : String := "HullRegisterModel"
def TX6 : u_T := fun k => match k with
  | 0 => ("HullRegisterModel", "fed", "I", false)
  | 1 => ("HullRegisterModel", "letters", "[I", true)
  | 2 => ("HullRegisterModel", "acts", "I", false)
  | 3 => ("HullRegisterModel", "actDay", "[I", true)
  | 4 => ("HullRegisterModel", "actLength", "[I", true)
  | 5 => ("HullRegisterModel", "text", "[I", true)
  | 6 => ("HullRegisterModel", "hulls", "I", false)
  | 7 => ("HullRegisterModel", "sizes", "[I", true)
  | 8 => ("HullRegisterModel", "tonsOf", "[I", true)
  | 9 => ("HullRegisterModel", "measuredOn", "[I", true)
  | 10 => ("HullRegisterModel", "measuredBy", "[I", true)
  | 11 => ("HullRegisterModel", "entries", "I", false)
  | 12 => ("HullRegisterModel", "kindOf", "[I", true)
  | 13 => ("HullRegisterModel", "hullOf", "[I", true)
  | 14 => ("HullRegisterModel", "oneOf", "[I", true)
  | 15 => ("HullRegisterModel", "otherOf", "[I", true)
  | 16 => ("HullRegisterModel", "manyOf", "[I", true)
  | 17 => ("HullRegisterModel", "pledgeOf", "[I", true)
  | 18 => ("HullRegisterModel", "isForged", "[Z", true)
  | 19 => ("HullRegisterModel", "papers", "I", false)
  | 20 => ("HullRegisterModel", "paper", "[I", true)
  | 21 => ("HullRegisterModel", "witnesses", "I", false)
  | 22 => ("HullRegisterModel", "witnessA", "[I", true)
  | 23 => ("HullRegisterModel", "witnessB", "[I", true)
  | 24 => ("HullRegisterModel", "saysYes", "[Z", true)
  | 25 => ("HullRegisterModel", "pile", "[I", true)
  | 26 => ("HullRegisterModel", "deep", "I", false)
  | 27 => ("HullRegisterModel", "has", "[I", true)
  | 28 => ("HullRegisterModel", "bound", "[I", true)
  | 29 => ("HullRegisterModel", "stands", "[Z", true)
  | 30 => ("HullRegisterModel", "isVoid", "[Z", true)
  | 31 => ("HullRegisterModel", "groupOf", "[I", true)
  | _ => ("HullRegisterModel", "used", "[I", true)
def tyX6 : Nat → FieldType := fun k => match k with
  | 0 => .int
  | 1 => .array .int
  | 2 => .int
  | 3 => .array .int
  | 4 => .array .int
  | 5 => .array .int
  | 6 => .int
  | 7 => .array .int
  | 8 => .array .int
  | 9 => .array .int
  | 10 => .array .int
  | 11 => .int
  | 12 => .array .int
  | 13 => .array .int
  | 14 => .array .int
  | 15 => .array .int
  | 16 => .array .int
  | 17 => .array .int
  | 18 => .array .boolean
  | 19 => .int
  | 20 => .array .int
  | 21 => .int
  | 22 => .array .int
  | 23 => .array .int
  | 24 => .array .boolean
  | 25 => .array .int
  | 26 => .int
  | 27 => .array .int
  | 28 => .array .int
  | 29 => .array .boolean
  | 30 => .array .boolean
  | 31 => .array .int
  | _ => .array .int
theorem nmX6 : ∀ a, a < 33 → ∀ b, b < 33 → a ≠ b → (TX6 a).2.1 ≠ (TX6 b).2.1 := by decide +kernel
theorem tyX6_ok : ∀ k, k < 33 → parseFieldDescriptor (TX6 k).2.2.1 = some (tyX6 k) := by decide +kernel
abbrev cX6_init : ByteArray := prog_8_method_1_code
def yX6_init : MethodName := ⟨RX6, "<init>", "()V"⟩
abbrev cX6_in : ByteArray := prog_8_method_2_code
def yX6_in : MethodName := ⟨RX6, "in", "(III)Z"⟩
abbrev cX6_feed : ByteArray := prog_8_method_3_code
def yX6_feed : MethodName := ⟨RX6, "feed", "(I)I"⟩
abbrev cX6_scrap : ByteArray := prog_8_method_4_code
def yX6_scrap : MethodName := ⟨RX6, "scrap", "()I"⟩
abbrev cX6_isFigure : ByteArray := prog_8_method_5_code
def yX6_isFigure : MethodName := ⟨RX6, "isFigure", "(I)Z"⟩
abbrev cX6_takes : ByteArray := prog_8_method_6_code
def yX6_takes : MethodName := ⟨RX6, "takes", "(I)I"⟩
abbrev cX6_isGood : ByteArray := prog_8_method_7_code
def yX6_isGood : MethodName := ⟨RX6, "isGood", "()Z"⟩
abbrev cX6_act : ByteArray := prog_8_method_8_code
def yX6_act : MethodName := ⟨RX6, "act", "(I)I"⟩
abbrev cX6_isAct : ByteArray := prog_8_method_9_code
def yX6_isAct : MethodName := ⟨RX6, "isAct", "(I)Z"⟩
abbrev cX6_forceOn : ByteArray := prog_8_method_10_code
def yX6_forceOn : MethodName := ⟨RX6, "forceOn", "(I)I"⟩
abbrev cX6_inForce : ByteArray := prog_8_method_11_code
def yX6_inForce : MethodName := ⟨RX6, "inForce", "(I)I"⟩
abbrev cX6_push : ByteArray := prog_8_method_12_code
def yX6_push : MethodName := ⟨RX6, "push", "(J)V"⟩
abbrev cX6_combine : ByteArray := prog_8_method_13_code
def yX6_combine : MethodName := ⟨RX6, "combine", "(I)V"⟩
abbrev cX6_tonsBy : ByteArray := prog_8_method_14_code
def yX6_tonsBy : MethodName := ⟨RX6, "tonsBy", "(IIIII)I"⟩
abbrev cX6_areSizes : ByteArray := prog_8_method_15_code
def yX6_areSizes : MethodName := ⟨RX6, "areSizes", "(IIII)Z"⟩
abbrev cX6_tons : ByteArray := prog_8_method_16_code
def yX6_tons : MethodName := ⟨RX6, "tons", "(IIIII)I"⟩
abbrev cX6_shape : ByteArray := prog_8_method_17_code
def yX6_shape : MethodName := ⟨RX6, "shape", "(III)I"⟩
abbrev cX6_isHull : ByteArray := prog_8_method_18_code
def yX6_isHull : MethodName := ⟨RX6, "isHull", "(I)Z"⟩
abbrev cX6_put : ByteArray := prog_8_method_19_code
def yX6_put : MethodName := ⟨RX6, "put", "(IIIII)V"⟩
abbrev cX6_hull : ByteArray := prog_8_method_20_code
def yX6_hull : MethodName := ⟨RX6, "hull", "(IIII)I"⟩
abbrev cX6_alter : ByteArray := prog_8_method_21_code
def yX6_alter : MethodName := ⟨RX6, "alter", "(IIIII)I"⟩
abbrev cX6_measure : ByteArray := prog_8_method_22_code
def yX6_measure : MethodName := ⟨RX6, "measure", "(II)I"⟩
abbrev cX6_of : ByteArray := prog_8_method_23_code
def yX6_of : MethodName := ⟨RX6, "of", "(II)I"⟩
abbrev cX6_isPerson : ByteArray := prog_8_method_24_code
def yX6_isPerson : MethodName := ⟨RX6, "isPerson", "(I)Z"⟩
abbrev cX6_isEntry : ByteArray := prog_8_method_25_code
def yX6_isEntry : MethodName := ⟨RX6, "isEntry", "(I)Z"⟩
abbrev cX6_enter : ByteArray := prog_8_method_26_code
def yX6_enter : MethodName := ⟨RX6, "enter", "(IIIIII)I"⟩
abbrev cX6_deal : ByteArray := prog_8_method_27_code
def yX6_deal : MethodName := ⟨RX6, "deal", "(IIIII)I"⟩
abbrev cX6_sell : ByteArray := prog_8_method_28_code
def yX6_sell : MethodName := ⟨RX6, "sell", "(IIII)I"⟩
abbrev cX6_pledge : ByteArray := prog_8_method_29_code
def yX6_pledge : MethodName := ⟨RX6, "pledge", "(IIII)I"⟩
abbrev cX6_redeem : ByteArray := prog_8_method_30_code
def yX6_redeem : MethodName := ⟨RX6, "redeem", "(I)I"⟩
abbrev cX6_forge : ByteArray := prog_8_method_31_code
def yX6_forge : MethodName := ⟨RX6, "forge", "(I)I"⟩
abbrev cX6_goThrough : ByteArray := prog_8_method_32_code
def yX6_goThrough : MethodName := ⟨RX6, "goThrough", "()V"⟩
abbrev cX6_does : ByteArray := prog_8_method_33_code
def yX6_does : MethodName := ⟨RX6, "does", "(I)V"⟩
abbrev cX6_rankOf : ByteArray := prog_8_method_34_code
def yX6_rankOf : MethodName := ⟨RX6, "rankOf", "(I)I"⟩
abbrev cX6_entry : ByteArray := prog_8_method_35_code
def yX6_entry : MethodName := ⟨RX6, "entry", "(II)I"⟩
abbrev cX6_parts : ByteArray := prog_8_method_36_code
def yX6_parts : MethodName := ⟨RX6, "parts", "(IIZ)I"⟩
abbrev cX6_manager : ByteArray := prog_8_method_37_code
def yX6_manager : MethodName := ⟨RX6, "manager", "(I)I"⟩
abbrev cX6_held : ByteArray := prog_8_method_38_code
def yX6_held : MethodName := ⟨RX6, "held", "(II)I"⟩
abbrev cX6_isPaper : ByteArray := prog_8_method_39_code
def yX6_isPaper : MethodName := ⟨RX6, "isPaper", "(I)Z"⟩
abbrev cX6_paper : ByteArray := prog_8_method_40_code
def yX6_paper : MethodName := ⟨RX6, "paper", "(IIIII)I"⟩
abbrev cX6_witnessOf : ByteArray := prog_8_method_41_code
def yX6_witnessOf : MethodName := ⟨RX6, "witnessOf", "(II)I"⟩
abbrev cX6_witness : ByteArray := prog_8_method_42_code
def yX6_witness : MethodName := ⟨RX6, "witness", "(IIZ)I"⟩
abbrev cX6_areAlike : ByteArray := prog_8_method_43_code
def yX6_areAlike : MethodName := ⟨RX6, "areAlike", "(II)Z"⟩
abbrev cX6_alike : ByteArray := prog_8_method_44_code
def yX6_alike : MethodName := ⟨RX6, "alike", "(II)I"⟩
abbrev cX6_mayJoin : ByteArray := prog_8_method_45_code
def yX6_mayJoin : MethodName := ⟨RX6, "mayJoin", "(I)Z"⟩
abbrev cX6_findJoining : ByteArray := prog_8_method_46_code
def yX6_findJoining : MethodName := ⟨RX6, "findJoining", "(I)Z"⟩
abbrev cX6_join : ByteArray := prog_8_method_47_code
def yX6_join : MethodName := ⟨RX6, "join", "()I"⟩
abbrev cX6_group : ByteArray := prog_8_method_48_code
def yX6_group : MethodName := ⟨RX6, "group", "(I)I"⟩
abbrev cX6_groups : ByteArray := prog_8_method_49_code
def yX6_groups : MethodName := ⟨RX6, "groups", "()I"⟩
abbrev cX6_entriesThat : ByteArray := prog_8_method_50_code
def yX6_entriesThat : MethodName := ⟨RX6, "entriesThat", "(Z)I"⟩
abbrev cX6_standing : ByteArray := prog_8_method_51_code
def yX6_standing : MethodName := ⟨RX6, "standing", "()I"⟩
abbrev cX6_many : ByteArray := prog_8_method_52_code
def yX6_many : MethodName := ⟨RX6, "many", "(I)I"⟩
def RJ9 : String := "java/lang/Math"
def TJ9 : u_T := fun k => match k with
  | _ => ("", "", "", false)
def tyJ9 : Nat → FieldType := fun k => match k with
  | _ => .int
abbrev cJ9_max_7cf53 : ByteArray := prog_9_method_65_code
def yJ9_max_7cf53 : MethodName := ⟨RJ9, "max", "(II)I"⟩
abbrev cJ9_min_7cf53 : ByteArray := prog_9_method_69_code
def yJ9_min_7cf53 : MethodName := ⟨RJ9, "min", "(II)I"⟩
def RJ10 : String := "java/lang/System"
def TJ10 : u_T := fun k => match k with
  | _ => ("", "", "", false)
def tyJ10 : Nat → FieldType := fun k => match k with
  | _ => .int
def RJ7 : String := "java/util/Arrays"
def TJ7 : u_T := fun k => match k with
  | _ => ("", "", "", false)
def tyJ7 : Nat → FieldType := fun k => match k with
  | _ => .int
abbrev cJ7_fill_53178 : ByteArray := prog_11_method_103_code
def yJ7_fill_53178 : MethodName := ⟨RJ7, "fill", "([II)V"⟩
def RL : String := "HullRegisterLaw"
abbrev cL_law : ByteArray := code
def yL_law : MethodName := ⟨RL, "law", "([I)Z"⟩
set_option maxRecDepth 20000 in
theorem innX0 : ∀ w ∈ u_ws RX0 TX0 7, w ∈ lw_tbl := by decide +kernel
set_option maxRecDepth 20000 in
theorem innX1 : ∀ w ∈ u_ws RX1 TX1 2, w ∈ lw_tbl := by decide +kernel
set_option maxRecDepth 20000 in
theorem innX2 : ∀ w ∈ u_ws RX2 TX2 9, w ∈ lw_tbl := by decide +kernel
set_option maxRecDepth 20000 in
theorem innX3 : ∀ w ∈ u_ws RX3 TX3 12, w ∈ lw_tbl := by decide +kernel
set_option maxRecDepth 20000 in
theorem innX4 : ∀ w ∈ u_ws RX4 TX4 7, w ∈ lw_tbl := by decide +kernel
set_option maxRecDepth 20000 in
theorem innX5 : ∀ w ∈ u_ws RX5 TX5 4, w ∈ lw_tbl := by decide +kernel
set_option maxRecDepth 20000 in
theorem innX6 : ∀ w ∈ u_ws RX6 TX6 33, w ∈ lw_tbl := by decide +kernel
