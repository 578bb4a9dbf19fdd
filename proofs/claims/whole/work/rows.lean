section
-- ===== PART A: goes FIRST, ahead of the names: the tables' words, and 'selects' of the private methods out of them =====
/-- a private method of a class that the tables say can be made, by its rows of tables_1 -/
def lw_okq (q : MethodName × Nat) : Prop := (q.1.cls ≠ "java/lang/invoke/MethodHandle" ∧ q.1.cls ≠ "java/lang/invoke/VarHandle") ∧ Cond.instantiable q.1.cls q.2 ∈ tables_1 ∧ Cond.privateMethod q.1 ∈ tables_1 ∧ Cond.instanceMethod q.1 ∈ tables_1
theorem lw_p0 : lw_okq (⟨"HullRegister$Ledger", "goThrough", "()V"⟩, 9) := ⟨⟨by decide +kernel, by decide +kernel⟩, List.mem_of_getElem? (i := 92) (by decide +kernel), List.mem_of_getElem? (i := 98) (by decide +kernel), List.mem_of_getElem? (i := 99) (by decide +kernel)⟩
theorem lw_p1 : lw_okq (⟨"HullRegister$Ledger", "beginAnew", "()V"⟩, 9) := ⟨⟨by decide +kernel, by decide +kernel⟩, List.mem_of_getElem? (i := 92) (by decide +kernel), List.mem_of_getElem? (i := 102) (by decide +kernel), List.mem_of_getElem? (i := 103) (by decide +kernel)⟩
theorem lw_p2 : lw_okq (⟨"HullRegister$Ledger", "isForged", "(I)Z"⟩, 9) := ⟨⟨by decide +kernel, by decide +kernel⟩, List.mem_of_getElem? (i := 92) (by decide +kernel), List.mem_of_getElem? (i := 112) (by decide +kernel), List.mem_of_getElem? (i := 113) (by decide +kernel)⟩
theorem lw_p3 : lw_okq (⟨"HullRegister$Ledger", "takesEffect", "(I)Z"⟩, 9) := ⟨⟨by decide +kernel, by decide +kernel⟩, List.mem_of_getElem? (i := 92) (by decide +kernel), List.mem_of_getElem? (i := 120) (by decide +kernel), List.mem_of_getElem? (i := 121) (by decide +kernel)⟩
theorem lw_p4 : lw_okq (⟨"HullRegister$Ledger", "bringParts", "(I)Z"⟩, 9) := ⟨⟨by decide +kernel, by decide +kernel⟩, List.mem_of_getElem? (i := 92) (by decide +kernel), List.mem_of_getElem? (i := 124) (by decide +kernel), List.mem_of_getElem? (i := 125) (by decide +kernel)⟩
theorem lw_p5 : lw_okq (⟨"HullRegister$Ledger", "freeOf", "(I)I"⟩, 9) := ⟨⟨by decide +kernel, by decide +kernel⟩, List.mem_of_getElem? (i := 92) (by decide +kernel), List.mem_of_getElem? (i := 128) (by decide +kernel), List.mem_of_getElem? (i := 129) (by decide +kernel)⟩
theorem lw_p6 : lw_okq (⟨"HullRegister$Ledger", "beginPledge", "(I)Z"⟩, 9) := ⟨⟨by decide +kernel, by decide +kernel⟩, List.mem_of_getElem? (i := 92) (by decide +kernel), List.mem_of_getElem? (i := 132) (by decide +kernel), List.mem_of_getElem? (i := 133) (by decide +kernel)⟩
theorem lw_p7 : lw_okq (⟨"HullRegister$Ledger", "setStanding", "(IZ)V"⟩, 9) := ⟨⟨by decide +kernel, by decide +kernel⟩, List.mem_of_getElem? (i := 92) (by decide +kernel), List.mem_of_getElem? (i := 136) (by decide +kernel), List.mem_of_getElem? (i := 137) (by decide +kernel)⟩
theorem lw_p8 : lw_okq (⟨"HullRegister$Ledger", "endPledge", "(I)Z"⟩, 9) := ⟨⟨by decide +kernel, by decide +kernel⟩, List.mem_of_getElem? (i := 92) (by decide +kernel), List.mem_of_getElem? (i := 140) (by decide +kernel), List.mem_of_getElem? (i := 141) (by decide +kernel)⟩
theorem lw_p9 : lw_okq (⟨"HullRegister$Ledger", "put", "(III)V"⟩, 9) := ⟨⟨by decide +kernel, by decide +kernel⟩, List.mem_of_getElem? (i := 92) (by decide +kernel), List.mem_of_getElem? (i := 151) (by decide +kernel), List.mem_of_getElem? (i := 152) (by decide +kernel)⟩
theorem lw_p10 : lw_okq (⟨"HullRegister$Ledger", "rankPledges", "()V"⟩, 9) := ⟨⟨by decide +kernel, by decide +kernel⟩, List.mem_of_getElem? (i := 92) (by decide +kernel), List.mem_of_getElem? (i := 155) (by decide +kernel), List.mem_of_getElem? (i := 156) (by decide +kernel)⟩
theorem lw_p11 : lw_okq (⟨"HullRegister$Reckoner", "read", "(I)Z"⟩, 7) := ⟨⟨by decide +kernel, by decide +kernel⟩, List.mem_of_getElem? (i := 28) (by decide +kernel), List.mem_of_getElem? (i := 283) (by decide +kernel), List.mem_of_getElem? (i := 284) (by decide +kernel)⟩
theorem lw_p12 : lw_okq (⟨"HullRegister$Reckoner", "readFigure", "(I)Z"⟩, 7) := ⟨⟨by decide +kernel, by decide +kernel⟩, List.mem_of_getElem? (i := 28) (by decide +kernel), List.mem_of_getElem? (i := 288) (by decide +kernel), List.mem_of_getElem? (i := 289) (by decide +kernel)⟩
theorem lw_p13 : lw_okq (⟨"HullRegister$Reckoner", "push", "(I)Z"⟩, 7) := ⟨⟨by decide +kernel, by decide +kernel⟩, List.mem_of_getElem? (i := 28) (by decide +kernel), List.mem_of_getElem? (i := 292) (by decide +kernel), List.mem_of_getElem? (i := 293) (by decide +kernel)⟩
theorem lw_p14 : lw_okq (⟨"HullRegister$Reckoner", "liftToZero", "()Z"⟩, 7) := ⟨⟨by decide +kernel, by decide +kernel⟩, List.mem_of_getElem? (i := 28) (by decide +kernel), List.mem_of_getElem? (i := 296) (by decide +kernel), List.mem_of_getElem? (i := 297) (by decide +kernel)⟩
theorem lw_p15 : lw_okq (⟨"HullRegister$Reckoner", "joinTwo", "(I)Z"⟩, 7) := ⟨⟨by decide +kernel, by decide +kernel⟩, List.mem_of_getElem? (i := 28) (by decide +kernel), List.mem_of_getElem? (i := 303) (by decide +kernel), List.mem_of_getElem? (i := 304) (by decide +kernel)⟩
def lw_privs_1 : List (MethodName × Nat) := [(⟨"HullRegister$Ledger", "goThrough", "()V"⟩, 9), (⟨"HullRegister$Ledger", "beginAnew", "()V"⟩, 9), (⟨"HullRegister$Ledger", "isForged", "(I)Z"⟩, 9), (⟨"HullRegister$Ledger", "takesEffect", "(I)Z"⟩, 9), (⟨"HullRegister$Ledger", "bringParts", "(I)Z"⟩, 9), (⟨"HullRegister$Ledger", "freeOf", "(I)I"⟩, 9), (⟨"HullRegister$Ledger", "beginPledge", "(I)Z"⟩, 9), (⟨"HullRegister$Ledger", "setStanding", "(IZ)V"⟩, 9), (⟨"HullRegister$Ledger", "endPledge", "(I)Z"⟩, 9), (⟨"HullRegister$Ledger", "put", "(III)V"⟩, 9), (⟨"HullRegister$Ledger", "rankPledges", "()V"⟩, 9), (⟨"HullRegister$Reckoner", "read", "(I)Z"⟩, 7), (⟨"HullRegister$Reckoner", "readFigure", "(I)Z"⟩, 7), (⟨"HullRegister$Reckoner", "push", "(I)Z"⟩, 7), (⟨"HullRegister$Reckoner", "liftToZero", "()Z"⟩, 7), (⟨"HullRegister$Reckoner", "joinTwo", "(I)Z"⟩, 7)]
theorem lw_r1 : ∀ q ∈ lw_privs_1, lw_okq q := List.forall_mem_cons.mpr ⟨lw_p0, List.forall_mem_cons.mpr ⟨lw_p1, List.forall_mem_cons.mpr ⟨lw_p2, List.forall_mem_cons.mpr ⟨lw_p3, List.forall_mem_cons.mpr ⟨lw_p4, List.forall_mem_cons.mpr ⟨lw_p5, List.forall_mem_cons.mpr ⟨lw_p6, List.forall_mem_cons.mpr ⟨lw_p7, List.forall_mem_cons.mpr ⟨lw_p8, List.forall_mem_cons.mpr ⟨lw_p9, List.forall_mem_cons.mpr ⟨lw_p10, List.forall_mem_cons.mpr ⟨lw_p11, List.forall_mem_cons.mpr ⟨lw_p12, List.forall_mem_cons.mpr ⟨lw_p13, List.forall_mem_cons.mpr ⟨lw_p14, List.forall_mem_cons.mpr ⟨lw_p15, fun _ h => absurd h List.not_mem_nil⟩⟩⟩⟩⟩⟩⟩⟩⟩⟩⟩⟩⟩⟩⟩⟩
theorem lw_p16 : lw_okq (⟨"HullRegister$Acts", "tonsOfShapes", "(I)[I"⟩, 7) := ⟨⟨by decide +kernel, by decide +kernel⟩, List.mem_of_getElem? (i := 20) (by decide +kernel), List.mem_of_getElem? (i := 364) (by decide +kernel), List.mem_of_getElem? (i := 365) (by decide +kernel)⟩
theorem lw_p17 : lw_okq (⟨"HullRegister", "enter", "(IIIII)I"⟩, 4) := ⟨⟨by decide +kernel, by decide +kernel⟩, List.mem_of_getElem? (i := 12) (by decide +kernel), List.mem_of_getElem? (i := 425) (by decide +kernel), List.mem_of_getElem? (i := 426) (by decide +kernel)⟩
theorem lw_p18 : lw_okq (⟨"HullRegister$Papers", "seemAlike", "(II)Z"⟩, 12) := ⟨⟨by decide +kernel, by decide +kernel⟩, List.mem_of_getElem? (i := 188) (by decide +kernel), List.mem_of_getElem? (i := 500) (by decide +kernel), List.mem_of_getElem? (i := 501) (by decide +kernel)⟩
theorem lw_p19 : lw_okq (⟨"HullRegister$Papers", "setLike", "(IIZ)V"⟩, 12) := ⟨⟨by decide +kernel, by decide +kernel⟩, List.mem_of_getElem? (i := 188) (by decide +kernel), List.mem_of_getElem? (i := 504) (by decide +kernel), List.mem_of_getElem? (i := 505) (by decide +kernel)⟩
theorem lw_p20 : lw_okq (⟨"HullRegister$Papers", "joinAnew", "()V"⟩, 12) := ⟨⟨by decide +kernel, by decide +kernel⟩, List.mem_of_getElem? (i := 188) (by decide +kernel), List.mem_of_getElem? (i := 508) (by decide +kernel), List.mem_of_getElem? (i := 509) (by decide +kernel)⟩
theorem lw_p21 : lw_okq (⟨"HullRegister$Papers", "placeFrom", "(III)Z"⟩, 12) := ⟨⟨by decide +kernel, by decide +kernel⟩, List.mem_of_getElem? (i := 188) (by decide +kernel), List.mem_of_getElem? (i := 513) (by decide +kernel), List.mem_of_getElem? (i := 514) (by decide +kernel)⟩
theorem lw_p22 : lw_okq (⟨"HullRegister$Papers", "placeInto", "(IIII)Z"⟩, 12) := ⟨⟨by decide +kernel, by decide +kernel⟩, List.mem_of_getElem? (i := 188) (by decide +kernel), List.mem_of_getElem? (i := 520) (by decide +kernel), List.mem_of_getElem? (i := 521) (by decide +kernel)⟩
theorem lw_p23 : lw_okq (⟨"HullRegister$Ledger", "sumOf", "(I)I"⟩, 9) := ⟨⟨by decide +kernel, by decide +kernel⟩, List.mem_of_getElem? (i := 92) (by decide +kernel), List.mem_of_getElem? (i := 590) (by decide +kernel), List.mem_of_getElem? (i := 591) (by decide +kernel)⟩
theorem lw_p24 : lw_okq (⟨"HullRegisterModel", "isGood", "()Z"⟩, 33) := ⟨⟨by decide +kernel, by decide +kernel⟩, List.mem_of_getElem? (i := 614) (by decide +kernel), List.mem_of_getElem? (i := 735) (by decide +kernel), List.mem_of_getElem? (i := 736) (by decide +kernel)⟩
theorem lw_p25 : lw_okq (⟨"HullRegisterModel", "forceOn", "(I)I"⟩, 33) := ⟨⟨by decide +kernel, by decide +kernel⟩, List.mem_of_getElem? (i := 614) (by decide +kernel), List.mem_of_getElem? (i := 749) (by decide +kernel), List.mem_of_getElem? (i := 750) (by decide +kernel)⟩
theorem lw_p26 : lw_okq (⟨"HullRegisterModel", "isAct", "(I)Z"⟩, 33) := ⟨⟨by decide +kernel, by decide +kernel⟩, List.mem_of_getElem? (i := 614) (by decide +kernel), List.mem_of_getElem? (i := 757) (by decide +kernel), List.mem_of_getElem? (i := 758) (by decide +kernel)⟩
theorem lw_p27 : lw_okq (⟨"HullRegisterModel", "tonsBy", "(IIIII)I"⟩, 33) := ⟨⟨by decide +kernel, by decide +kernel⟩, List.mem_of_getElem? (i := 614) (by decide +kernel), List.mem_of_getElem? (i := 764) (by decide +kernel), List.mem_of_getElem? (i := 765) (by decide +kernel)⟩
theorem lw_p28 : lw_okq (⟨"HullRegisterModel", "push", "(J)V"⟩, 33) := ⟨⟨by decide +kernel, by decide +kernel⟩, List.mem_of_getElem? (i := 614) (by decide +kernel), List.mem_of_getElem? (i := 770) (by decide +kernel), List.mem_of_getElem? (i := 771) (by decide +kernel)⟩
theorem lw_p29 : lw_okq (⟨"HullRegisterModel", "combine", "(I)V"⟩, 33) := ⟨⟨by decide +kernel, by decide +kernel⟩, List.mem_of_getElem? (i := 614) (by decide +kernel), List.mem_of_getElem? (i := 778) (by decide +kernel), List.mem_of_getElem? (i := 779) (by decide +kernel)⟩
theorem lw_p30 : lw_okq (⟨"HullRegisterModel", "put", "(IIIII)V"⟩, 33) := ⟨⟨by decide +kernel, by decide +kernel⟩, List.mem_of_getElem? (i := 614) (by decide +kernel), List.mem_of_getElem? (i := 792) (by decide +kernel), List.mem_of_getElem? (i := 793) (by decide +kernel)⟩
theorem lw_p31 : lw_okq (⟨"HullRegisterModel", "isHull", "(I)Z"⟩, 33) := ⟨⟨by decide +kernel, by decide +kernel⟩, List.mem_of_getElem? (i := 614) (by decide +kernel), List.mem_of_getElem? (i := 800) (by decide +kernel), List.mem_of_getElem? (i := 801) (by decide +kernel)⟩
def lw_privs_2 : List (MethodName × Nat) := [(⟨"HullRegister$Acts", "tonsOfShapes", "(I)[I"⟩, 7), (⟨"HullRegister", "enter", "(IIIII)I"⟩, 4), (⟨"HullRegister$Papers", "seemAlike", "(II)Z"⟩, 12), (⟨"HullRegister$Papers", "setLike", "(IIZ)V"⟩, 12), (⟨"HullRegister$Papers", "joinAnew", "()V"⟩, 12), (⟨"HullRegister$Papers", "placeFrom", "(III)Z"⟩, 12), (⟨"HullRegister$Papers", "placeInto", "(IIII)Z"⟩, 12), (⟨"HullRegister$Ledger", "sumOf", "(I)I"⟩, 9), (⟨"HullRegisterModel", "isGood", "()Z"⟩, 33), (⟨"HullRegisterModel", "forceOn", "(I)I"⟩, 33), (⟨"HullRegisterModel", "isAct", "(I)Z"⟩, 33), (⟨"HullRegisterModel", "tonsBy", "(IIIII)I"⟩, 33), (⟨"HullRegisterModel", "push", "(J)V"⟩, 33), (⟨"HullRegisterModel", "combine", "(I)V"⟩, 33), (⟨"HullRegisterModel", "put", "(IIIII)V"⟩, 33), (⟨"HullRegisterModel", "isHull", "(I)Z"⟩, 33)]
theorem lw_r2 : ∀ q ∈ lw_privs_2, lw_okq q := List.forall_mem_cons.mpr ⟨lw_p16, List.forall_mem_cons.mpr ⟨lw_p17, List.forall_mem_cons.mpr ⟨lw_p18, List.forall_mem_cons.mpr ⟨lw_p19, List.forall_mem_cons.mpr ⟨lw_p20, List.forall_mem_cons.mpr ⟨lw_p21, List.forall_mem_cons.mpr ⟨lw_p22, List.forall_mem_cons.mpr ⟨lw_p23, List.forall_mem_cons.mpr ⟨lw_p24, List.forall_mem_cons.mpr ⟨lw_p25, List.forall_mem_cons.mpr ⟨lw_p26, List.forall_mem_cons.mpr ⟨lw_p27, List.forall_mem_cons.mpr ⟨lw_p28, List.forall_mem_cons.mpr ⟨lw_p29, List.forall_mem_cons.mpr ⟨lw_p30, List.forall_mem_cons.mpr ⟨lw_p31, fun _ h => absurd h List.not_mem_nil⟩⟩⟩⟩⟩⟩⟩⟩⟩⟩⟩⟩⟩⟩⟩⟩
theorem lw_p32 : lw_okq (⟨"HullRegisterModel", "deal", "(IIIII)I"⟩, 33) := ⟨⟨by decide +kernel, by decide +kernel⟩, List.mem_of_getElem? (i := 614) (by decide +kernel), List.mem_of_getElem? (i := 816) (by decide +kernel), List.mem_of_getElem? (i := 817) (by decide +kernel)⟩
theorem lw_p33 : lw_okq (⟨"HullRegisterModel", "enter", "(IIIIII)I"⟩, 33) := ⟨⟨by decide +kernel, by decide +kernel⟩, List.mem_of_getElem? (i := 614) (by decide +kernel), List.mem_of_getElem? (i := 823) (by decide +kernel), List.mem_of_getElem? (i := 824) (by decide +kernel)⟩
theorem lw_p34 : lw_okq (⟨"HullRegisterModel", "isEntry", "(I)Z"⟩, 33) := ⟨⟨by decide +kernel, by decide +kernel⟩, List.mem_of_getElem? (i := 614) (by decide +kernel), List.mem_of_getElem? (i := 835) (by decide +kernel), List.mem_of_getElem? (i := 836) (by decide +kernel)⟩
theorem lw_p35 : lw_okq (⟨"HullRegisterModel", "goThrough", "()V"⟩, 33) := ⟨⟨by decide +kernel, by decide +kernel⟩, List.mem_of_getElem? (i := 614) (by decide +kernel), List.mem_of_getElem? (i := 847) (by decide +kernel), List.mem_of_getElem? (i := 848) (by decide +kernel)⟩
theorem lw_p36 : lw_okq (⟨"HullRegisterModel", "does", "(I)V"⟩, 33) := ⟨⟨by decide +kernel, by decide +kernel⟩, List.mem_of_getElem? (i := 614) (by decide +kernel), List.mem_of_getElem? (i := 851) (by decide +kernel), List.mem_of_getElem? (i := 852) (by decide +kernel)⟩
theorem lw_p37 : lw_okq (⟨"HullRegisterModel", "rankOf", "(I)I"⟩, 33) := ⟨⟨by decide +kernel, by decide +kernel⟩, List.mem_of_getElem? (i := 614) (by decide +kernel), List.mem_of_getElem? (i := 855) (by decide +kernel), List.mem_of_getElem? (i := 856) (by decide +kernel)⟩
theorem lw_p38 : lw_okq (⟨"HullRegisterModel", "isPaper", "(I)Z"⟩, 33) := ⟨⟨by decide +kernel, by decide +kernel⟩, List.mem_of_getElem? (i := 614) (by decide +kernel), List.mem_of_getElem? (i := 879) (by decide +kernel), List.mem_of_getElem? (i := 880) (by decide +kernel)⟩
theorem lw_p39 : lw_okq (⟨"HullRegisterModel", "witnessOf", "(II)I"⟩, 33) := ⟨⟨by decide +kernel, by decide +kernel⟩, List.mem_of_getElem? (i := 614) (by decide +kernel), List.mem_of_getElem? (i := 883) (by decide +kernel), List.mem_of_getElem? (i := 884) (by decide +kernel)⟩
theorem lw_p40 : lw_okq (⟨"HullRegisterModel", "areAlike", "(II)Z"⟩, 33) := ⟨⟨by decide +kernel, by decide +kernel⟩, List.mem_of_getElem? (i := 614) (by decide +kernel), List.mem_of_getElem? (i := 891) (by decide +kernel), List.mem_of_getElem? (i := 892) (by decide +kernel)⟩
theorem lw_p41 : lw_okq (⟨"HullRegisterModel", "join", "()I"⟩, 33) := ⟨⟨by decide +kernel, by decide +kernel⟩, List.mem_of_getElem? (i := 614) (by decide +kernel), List.mem_of_getElem? (i := 899) (by decide +kernel), List.mem_of_getElem? (i := 900) (by decide +kernel)⟩
theorem lw_p42 : lw_okq (⟨"HullRegisterModel", "findJoining", "(I)Z"⟩, 33) := ⟨⟨by decide +kernel, by decide +kernel⟩, List.mem_of_getElem? (i := 614) (by decide +kernel), List.mem_of_getElem? (i := 903) (by decide +kernel), List.mem_of_getElem? (i := 904) (by decide +kernel)⟩
theorem lw_p43 : lw_okq (⟨"HullRegisterModel", "mayJoin", "(I)Z"⟩, 33) := ⟨⟨by decide +kernel, by decide +kernel⟩, List.mem_of_getElem? (i := 614) (by decide +kernel), List.mem_of_getElem? (i := 907) (by decide +kernel), List.mem_of_getElem? (i := 908) (by decide +kernel)⟩
theorem lw_p44 : lw_okq (⟨"HullRegisterModel", "entriesThat", "(Z)I"⟩, 33) := ⟨⟨by decide +kernel, by decide +kernel⟩, List.mem_of_getElem? (i := 614) (by decide +kernel), List.mem_of_getElem? (i := 919) (by decide +kernel), List.mem_of_getElem? (i := 920) (by decide +kernel)⟩
theorem lw_p45 : lw_okq (⟨"HullRegisterModel", "standing", "()I"⟩, 33) := ⟨⟨by decide +kernel, by decide +kernel⟩, List.mem_of_getElem? (i := 614) (by decide +kernel), List.mem_of_getElem? (i := 923) (by decide +kernel), List.mem_of_getElem? (i := 924) (by decide +kernel)⟩
def lw_privs_3 : List (MethodName × Nat) := [(⟨"HullRegisterModel", "deal", "(IIIII)I"⟩, 33), (⟨"HullRegisterModel", "enter", "(IIIIII)I"⟩, 33), (⟨"HullRegisterModel", "isEntry", "(I)Z"⟩, 33), (⟨"HullRegisterModel", "goThrough", "()V"⟩, 33), (⟨"HullRegisterModel", "does", "(I)V"⟩, 33), (⟨"HullRegisterModel", "rankOf", "(I)I"⟩, 33), (⟨"HullRegisterModel", "isPaper", "(I)Z"⟩, 33), (⟨"HullRegisterModel", "witnessOf", "(II)I"⟩, 33), (⟨"HullRegisterModel", "areAlike", "(II)Z"⟩, 33), (⟨"HullRegisterModel", "join", "()I"⟩, 33), (⟨"HullRegisterModel", "findJoining", "(I)Z"⟩, 33), (⟨"HullRegisterModel", "mayJoin", "(I)Z"⟩, 33), (⟨"HullRegisterModel", "entriesThat", "(Z)I"⟩, 33), (⟨"HullRegisterModel", "standing", "()I"⟩, 33)]
theorem lw_r3 : ∀ q ∈ lw_privs_3, lw_okq q := List.forall_mem_cons.mpr ⟨lw_p32, List.forall_mem_cons.mpr ⟨lw_p33, List.forall_mem_cons.mpr ⟨lw_p34, List.forall_mem_cons.mpr ⟨lw_p35, List.forall_mem_cons.mpr ⟨lw_p36, List.forall_mem_cons.mpr ⟨lw_p37, List.forall_mem_cons.mpr ⟨lw_p38, List.forall_mem_cons.mpr ⟨lw_p39, List.forall_mem_cons.mpr ⟨lw_p40, List.forall_mem_cons.mpr ⟨lw_p41, List.forall_mem_cons.mpr ⟨lw_p42, List.forall_mem_cons.mpr ⟨lw_p43, List.forall_mem_cons.mpr ⟨lw_p44, List.forall_mem_cons.mpr ⟨lw_p45, fun _ h => absurd h List.not_mem_nil⟩⟩⟩⟩⟩⟩⟩⟩⟩⟩⟩⟩⟩⟩
def lw_privs : List (MethodName × Nat) := lw_privs_1 ++ (lw_privs_2 ++ (lw_privs_3))
def lw_tbl : List Cond := k2_sels lw_privs ++ tables_1
theorem lw_privs_ok : ∀ q ∈ lw_privs, lw_okq q := by
  show ∀ q ∈ lw_privs_1 ++ (lw_privs_2 ++ (lw_privs_3)), lw_okq q
  exact List.forall_mem_append.mpr ⟨lw_r1, List.forall_mem_append.mpr ⟨lw_r2, lw_r3⟩⟩

def RX0 : String := "HullRegister$Acts"
def TX0 : u_T := fun k => match k with
  | 0 => ("HullRegister$Acts", "fed", "[I", true)
  | 1 => ("HullRegister$Acts", "fedCount", "I", false)
  | 2 => ("HullRegister$Acts", "texts", "[[I", true)
  | 3 => ("HullRegister$Acts", "days", "[I", true)
  | 4 => ("HullRegister$Acts", "count", "I", false)
  | 5 => ("HullRegister$Acts", "shapeTons", "[[I", true)
  | _ => ("HullRegister$Acts", "reckoner", "LHullRegister$Reckoner;", true)
def tyX0 : Nat → FieldType := fun k => match k with
  | 0 => .array .int
  | 1 => .int
  | 2 => .array (.array .int)
  | 3 => .array .int
  | 4 => .int
  | 5 => .array (.array .int)
  | _ => .object "HullRegister$Reckoner"
theorem nmX0 : ∀ a, a < 7 → ∀ b, b < 7 → a ≠ b → (TX0 a).2.1 ≠ (TX0 b).2.1 := by decide +kernel
theorem tyX0_ok : ∀ k, k < 7 → parseFieldDescriptor (TX0 k).2.2.1 = some (tyX0 k) := by decide +kernel
abbrev cX0_init : ByteArray := prog_2_method_1_code
def yX0_init : MethodName := ⟨RX0, "<init>", "()V"⟩
abbrev cX0_size : ByteArray := prog_2_method_2_code
def yX0_size : MethodName := ⟨RX0, "size", "()I"⟩
abbrev cX0_has : ByteArray := prog_2_method_3_code
def yX0_has : MethodName := ⟨RX0, "has", "(I)Z"⟩
abbrev cX0_lettersFed : ByteArray := prog_2_method_4_code
def yX0_lettersFed : MethodName := ⟨RX0, "lettersFed", "()I"⟩
abbrev cX0_takeLetters : ByteArray := prog_2_method_5_code
def yX0_takeLetters : MethodName := ⟨RX0, "takeLetters", "(I)I"⟩
abbrev cX0_lettersIn : ByteArray := prog_2_method_6_code
def yX0_lettersIn : MethodName := ⟨RX0, "lettersIn", "(I)I"⟩
abbrev cX0_letterAt : ByteArray := prog_2_method_7_code
def yX0_letterAt : MethodName := ⟨RX0, "letterAt", "(II)I"⟩
abbrev cX0_dropLetters : ByteArray := prog_2_method_8_code
def yX0_dropLetters : MethodName := ⟨RX0, "dropLetters", "()I"⟩
abbrev cX0_enact : ByteArray := prog_2_method_9_code
def yX0_enact : MethodName := ⟨RX0, "enact", "(I)I"⟩
abbrev cX0_onDay : ByteArray := prog_2_method_10_code
def yX0_onDay : MethodName := ⟨RX0, "onDay", "(I)I"⟩
abbrev cX0_tonsBy : ByteArray := prog_2_method_11_code
def yX0_tonsBy : MethodName := ⟨RX0, "tonsBy", "(IIIII)I"⟩
abbrev cX0_ofLeastShape : ByteArray := prog_2_method_12_code
def yX0_ofLeastShape : MethodName := ⟨RX0, "ofLeastShape", "(III)I"⟩
abbrev cX0_tonsOfShapes : ByteArray := prog_2_method_13_code
def yX0_tonsOfShapes : MethodName := ⟨RX0, "tonsOfShapes", "(I)[I"⟩
abbrev cX0_leastShape : ByteArray := prog_2_method_14_code
def yX0_leastShape : MethodName := ⟨RX0, "leastShape", "([II)I"⟩
abbrev cX0_lengthOf : ByteArray := prog_2_method_15_code
def yX0_lengthOf : MethodName := ⟨RX0, "lengthOf", "(I)I"⟩
abbrev cX0_breadthOf : ByteArray := prog_2_method_16_code
def yX0_breadthOf : MethodName := ⟨RX0, "breadthOf", "(I)I"⟩
abbrev cX0_depthOf : ByteArray := prog_2_method_17_code
def yX0_depthOf : MethodName := ⟨RX0, "depthOf", "(I)I"⟩
def RX1 : String := "HullRegister$Hulls"
def TX1 : u_T := fun k => match k with
  | 0 => ("HullRegister$Hulls", "table", "[I", true)
  | _ => ("HullRegister$Hulls", "count", "I", false)
def tyX1 : Nat → FieldType := fun k => match k with
  | 0 => .array .int
  | _ => .int
theorem nmX1 : ∀ a, a < 2 → ∀ b, b < 2 → a ≠ b → (TX1 a).2.1 ≠ (TX1 b).2.1 := by decide +kernel
theorem tyX1_ok : ∀ k, k < 2 → parseFieldDescriptor (TX1 k).2.2.1 = some (tyX1 k) := by decide +kernel
abbrev cX1_init : ByteArray := prog_3_method_1_code
def yX1_init : MethodName := ⟨RX1, "<init>", "()V"⟩
abbrev cX1_size : ByteArray := prog_3_method_2_code
def yX1_size : MethodName := ⟨RX1, "size", "()I"⟩
abbrev cX1_has : ByteArray := prog_3_method_3_code
def yX1_has : MethodName := ⟨RX1, "has", "(I)Z"⟩
abbrev cX1_told : ByteArray := prog_3_method_4_code
def yX1_told : MethodName := ⟨RX1, "told", "(II)I"⟩
abbrev cX1_add : ByteArray := prog_3_method_5_code
def yX1_add : MethodName := ⟨RX1, "add", "(IIII)I"⟩
abbrev cX1_setSizes : ByteArray := prog_3_method_6_code
def yX1_setSizes : MethodName := ⟨RX1, "setSizes", "(IIIII)V"⟩
abbrev cX1_setMeasuring : ByteArray := prog_3_method_7_code
def yX1_setMeasuring : MethodName := ⟨RX1, "setMeasuring", "(IIII)V"⟩
def RX2 : String := "HullRegister$Ledger"
def TX2 : u_T := fun k => match k with
  | 0 => ("HullRegister$Ledger", "table", "[I", true)
  | 1 => ("HullRegister$Ledger", "stands", "[Z", true)
  | 2 => ("HullRegister$Ledger", "count", "I", false)
  | 3 => ("HullRegister$Ledger", "firstAccounts", "[I", true)
  | 4 => ("HullRegister$Ledger", "otherAccounts", "[I", true)
  | 5 => ("HullRegister$Ledger", "owned", "[I", true)
  | 6 => ("HullRegister$Ledger", "pledged", "[I", true)
  | 7 => ("HullRegister$Ledger", "heldInPledge", "[I", true)
  | _ => ("HullRegister$Ledger", "pledges", "[I", true)
def tyX2 : Nat → FieldType := fun k => match k with
  | 0 => .array .int
  | 1 => .array .boolean
  | 2 => .int
  | 3 => .array .int
  | 4 => .array .int
  | 5 => .array .int
  | 6 => .array .int
  | 7 => .array .int
  | _ => .array .int
theorem nmX2 : ∀ a, a < 9 → ∀ b, b < 9 → a ≠ b → (TX2 a).2.1 ≠ (TX2 b).2.1 := by decide +kernel
theorem tyX2_ok : ∀ k, k < 9 → parseFieldDescriptor (TX2 k).2.2.1 = some (tyX2 k) := by decide +kernel
abbrev cX2_init : ByteArray := prog_4_method_1_code
def yX2_init : MethodName := ⟨RX2, "<init>", "()V"⟩
abbrev cX2_size : ByteArray := prog_4_method_2_code
def yX2_size : MethodName := ⟨RX2, "size", "()I"⟩
abbrev cX2_has : ByteArray := prog_4_method_3_code
def yX2_has : MethodName := ⟨RX2, "has", "(I)Z"⟩
abbrev cX2_told : ByteArray := prog_4_method_4_code
def yX2_told : MethodName := ⟨RX2, "told", "(II)I"⟩
abbrev cX2_addRedeem : ByteArray := prog_4_method_5_code
def yX2_addRedeem : MethodName := ⟨RX2, "addRedeem", "(I)I"⟩
abbrev cX2_add : ByteArray := prog_4_method_6_code
def yX2_add : MethodName := ⟨RX2, "add", "(IIIIII)I"⟩
abbrev cX2_markForged : ByteArray := prog_4_method_7_code
def yX2_markForged : MethodName := ⟨RX2, "markForged", "(I)I"⟩
abbrev cX2_allParts : ByteArray := prog_4_method_8_code
def yX2_allParts : MethodName := ⟨RX2, "allParts", "(II)I"⟩
abbrev cX2_freeParts : ByteArray := prog_4_method_9_code
def yX2_freeParts : MethodName := ⟨RX2, "freeParts", "(II)I"⟩
abbrev cX2_partsHeld : ByteArray := prog_4_method_10_code
def yX2_partsHeld : MethodName := ⟨RX2, "partsHeld", "(II)I"⟩
abbrev cX2_greatestOwner : ByteArray := prog_4_method_11_code
def yX2_greatestOwner : MethodName := ⟨RX2, "greatestOwner", "(I)I"⟩
abbrev cX2_forgedEntries : ByteArray := prog_4_method_12_code
def yX2_forgedEntries : MethodName := ⟨RX2, "forgedEntries", "()I"⟩
abbrev cX2_voidEntries : ByteArray := prog_4_method_13_code
def yX2_voidEntries : MethodName := ⟨RX2, "voidEntries", "()I"⟩
abbrev cX2_standingPledges : ByteArray := prog_4_method_14_code
def yX2_standingPledges : MethodName := ⟨RX2, "standingPledges", "()I"⟩
abbrev cX2_sumOf : ByteArray := prog_4_method_15_code
def yX2_sumOf : MethodName := ⟨RX2, "sumOf", "(I)I"⟩
abbrev cX2_put : ByteArray := prog_4_method_16_code
def yX2_put : MethodName := ⟨RX2, "put", "(III)V"⟩
abbrev cX2_isForged : ByteArray := prog_4_method_17_code
def yX2_isForged : MethodName := ⟨RX2, "isForged", "(I)Z"⟩
abbrev cX2_account : ByteArray := prog_4_method_18_code
def yX2_account : MethodName := ⟨RX2, "account", "(II)I"⟩
abbrev cX2_freeOf : ByteArray := prog_4_method_19_code
def yX2_freeOf : MethodName := ⟨RX2, "freeOf", "(I)I"⟩
abbrev cX2_goThrough : ByteArray := prog_4_method_20_code
def yX2_goThrough : MethodName := ⟨RX2, "goThrough", "()V"⟩
abbrev cX2_beginAnew : ByteArray := prog_4_method_21_code
def yX2_beginAnew : MethodName := ⟨RX2, "beginAnew", "()V"⟩
abbrev cX2_takesEffect : ByteArray := prog_4_method_22_code
def yX2_takesEffect : MethodName := ⟨RX2, "takesEffect", "(I)Z"⟩
abbrev cX2_bringParts : ByteArray := prog_4_method_23_code
def yX2_bringParts : MethodName := ⟨RX2, "bringParts", "(I)Z"⟩
abbrev cX2_beginPledge : ByteArray := prog_4_method_24_code
def yX2_beginPledge : MethodName := ⟨RX2, "beginPledge", "(I)Z"⟩
abbrev cX2_endPledge : ByteArray := prog_4_method_25_code
def yX2_endPledge : MethodName := ⟨RX2, "endPledge", "(I)Z"⟩
abbrev cX2_setStanding : ByteArray := prog_4_method_26_code
def yX2_setStanding : MethodName := ⟨RX2, "setStanding", "(IZ)V"⟩
abbrev cX2_rankPledges : ByteArray := prog_4_method_27_code
def yX2_rankPledges : MethodName := ⟨RX2, "rankPledges", "()V"⟩
def RX3 : String := "HullRegister$Papers"
def TX3 : u_T := fun k => match k with
  | 0 => ("HullRegister$Papers", "firstDays", "[I", true)
  | 1 => ("HullRegister$Papers", "lastDays", "[I", true)
  | 2 => ("HullRegister$Papers", "leastLengths", "[I", true)
  | 3 => ("HullRegister$Papers", "mostLengths", "[I", true)
  | 4 => ("HullRegister$Papers", "marks", "[I", true)
  | 5 => ("HullRegister$Papers", "count", "I", false)
  | 6 => ("HullRegister$Papers", "likes", "[I", true)
  | 7 => ("HullRegister$Papers", "witnessed", "[I", true)
  | 8 => ("HullRegister$Papers", "witnessCount", "I", false)
  | 9 => ("HullRegister$Papers", "groupOf", "[I", true)
  | 10 => ("HullRegister$Papers", "members", "[I", true)
  | _ => ("HullRegister$Papers", "groupCount", "I", false)
def tyX3 : Nat → FieldType := fun k => match k with
  | 0 => .array .int
  | 1 => .array .int
  | 2 => .array .int
  | 3 => .array .int
  | 4 => .array .int
  | 5 => .int
  | 6 => .array .int
  | 7 => .array .int
  | 8 => .int
  | 9 => .array .int
  | 10 => .array .int
  | _ => .int
theorem nmX3 : ∀ a, a < 12 → ∀ b, b < 12 → a ≠ b → (TX3 a).2.1 ≠ (TX3 b).2.1 := by decide +kernel
theorem tyX3_ok : ∀ k, k < 12 → parseFieldDescriptor (TX3 k).2.2.1 = some (tyX3 k) := by decide +kernel
abbrev cX3_init : ByteArray := prog_5_method_1_code
def yX3_init : MethodName := ⟨RX3, "<init>", "()V"⟩
abbrev cX3_size : ByteArray := prog_5_method_2_code
def yX3_size : MethodName := ⟨RX3, "size", "()I"⟩
abbrev cX3_witnesses : ByteArray := prog_5_method_3_code
def yX3_witnesses : MethodName := ⟨RX3, "witnesses", "()I"⟩
abbrev cX3_has : ByteArray := prog_5_method_4_code
def yX3_has : MethodName := ⟨RX3, "has", "(I)Z"⟩
abbrev cX3_areTwo : ByteArray := prog_5_method_5_code
def yX3_areTwo : MethodName := ⟨RX3, "areTwo", "(II)Z"⟩
abbrev cX3_mayBeOne : ByteArray := prog_5_method_6_code
def yX3_mayBeOne : MethodName := ⟨RX3, "mayBeOne", "(II)Z"⟩
abbrev cX3_joinedGroup : ByteArray := prog_5_method_7_code
def yX3_joinedGroup : MethodName := ⟨RX3, "joinedGroup", "(I)I"⟩
abbrev cX3_joinedGroups : ByteArray := prog_5_method_8_code
def yX3_joinedGroups : MethodName := ⟨RX3, "joinedGroups", "()I"⟩
abbrev cX3_add : ByteArray := prog_5_method_9_code
def yX3_add : MethodName := ⟨RX3, "add", "(IIIII)I"⟩
abbrev cX3_hear : ByteArray := prog_5_method_10_code
def yX3_hear : MethodName := ⟨RX3, "hear", "(IIZ)I"⟩
abbrev cX3_isIn : ByteArray := prog_5_method_11_code
def yX3_isIn : MethodName := ⟨RX3, "isIn", "(II)Z"⟩
abbrev cX3_setLike : ByteArray := prog_5_method_12_code
def yX3_setLike : MethodName := ⟨RX3, "setLike", "(IIZ)V"⟩
abbrev cX3_seemAlike : ByteArray := prog_5_method_13_code
def yX3_seemAlike : MethodName := ⟨RX3, "seemAlike", "(II)Z"⟩
abbrev cX3_joinAnew : ByteArray := prog_5_method_14_code
def yX3_joinAnew : MethodName := ⟨RX3, "joinAnew", "()V"⟩
abbrev cX3_placeFrom : ByteArray := prog_5_method_15_code
def yX3_placeFrom : MethodName := ⟨RX3, "placeFrom", "(III)Z"⟩
abbrev cX3_placeInto : ByteArray := prog_5_method_16_code
def yX3_placeInto : MethodName := ⟨RX3, "placeInto", "(IIII)Z"⟩
def RX4 : String := "HullRegister$Reckoner"
def TX4 : u_T := fun k => match k with
  | 0 => ("HullRegister$Reckoner", "pile", "[I", true)
  | 1 => ("HullRegister$Reckoner", "height", "I", false)
  | 2 => ("HullRegister$Reckoner", "figures", "I", false)
  | 3 => ("HullRegister$Reckoner", "length", "I", false)
  | 4 => ("HullRegister$Reckoner", "breadth", "I", false)
  | 5 => ("HullRegister$Reckoner", "depth", "I", false)
  | _ => ("HullRegister$Reckoner", "rooms", "I", false)
def tyX4 : Nat → FieldType := fun k => match k with
  | 0 => .array .int
  | 1 => .int
  | 2 => .int
  | 3 => .int
  | 4 => .int
  | 5 => .int
  | _ => .int
theorem nmX4 : ∀ a, a < 7 → ∀ b, b < 7 → a ≠ b → (TX4 a).2.1 ≠ (TX4 b).2.1 := by decide +kernel
theorem tyX4_ok : ∀ k, k < 7 → parseFieldDescriptor (TX4 k).2.2.1 = some (tyX4 k) := by decide +kernel
abbrev cX4_init : ByteArray := prog_6_method_1_code
def yX4_init : MethodName := ⟨RX4, "<init>", "()V"⟩
abbrev cX4_setSizes : ByteArray := prog_6_method_2_code
def yX4_setSizes : MethodName := ⟨RX4, "setSizes", "(IIII)V"⟩
abbrev cX4_reckon : ByteArray := prog_6_method_3_code
def yX4_reckon : MethodName := ⟨RX4, "reckon", "([I)I"⟩
abbrev cX4_read : ByteArray := prog_6_method_4_code
def yX4_read : MethodName := ⟨RX4, "read", "(I)Z"⟩
abbrev cX4_readFigure : ByteArray := prog_6_method_5_code
def yX4_readFigure : MethodName := ⟨RX4, "readFigure", "(I)Z"⟩
abbrev cX4_push : ByteArray := prog_6_method_6_code
def yX4_push : MethodName := ⟨RX4, "push", "(I)Z"⟩
abbrev cX4_liftToZero : ByteArray := prog_6_method_7_code
def yX4_liftToZero : MethodName := ⟨RX4, "liftToZero", "()Z"⟩
abbrev cX4_joinTwo : ByteArray := prog_6_method_8_code
def yX4_joinTwo : MethodName := ⟨RX4, "joinTwo", "(I)Z"⟩
abbrev cX4_joined : ByteArray := prog_6_method_9_code
def yX4_joined : MethodName := ⟨RX4, "joined", "(IJJ)J"⟩
abbrev cX4_bounded : ByteArray := prog_6_method_10_code
def yX4_bounded : MethodName := ⟨RX4, "bounded", "(J)I"⟩
def RX5 : String := "HullRegister"
def TX5 : u_T := fun k => match k with
  | 0 => ("HullRegister", "acts", "LHullRegister$Acts;", true)
  | 1 => ("HullRegister", "hulls", "LHullRegister$Hulls;", true)
  | 2 => ("HullRegister", "ledger", "LHullRegister$Ledger;", true)
  | _ => ("HullRegister", "papers", "LHullRegister$Papers;", true)
def tyX5 : Nat → FieldType := fun k => match k with
  | 0 => .object "HullRegister$Acts"
  | 1 => .object "HullRegister$Hulls"
  | 2 => .object "HullRegister$Ledger"
  | _ => .object "HullRegister$Papers"
theorem nmX5 : ∀ a, a < 4 → ∀ b, b < 4 → a ≠ b → (TX5 a).2.1 ≠ (TX5 b).2.1 := by decide +kernel
theorem tyX5_ok : ∀ k, k < 4 → parseFieldDescriptor (TX5 k).2.2.1 = some (tyX5 k) := by decide +kernel
abbrev cX5_init : ByteArray := prog_1_method_1_code
def yX5_init : MethodName := ⟨RX5, "<init>", "()V"⟩
abbrev cX5_feed : ByteArray := prog_1_method_2_code
def yX5_feed : MethodName := ⟨RX5, "feed", "(I)I"⟩
abbrev cX5_scrap : ByteArray := prog_1_method_3_code
def yX5_scrap : MethodName := ⟨RX5, "scrap", "()I"⟩
abbrev cX5_act : ByteArray := prog_1_method_4_code
def yX5_act : MethodName := ⟨RX5, "act", "(I)I"⟩
abbrev cX5_inForce : ByteArray := prog_1_method_5_code
def yX5_inForce : MethodName := ⟨RX5, "inForce", "(I)I"⟩
abbrev cX5_tons : ByteArray := prog_1_method_6_code
def yX5_tons : MethodName := ⟨RX5, "tons", "(IIIII)I"⟩
abbrev cX5_shape : ByteArray := prog_1_method_7_code
def yX5_shape : MethodName := ⟨RX5, "shape", "(III)I"⟩
abbrev cX5_hull : ByteArray := prog_1_method_8_code
def yX5_hull : MethodName := ⟨RX5, "hull", "(IIII)I"⟩
abbrev cX5_alter : ByteArray := prog_1_method_9_code
def yX5_alter : MethodName := ⟨RX5, "alter", "(IIIII)I"⟩
abbrev cX5_measure : ByteArray := prog_1_method_10_code
def yX5_measure : MethodName := ⟨RX5, "measure", "(II)I"⟩
abbrev cX5_of : ByteArray := prog_1_method_11_code
def yX5_of : MethodName := ⟨RX5, "of", "(II)I"⟩
abbrev cX5_sell : ByteArray := prog_1_method_12_code
def yX5_sell : MethodName := ⟨RX5, "sell", "(IIII)I"⟩
abbrev cX5_pledge : ByteArray := prog_1_method_13_code
def yX5_pledge : MethodName := ⟨RX5, "pledge", "(IIII)I"⟩
abbrev cX5_redeem : ByteArray := prog_1_method_14_code
def yX5_redeem : MethodName := ⟨RX5, "redeem", "(I)I"⟩
abbrev cX5_forge : ByteArray := prog_1_method_15_code
def yX5_forge : MethodName := ⟨RX5, "forge", "(I)I"⟩
abbrev cX5_entry : ByteArray := prog_1_method_16_code
def yX5_entry : MethodName := ⟨RX5, "entry", "(II)I"⟩
abbrev cX5_parts : ByteArray := prog_1_method_17_code
def yX5_parts : MethodName := ⟨RX5, "parts", "(IIZ)I"⟩
abbrev cX5_manager : ByteArray := prog_1_method_18_code
def yX5_manager : MethodName := ⟨RX5, "manager", "(I)I"⟩
abbrev cX5_held : ByteArray := prog_1_method_19_code
def yX5_held : MethodName := ⟨RX5, "held", "(II)I"⟩
abbrev cX5_paper : ByteArray := prog_1_method_20_code
def yX5_paper : MethodName := ⟨RX5, "paper", "(IIIII)I"⟩
abbrev cX5_witness : ByteArray := prog_1_method_21_code
def yX5_witness : MethodName := ⟨RX5, "witness", "(IIZ)I"⟩
abbrev cX5_alike : ByteArray := prog_1_method_22_code
def yX5_alike : MethodName := ⟨RX5, "alike", "(II)I"⟩
abbrev cX5_group : ByteArray := prog_1_method_23_code
def yX5_group : MethodName := ⟨RX5, "group", "(I)I"⟩
abbrev cX5_groups : ByteArray := prog_1_method_24_code
def yX5_groups : MethodName := ⟨RX5, "groups", "()I"⟩
abbrev cX5_many : ByteArray := prog_1_method_25_code
def yX5_many : MethodName := ⟨RX5, "many", "(I)I"⟩
abbrev cX5_enter : ByteArray := prog_1_method_26_code
def yX5_enter : MethodName := ⟨RX5, "enter", "(IIIII)I"⟩
abbrev cX5_isWithin : ByteArray := prog_1_method_27_code
def yX5_isWithin : MethodName := ⟨RX5, "isWithin", "(III)Z"⟩
abbrev cX5_isDay : ByteArray := prog_1_method_28_code
def yX5_isDay : MethodName := ⟨RX5, "isDay", "(I)Z"⟩
abbrev cX5_isMeasure : ByteArray := prog_1_method_29_code
def yX5_isMeasure : MethodName := ⟨RX5, "isMeasure", "(I)Z"⟩
abbrev cX5_areSizes : ByteArray := prog_1_method_30_code
def yX5_areSizes : MethodName := ⟨RX5, "areSizes", "(IIII)Z"⟩
abbrev cX5_isPerson : ByteArray := prog_1_method_31_code
def yX5_isPerson : MethodName := ⟨RX5, "isPerson", "(I)Z"⟩
def RX6 : String := "HullRegisterModel"
def TX6 : u_T := fun k => match k with
  | 0 => ("HullRegisterModel", "fed", "I", false)
  | 1 => ("HullRegisterModel", "letters", "[I", true)
  | 2 => ("HullRegisterModel", "acts", "I", false)
  | 3 => ("HullRegisterModel", "actDay", "[I", true)
  | 4 => ("HullRegisterModel", "actLength", "[I", true)
  | 5 => ("HullRegisterModel", "text", "[I", true)
  | 6 => ("HullRegisterModel", "hulls", "I", false)
  | 7 => ("HullRegisterModel", "sizes", "[I", true)
  | 8 => ("HullRegisterModel", "tonsOf", "[I", true)
  | 9 => ("HullRegisterModel", "measuredOn", "[I", true)
  | 10 => ("HullRegisterModel", "measuredBy", "[I", true)
  | 11 => ("HullRegisterModel", "entries", "I", false)
  | 12 => ("HullRegisterModel", "kindOf", "[I", true)
  | 13 => ("HullRegisterModel", "hullOf", "[I", true)
  | 14 => ("HullRegisterModel", "oneOf", "[I", true)
  | 15 => ("HullRegisterModel", "otherOf", "[I", true)
  | 16 => ("HullRegisterModel", "manyOf", "[I", true)
  | 17 => ("HullRegisterModel", "pledgeOf", "[I", true)
  | 18 => ("HullRegisterModel", "isForged", "[Z", true)
  | 19 => ("HullRegisterModel", "papers", "I", false)
  | 20 => ("HullRegisterModel", "paper", "[I", true)
  | 21 => ("HullRegisterModel", "witnesses", "I", false)
  | 22 => ("HullRegisterModel", "witnessA", "[I", true)
  | 23 => ("HullRegisterModel", "witnessB", "[I", true)
  | 24 => ("HullRegisterModel", "saysYes", "[Z", true)
  | 25 => ("HullRegisterModel", "pile", "[I", true)
  | 26 => ("HullRegisterModel", "deep", "I", false)
  | 27 => ("HullRegisterModel", "has", "[I", true)
  | 28 => ("HullRegisterModel", "bound", "[I", true)
  | 29 => ("HullRegisterModel", "stands", "[Z", true)
  | 30 => ("HullRegisterModel", "isVoid", "[Z", true)
  | 31 => ("HullRegisterModel", "groupOf", "[I", true)
  | _ => ("HullRegisterModel", "used", "[I", true)
def tyX6 : Nat → FieldType := fun k => match k with
  | 0 => .int
  | 1 => .array .int
  | 2 => .int
  | 3 => .array .int
  | 4 => .array .int
  | 5 => .array .int
  | 6 => .int
  | 7 => .array .int
  | 8 => .array .int
  | 9 => .array .int
  | 10 => .array .int
  | 11 => .int
  | 12 => .array .int
  | 13 => .array .int
  | 14 => .array .int
  | 15 => .array .int
  | 16 => .array .int
  | 17 => .array .int
  | 18 => .array .boolean
  | 19 => .int
  | 20 => .array .int
  | 21 => .int
  | 22 => .array .int
  | 23 => .array .int
  | 24 => .array .boolean
  | 25 => .array .int
  | 26 => .int
  | 27 => .array .int
  | 28 => .array .int
  | 29 => .array .boolean
  | 30 => .array .boolean
  | 31 => .array .int
  | _ => .array .int
theorem nmX6 : ∀ a, a < 33 → ∀ b, b < 33 → a ≠ b → (TX6 a).2.1 ≠ (TX6 b).2.1 := by decide +kernel
theorem tyX6_ok : ∀ k, k < 33 → parseFieldDescriptor (TX6 k).2.2.1 = some (tyX6 k) := by decide +kernel
abbrev cX6_init : ByteArray := prog_8_method_1_code
def yX6_init : MethodName := ⟨RX6, "<init>", "()V"⟩
abbrev cX6_in : ByteArray := prog_8_method_2_code
def yX6_in : MethodName := ⟨RX6, "in", "(III)Z"⟩
abbrev cX6_feed : ByteArray := prog_8_method_3_code
def yX6_feed : MethodName := ⟨RX6, "feed", "(I)I"⟩
abbrev cX6_scrap : ByteArray := prog_8_method_4_code
def yX6_scrap : MethodName := ⟨RX6, "scrap", "()I"⟩
abbrev cX6_isFigure : ByteArray := prog_8_method_5_code
def yX6_isFigure : MethodName := ⟨RX6, "isFigure", "(I)Z"⟩
abbrev cX6_takes : ByteArray := prog_8_method_6_code
def yX6_takes : MethodName := ⟨RX6, "takes", "(I)I"⟩
abbrev cX6_isGood : ByteArray := prog_8_method_7_code
def yX6_isGood : MethodName := ⟨RX6, "isGood", "()Z"⟩
abbrev cX6_act : ByteArray := prog_8_method_8_code
def yX6_act : MethodName := ⟨RX6, "act", "(I)I"⟩
abbrev cX6_isAct : ByteArray := prog_8_method_9_code
def yX6_isAct : MethodName := ⟨RX6, "isAct", "(I)Z"⟩
abbrev cX6_forceOn : ByteArray := prog_8_method_10_code
def yX6_forceOn : MethodName := ⟨RX6, "forceOn", "(I)I"⟩
abbrev cX6_inForce : ByteArray := prog_8_method_11_code
def yX6_inForce : MethodName := ⟨RX6, "inForce", "(I)I"⟩
abbrev cX6_push : ByteArray := prog_8_method_12_code
def yX6_push : MethodName := ⟨RX6, "push", "(J)V"⟩
abbrev cX6_combine : ByteArray := prog_8_method_13_code
def yX6_combine : MethodName := ⟨RX6, "combine", "(I)V"⟩
abbrev cX6_tonsBy : ByteArray := prog_8_method_14_code
def yX6_tonsBy : MethodName := ⟨RX6, "tonsBy", "(IIIII)I"⟩
abbrev cX6_areSizes : ByteArray := prog_8_method_15_code
def yX6_areSizes : MethodName := ⟨RX6, "areSizes", "(IIII)Z"⟩
abbrev cX6_tons : ByteArray := prog_8_method_16_code
def yX6_tons : MethodName := ⟨RX6, "tons", "(IIIII)I"⟩
abbrev cX6_shape : ByteArray := prog_8_method_17_code
def yX6_shape : MethodName := ⟨RX6, "shape", "(III)I"⟩
abbrev cX6_isHull : ByteArray := prog_8_method_18_code
def yX6_isHull : MethodName := ⟨RX6, "isHull", "(I)Z"⟩
abbrev cX6_put : ByteArray := prog_8_method_19_code
def yX6_put : MethodName := ⟨RX6, "put", "(IIIII)V"⟩
abbrev cX6_hull : ByteArray := prog_8_method_20_code
def yX6_hull : MethodName := ⟨RX6, "hull", "(IIII)I"⟩
abbrev cX6_alter : ByteArray := prog_8_method_21_code
def yX6_alter : MethodName := ⟨RX6, "alter", "(IIIII)I"⟩
abbrev cX6_measure : ByteArray := prog_8_method_22_code
def yX6_measure : MethodName := ⟨RX6, "measure", "(II)I"⟩
abbrev cX6_of : ByteArray := prog_8_method_23_code
def yX6_of : MethodName := ⟨RX6, "of", "(II)I"⟩
abbrev cX6_isPerson : ByteArray := prog_8_method_24_code
def yX6_isPerson : MethodName := ⟨RX6, "isPerson", "(I)Z"⟩
abbrev cX6_isEntry : ByteArray := prog_8_method_25_code
def yX6_isEntry : MethodName := ⟨RX6, "isEntry", "(I)Z"⟩
abbrev cX6_enter : ByteArray := prog_8_method_26_code
def yX6_enter : MethodName := ⟨RX6, "enter", "(IIIIII)I"⟩
abbrev cX6_deal : ByteArray := prog_8_method_27_code
def yX6_deal : MethodName := ⟨RX6, "deal", "(IIIII)I"⟩
abbrev cX6_sell : ByteArray := prog_8_method_28_code
def yX6_sell : MethodName := ⟨RX6, "sell", "(IIII)I"⟩
abbrev cX6_pledge : ByteArray := prog_8_method_29_code
def yX6_pledge : MethodName := ⟨RX6, "pledge", "(IIII)I"⟩
abbrev cX6_redeem : ByteArray := prog_8_method_30_code
def yX6_redeem : MethodName := ⟨RX6, "redeem", "(I)I"⟩
abbrev cX6_forge : ByteArray := prog_8_method_31_code
def yX6_forge : MethodName := ⟨RX6, "forge", "(I)I"⟩
abbrev cX6_goThrough : ByteArray := prog_8_method_32_code
def yX6_goThrough : MethodName := ⟨RX6, "goThrough", "()V"⟩
abbrev cX6_does : ByteArray := prog_8_method_33_code
def yX6_does : MethodName := ⟨RX6, "does", "(I)V"⟩
abbrev cX6_rankOf : ByteArray := prog_8_method_34_code
def yX6_rankOf : MethodName := ⟨RX6, "rankOf", "(I)I"⟩
abbrev cX6_entry : ByteArray := prog_8_method_35_code
def yX6_entry : MethodName := ⟨RX6, "entry", "(II)I"⟩
abbrev cX6_parts : ByteArray := prog_8_method_36_code
def yX6_parts : MethodName := ⟨RX6, "parts", "(IIZ)I"⟩
abbrev cX6_manager : ByteArray := prog_8_method_37_code
def yX6_manager : MethodName := ⟨RX6, "manager", "(I)I"⟩
abbrev cX6_held : ByteArray := prog_8_method_38_code
def yX6_held : MethodName := ⟨RX6, "held", "(II)I"⟩
abbrev cX6_isPaper : ByteArray := prog_8_method_39_code
def yX6_isPaper : MethodName := ⟨RX6, "isPaper", "(I)Z"⟩
abbrev cX6_paper : ByteArray := prog_8_method_40_code
def yX6_paper : MethodName := ⟨RX6, "paper", "(IIIII)I"⟩
abbrev cX6_witnessOf : ByteArray := prog_8_method_41_code
def yX6_witnessOf : MethodName := ⟨RX6, "witnessOf", "(II)I"⟩
abbrev cX6_witness : ByteArray := prog_8_method_42_code
def yX6_witness : MethodName := ⟨RX6, "witness", "(IIZ)I"⟩
abbrev cX6_areAlike : ByteArray := prog_8_method_43_code
def yX6_areAlike : MethodName := ⟨RX6, "areAlike", "(II)Z"⟩
abbrev cX6_alike : ByteArray := prog_8_method_44_code
def yX6_alike : MethodName := ⟨RX6, "alike", "(II)I"⟩
abbrev cX6_mayJoin : ByteArray := prog_8_method_45_code
def yX6_mayJoin : MethodName := ⟨RX6, "mayJoin", "(I)Z"⟩
abbrev cX6_findJoining : ByteArray := prog_8_method_46_code
def yX6_findJoining : MethodName := ⟨RX6, "findJoining", "(I)Z"⟩
abbrev cX6_join : ByteArray := prog_8_method_47_code
def yX6_join : MethodName := ⟨RX6, "join", "()I"⟩
abbrev cX6_group : ByteArray := prog_8_method_48_code
def yX6_group : MethodName := ⟨RX6, "group", "(I)I"⟩
abbrev cX6_groups : ByteArray := prog_8_method_49_code
def yX6_groups : MethodName := ⟨RX6, "groups", "()I"⟩
abbrev cX6_entriesThat : ByteArray := prog_8_method_50_code
def yX6_entriesThat : MethodName := ⟨RX6, "entriesThat", "(Z)I"⟩
abbrev cX6_standing : ByteArray := prog_8_method_51_code
def yX6_standing : MethodName := ⟨RX6, "standing", "()I"⟩
abbrev cX6_many : ByteArray := prog_8_method_52_code
def yX6_many : MethodName := ⟨RX6, "many", "(I)I"⟩
def RJ9 : String := "java/lang/Math"
def TJ9 : u_T := fun k => match k with
  | _ => ("", "", "", false)
def tyJ9 : Nat → FieldType := fun k => match k with
  | _ => .int
abbrev cJ9_max_7cf53 : ByteArray := prog_9_method_65_code
def yJ9_max_7cf53 : MethodName := ⟨RJ9, "max", "(II)I"⟩
abbrev cJ9_min_7cf53 : ByteArray := prog_9_method_69_code
def yJ9_min_7cf53 : MethodName := ⟨RJ9, "min", "(II)I"⟩
def RJ10 : String := "java/lang/System"
def TJ10 : u_T := fun k => match k with
  | _ => ("", "", "", false)
def tyJ10 : Nat → FieldType := fun k => match k with
  | _ => .int
def RJ7 : String := "java/util/Arrays"
def TJ7 : u_T := fun k => match k with
  | _ => ("", "", "", false)
def tyJ7 : Nat → FieldType := fun k => match k with
  | _ => .int
abbrev cJ7_fill_53178 : ByteArray := prog_11_method_103_code
def yJ7_fill_53178 : MethodName := ⟨RJ7, "fill", "([II)V"⟩
def RL : String := "HullRegisterLaw"
abbrev cL_law : ByteArray := code
def yL_law : MethodName := ⟨RL, "law", "([I)Z"⟩
set_option maxRecDepth 20000 in
theorem innX0 : ∀ w ∈ u_ws RX0 TX0 7, w ∈ lw_tbl := by decide +kernel
set_option maxRecDepth 20000 in
theorem innX1 : ∀ w ∈ u_ws RX1 TX1 2, w ∈ lw_tbl := by decide +kernel
set_option maxRecDepth 20000 in
theorem innX2 : ∀ w ∈ u_ws RX2 TX2 9, w ∈ lw_tbl := by decide +kernel
set_option maxRecDepth 20000 in
theorem innX3 : ∀ w ∈ u_ws RX3 TX3 12, w ∈ lw_tbl := by decide +kernel
set_option maxRecDepth 20000 in
theorem innX4 : ∀ w ∈ u_ws RX4 TX4 7, w ∈ lw_tbl := by decide +kernel
set_option maxRecDepth 20000 in
theorem innX5 : ∀ w ∈ u_ws RX5 TX5 4, w ∈ lw_tbl := by decide +kernel
set_option maxRecDepth 20000 in
theorem innX6 : ∀ w ∈ u_ws RX6 TX6 33, w ∈ lw_tbl := by decide +kernel
end
section
theorem dJ7_fill_53178_0 : decode cJ7_fill_53178 0 = .ok (.iconst 0, 1) := by decide +kernel
theorem dJ7_fill_53178_1 : decode cJ7_fill_53178 1 = .ok (.istore_n 2, 1) := by decide +kernel
theorem dJ7_fill_53178_2 : decode cJ7_fill_53178 2 = .ok (.aload_n 0, 1) := by decide +kernel
theorem dJ7_fill_53178_3 : decode cJ7_fill_53178 3 = .ok (.arraylength, 1) := by decide +kernel
theorem dJ7_fill_53178_4 : decode cJ7_fill_53178 4 = .ok (.istore_n 3, 1) := by decide +kernel
theorem dJ7_fill_53178_5 : decode cJ7_fill_53178 5 = .ok (.iload_n 2, 1) := by decide +kernel
theorem dJ7_fill_53178_6 : decode cJ7_fill_53178 6 = .ok (.iload_n 3, 1) := by decide +kernel
theorem dJ7_fill_53178_7 : decode cJ7_fill_53178 7 = .ok (.if_icmp .ge 13, 3) := by decide +kernel
theorem dJ7_fill_53178_10 : decode cJ7_fill_53178 10 = .ok (.aload_n 0, 1) := by decide +kernel
theorem dJ7_fill_53178_11 : decode cJ7_fill_53178 11 = .ok (.iload_n 2, 1) := by decide +kernel
theorem dJ7_fill_53178_12 : decode cJ7_fill_53178 12 = .ok (.iload_n 1, 1) := by decide +kernel
theorem dJ7_fill_53178_13 : decode cJ7_fill_53178 13 = .ok (.iastore, 1) := by decide +kernel
theorem dJ7_fill_53178_14 : decode cJ7_fill_53178 14 = .ok (.iinc 2 1, 3) := by decide +kernel
theorem dJ7_fill_53178_17 : decode cJ7_fill_53178 17 = .ok (.goto (-12), 3) := by decide +kernel
theorem dJ7_fill_53178_20 : decode cJ7_fill_53178 20 = .ok (.return_, 1) := by decide +kernel
theorem dJ9_max_7cf53_0 : decode cJ9_max_7cf53 0 = .ok (.iload_n 0, 1) := by decide +kernel
theorem dJ9_max_7cf53_1 : decode cJ9_max_7cf53 1 = .ok (.iload_n 1, 1) := by decide +kernel
theorem dJ9_max_7cf53_2 : decode cJ9_max_7cf53 2 = .ok (.if_icmp .lt 7, 3) := by decide +kernel
theorem dJ9_max_7cf53_5 : decode cJ9_max_7cf53 5 = .ok (.iload_n 0, 1) := by decide +kernel
theorem dJ9_max_7cf53_6 : decode cJ9_max_7cf53 6 = .ok (.goto 4, 3) := by decide +kernel
theorem dJ9_max_7cf53_9 : decode cJ9_max_7cf53 9 = .ok (.iload_n 1, 1) := by decide +kernel
theorem dJ9_max_7cf53_10 : decode cJ9_max_7cf53 10 = .ok (.ireturn, 1) := by decide +kernel
theorem dJ9_min_7cf53_0 : decode cJ9_min_7cf53 0 = .ok (.iload_n 0, 1) := by decide +kernel
theorem dJ9_min_7cf53_1 : decode cJ9_min_7cf53 1 = .ok (.iload_n 1, 1) := by decide +kernel
theorem dJ9_min_7cf53_2 : decode cJ9_min_7cf53 2 = .ok (.if_icmp .gt 7, 3) := by decide +kernel
theorem dJ9_min_7cf53_5 : decode cJ9_min_7cf53 5 = .ok (.iload_n 0, 1) := by decide +kernel
theorem dJ9_min_7cf53_6 : decode cJ9_min_7cf53 6 = .ok (.goto 4, 3) := by decide +kernel
theorem dJ9_min_7cf53_9 : decode cJ9_min_7cf53 9 = .ok (.iload_n 1, 1) := by decide +kernel
theorem dJ9_min_7cf53_10 : decode cJ9_min_7cf53 10 = .ok (.ireturn, 1) := by decide +kernel
theorem dX0_init_0 : decode cX0_init 0 = .ok (.aload_n 0, 1) := by decide +kernel
theorem dX0_init_1 : decode cX0_init 1 = .ok (.invokespecial 5, 3) := by decide +kernel
theorem dX0_init_4 : decode cX0_init 4 = .ok (.aload_n 0, 1) := by decide +kernel
theorem dX0_init_5 : decode cX0_init 5 = .ok (.bipush 40, 2) := by decide +kernel
theorem dX0_init_7 : decode cX0_init 7 = .ok (.newarray .int, 2) := by decide +kernel
theorem dX0_init_9 : decode cX0_init 9 = .ok (.putfield 13, 3) := by decide +kernel
theorem dX0_init_12 : decode cX0_init 12 = .ok (.aload_n 0, 1) := by decide +kernel
theorem dX0_init_13 : decode cX0_init 13 = .ok (.iconst 5, 1) := by decide +kernel
theorem dX0_init_14 : decode cX0_init 14 = .ok (.bipush 40, 2) := by decide +kernel
theorem dX0_init_16 : decode cX0_init 16 = .ok (.multianewarray 17 2, 4) := by decide +kernel
theorem dX0_init_20 : decode cX0_init 20 = .ok (.putfield 19, 3) := by decide +kernel
theorem dX0_init_23 : decode cX0_init 23 = .ok (.aload_n 0, 1) := by decide +kernel
theorem dX0_init_24 : decode cX0_init 24 = .ok (.iconst 5, 1) := by decide +kernel
theorem dX0_init_25 : decode cX0_init 25 = .ok (.newarray .int, 2) := by decide +kernel
theorem dX0_init_27 : decode cX0_init 27 = .ok (.putfield 22, 3) := by decide +kernel
theorem dX0_init_30 : decode cX0_init 30 = .ok (.aload_n 0, 1) := by decide +kernel
theorem dX0_init_31 : decode cX0_init 31 = .ok (.iconst 5, 1) := by decide +kernel
theorem dX0_init_32 : decode cX0_init 32 = .ok (.iconst 0, 1) := by decide +kernel
theorem dX0_init_33 : decode cX0_init 33 = .ok (.multianewarray 17 2, 4) := by decide +kernel
theorem dX0_init_37 : decode cX0_init 37 = .ok (.putfield 25, 3) := by decide +kernel
theorem dX0_init_40 : decode cX0_init 40 = .ok (.aload_n 0, 1) := by decide +kernel
theorem dX0_init_41 : decode cX0_init 41 = .ok (.new 11, 3) := by decide +kernel
theorem dX0_init_44 : decode cX0_init 44 = .ok (.dup, 1) := by decide +kernel
theorem dX0_init_45 : decode cX0_init 45 = .ok (.invokespecial 28, 3) := by decide +kernel
theorem dX0_init_48 : decode cX0_init 48 = .ok (.putfield 29, 3) := by decide +kernel
theorem dX0_init_51 : decode cX0_init 51 = .ok (.return_, 1) := by decide +kernel
theorem dX0_size_0 : decode cX0_size 0 = .ok (.aload_n 0, 1) := by decide +kernel
theorem dX0_size_1 : decode cX0_size 1 = .ok (.getfield 33, 3) := by decide +kernel
theorem dX0_size_4 : decode cX0_size 4 = .ok (.ireturn, 1) := by decide +kernel
theorem dX0_has_0 : decode cX0_has 0 = .ok (.iload_n 1, 1) := by decide +kernel
theorem dX0_has_1 : decode cX0_has 1 = .ok (.iconst 0, 1) := by decide +kernel
theorem dX0_has_2 : decode cX0_has 2 = .ok (.aload_n 0, 1) := by decide +kernel
theorem dX0_has_3 : decode cX0_has 3 = .ok (.getfield 33, 3) := by decide +kernel
theorem dX0_has_6 : decode cX0_has 6 = .ok (.iconst 1, 1) := by decide +kernel
theorem dX0_has_7 : decode cX0_has 7 = .ok (.isub, 1) := by decide +kernel
theorem dX0_has_8 : decode cX0_has 8 = .ok (.invokestatic 37, 3) := by decide +kernel
theorem dX0_has_11 : decode cX0_has 11 = .ok (.ireturn, 1) := by decide +kernel
theorem dX0_lettersFed_0 : decode cX0_lettersFed 0 = .ok (.aload_n 0, 1) := by decide +kernel
theorem dX0_lettersFed_1 : decode cX0_lettersFed 1 = .ok (.getfield 41, 3) := by decide +kernel
theorem dX0_lettersFed_4 : decode cX0_lettersFed 4 = .ok (.ireturn, 1) := by decide +kernel
theorem dX0_takeLetters_0 : decode cX0_takeLetters 0 = .ok (.iload_n 1, 1) := by decide +kernel
theorem dX0_takeLetters_1 : decode cX0_takeLetters 1 = .ok (.invokestatic 44, 3) := by decide +kernel
theorem dX0_takeLetters_4 : decode cX0_takeLetters 4 = .ok (.istore_n 2, 1) := by decide +kernel
theorem dX0_takeLetters_5 : decode cX0_takeLetters 5 = .ok (.aload_n 0, 1) := by decide +kernel
theorem dX0_takeLetters_6 : decode cX0_takeLetters 6 = .ok (.getfield 41, 3) := by decide +kernel
theorem dX0_takeLetters_9 : decode cX0_takeLetters 9 = .ok (.iload_n 2, 1) := by decide +kernel
theorem dX0_takeLetters_10 : decode cX0_takeLetters 10 = .ok (.iadd, 1) := by decide +kernel
theorem dX0_takeLetters_11 : decode cX0_takeLetters 11 = .ok (.bipush 40, 2) := by decide +kernel
theorem dX0_takeLetters_13 : decode cX0_takeLetters 13 = .ok (.if_icmp .le 6, 3) := by decide +kernel
theorem dX0_takeLetters_16 : decode cX0_takeLetters 16 = .ok (.bipush (-2), 2) := by decide +kernel
theorem dX0_takeLetters_18 : decode cX0_takeLetters 18 = .ok (.ireturn, 1) := by decide +kernel
theorem dX0_takeLetters_19 : decode cX0_takeLetters 19 = .ok (.iconst 0, 1) := by decide +kernel
theorem dX0_takeLetters_20 : decode cX0_takeLetters 20 = .ok (.istore_n 3, 1) := by decide +kernel
theorem dX0_takeLetters_21 : decode cX0_takeLetters 21 = .ok (.iload_n 3, 1) := by decide +kernel
theorem dX0_takeLetters_22 : decode cX0_takeLetters 22 = .ok (.iload_n 2, 1) := by decide +kernel
theorem dX0_takeLetters_23 : decode cX0_takeLetters 23 = .ok (.if_icmp .ge 25, 3) := by decide +kernel
theorem dX0_takeLetters_26 : decode cX0_takeLetters 26 = .ok (.aload_n 0, 1) := by decide +kernel
theorem dX0_takeLetters_27 : decode cX0_takeLetters 27 = .ok (.getfield 13, 3) := by decide +kernel
theorem dX0_takeLetters_30 : decode cX0_takeLetters 30 = .ok (.aload_n 0, 1) := by decide +kernel
theorem dX0_takeLetters_31 : decode cX0_takeLetters 31 = .ok (.getfield 41, 3) := by decide +kernel
theorem dX0_takeLetters_34 : decode cX0_takeLetters 34 = .ok (.iload_n 3, 1) := by decide +kernel
theorem dX0_takeLetters_35 : decode cX0_takeLetters 35 = .ok (.iadd, 1) := by decide +kernel
theorem dX0_takeLetters_36 : decode cX0_takeLetters 36 = .ok (.iload_n 1, 1) := by decide +kernel
theorem dX0_takeLetters_37 : decode cX0_takeLetters 37 = .ok (.iload_n 3, 1) := by decide +kernel
theorem dX0_takeLetters_38 : decode cX0_takeLetters 38 = .ok (.invokestatic 48, 3) := by decide +kernel
theorem dX0_takeLetters_41 : decode cX0_takeLetters 41 = .ok (.iastore, 1) := by decide +kernel
theorem dX0_takeLetters_42 : decode cX0_takeLetters 42 = .ok (.iinc 3 1, 3) := by decide +kernel
theorem dX0_takeLetters_45 : decode cX0_takeLetters 45 = .ok (.goto (-24), 3) := by decide +kernel
theorem dX0_takeLetters_48 : decode cX0_takeLetters 48 = .ok (.aload_n 0, 1) := by decide +kernel
theorem dX0_takeLetters_49 : decode cX0_takeLetters 49 = .ok (.dup, 1) := by decide +kernel
theorem dX0_takeLetters_50 : decode cX0_takeLetters 50 = .ok (.getfield 41, 3) := by decide +kernel
theorem dX0_takeLetters_53 : decode cX0_takeLetters 53 = .ok (.iload_n 2, 1) := by decide +kernel
theorem dX0_takeLetters_54 : decode cX0_takeLetters 54 = .ok (.iadd, 1) := by decide +kernel
theorem dX0_takeLetters_55 : decode cX0_takeLetters 55 = .ok (.putfield 41, 3) := by decide +kernel
theorem dX0_takeLetters_58 : decode cX0_takeLetters 58 = .ok (.aload_n 0, 1) := by decide +kernel
theorem dX0_takeLetters_59 : decode cX0_takeLetters 59 = .ok (.getfield 41, 3) := by decide +kernel
theorem dX0_takeLetters_62 : decode cX0_takeLetters 62 = .ok (.ireturn, 1) := by decide +kernel
theorem dX0_lettersIn_0 : decode cX0_lettersIn 0 = .ok (.iconst 0, 1) := by decide +kernel
theorem dX0_lettersIn_1 : decode cX0_lettersIn 1 = .ok (.istore_n 1, 1) := by decide +kernel
theorem dX0_lettersIn_2 : decode cX0_lettersIn 2 = .ok (.iload_n 1, 1) := by decide +kernel
theorem dX0_lettersIn_3 : decode cX0_lettersIn 3 = .ok (.iconst 4, 1) := by decide +kernel
theorem dX0_lettersIn_4 : decode cX0_lettersIn 4 = .ok (.if_icmp .ge 17, 3) := by decide +kernel
theorem dX0_lettersIn_7 : decode cX0_lettersIn 7 = .ok (.iload_n 0, 1) := by decide +kernel
theorem dX0_lettersIn_8 : decode cX0_lettersIn 8 = .ok (.iload_n 1, 1) := by decide +kernel
theorem dX0_lettersIn_9 : decode cX0_lettersIn 9 = .ok (.invokestatic 48, 3) := by decide +kernel
theorem dX0_lettersIn_12 : decode cX0_lettersIn 12 = .ok (.ifCond .eq 9, 3) := by decide +kernel
theorem dX0_lettersIn_15 : decode cX0_lettersIn 15 = .ok (.iinc 1 1, 3) := by decide +kernel
theorem dX0_lettersIn_18 : decode cX0_lettersIn 18 = .ok (.goto (-16), 3) := by decide +kernel
theorem dX0_lettersIn_21 : decode cX0_lettersIn 21 = .ok (.iload_n 1, 1) := by decide +kernel
theorem dX0_lettersIn_22 : decode cX0_lettersIn 22 = .ok (.ireturn, 1) := by decide +kernel
theorem dX0_letterAt_0 : decode cX0_letterAt 0 = .ok (.iload_n 0, 1) := by decide +kernel
theorem dX0_letterAt_1 : decode cX0_letterAt 1 = .ok (.bipush 8, 2) := by decide +kernel
theorem dX0_letterAt_3 : decode cX0_letterAt 3 = .ok (.iload_n 1, 1) := by decide +kernel
theorem dX0_letterAt_4 : decode cX0_letterAt 4 = .ok (.imul, 1) := by decide +kernel
theorem dX0_letterAt_5 : decode cX0_letterAt 5 = .ok (.iushr, 1) := by decide +kernel
theorem dX0_letterAt_6 : decode cX0_letterAt 6 = .ok (.sipush 255, 3) := by decide +kernel
theorem dX0_letterAt_9 : decode cX0_letterAt 9 = .ok (.iand, 1) := by decide +kernel
theorem dX0_letterAt_10 : decode cX0_letterAt 10 = .ok (.ireturn, 1) := by decide +kernel
theorem dX0_dropLetters_0 : decode cX0_dropLetters 0 = .ok (.aload_n 0, 1) := by decide +kernel
theorem dX0_dropLetters_1 : decode cX0_dropLetters 1 = .ok (.getfield 41, 3) := by decide +kernel
theorem dX0_dropLetters_4 : decode cX0_dropLetters 4 = .ok (.istore_n 1, 1) := by decide +kernel
theorem dX0_dropLetters_5 : decode cX0_dropLetters 5 = .ok (.aload_n 0, 1) := by decide +kernel
theorem dX0_dropLetters_6 : decode cX0_dropLetters 6 = .ok (.getfield 13, 3) := by decide +kernel
theorem dX0_dropLetters_9 : decode cX0_dropLetters 9 = .ok (.iconst 0, 1) := by decide +kernel
theorem dX0_dropLetters_10 : decode cX0_dropLetters 10 = .ok (.invokestatic 52, 3) := by decide +kernel
theorem dX0_dropLetters_13 : decode cX0_dropLetters 13 = .ok (.aload_n 0, 1) := by decide +kernel
theorem dX0_dropLetters_14 : decode cX0_dropLetters 14 = .ok (.iconst 0, 1) := by decide +kernel
theorem dX0_dropLetters_15 : decode cX0_dropLetters 15 = .ok (.putfield 41, 3) := by decide +kernel
theorem dX0_dropLetters_18 : decode cX0_dropLetters 18 = .ok (.iload_n 1, 1) := by decide +kernel
theorem dX0_dropLetters_19 : decode cX0_dropLetters 19 = .ok (.ireturn, 1) := by decide +kernel
theorem dX0_enact_0 : decode cX0_enact 0 = .ok (.iload_n 1, 1) := by decide +kernel
theorem dX0_enact_1 : decode cX0_enact 1 = .ok (.invokestatic 58, 3) := by decide +kernel
theorem dX0_enact_4 : decode cX0_enact 4 = .ok (.ifCond .ne 5, 3) := by decide +kernel
theorem dX0_enact_7 : decode cX0_enact 7 = .ok (.iconst (-1), 1) := by decide +kernel
theorem dX0_enact_8 : decode cX0_enact 8 = .ok (.ireturn, 1) := by decide +kernel
theorem dX0_enact_9 : decode cX0_enact 9 = .ok (.aload_n 0, 1) := by decide +kernel
theorem dX0_enact_10 : decode cX0_enact 10 = .ok (.getfield 33, 3) := by decide +kernel
theorem dX0_enact_13 : decode cX0_enact 13 = .ok (.iconst 5, 1) := by decide +kernel
theorem dX0_enact_14 : decode cX0_enact 14 = .ok (.if_icmp .lt 6, 3) := by decide +kernel
theorem dX0_enact_17 : decode cX0_enact 17 = .ok (.bipush (-2), 2) := by decide +kernel
theorem dX0_enact_19 : decode cX0_enact 19 = .ok (.ireturn, 1) := by decide +kernel
theorem dX0_enact_20 : decode cX0_enact 20 = .ok (.aload_n 0, 1) := by decide +kernel
theorem dX0_enact_21 : decode cX0_enact 21 = .ok (.getfield 29, 3) := by decide +kernel
theorem dX0_enact_24 : decode cX0_enact 24 = .ok (.aload_n 0, 1) := by decide +kernel
theorem dX0_enact_25 : decode cX0_enact 25 = .ok (.getfield 13, 3) := by decide +kernel
theorem dX0_enact_28 : decode cX0_enact 28 = .ok (.invokevirtual 62, 3) := by decide +kernel
theorem dX0_enact_31 : decode cX0_enact 31 = .ok (.ldc 66, 2) := by decide +kernel
theorem dX0_enact_33 : decode cX0_enact 33 = .ok (.if_icmp .ne 6, 3) := by decide +kernel
theorem dX0_enact_36 : decode cX0_enact 36 = .ok (.bipush (-5), 2) := by decide +kernel
theorem dX0_enact_38 : decode cX0_enact 38 = .ok (.ireturn, 1) := by decide +kernel
theorem dX0_enact_39 : decode cX0_enact 39 = .ok (.aload_n 0, 1) := by decide +kernel
theorem dX0_enact_40 : decode cX0_enact 40 = .ok (.getfield 13, 3) := by decide +kernel
theorem dX0_enact_43 : decode cX0_enact 43 = .ok (.iconst 0, 1) := by decide +kernel
theorem dX0_enact_44 : decode cX0_enact 44 = .ok (.aload_n 0, 1) := by decide +kernel
theorem dX0_enact_45 : decode cX0_enact 45 = .ok (.getfield 19, 3) := by decide +kernel
theorem dX0_enact_48 : decode cX0_enact 48 = .ok (.aload_n 0, 1) := by decide +kernel
theorem dX0_enact_49 : decode cX0_enact 49 = .ok (.getfield 33, 3) := by decide +kernel
theorem dX0_enact_52 : decode cX0_enact 52 = .ok (.aaload, 1) := by decide +kernel
theorem dX0_enact_53 : decode cX0_enact 53 = .ok (.iconst 0, 1) := by decide +kernel
theorem dX0_enact_54 : decode cX0_enact 54 = .ok (.aload_n 0, 1) := by decide +kernel
theorem dX0_enact_55 : decode cX0_enact 55 = .ok (.getfield 13, 3) := by decide +kernel
theorem dX0_enact_58 : decode cX0_enact 58 = .ok (.arraylength, 1) := by decide +kernel
theorem dX0_enact_59 : decode cX0_enact 59 = .ok (.invokestatic 67, 3) := by decide +kernel
theorem dX0_enact_62 : decode cX0_enact 62 = .ok (.aload_n 0, 1) := by decide +kernel
theorem dX0_enact_63 : decode cX0_enact 63 = .ok (.getfield 22, 3) := by decide +kernel
theorem dX0_enact_66 : decode cX0_enact 66 = .ok (.aload_n 0, 1) := by decide +kernel
theorem dX0_enact_67 : decode cX0_enact 67 = .ok (.getfield 33, 3) := by decide +kernel
theorem dX0_enact_70 : decode cX0_enact 70 = .ok (.iload_n 1, 1) := by decide +kernel
theorem dX0_enact_71 : decode cX0_enact 71 = .ok (.iastore, 1) := by decide +kernel
theorem dX0_enact_72 : decode cX0_enact 72 = .ok (.aload_n 0, 1) := by decide +kernel
theorem dX0_enact_73 : decode cX0_enact 73 = .ok (.invokevirtual 73, 3) := by decide +kernel
theorem dX0_enact_76 : decode cX0_enact 76 = .ok (.pop, 1) := by decide +kernel
theorem dX0_enact_77 : decode cX0_enact 77 = .ok (.aload_n 0, 1) := by decide +kernel
theorem dX0_enact_78 : decode cX0_enact 78 = .ok (.dup, 1) := by decide +kernel
theorem dX0_enact_79 : decode cX0_enact 79 = .ok (.getfield 33, 3) := by decide +kernel
theorem dX0_enact_82 : decode cX0_enact 82 = .ok (.iconst 1, 1) := by decide +kernel
theorem dX0_enact_83 : decode cX0_enact 83 = .ok (.iadd, 1) := by decide +kernel
theorem dX0_enact_84 : decode cX0_enact 84 = .ok (.putfield 33, 3) := by decide +kernel
theorem dX0_enact_87 : decode cX0_enact 87 = .ok (.aload_n 0, 1) := by decide +kernel
theorem dX0_enact_88 : decode cX0_enact 88 = .ok (.getfield 33, 3) := by decide +kernel
theorem dX0_enact_91 : decode cX0_enact 91 = .ok (.iconst 1, 1) := by decide +kernel
theorem dX0_enact_92 : decode cX0_enact 92 = .ok (.isub, 1) := by decide +kernel
theorem dX0_enact_93 : decode cX0_enact 93 = .ok (.ireturn, 1) := by decide +kernel
theorem dX0_onDay_0 : decode cX0_onDay 0 = .ok (.bipush (-4), 2) := by decide +kernel
theorem dX0_onDay_2 : decode cX0_onDay 2 = .ok (.istore_n 2, 1) := by decide +kernel
theorem dX0_onDay_3 : decode cX0_onDay 3 = .ok (.iconst 0, 1) := by decide +kernel
theorem dX0_onDay_4 : decode cX0_onDay 4 = .ok (.istore_n 3, 1) := by decide +kernel
theorem dX0_onDay_5 : decode cX0_onDay 5 = .ok (.iload_n 3, 1) := by decide +kernel
theorem dX0_onDay_6 : decode cX0_onDay 6 = .ok (.aload_n 0, 1) := by decide +kernel
theorem dX0_onDay_7 : decode cX0_onDay 7 = .ok (.getfield 33, 3) := by decide +kernel
theorem dX0_onDay_10 : decode cX0_onDay 10 = .ok (.if_icmp .ge 40, 3) := by decide +kernel
theorem dX0_onDay_13 : decode cX0_onDay 13 = .ok (.aload_n 0, 1) := by decide +kernel
theorem dX0_onDay_14 : decode cX0_onDay 14 = .ok (.getfield 22, 3) := by decide +kernel
theorem dX0_onDay_17 : decode cX0_onDay 17 = .ok (.iload_n 3, 1) := by decide +kernel
theorem dX0_onDay_18 : decode cX0_onDay 18 = .ok (.iaload, 1) := by decide +kernel
theorem dX0_onDay_19 : decode cX0_onDay 19 = .ok (.iload_n 1, 1) := by decide +kernel
theorem dX0_onDay_20 : decode cX0_onDay 20 = .ok (.if_icmp .gt 24, 3) := by decide +kernel
theorem dX0_onDay_23 : decode cX0_onDay 23 = .ok (.iload_n 2, 1) := by decide +kernel
theorem dX0_onDay_24 : decode cX0_onDay 24 = .ok (.ifCond .lt 18, 3) := by decide +kernel
theorem dX0_onDay_27 : decode cX0_onDay 27 = .ok (.aload_n 0, 1) := by decide +kernel
theorem dX0_onDay_28 : decode cX0_onDay 28 = .ok (.getfield 22, 3) := by decide +kernel
theorem dX0_onDay_31 : decode cX0_onDay 31 = .ok (.iload_n 3, 1) := by decide +kernel
theorem dX0_onDay_32 : decode cX0_onDay 32 = .ok (.iaload, 1) := by decide +kernel
theorem dX0_onDay_33 : decode cX0_onDay 33 = .ok (.aload_n 0, 1) := by decide +kernel
theorem dX0_onDay_34 : decode cX0_onDay 34 = .ok (.getfield 22, 3) := by decide +kernel
theorem dX0_onDay_37 : decode cX0_onDay 37 = .ok (.iload_n 2, 1) := by decide +kernel
theorem dX0_onDay_38 : decode cX0_onDay 38 = .ok (.iaload, 1) := by decide +kernel
theorem dX0_onDay_39 : decode cX0_onDay 39 = .ok (.if_icmp .lt 5, 3) := by decide +kernel
theorem dX0_onDay_42 : decode cX0_onDay 42 = .ok (.iload_n 3, 1) := by decide +kernel
theorem dX0_onDay_43 : decode cX0_onDay 43 = .ok (.istore_n 2, 1) := by decide +kernel
theorem dX0_onDay_44 : decode cX0_onDay 44 = .ok (.iinc 3 1, 3) := by decide +kernel
theorem dX0_onDay_47 : decode cX0_onDay 47 = .ok (.goto (-42), 3) := by decide +kernel
theorem dX0_onDay_50 : decode cX0_onDay 50 = .ok (.iload_n 2, 1) := by decide +kernel
theorem dX0_onDay_51 : decode cX0_onDay 51 = .ok (.ireturn, 1) := by decide +kernel
theorem dX0_tonsBy_0 : decode cX0_tonsBy 0 = .ok (.aload_n 0, 1) := by decide +kernel
theorem dX0_tonsBy_1 : decode cX0_tonsBy 1 = .ok (.getfield 29, 3) := by decide +kernel
theorem dX0_tonsBy_4 : decode cX0_tonsBy 4 = .ok (.iload_n 2, 1) := by decide +kernel
theorem dX0_tonsBy_5 : decode cX0_tonsBy 5 = .ok (.iload_n 3, 1) := by decide +kernel
theorem dX0_tonsBy_6 : decode cX0_tonsBy 6 = .ok (.iload 4, 2) := by decide +kernel
theorem dX0_tonsBy_8 : decode cX0_tonsBy 8 = .ok (.iload 5, 2) := by decide +kernel
theorem dX0_tonsBy_10 : decode cX0_tonsBy 10 = .ok (.invokevirtual 77, 3) := by decide +kernel
theorem dX0_tonsBy_13 : decode cX0_tonsBy 13 = .ok (.aload_n 0, 1) := by decide +kernel
theorem dX0_tonsBy_14 : decode cX0_tonsBy 14 = .ok (.getfield 29, 3) := by decide +kernel
theorem dX0_tonsBy_17 : decode cX0_tonsBy 17 = .ok (.aload_n 0, 1) := by decide +kernel
theorem dX0_tonsBy_18 : decode cX0_tonsBy 18 = .ok (.getfield 19, 3) := by decide +kernel
theorem dX0_tonsBy_21 : decode cX0_tonsBy 21 = .ok (.iload_n 1, 1) := by decide +kernel
theorem dX0_tonsBy_22 : decode cX0_tonsBy 22 = .ok (.aaload, 1) := by decide +kernel
theorem dX0_tonsBy_23 : decode cX0_tonsBy 23 = .ok (.invokevirtual 62, 3) := by decide +kernel
theorem dX0_tonsBy_26 : decode cX0_tonsBy 26 = .ok (.ireturn, 1) := by decide +kernel
theorem dX0_ofLeastShape_0 : decode cX0_ofLeastShape 0 = .ok (.aload_n 0, 1) := by decide +kernel
theorem dX0_ofLeastShape_1 : decode cX0_ofLeastShape 1 = .ok (.iload_n 1, 1) := by decide +kernel
theorem dX0_ofLeastShape_2 : decode cX0_ofLeastShape 2 = .ok (.invokevirtual 81, 3) := by decide +kernel
theorem dX0_ofLeastShape_5 : decode cX0_ofLeastShape 5 = .ok (.astore 4, 2) := by decide +kernel
theorem dX0_ofLeastShape_7 : decode cX0_ofLeastShape 7 = .ok (.aload 4, 2) := by decide +kernel
theorem dX0_ofLeastShape_9 : decode cX0_ofLeastShape 9 = .ok (.iload_n 2, 1) := by decide +kernel
theorem dX0_ofLeastShape_10 : decode cX0_ofLeastShape 10 = .ok (.invokestatic 85, 3) := by decide +kernel
theorem dX0_ofLeastShape_13 : decode cX0_ofLeastShape 13 = .ok (.istore 5, 2) := by decide +kernel
theorem dX0_ofLeastShape_15 : decode cX0_ofLeastShape 15 = .ok (.iload_n 3, 1) := by decide +kernel
theorem dX0_ofLeastShape_16 : decode cX0_ofLeastShape 16 = .ok (.tableswitch 46 0 2 #[28, 34, 40], 28) := by decide +kernel
theorem dX0_ofLeastShape_44 : decode cX0_ofLeastShape 44 = .ok (.iload 5, 2) := by decide +kernel
theorem dX0_ofLeastShape_46 : decode cX0_ofLeastShape 46 = .ok (.invokestatic 89, 3) := by decide +kernel
theorem dX0_ofLeastShape_49 : decode cX0_ofLeastShape 49 = .ok (.ireturn, 1) := by decide +kernel
theorem dX0_ofLeastShape_50 : decode cX0_ofLeastShape 50 = .ok (.iload 5, 2) := by decide +kernel
theorem dX0_ofLeastShape_52 : decode cX0_ofLeastShape 52 = .ok (.invokestatic 92, 3) := by decide +kernel
theorem dX0_ofLeastShape_55 : decode cX0_ofLeastShape 55 = .ok (.ireturn, 1) := by decide +kernel
theorem dX0_ofLeastShape_56 : decode cX0_ofLeastShape 56 = .ok (.iload 5, 2) := by decide +kernel
theorem dX0_ofLeastShape_58 : decode cX0_ofLeastShape 58 = .ok (.invokestatic 95, 3) := by decide +kernel
theorem dX0_ofLeastShape_61 : decode cX0_ofLeastShape 61 = .ok (.ireturn, 1) := by decide +kernel
theorem dX0_ofLeastShape_62 : decode cX0_ofLeastShape 62 = .ok (.aload 4, 2) := by decide +kernel
theorem dX0_ofLeastShape_64 : decode cX0_ofLeastShape 64 = .ok (.iload 5, 2) := by decide +kernel
theorem dX0_ofLeastShape_66 : decode cX0_ofLeastShape 66 = .ok (.iaload, 1) := by decide +kernel
theorem dX0_ofLeastShape_67 : decode cX0_ofLeastShape 67 = .ok (.ireturn, 1) := by decide +kernel
theorem dX0_tonsOfShapes_0 : decode cX0_tonsOfShapes 0 = .ok (.aload_n 0, 1) := by decide +kernel
theorem dX0_tonsOfShapes_1 : decode cX0_tonsOfShapes 1 = .ok (.getfield 25, 3) := by decide +kernel
theorem dX0_tonsOfShapes_4 : decode cX0_tonsOfShapes 4 = .ok (.iload_n 1, 1) := by decide +kernel
theorem dX0_tonsOfShapes_5 : decode cX0_tonsOfShapes 5 = .ok (.aaload, 1) := by decide +kernel
theorem dX0_tonsOfShapes_6 : decode cX0_tonsOfShapes 6 = .ok (.arraylength, 1) := by decide +kernel
theorem dX0_tonsOfShapes_7 : decode cX0_tonsOfShapes 7 = .ok (.sipush 1728, 3) := by decide +kernel
theorem dX0_tonsOfShapes_10 : decode cX0_tonsOfShapes 10 = .ok (.if_icmp .ge 52, 3) := by decide +kernel
theorem dX0_tonsOfShapes_13 : decode cX0_tonsOfShapes 13 = .ok (.sipush 1728, 3) := by decide +kernel
theorem dX0_tonsOfShapes_16 : decode cX0_tonsOfShapes 16 = .ok (.newarray .int, 2) := by decide +kernel
theorem dX0_tonsOfShapes_18 : decode cX0_tonsOfShapes 18 = .ok (.astore_n 2, 1) := by decide +kernel
theorem dX0_tonsOfShapes_19 : decode cX0_tonsOfShapes 19 = .ok (.iconst 0, 1) := by decide +kernel
theorem dX0_tonsOfShapes_20 : decode cX0_tonsOfShapes 20 = .ok (.istore_n 3, 1) := by decide +kernel
theorem dX0_tonsOfShapes_21 : decode cX0_tonsOfShapes 21 = .ok (.iload_n 3, 1) := by decide +kernel
theorem dX0_tonsOfShapes_22 : decode cX0_tonsOfShapes 22 = .ok (.sipush 1728, 3) := by decide +kernel
theorem dX0_tonsOfShapes_25 : decode cX0_tonsOfShapes 25 = .ok (.if_icmp .ge 30, 3) := by decide +kernel
theorem dX0_tonsOfShapes_28 : decode cX0_tonsOfShapes 28 = .ok (.aload_n 2, 1) := by decide +kernel
theorem dX0_tonsOfShapes_29 : decode cX0_tonsOfShapes 29 = .ok (.iload_n 3, 1) := by decide +kernel
theorem dX0_tonsOfShapes_30 : decode cX0_tonsOfShapes 30 = .ok (.aload_n 0, 1) := by decide +kernel
theorem dX0_tonsOfShapes_31 : decode cX0_tonsOfShapes 31 = .ok (.iload_n 1, 1) := by decide +kernel
theorem dX0_tonsOfShapes_32 : decode cX0_tonsOfShapes 32 = .ok (.iload_n 3, 1) := by decide +kernel
theorem dX0_tonsOfShapes_33 : decode cX0_tonsOfShapes 33 = .ok (.invokestatic 89, 3) := by decide +kernel
theorem dX0_tonsOfShapes_36 : decode cX0_tonsOfShapes 36 = .ok (.iload_n 3, 1) := by decide +kernel
theorem dX0_tonsOfShapes_37 : decode cX0_tonsOfShapes 37 = .ok (.invokestatic 92, 3) := by decide +kernel
theorem dX0_tonsOfShapes_40 : decode cX0_tonsOfShapes 40 = .ok (.iload_n 3, 1) := by decide +kernel
theorem dX0_tonsOfShapes_41 : decode cX0_tonsOfShapes 41 = .ok (.invokestatic 95, 3) := by decide +kernel
theorem dX0_tonsOfShapes_44 : decode cX0_tonsOfShapes 44 = .ok (.iconst 0, 1) := by decide +kernel
theorem dX0_tonsOfShapes_45 : decode cX0_tonsOfShapes 45 = .ok (.invokevirtual 98, 3) := by decide +kernel
theorem dX0_tonsOfShapes_48 : decode cX0_tonsOfShapes 48 = .ok (.iastore, 1) := by decide +kernel
theorem dX0_tonsOfShapes_49 : decode cX0_tonsOfShapes 49 = .ok (.iinc 3 1, 3) := by decide +kernel
theorem dX0_tonsOfShapes_52 : decode cX0_tonsOfShapes 52 = .ok (.goto (-31), 3) := by decide +kernel
theorem dX0_tonsOfShapes_55 : decode cX0_tonsOfShapes 55 = .ok (.aload_n 0, 1) := by decide +kernel
theorem dX0_tonsOfShapes_56 : decode cX0_tonsOfShapes 56 = .ok (.getfield 25, 3) := by decide +kernel
theorem dX0_tonsOfShapes_59 : decode cX0_tonsOfShapes 59 = .ok (.iload_n 1, 1) := by decide +kernel
theorem dX0_tonsOfShapes_60 : decode cX0_tonsOfShapes 60 = .ok (.aload_n 2, 1) := by decide +kernel
theorem dX0_tonsOfShapes_61 : decode cX0_tonsOfShapes 61 = .ok (.aastore, 1) := by decide +kernel
theorem dX0_tonsOfShapes_62 : decode cX0_tonsOfShapes 62 = .ok (.aload_n 0, 1) := by decide +kernel
theorem dX0_tonsOfShapes_63 : decode cX0_tonsOfShapes 63 = .ok (.getfield 25, 3) := by decide +kernel
theorem dX0_tonsOfShapes_66 : decode cX0_tonsOfShapes 66 = .ok (.iload_n 1, 1) := by decide +kernel
theorem dX0_tonsOfShapes_67 : decode cX0_tonsOfShapes 67 = .ok (.aaload, 1) := by decide +kernel
theorem dX0_tonsOfShapes_68 : decode cX0_tonsOfShapes 68 = .ok (.areturn, 1) := by decide +kernel
theorem dX0_leastShape_0 : decode cX0_leastShape 0 = .ok (.sipush 1727, 3) := by decide +kernel
theorem dX0_leastShape_3 : decode cX0_leastShape 3 = .ok (.istore_n 2, 1) := by decide +kernel
theorem dX0_leastShape_4 : decode cX0_leastShape 4 = .ok (.iload_n 2, 1) := by decide +kernel
theorem dX0_leastShape_5 : decode cX0_leastShape 5 = .ok (.istore_n 3, 1) := by decide +kernel
theorem dX0_leastShape_6 : decode cX0_leastShape 6 = .ok (.iload_n 3, 1) := by decide +kernel
theorem dX0_leastShape_7 : decode cX0_leastShape 7 = .ok (.ifCond .lt 38, 3) := by decide +kernel
theorem dX0_leastShape_10 : decode cX0_leastShape 10 = .ok (.aload_n 0, 1) := by decide +kernel
theorem dX0_leastShape_11 : decode cX0_leastShape 11 = .ok (.iload_n 3, 1) := by decide +kernel
theorem dX0_leastShape_12 : decode cX0_leastShape 12 = .ok (.iaload, 1) := by decide +kernel
theorem dX0_leastShape_13 : decode cX0_leastShape 13 = .ok (.aload_n 0, 1) := by decide +kernel
theorem dX0_leastShape_14 : decode cX0_leastShape 14 = .ok (.iload_n 2, 1) := by decide +kernel
theorem dX0_leastShape_15 : decode cX0_leastShape 15 = .ok (.iaload, 1) := by decide +kernel
theorem dX0_leastShape_16 : decode cX0_leastShape 16 = .ok (.if_icmp .gt 23, 3) := by decide +kernel
theorem dX0_leastShape_19 : decode cX0_leastShape 19 = .ok (.iload_n 3, 1) := by decide +kernel
theorem dX0_leastShape_20 : decode cX0_leastShape 20 = .ok (.invokestatic 89, 3) := by decide +kernel
theorem dX0_leastShape_23 : decode cX0_leastShape 23 = .ok (.iload_n 3, 1) := by decide +kernel
theorem dX0_leastShape_24 : decode cX0_leastShape 24 = .ok (.invokestatic 92, 3) := by decide +kernel
theorem dX0_leastShape_27 : decode cX0_leastShape 27 = .ok (.imul, 1) := by decide +kernel
theorem dX0_leastShape_28 : decode cX0_leastShape 28 = .ok (.iload_n 3, 1) := by decide +kernel
theorem dX0_leastShape_29 : decode cX0_leastShape 29 = .ok (.invokestatic 95, 3) := by decide +kernel
theorem dX0_leastShape_32 : decode cX0_leastShape 32 = .ok (.imul, 1) := by decide +kernel
theorem dX0_leastShape_33 : decode cX0_leastShape 33 = .ok (.iload_n 1, 1) := by decide +kernel
theorem dX0_leastShape_34 : decode cX0_leastShape 34 = .ok (.if_icmp .lt 5, 3) := by decide +kernel
theorem dX0_leastShape_37 : decode cX0_leastShape 37 = .ok (.iload_n 3, 1) := by decide +kernel
theorem dX0_leastShape_38 : decode cX0_leastShape 38 = .ok (.istore_n 2, 1) := by decide +kernel
theorem dX0_leastShape_39 : decode cX0_leastShape 39 = .ok (.iinc 3 (-1), 3) := by decide +kernel
theorem dX0_leastShape_42 : decode cX0_leastShape 42 = .ok (.goto (-36), 3) := by decide +kernel
theorem dX0_leastShape_45 : decode cX0_leastShape 45 = .ok (.iload_n 2, 1) := by decide +kernel
theorem dX0_leastShape_46 : decode cX0_leastShape 46 = .ok (.ireturn, 1) := by decide +kernel
theorem dX0_lengthOf_0 : decode cX0_lengthOf 0 = .ok (.iload_n 0, 1) := by decide +kernel
theorem dX0_lengthOf_1 : decode cX0_lengthOf 1 = .ok (.sipush 144, 3) := by decide +kernel
theorem dX0_lengthOf_4 : decode cX0_lengthOf 4 = .ok (.idiv, 1) := by decide +kernel
theorem dX0_lengthOf_5 : decode cX0_lengthOf 5 = .ok (.iconst 1, 1) := by decide +kernel
theorem dX0_lengthOf_6 : decode cX0_lengthOf 6 = .ok (.iadd, 1) := by decide +kernel
theorem dX0_lengthOf_7 : decode cX0_lengthOf 7 = .ok (.ireturn, 1) := by decide +kernel
theorem dX0_breadthOf_0 : decode cX0_breadthOf 0 = .ok (.iload_n 0, 1) := by decide +kernel
theorem dX0_breadthOf_1 : decode cX0_breadthOf 1 = .ok (.bipush 12, 2) := by decide +kernel
theorem dX0_breadthOf_3 : decode cX0_breadthOf 3 = .ok (.idiv, 1) := by decide +kernel
theorem dX0_breadthOf_4 : decode cX0_breadthOf 4 = .ok (.bipush 12, 2) := by decide +kernel
theorem dX0_breadthOf_6 : decode cX0_breadthOf 6 = .ok (.irem, 1) := by decide +kernel
theorem dX0_breadthOf_7 : decode cX0_breadthOf 7 = .ok (.iconst 1, 1) := by decide +kernel
theorem dX0_breadthOf_8 : decode cX0_breadthOf 8 = .ok (.iadd, 1) := by decide +kernel
theorem dX0_breadthOf_9 : decode cX0_breadthOf 9 = .ok (.ireturn, 1) := by decide +kernel
theorem dX0_depthOf_0 : decode cX0_depthOf 0 = .ok (.iload_n 0, 1) := by decide +kernel
theorem dX0_depthOf_1 : decode cX0_depthOf 1 = .ok (.bipush 12, 2) := by decide +kernel
theorem dX0_depthOf_3 : decode cX0_depthOf 3 = .ok (.irem, 1) := by decide +kernel
theorem dX0_depthOf_4 : decode cX0_depthOf 4 = .ok (.iconst 1, 1) := by decide +kernel
theorem dX0_depthOf_5 : decode cX0_depthOf 5 = .ok (.iadd, 1) := by decide +kernel
theorem dX0_depthOf_6 : decode cX0_depthOf 6 = .ok (.ireturn, 1) := by decide +kernel
theorem dX1_init_0 : decode cX1_init 0 = .ok (.aload_n 0, 1) := by decide +kernel
theorem dX1_init_1 : decode cX1_init 1 = .ok (.invokespecial 3, 3) := by decide +kernel
theorem dX1_init_4 : decode cX1_init 4 = .ok (.aload_n 0, 1) := by decide +kernel
theorem dX1_init_5 : decode cX1_init 5 = .ok (.bipush 35, 2) := by decide +kernel
theorem dX1_init_7 : decode cX1_init 7 = .ok (.newarray .int, 2) := by decide +kernel
theorem dX1_init_9 : decode cX1_init 9 = .ok (.putfield 11, 3) := by decide +kernel
theorem dX1_init_12 : decode cX1_init 12 = .ok (.return_, 1) := by decide +kernel
theorem dX1_size_0 : decode cX1_size 0 = .ok (.aload_n 0, 1) := by decide +kernel
theorem dX1_size_1 : decode cX1_size 1 = .ok (.getfield 15, 3) := by decide +kernel
theorem dX1_size_4 : decode cX1_size 4 = .ok (.ireturn, 1) := by decide +kernel
theorem dX1_has_0 : decode cX1_has 0 = .ok (.iload_n 1, 1) := by decide +kernel
theorem dX1_has_1 : decode cX1_has 1 = .ok (.iconst 0, 1) := by decide +kernel
theorem dX1_has_2 : decode cX1_has 2 = .ok (.aload_n 0, 1) := by decide +kernel
theorem dX1_has_3 : decode cX1_has 3 = .ok (.getfield 15, 3) := by decide +kernel
theorem dX1_has_6 : decode cX1_has 6 = .ok (.iconst 1, 1) := by decide +kernel
theorem dX1_has_7 : decode cX1_has 7 = .ok (.isub, 1) := by decide +kernel
theorem dX1_has_8 : decode cX1_has 8 = .ok (.invokestatic 19, 3) := by decide +kernel
theorem dX1_has_11 : decode cX1_has 11 = .ok (.ireturn, 1) := by decide +kernel
theorem dX1_told_0 : decode cX1_told 0 = .ok (.aload_n 0, 1) := by decide +kernel
theorem dX1_told_1 : decode cX1_told 1 = .ok (.getfield 11, 3) := by decide +kernel
theorem dX1_told_4 : decode cX1_told 4 = .ok (.iload_n 1, 1) := by decide +kernel
theorem dX1_told_5 : decode cX1_told 5 = .ok (.bipush 7, 2) := by decide +kernel
theorem dX1_told_7 : decode cX1_told 7 = .ok (.imul, 1) := by decide +kernel
theorem dX1_told_8 : decode cX1_told 8 = .ok (.iload_n 2, 1) := by decide +kernel
theorem dX1_told_9 : decode cX1_told 9 = .ok (.iadd, 1) := by decide +kernel
theorem dX1_told_10 : decode cX1_told 10 = .ok (.iaload, 1) := by decide +kernel
theorem dX1_told_11 : decode cX1_told 11 = .ok (.ireturn, 1) := by decide +kernel
theorem dX1_add_0 : decode cX1_add 0 = .ok (.aload_n 0, 1) := by decide +kernel
theorem dX1_add_1 : decode cX1_add 1 = .ok (.getfield 15, 3) := by decide +kernel
theorem dX1_add_4 : decode cX1_add 4 = .ok (.iconst 5, 1) := by decide +kernel
theorem dX1_add_5 : decode cX1_add 5 = .ok (.if_icmp .lt 6, 3) := by decide +kernel
theorem dX1_add_8 : decode cX1_add 8 = .ok (.bipush (-2), 2) := by decide +kernel
theorem dX1_add_10 : decode cX1_add 10 = .ok (.ireturn, 1) := by decide +kernel
theorem dX1_add_11 : decode cX1_add 11 = .ok (.aload_n 0, 1) := by decide +kernel
theorem dX1_add_12 : decode cX1_add 12 = .ok (.aload_n 0, 1) := by decide +kernel
theorem dX1_add_13 : decode cX1_add 13 = .ok (.getfield 15, 3) := by decide +kernel
theorem dX1_add_16 : decode cX1_add 16 = .ok (.iload_n 1, 1) := by decide +kernel
theorem dX1_add_17 : decode cX1_add 17 = .ok (.iload_n 2, 1) := by decide +kernel
theorem dX1_add_18 : decode cX1_add 18 = .ok (.iload_n 3, 1) := by decide +kernel
theorem dX1_add_19 : decode cX1_add 19 = .ok (.iload 4, 2) := by decide +kernel
theorem dX1_add_21 : decode cX1_add 21 = .ok (.invokevirtual 23, 3) := by decide +kernel
theorem dX1_add_24 : decode cX1_add 24 = .ok (.aload_n 0, 1) := by decide +kernel
theorem dX1_add_25 : decode cX1_add 25 = .ok (.aload_n 0, 1) := by decide +kernel
theorem dX1_add_26 : decode cX1_add 26 = .ok (.getfield 15, 3) := by decide +kernel
theorem dX1_add_29 : decode cX1_add 29 = .ok (.ldc 27, 2) := by decide +kernel
theorem dX1_add_31 : decode cX1_add 31 = .ok (.ldc 27, 2) := by decide +kernel
theorem dX1_add_33 : decode cX1_add 33 = .ok (.ldc 27, 2) := by decide +kernel
theorem dX1_add_35 : decode cX1_add 35 = .ok (.invokevirtual 28, 3) := by decide +kernel
theorem dX1_add_38 : decode cX1_add 38 = .ok (.aload_n 0, 1) := by decide +kernel
theorem dX1_add_39 : decode cX1_add 39 = .ok (.dup, 1) := by decide +kernel
theorem dX1_add_40 : decode cX1_add 40 = .ok (.getfield 15, 3) := by decide +kernel
theorem dX1_add_43 : decode cX1_add 43 = .ok (.iconst 1, 1) := by decide +kernel
theorem dX1_add_44 : decode cX1_add 44 = .ok (.iadd, 1) := by decide +kernel
theorem dX1_add_45 : decode cX1_add 45 = .ok (.putfield 15, 3) := by decide +kernel
theorem dX1_add_48 : decode cX1_add 48 = .ok (.aload_n 0, 1) := by decide +kernel
theorem dX1_add_49 : decode cX1_add 49 = .ok (.getfield 15, 3) := by decide +kernel
theorem dX1_add_52 : decode cX1_add 52 = .ok (.iconst 1, 1) := by decide +kernel
theorem dX1_add_53 : decode cX1_add 53 = .ok (.isub, 1) := by decide +kernel
theorem dX1_add_54 : decode cX1_add 54 = .ok (.ireturn, 1) := by decide +kernel
theorem dX1_setSizes_0 : decode cX1_setSizes 0 = .ok (.iload_n 1, 1) := by decide +kernel
theorem dX1_setSizes_1 : decode cX1_setSizes 1 = .ok (.bipush 7, 2) := by decide +kernel
theorem dX1_setSizes_3 : decode cX1_setSizes 3 = .ok (.imul, 1) := by decide +kernel
theorem dX1_setSizes_4 : decode cX1_setSizes 4 = .ok (.istore 6, 2) := by decide +kernel
theorem dX1_setSizes_6 : decode cX1_setSizes 6 = .ok (.aload_n 0, 1) := by decide +kernel
theorem dX1_setSizes_7 : decode cX1_setSizes 7 = .ok (.getfield 11, 3) := by decide +kernel
theorem dX1_setSizes_10 : decode cX1_setSizes 10 = .ok (.iload 6, 2) := by decide +kernel
theorem dX1_setSizes_12 : decode cX1_setSizes 12 = .ok (.iconst 0, 1) := by decide +kernel
theorem dX1_setSizes_13 : decode cX1_setSizes 13 = .ok (.iadd, 1) := by decide +kernel
theorem dX1_setSizes_14 : decode cX1_setSizes 14 = .ok (.iload_n 2, 1) := by decide +kernel
theorem dX1_setSizes_15 : decode cX1_setSizes 15 = .ok (.iastore, 1) := by decide +kernel
theorem dX1_setSizes_16 : decode cX1_setSizes 16 = .ok (.aload_n 0, 1) := by decide +kernel
theorem dX1_setSizes_17 : decode cX1_setSizes 17 = .ok (.getfield 11, 3) := by decide +kernel
theorem dX1_setSizes_20 : decode cX1_setSizes 20 = .ok (.iload 6, 2) := by decide +kernel
theorem dX1_setSizes_22 : decode cX1_setSizes 22 = .ok (.iconst 1, 1) := by decide +kernel
theorem dX1_setSizes_23 : decode cX1_setSizes 23 = .ok (.iadd, 1) := by decide +kernel
theorem dX1_setSizes_24 : decode cX1_setSizes 24 = .ok (.iload_n 3, 1) := by decide +kernel
theorem dX1_setSizes_25 : decode cX1_setSizes 25 = .ok (.iastore, 1) := by decide +kernel
theorem dX1_setSizes_26 : decode cX1_setSizes 26 = .ok (.aload_n 0, 1) := by decide +kernel
theorem dX1_setSizes_27 : decode cX1_setSizes 27 = .ok (.getfield 11, 3) := by decide +kernel
theorem dX1_setSizes_30 : decode cX1_setSizes 30 = .ok (.iload 6, 2) := by decide +kernel
theorem dX1_setSizes_32 : decode cX1_setSizes 32 = .ok (.iconst 2, 1) := by decide +kernel
theorem dX1_setSizes_33 : decode cX1_setSizes 33 = .ok (.iadd, 1) := by decide +kernel
theorem dX1_setSizes_34 : decode cX1_setSizes 34 = .ok (.iload 4, 2) := by decide +kernel
theorem dX1_setSizes_36 : decode cX1_setSizes 36 = .ok (.iastore, 1) := by decide +kernel
theorem dX1_setSizes_37 : decode cX1_setSizes 37 = .ok (.aload_n 0, 1) := by decide +kernel
theorem dX1_setSizes_38 : decode cX1_setSizes 38 = .ok (.getfield 11, 3) := by decide +kernel
theorem dX1_setSizes_41 : decode cX1_setSizes 41 = .ok (.iload 6, 2) := by decide +kernel
theorem dX1_setSizes_43 : decode cX1_setSizes 43 = .ok (.iconst 3, 1) := by decide +kernel
theorem dX1_setSizes_44 : decode cX1_setSizes 44 = .ok (.iadd, 1) := by decide +kernel
theorem dX1_setSizes_45 : decode cX1_setSizes 45 = .ok (.iload 5, 2) := by decide +kernel
theorem dX1_setSizes_47 : decode cX1_setSizes 47 = .ok (.iastore, 1) := by decide +kernel
theorem dX1_setSizes_48 : decode cX1_setSizes 48 = .ok (.return_, 1) := by decide +kernel
theorem dX1_setMeasuring_0 : decode cX1_setMeasuring 0 = .ok (.iload_n 1, 1) := by decide +kernel
theorem dX1_setMeasuring_1 : decode cX1_setMeasuring 1 = .ok (.bipush 7, 2) := by decide +kernel
theorem dX1_setMeasuring_3 : decode cX1_setMeasuring 3 = .ok (.imul, 1) := by decide +kernel
theorem dX1_setMeasuring_4 : decode cX1_setMeasuring 4 = .ok (.istore 5, 2) := by decide +kernel
theorem dX1_setMeasuring_6 : decode cX1_setMeasuring 6 = .ok (.aload_n 0, 1) := by decide +kernel
theorem dX1_setMeasuring_7 : decode cX1_setMeasuring 7 = .ok (.getfield 11, 3) := by decide +kernel
theorem dX1_setMeasuring_10 : decode cX1_setMeasuring 10 = .ok (.iload 5, 2) := by decide +kernel
theorem dX1_setMeasuring_12 : decode cX1_setMeasuring 12 = .ok (.iconst 4, 1) := by decide +kernel
theorem dX1_setMeasuring_13 : decode cX1_setMeasuring 13 = .ok (.iadd, 1) := by decide +kernel
theorem dX1_setMeasuring_14 : decode cX1_setMeasuring 14 = .ok (.iload_n 2, 1) := by decide +kernel
theorem dX1_setMeasuring_15 : decode cX1_setMeasuring 15 = .ok (.iastore, 1) := by decide +kernel
theorem dX1_setMeasuring_16 : decode cX1_setMeasuring 16 = .ok (.aload_n 0, 1) := by decide +kernel
theorem dX1_setMeasuring_17 : decode cX1_setMeasuring 17 = .ok (.getfield 11, 3) := by decide +kernel
theorem dX1_setMeasuring_20 : decode cX1_setMeasuring 20 = .ok (.iload 5, 2) := by decide +kernel
theorem dX1_setMeasuring_22 : decode cX1_setMeasuring 22 = .ok (.iconst 5, 1) := by decide +kernel
theorem dX1_setMeasuring_23 : decode cX1_setMeasuring 23 = .ok (.iadd, 1) := by decide +kernel
theorem dX1_setMeasuring_24 : decode cX1_setMeasuring 24 = .ok (.iload_n 3, 1) := by decide +kernel
theorem dX1_setMeasuring_25 : decode cX1_setMeasuring 25 = .ok (.iastore, 1) := by decide +kernel
theorem dX1_setMeasuring_26 : decode cX1_setMeasuring 26 = .ok (.aload_n 0, 1) := by decide +kernel
theorem dX1_setMeasuring_27 : decode cX1_setMeasuring 27 = .ok (.getfield 11, 3) := by decide +kernel
theorem dX1_setMeasuring_30 : decode cX1_setMeasuring 30 = .ok (.iload 5, 2) := by decide +kernel
theorem dX1_setMeasuring_32 : decode cX1_setMeasuring 32 = .ok (.bipush 6, 2) := by decide +kernel
theorem dX1_setMeasuring_34 : decode cX1_setMeasuring 34 = .ok (.iadd, 1) := by decide +kernel
theorem dX1_setMeasuring_35 : decode cX1_setMeasuring 35 = .ok (.iload 4, 2) := by decide +kernel
theorem dX1_setMeasuring_37 : decode cX1_setMeasuring 37 = .ok (.iastore, 1) := by decide +kernel
theorem dX1_setMeasuring_38 : decode cX1_setMeasuring 38 = .ok (.return_, 1) := by decide +kernel
theorem dX2_init_0 : decode cX2_init 0 = .ok (.aload_n 0, 1) := by decide +kernel
theorem dX2_init_1 : decode cX2_init 1 = .ok (.invokespecial 7, 3) := by decide +kernel
theorem dX2_init_4 : decode cX2_init 4 = .ok (.aload_n 0, 1) := by decide +kernel
theorem dX2_init_5 : decode cX2_init 5 = .ok (.sipush 540, 3) := by decide +kernel
theorem dX2_init_8 : decode cX2_init 8 = .ok (.newarray .int, 2) := by decide +kernel
theorem dX2_init_10 : decode cX2_init 10 = .ok (.putfield 13, 3) := by decide +kernel
theorem dX2_init_13 : decode cX2_init 13 = .ok (.aload_n 0, 1) := by decide +kernel
theorem dX2_init_14 : decode cX2_init 14 = .ok (.bipush 60, 2) := by decide +kernel
theorem dX2_init_16 : decode cX2_init 16 = .ok (.newarray .boolean, 2) := by decide +kernel
theorem dX2_init_18 : decode cX2_init 18 = .ok (.putfield 17, 3) := by decide +kernel
theorem dX2_init_21 : decode cX2_init 21 = .ok (.aload_n 0, 1) := by decide +kernel
theorem dX2_init_22 : decode cX2_init 22 = .ok (.bipush 60, 2) := by decide +kernel
theorem dX2_init_24 : decode cX2_init 24 = .ok (.newarray .int, 2) := by decide +kernel
theorem dX2_init_26 : decode cX2_init 26 = .ok (.putfield 21, 3) := by decide +kernel
theorem dX2_init_29 : decode cX2_init 29 = .ok (.aload_n 0, 1) := by decide +kernel
theorem dX2_init_30 : decode cX2_init 30 = .ok (.bipush 60, 2) := by decide +kernel
theorem dX2_init_32 : decode cX2_init 32 = .ok (.newarray .int, 2) := by decide +kernel
theorem dX2_init_34 : decode cX2_init 34 = .ok (.putfield 24, 3) := by decide +kernel
theorem dX2_init_37 : decode cX2_init 37 = .ok (.aload_n 0, 1) := by decide +kernel
theorem dX2_init_38 : decode cX2_init 38 = .ok (.bipush 40, 2) := by decide +kernel
theorem dX2_init_40 : decode cX2_init 40 = .ok (.newarray .int, 2) := by decide +kernel
theorem dX2_init_42 : decode cX2_init 42 = .ok (.putfield 27, 3) := by decide +kernel
theorem dX2_init_45 : decode cX2_init 45 = .ok (.aload_n 0, 1) := by decide +kernel
theorem dX2_init_46 : decode cX2_init 46 = .ok (.bipush 40, 2) := by decide +kernel
theorem dX2_init_48 : decode cX2_init 48 = .ok (.newarray .int, 2) := by decide +kernel
theorem dX2_init_50 : decode cX2_init 50 = .ok (.putfield 30, 3) := by decide +kernel
theorem dX2_init_53 : decode cX2_init 53 = .ok (.aload_n 0, 1) := by decide +kernel
theorem dX2_init_54 : decode cX2_init 54 = .ok (.bipush 40, 2) := by decide +kernel
theorem dX2_init_56 : decode cX2_init 56 = .ok (.newarray .int, 2) := by decide +kernel
theorem dX2_init_58 : decode cX2_init 58 = .ok (.putfield 33, 3) := by decide +kernel
theorem dX2_init_61 : decode cX2_init 61 = .ok (.aload_n 0, 1) := by decide +kernel
theorem dX2_init_62 : decode cX2_init 62 = .ok (.bipush 40, 2) := by decide +kernel
theorem dX2_init_64 : decode cX2_init 64 = .ok (.newarray .int, 2) := by decide +kernel
theorem dX2_init_66 : decode cX2_init 66 = .ok (.putfield 36, 3) := by decide +kernel
theorem dX2_init_69 : decode cX2_init 69 = .ok (.aload_n 0, 1) := by decide +kernel
theorem dX2_init_70 : decode cX2_init 70 = .ok (.invokevirtual 39, 3) := by decide +kernel
theorem dX2_init_73 : decode cX2_init 73 = .ok (.return_, 1) := by decide +kernel
theorem dX2_size_0 : decode cX2_size 0 = .ok (.aload_n 0, 1) := by decide +kernel
theorem dX2_size_1 : decode cX2_size 1 = .ok (.getfield 42, 3) := by decide +kernel
theorem dX2_size_4 : decode cX2_size 4 = .ok (.ireturn, 1) := by decide +kernel
theorem dX2_has_0 : decode cX2_has 0 = .ok (.iload_n 1, 1) := by decide +kernel
theorem dX2_has_1 : decode cX2_has 1 = .ok (.iconst 0, 1) := by decide +kernel
theorem dX2_has_2 : decode cX2_has 2 = .ok (.aload_n 0, 1) := by decide +kernel
theorem dX2_has_3 : decode cX2_has 3 = .ok (.getfield 42, 3) := by decide +kernel
theorem dX2_has_6 : decode cX2_has 6 = .ok (.iconst 1, 1) := by decide +kernel
theorem dX2_has_7 : decode cX2_has 7 = .ok (.isub, 1) := by decide +kernel
theorem dX2_has_8 : decode cX2_has 8 = .ok (.invokestatic 46, 3) := by decide +kernel
theorem dX2_has_11 : decode cX2_has 11 = .ok (.ireturn, 1) := by decide +kernel
theorem dX2_told_0 : decode cX2_told 0 = .ok (.aload_n 0, 1) := by decide +kernel
theorem dX2_told_1 : decode cX2_told 1 = .ok (.getfield 13, 3) := by decide +kernel
theorem dX2_told_4 : decode cX2_told 4 = .ok (.iload_n 1, 1) := by decide +kernel
theorem dX2_told_5 : decode cX2_told 5 = .ok (.bipush 9, 2) := by decide +kernel
theorem dX2_told_7 : decode cX2_told 7 = .ok (.imul, 1) := by decide +kernel
theorem dX2_told_8 : decode cX2_told 8 = .ok (.iload_n 2, 1) := by decide +kernel
theorem dX2_told_9 : decode cX2_told 9 = .ok (.iadd, 1) := by decide +kernel
theorem dX2_told_10 : decode cX2_told 10 = .ok (.iaload, 1) := by decide +kernel
theorem dX2_told_11 : decode cX2_told 11 = .ok (.ireturn, 1) := by decide +kernel
theorem dX2_addRedeem_0 : decode cX2_addRedeem 0 = .ok (.aload_n 0, 1) := by decide +kernel
theorem dX2_addRedeem_1 : decode cX2_addRedeem 1 = .ok (.iload_n 1, 1) := by decide +kernel
theorem dX2_addRedeem_2 : decode cX2_addRedeem 2 = .ok (.iconst 0, 1) := by decide +kernel
theorem dX2_addRedeem_3 : decode cX2_addRedeem 3 = .ok (.invokevirtual 50, 3) := by decide +kernel
theorem dX2_addRedeem_6 : decode cX2_addRedeem 6 = .ok (.iconst 1, 1) := by decide +kernel
theorem dX2_addRedeem_7 : decode cX2_addRedeem 7 = .ok (.if_icmp .eq 6, 3) := by decide +kernel
theorem dX2_addRedeem_10 : decode cX2_addRedeem 10 = .ok (.bipush (-5), 2) := by decide +kernel
theorem dX2_addRedeem_12 : decode cX2_addRedeem 12 = .ok (.ireturn, 1) := by decide +kernel
theorem dX2_addRedeem_13 : decode cX2_addRedeem 13 = .ok (.aload_n 0, 1) := by decide +kernel
theorem dX2_addRedeem_14 : decode cX2_addRedeem 14 = .ok (.iconst 2, 1) := by decide +kernel
theorem dX2_addRedeem_15 : decode cX2_addRedeem 15 = .ok (.aload_n 0, 1) := by decide +kernel
theorem dX2_addRedeem_16 : decode cX2_addRedeem 16 = .ok (.iload_n 1, 1) := by decide +kernel
theorem dX2_addRedeem_17 : decode cX2_addRedeem 17 = .ok (.iconst 1, 1) := by decide +kernel
theorem dX2_addRedeem_18 : decode cX2_addRedeem 18 = .ok (.invokevirtual 50, 3) := by decide +kernel
theorem dX2_addRedeem_21 : decode cX2_addRedeem 21 = .ok (.aload_n 0, 1) := by decide +kernel
theorem dX2_addRedeem_22 : decode cX2_addRedeem 22 = .ok (.iload_n 1, 1) := by decide +kernel
theorem dX2_addRedeem_23 : decode cX2_addRedeem 23 = .ok (.iconst 2, 1) := by decide +kernel
theorem dX2_addRedeem_24 : decode cX2_addRedeem 24 = .ok (.invokevirtual 50, 3) := by decide +kernel
theorem dX2_addRedeem_27 : decode cX2_addRedeem 27 = .ok (.aload_n 0, 1) := by decide +kernel
theorem dX2_addRedeem_28 : decode cX2_addRedeem 28 = .ok (.iload_n 1, 1) := by decide +kernel
theorem dX2_addRedeem_29 : decode cX2_addRedeem 29 = .ok (.iconst 3, 1) := by decide +kernel
theorem dX2_addRedeem_30 : decode cX2_addRedeem 30 = .ok (.invokevirtual 50, 3) := by decide +kernel
theorem dX2_addRedeem_33 : decode cX2_addRedeem 33 = .ok (.aload_n 0, 1) := by decide +kernel
theorem dX2_addRedeem_34 : decode cX2_addRedeem 34 = .ok (.iload_n 1, 1) := by decide +kernel
theorem dX2_addRedeem_35 : decode cX2_addRedeem 35 = .ok (.iconst 4, 1) := by decide +kernel
theorem dX2_addRedeem_36 : decode cX2_addRedeem 36 = .ok (.invokevirtual 50, 3) := by decide +kernel
theorem dX2_addRedeem_39 : decode cX2_addRedeem 39 = .ok (.iload_n 1, 1) := by decide +kernel
theorem dX2_addRedeem_40 : decode cX2_addRedeem 40 = .ok (.invokevirtual 54, 3) := by decide +kernel
theorem dX2_addRedeem_43 : decode cX2_addRedeem 43 = .ok (.ireturn, 1) := by decide +kernel
theorem dX2_add_0 : decode cX2_add 0 = .ok (.aload_n 0, 1) := by decide +kernel
theorem dX2_add_1 : decode cX2_add 1 = .ok (.getfield 42, 3) := by decide +kernel
theorem dX2_add_4 : decode cX2_add 4 = .ok (.bipush 60, 2) := by decide +kernel
theorem dX2_add_6 : decode cX2_add 6 = .ok (.if_icmp .lt 6, 3) := by decide +kernel
theorem dX2_add_9 : decode cX2_add 9 = .ok (.bipush (-2), 2) := by decide +kernel
theorem dX2_add_11 : decode cX2_add 11 = .ok (.ireturn, 1) := by decide +kernel
theorem dX2_add_12 : decode cX2_add 12 = .ok (.aload_n 0, 1) := by decide +kernel
theorem dX2_add_13 : decode cX2_add 13 = .ok (.getfield 21, 3) := by decide +kernel
theorem dX2_add_16 : decode cX2_add 16 = .ok (.aload_n 0, 1) := by decide +kernel
theorem dX2_add_17 : decode cX2_add 17 = .ok (.getfield 42, 3) := by decide +kernel
theorem dX2_add_20 : decode cX2_add 20 = .ok (.iload_n 2, 1) := by decide +kernel
theorem dX2_add_21 : decode cX2_add 21 = .ok (.iload_n 3, 1) := by decide +kernel
theorem dX2_add_22 : decode cX2_add 22 = .ok (.invokestatic 58, 3) := by decide +kernel
theorem dX2_add_25 : decode cX2_add 25 = .ok (.iastore, 1) := by decide +kernel
theorem dX2_add_26 : decode cX2_add 26 = .ok (.aload_n 0, 1) := by decide +kernel
theorem dX2_add_27 : decode cX2_add 27 = .ok (.getfield 24, 3) := by decide +kernel
theorem dX2_add_30 : decode cX2_add 30 = .ok (.aload_n 0, 1) := by decide +kernel
theorem dX2_add_31 : decode cX2_add 31 = .ok (.getfield 42, 3) := by decide +kernel
theorem dX2_add_34 : decode cX2_add 34 = .ok (.iload_n 2, 1) := by decide +kernel
theorem dX2_add_35 : decode cX2_add 35 = .ok (.iload 4, 2) := by decide +kernel
theorem dX2_add_37 : decode cX2_add 37 = .ok (.invokestatic 58, 3) := by decide +kernel
theorem dX2_add_40 : decode cX2_add 40 = .ok (.iastore, 1) := by decide +kernel
theorem dX2_add_41 : decode cX2_add 41 = .ok (.aload_n 0, 1) := by decide +kernel
theorem dX2_add_42 : decode cX2_add 42 = .ok (.aload_n 0, 1) := by decide +kernel
theorem dX2_add_43 : decode cX2_add 43 = .ok (.getfield 42, 3) := by decide +kernel
theorem dX2_add_46 : decode cX2_add 46 = .ok (.iconst 0, 1) := by decide +kernel
theorem dX2_add_47 : decode cX2_add 47 = .ok (.iload_n 1, 1) := by decide +kernel
theorem dX2_add_48 : decode cX2_add 48 = .ok (.invokevirtual 61, 3) := by decide +kernel
theorem dX2_add_51 : decode cX2_add 51 = .ok (.aload_n 0, 1) := by decide +kernel
theorem dX2_add_52 : decode cX2_add 52 = .ok (.aload_n 0, 1) := by decide +kernel
theorem dX2_add_53 : decode cX2_add 53 = .ok (.getfield 42, 3) := by decide +kernel
theorem dX2_add_56 : decode cX2_add 56 = .ok (.iconst 1, 1) := by decide +kernel
theorem dX2_add_57 : decode cX2_add 57 = .ok (.iload_n 2, 1) := by decide +kernel
theorem dX2_add_58 : decode cX2_add 58 = .ok (.invokevirtual 61, 3) := by decide +kernel
theorem dX2_add_61 : decode cX2_add 61 = .ok (.aload_n 0, 1) := by decide +kernel
theorem dX2_add_62 : decode cX2_add 62 = .ok (.aload_n 0, 1) := by decide +kernel
theorem dX2_add_63 : decode cX2_add 63 = .ok (.getfield 42, 3) := by decide +kernel
theorem dX2_add_66 : decode cX2_add 66 = .ok (.iconst 2, 1) := by decide +kernel
theorem dX2_add_67 : decode cX2_add 67 = .ok (.iload_n 3, 1) := by decide +kernel
theorem dX2_add_68 : decode cX2_add 68 = .ok (.invokevirtual 61, 3) := by decide +kernel
theorem dX2_add_71 : decode cX2_add 71 = .ok (.aload_n 0, 1) := by decide +kernel
theorem dX2_add_72 : decode cX2_add 72 = .ok (.aload_n 0, 1) := by decide +kernel
theorem dX2_add_73 : decode cX2_add 73 = .ok (.getfield 42, 3) := by decide +kernel
theorem dX2_add_76 : decode cX2_add 76 = .ok (.iconst 3, 1) := by decide +kernel
theorem dX2_add_77 : decode cX2_add 77 = .ok (.iload 4, 2) := by decide +kernel
theorem dX2_add_79 : decode cX2_add 79 = .ok (.invokevirtual 61, 3) := by decide +kernel
theorem dX2_add_82 : decode cX2_add 82 = .ok (.aload_n 0, 1) := by decide +kernel
theorem dX2_add_83 : decode cX2_add 83 = .ok (.aload_n 0, 1) := by decide +kernel
theorem dX2_add_84 : decode cX2_add 84 = .ok (.getfield 42, 3) := by decide +kernel
theorem dX2_add_87 : decode cX2_add 87 = .ok (.iconst 4, 1) := by decide +kernel
theorem dX2_add_88 : decode cX2_add 88 = .ok (.iload 5, 2) := by decide +kernel
theorem dX2_add_90 : decode cX2_add 90 = .ok (.invokevirtual 61, 3) := by decide +kernel
theorem dX2_add_93 : decode cX2_add 93 = .ok (.aload_n 0, 1) := by decide +kernel
theorem dX2_add_94 : decode cX2_add 94 = .ok (.aload_n 0, 1) := by decide +kernel
theorem dX2_add_95 : decode cX2_add 95 = .ok (.getfield 42, 3) := by decide +kernel
theorem dX2_add_98 : decode cX2_add 98 = .ok (.bipush 8, 2) := by decide +kernel
theorem dX2_add_100 : decode cX2_add 100 = .ok (.iload 6, 2) := by decide +kernel
theorem dX2_add_102 : decode cX2_add 102 = .ok (.invokevirtual 61, 3) := by decide +kernel
theorem dX2_add_105 : decode cX2_add 105 = .ok (.aload_n 0, 1) := by decide +kernel
theorem dX2_add_106 : decode cX2_add 106 = .ok (.dup, 1) := by decide +kernel
theorem dX2_add_107 : decode cX2_add 107 = .ok (.getfield 42, 3) := by decide +kernel
theorem dX2_add_110 : decode cX2_add 110 = .ok (.iconst 1, 1) := by decide +kernel
theorem dX2_add_111 : decode cX2_add 111 = .ok (.iadd, 1) := by decide +kernel
theorem dX2_add_112 : decode cX2_add 112 = .ok (.putfield 42, 3) := by decide +kernel
theorem dX2_add_115 : decode cX2_add 115 = .ok (.aload_n 0, 1) := by decide +kernel
theorem dX2_add_116 : decode cX2_add 116 = .ok (.invokevirtual 39, 3) := by decide +kernel
theorem dX2_add_119 : decode cX2_add 119 = .ok (.aload_n 0, 1) := by decide +kernel
theorem dX2_add_120 : decode cX2_add 120 = .ok (.getfield 42, 3) := by decide +kernel
theorem dX2_add_123 : decode cX2_add 123 = .ok (.iconst 1, 1) := by decide +kernel
theorem dX2_add_124 : decode cX2_add 124 = .ok (.isub, 1) := by decide +kernel
theorem dX2_add_125 : decode cX2_add 125 = .ok (.ireturn, 1) := by decide +kernel
theorem dX2_markForged_0 : decode cX2_markForged 0 = .ok (.aload_n 0, 1) := by decide +kernel
theorem dX2_markForged_1 : decode cX2_markForged 1 = .ok (.iload_n 1, 1) := by decide +kernel
theorem dX2_markForged_2 : decode cX2_markForged 2 = .ok (.invokevirtual 65, 3) := by decide +kernel
theorem dX2_markForged_5 : decode cX2_markForged 5 = .ok (.ifCond .eq 6, 3) := by decide +kernel
theorem dX2_markForged_8 : decode cX2_markForged 8 = .ok (.bipush (-3), 2) := by decide +kernel
theorem dX2_markForged_10 : decode cX2_markForged 10 = .ok (.ireturn, 1) := by decide +kernel
theorem dX2_markForged_11 : decode cX2_markForged 11 = .ok (.aload_n 0, 1) := by decide +kernel
theorem dX2_markForged_12 : decode cX2_markForged 12 = .ok (.iload_n 1, 1) := by decide +kernel
theorem dX2_markForged_13 : decode cX2_markForged 13 = .ok (.iconst 5, 1) := by decide +kernel
theorem dX2_markForged_14 : decode cX2_markForged 14 = .ok (.iconst 1, 1) := by decide +kernel
theorem dX2_markForged_15 : decode cX2_markForged 15 = .ok (.invokevirtual 61, 3) := by decide +kernel
theorem dX2_markForged_18 : decode cX2_markForged 18 = .ok (.aload_n 0, 1) := by decide +kernel
theorem dX2_markForged_19 : decode cX2_markForged 19 = .ok (.invokevirtual 39, 3) := by decide +kernel
theorem dX2_markForged_22 : decode cX2_markForged 22 = .ok (.iconst 1, 1) := by decide +kernel
theorem dX2_markForged_23 : decode cX2_markForged 23 = .ok (.ireturn, 1) := by decide +kernel
theorem dX2_allParts_0 : decode cX2_allParts 0 = .ok (.aload_n 0, 1) := by decide +kernel
theorem dX2_allParts_1 : decode cX2_allParts 1 = .ok (.getfield 27, 3) := by decide +kernel
theorem dX2_allParts_4 : decode cX2_allParts 4 = .ok (.iload_n 1, 1) := by decide +kernel
theorem dX2_allParts_5 : decode cX2_allParts 5 = .ok (.iload_n 2, 1) := by decide +kernel
theorem dX2_allParts_6 : decode cX2_allParts 6 = .ok (.invokestatic 58, 3) := by decide +kernel
theorem dX2_allParts_9 : decode cX2_allParts 9 = .ok (.iaload, 1) := by decide +kernel
theorem dX2_allParts_10 : decode cX2_allParts 10 = .ok (.ireturn, 1) := by decide +kernel
theorem dX2_freeParts_0 : decode cX2_freeParts 0 = .ok (.aload_n 0, 1) := by decide +kernel
theorem dX2_freeParts_1 : decode cX2_freeParts 1 = .ok (.iload_n 1, 1) := by decide +kernel
theorem dX2_freeParts_2 : decode cX2_freeParts 2 = .ok (.iload_n 2, 1) := by decide +kernel
theorem dX2_freeParts_3 : decode cX2_freeParts 3 = .ok (.invokestatic 58, 3) := by decide +kernel
theorem dX2_freeParts_6 : decode cX2_freeParts 6 = .ok (.invokevirtual 69, 3) := by decide +kernel
theorem dX2_freeParts_9 : decode cX2_freeParts 9 = .ok (.ireturn, 1) := by decide +kernel
theorem dX2_partsHeld_0 : decode cX2_partsHeld 0 = .ok (.aload_n 0, 1) := by decide +kernel
theorem dX2_partsHeld_1 : decode cX2_partsHeld 1 = .ok (.getfield 33, 3) := by decide +kernel
theorem dX2_partsHeld_4 : decode cX2_partsHeld 4 = .ok (.iload_n 1, 1) := by decide +kernel
theorem dX2_partsHeld_5 : decode cX2_partsHeld 5 = .ok (.iload_n 2, 1) := by decide +kernel
theorem dX2_partsHeld_6 : decode cX2_partsHeld 6 = .ok (.invokestatic 58, 3) := by decide +kernel
theorem dX2_partsHeld_9 : decode cX2_partsHeld 9 = .ok (.iaload, 1) := by decide +kernel
theorem dX2_partsHeld_10 : decode cX2_partsHeld 10 = .ok (.ireturn, 1) := by decide +kernel
theorem dX2_greatestOwner_0 : decode cX2_greatestOwner 0 = .ok (.iconst 0, 1) := by decide +kernel
theorem dX2_greatestOwner_1 : decode cX2_greatestOwner 1 = .ok (.istore_n 2, 1) := by decide +kernel
theorem dX2_greatestOwner_2 : decode cX2_greatestOwner 2 = .ok (.iconst 1, 1) := by decide +kernel
theorem dX2_greatestOwner_3 : decode cX2_greatestOwner 3 = .ok (.istore_n 3, 1) := by decide +kernel
theorem dX2_greatestOwner_4 : decode cX2_greatestOwner 4 = .ok (.iload_n 3, 1) := by decide +kernel
theorem dX2_greatestOwner_5 : decode cX2_greatestOwner 5 = .ok (.bipush 8, 2) := by decide +kernel
theorem dX2_greatestOwner_7 : decode cX2_greatestOwner 7 = .ok (.if_icmp .ge 26, 3) := by decide +kernel
theorem dX2_greatestOwner_10 : decode cX2_greatestOwner 10 = .ok (.aload_n 0, 1) := by decide +kernel
theorem dX2_greatestOwner_11 : decode cX2_greatestOwner 11 = .ok (.iload_n 1, 1) := by decide +kernel
theorem dX2_greatestOwner_12 : decode cX2_greatestOwner 12 = .ok (.iload_n 3, 1) := by decide +kernel
theorem dX2_greatestOwner_13 : decode cX2_greatestOwner 13 = .ok (.invokevirtual 73, 3) := by decide +kernel
theorem dX2_greatestOwner_16 : decode cX2_greatestOwner 16 = .ok (.aload_n 0, 1) := by decide +kernel
theorem dX2_greatestOwner_17 : decode cX2_greatestOwner 17 = .ok (.iload_n 1, 1) := by decide +kernel
theorem dX2_greatestOwner_18 : decode cX2_greatestOwner 18 = .ok (.iload_n 2, 1) := by decide +kernel
theorem dX2_greatestOwner_19 : decode cX2_greatestOwner 19 = .ok (.invokevirtual 73, 3) := by decide +kernel
theorem dX2_greatestOwner_22 : decode cX2_greatestOwner 22 = .ok (.if_icmp .le 5, 3) := by decide +kernel
theorem dX2_greatestOwner_25 : decode cX2_greatestOwner 25 = .ok (.iload_n 3, 1) := by decide +kernel
theorem dX2_greatestOwner_26 : decode cX2_greatestOwner 26 = .ok (.istore_n 2, 1) := by decide +kernel
theorem dX2_greatestOwner_27 : decode cX2_greatestOwner 27 = .ok (.iinc 3 1, 3) := by decide +kernel
theorem dX2_greatestOwner_30 : decode cX2_greatestOwner 30 = .ok (.goto (-26), 3) := by decide +kernel
theorem dX2_greatestOwner_33 : decode cX2_greatestOwner 33 = .ok (.iload_n 2, 1) := by decide +kernel
theorem dX2_greatestOwner_34 : decode cX2_greatestOwner 34 = .ok (.ireturn, 1) := by decide +kernel
theorem dX2_forgedEntries_0 : decode cX2_forgedEntries 0 = .ok (.aload_n 0, 1) := by decide +kernel
theorem dX2_forgedEntries_1 : decode cX2_forgedEntries 1 = .ok (.iconst 5, 1) := by decide +kernel
theorem dX2_forgedEntries_2 : decode cX2_forgedEntries 2 = .ok (.invokevirtual 76, 3) := by decide +kernel
theorem dX2_forgedEntries_5 : decode cX2_forgedEntries 5 = .ok (.ireturn, 1) := by decide +kernel
theorem dX2_voidEntries_0 : decode cX2_voidEntries 0 = .ok (.aload_n 0, 1) := by decide +kernel
theorem dX2_voidEntries_1 : decode cX2_voidEntries 1 = .ok (.bipush 6, 2) := by decide +kernel
theorem dX2_voidEntries_3 : decode cX2_voidEntries 3 = .ok (.invokevirtual 76, 3) := by decide +kernel
theorem dX2_voidEntries_6 : decode cX2_voidEntries 6 = .ok (.ireturn, 1) := by decide +kernel
theorem dX2_standingPledges_0 : decode cX2_standingPledges 0 = .ok (.iconst 0, 1) := by decide +kernel
theorem dX2_standingPledges_1 : decode cX2_standingPledges 1 = .ok (.istore_n 1, 1) := by decide +kernel
theorem dX2_standingPledges_2 : decode cX2_standingPledges 2 = .ok (.iconst 0, 1) := by decide +kernel
theorem dX2_standingPledges_3 : decode cX2_standingPledges 3 = .ok (.istore_n 2, 1) := by decide +kernel
theorem dX2_standingPledges_4 : decode cX2_standingPledges 4 = .ok (.iload_n 2, 1) := by decide +kernel
theorem dX2_standingPledges_5 : decode cX2_standingPledges 5 = .ok (.aload_n 0, 1) := by decide +kernel
theorem dX2_standingPledges_6 : decode cX2_standingPledges 6 = .ok (.getfield 42, 3) := by decide +kernel
theorem dX2_standingPledges_9 : decode cX2_standingPledges 9 = .ok (.if_icmp .ge 26, 3) := by decide +kernel
theorem dX2_standingPledges_12 : decode cX2_standingPledges 12 = .ok (.iload_n 1, 1) := by decide +kernel
theorem dX2_standingPledges_13 : decode cX2_standingPledges 13 = .ok (.aload_n 0, 1) := by decide +kernel
theorem dX2_standingPledges_14 : decode cX2_standingPledges 14 = .ok (.getfield 17, 3) := by decide +kernel
theorem dX2_standingPledges_17 : decode cX2_standingPledges 17 = .ok (.iload_n 2, 1) := by decide +kernel
theorem dX2_standingPledges_18 : decode cX2_standingPledges 18 = .ok (.baload, 1) := by decide +kernel
theorem dX2_standingPledges_19 : decode cX2_standingPledges 19 = .ok (.ifCond .eq 7, 3) := by decide +kernel
theorem dX2_standingPledges_22 : decode cX2_standingPledges 22 = .ok (.iconst 1, 1) := by decide +kernel
theorem dX2_standingPledges_23 : decode cX2_standingPledges 23 = .ok (.goto 4, 3) := by decide +kernel
theorem dX2_standingPledges_26 : decode cX2_standingPledges 26 = .ok (.iconst 0, 1) := by decide +kernel
theorem dX2_standingPledges_27 : decode cX2_standingPledges 27 = .ok (.iadd, 1) := by decide +kernel
theorem dX2_standingPledges_28 : decode cX2_standingPledges 28 = .ok (.istore_n 1, 1) := by decide +kernel
theorem dX2_standingPledges_29 : decode cX2_standingPledges 29 = .ok (.iinc 2 1, 3) := by decide +kernel
theorem dX2_standingPledges_32 : decode cX2_standingPledges 32 = .ok (.goto (-28), 3) := by decide +kernel
theorem dX2_standingPledges_35 : decode cX2_standingPledges 35 = .ok (.iload_n 1, 1) := by decide +kernel
theorem dX2_standingPledges_36 : decode cX2_standingPledges 36 = .ok (.ireturn, 1) := by decide +kernel
theorem dX2_sumOf_0 : decode cX2_sumOf 0 = .ok (.iconst 0, 1) := by decide +kernel
theorem dX2_sumOf_1 : decode cX2_sumOf 1 = .ok (.istore_n 2, 1) := by decide +kernel
theorem dX2_sumOf_2 : decode cX2_sumOf 2 = .ok (.iconst 0, 1) := by decide +kernel
theorem dX2_sumOf_3 : decode cX2_sumOf 3 = .ok (.istore_n 3, 1) := by decide +kernel
theorem dX2_sumOf_4 : decode cX2_sumOf 4 = .ok (.iload_n 3, 1) := by decide +kernel
theorem dX2_sumOf_5 : decode cX2_sumOf 5 = .ok (.aload_n 0, 1) := by decide +kernel
theorem dX2_sumOf_6 : decode cX2_sumOf 6 = .ok (.getfield 42, 3) := by decide +kernel
theorem dX2_sumOf_9 : decode cX2_sumOf 9 = .ok (.if_icmp .ge 18, 3) := by decide +kernel
theorem dX2_sumOf_12 : decode cX2_sumOf 12 = .ok (.iload_n 2, 1) := by decide +kernel
theorem dX2_sumOf_13 : decode cX2_sumOf 13 = .ok (.aload_n 0, 1) := by decide +kernel
theorem dX2_sumOf_14 : decode cX2_sumOf 14 = .ok (.iload_n 3, 1) := by decide +kernel
theorem dX2_sumOf_15 : decode cX2_sumOf 15 = .ok (.iload_n 1, 1) := by decide +kernel
theorem dX2_sumOf_16 : decode cX2_sumOf 16 = .ok (.invokevirtual 50, 3) := by decide +kernel
theorem dX2_sumOf_19 : decode cX2_sumOf 19 = .ok (.iadd, 1) := by decide +kernel
theorem dX2_sumOf_20 : decode cX2_sumOf 20 = .ok (.istore_n 2, 1) := by decide +kernel
theorem dX2_sumOf_21 : decode cX2_sumOf 21 = .ok (.iinc 3 1, 3) := by decide +kernel
theorem dX2_sumOf_24 : decode cX2_sumOf 24 = .ok (.goto (-20), 3) := by decide +kernel
theorem dX2_sumOf_27 : decode cX2_sumOf 27 = .ok (.iload_n 2, 1) := by decide +kernel
theorem dX2_sumOf_28 : decode cX2_sumOf 28 = .ok (.ireturn, 1) := by decide +kernel
theorem dX2_put_0 : decode cX2_put 0 = .ok (.aload_n 0, 1) := by decide +kernel
theorem dX2_put_1 : decode cX2_put 1 = .ok (.getfield 13, 3) := by decide +kernel
theorem dX2_put_4 : decode cX2_put 4 = .ok (.iload_n 1, 1) := by decide +kernel
theorem dX2_put_5 : decode cX2_put 5 = .ok (.bipush 9, 2) := by decide +kernel
theorem dX2_put_7 : decode cX2_put 7 = .ok (.imul, 1) := by decide +kernel
theorem dX2_put_8 : decode cX2_put 8 = .ok (.iload_n 2, 1) := by decide +kernel
theorem dX2_put_9 : decode cX2_put 9 = .ok (.iadd, 1) := by decide +kernel
theorem dX2_put_10 : decode cX2_put 10 = .ok (.iload_n 3, 1) := by decide +kernel
theorem dX2_put_11 : decode cX2_put 11 = .ok (.iastore, 1) := by decide +kernel
theorem dX2_put_12 : decode cX2_put 12 = .ok (.return_, 1) := by decide +kernel
theorem dX2_isForged_0 : decode cX2_isForged 0 = .ok (.aload_n 0, 1) := by decide +kernel
theorem dX2_isForged_1 : decode cX2_isForged 1 = .ok (.iload_n 1, 1) := by decide +kernel
theorem dX2_isForged_2 : decode cX2_isForged 2 = .ok (.iconst 5, 1) := by decide +kernel
theorem dX2_isForged_3 : decode cX2_isForged 3 = .ok (.invokevirtual 50, 3) := by decide +kernel
theorem dX2_isForged_6 : decode cX2_isForged 6 = .ok (.iconst 1, 1) := by decide +kernel
theorem dX2_isForged_7 : decode cX2_isForged 7 = .ok (.if_icmp .ne 7, 3) := by decide +kernel
theorem dX2_isForged_10 : decode cX2_isForged 10 = .ok (.iconst 1, 1) := by decide +kernel
theorem dX2_isForged_11 : decode cX2_isForged 11 = .ok (.goto 4, 3) := by decide +kernel
theorem dX2_isForged_14 : decode cX2_isForged 14 = .ok (.iconst 0, 1) := by decide +kernel
theorem dX2_isForged_15 : decode cX2_isForged 15 = .ok (.ireturn, 1) := by decide +kernel
theorem dX2_account_0 : decode cX2_account 0 = .ok (.iload_n 0, 1) := by decide +kernel
theorem dX2_account_1 : decode cX2_account 1 = .ok (.bipush 8, 2) := by decide +kernel
theorem dX2_account_3 : decode cX2_account 3 = .ok (.imul, 1) := by decide +kernel
theorem dX2_account_4 : decode cX2_account 4 = .ok (.iload_n 1, 1) := by decide +kernel
theorem dX2_account_5 : decode cX2_account 5 = .ok (.iadd, 1) := by decide +kernel
theorem dX2_account_6 : decode cX2_account 6 = .ok (.ireturn, 1) := by decide +kernel
theorem dX2_freeOf_0 : decode cX2_freeOf 0 = .ok (.aload_n 0, 1) := by decide +kernel
theorem dX2_freeOf_1 : decode cX2_freeOf 1 = .ok (.getfield 27, 3) := by decide +kernel
theorem dX2_freeOf_4 : decode cX2_freeOf 4 = .ok (.iload_n 1, 1) := by decide +kernel
theorem dX2_freeOf_5 : decode cX2_freeOf 5 = .ok (.iaload, 1) := by decide +kernel
theorem dX2_freeOf_6 : decode cX2_freeOf 6 = .ok (.aload_n 0, 1) := by decide +kernel
theorem dX2_freeOf_7 : decode cX2_freeOf 7 = .ok (.getfield 30, 3) := by decide +kernel
theorem dX2_freeOf_10 : decode cX2_freeOf 10 = .ok (.iload_n 1, 1) := by decide +kernel
theorem dX2_freeOf_11 : decode cX2_freeOf 11 = .ok (.iaload, 1) := by decide +kernel
theorem dX2_freeOf_12 : decode cX2_freeOf 12 = .ok (.isub, 1) := by decide +kernel
theorem dX2_freeOf_13 : decode cX2_freeOf 13 = .ok (.ireturn, 1) := by decide +kernel
theorem dX2_goThrough_0 : decode cX2_goThrough 0 = .ok (.aload_n 0, 1) := by decide +kernel
theorem dX2_goThrough_1 : decode cX2_goThrough 1 = .ok (.invokevirtual 79, 3) := by decide +kernel
theorem dX2_goThrough_4 : decode cX2_goThrough 4 = .ok (.iconst 0, 1) := by decide +kernel
theorem dX2_goThrough_5 : decode cX2_goThrough 5 = .ok (.istore_n 1, 1) := by decide +kernel
theorem dX2_goThrough_6 : decode cX2_goThrough 6 = .ok (.iload_n 1, 1) := by decide +kernel
theorem dX2_goThrough_7 : decode cX2_goThrough 7 = .ok (.aload_n 0, 1) := by decide +kernel
theorem dX2_goThrough_8 : decode cX2_goThrough 8 = .ok (.getfield 42, 3) := by decide +kernel
theorem dX2_goThrough_11 : decode cX2_goThrough 11 = .ok (.if_icmp .ge 37, 3) := by decide +kernel
theorem dX2_goThrough_14 : decode cX2_goThrough 14 = .ok (.aload_n 0, 1) := by decide +kernel
theorem dX2_goThrough_15 : decode cX2_goThrough 15 = .ok (.iload_n 1, 1) := by decide +kernel
theorem dX2_goThrough_16 : decode cX2_goThrough 16 = .ok (.bipush 6, 2) := by decide +kernel
theorem dX2_goThrough_18 : decode cX2_goThrough 18 = .ok (.aload_n 0, 1) := by decide +kernel
theorem dX2_goThrough_19 : decode cX2_goThrough 19 = .ok (.iload_n 1, 1) := by decide +kernel
theorem dX2_goThrough_20 : decode cX2_goThrough 20 = .ok (.invokevirtual 65, 3) := by decide +kernel
theorem dX2_goThrough_23 : decode cX2_goThrough 23 = .ok (.ifCond .ne 11, 3) := by decide +kernel
theorem dX2_goThrough_26 : decode cX2_goThrough 26 = .ok (.aload_n 0, 1) := by decide +kernel
theorem dX2_goThrough_27 : decode cX2_goThrough 27 = .ok (.iload_n 1, 1) := by decide +kernel
theorem dX2_goThrough_28 : decode cX2_goThrough 28 = .ok (.invokevirtual 82, 3) := by decide +kernel
theorem dX2_goThrough_31 : decode cX2_goThrough 31 = .ok (.ifCond .eq 7, 3) := by decide +kernel
theorem dX2_goThrough_34 : decode cX2_goThrough 34 = .ok (.iconst 0, 1) := by decide +kernel
theorem dX2_goThrough_35 : decode cX2_goThrough 35 = .ok (.goto 4, 3) := by decide +kernel
theorem dX2_goThrough_38 : decode cX2_goThrough 38 = .ok (.iconst 1, 1) := by decide +kernel
theorem dX2_goThrough_39 : decode cX2_goThrough 39 = .ok (.invokevirtual 61, 3) := by decide +kernel
theorem dX2_goThrough_42 : decode cX2_goThrough 42 = .ok (.iinc 1 1, 3) := by decide +kernel
theorem dX2_goThrough_45 : decode cX2_goThrough 45 = .ok (.goto (-39), 3) := by decide +kernel
theorem dX2_goThrough_48 : decode cX2_goThrough 48 = .ok (.aload_n 0, 1) := by decide +kernel
theorem dX2_goThrough_49 : decode cX2_goThrough 49 = .ok (.invokevirtual 85, 3) := by decide +kernel
theorem dX2_goThrough_52 : decode cX2_goThrough 52 = .ok (.return_, 1) := by decide +kernel
theorem dX2_beginAnew_0 : decode cX2_beginAnew 0 = .ok (.aload_n 0, 1) := by decide +kernel
theorem dX2_beginAnew_1 : decode cX2_beginAnew 1 = .ok (.getfield 27, 3) := by decide +kernel
theorem dX2_beginAnew_4 : decode cX2_beginAnew 4 = .ok (.iconst 0, 1) := by decide +kernel
theorem dX2_beginAnew_5 : decode cX2_beginAnew 5 = .ok (.invokestatic 88, 3) := by decide +kernel
theorem dX2_beginAnew_8 : decode cX2_beginAnew 8 = .ok (.aload_n 0, 1) := by decide +kernel
theorem dX2_beginAnew_9 : decode cX2_beginAnew 9 = .ok (.getfield 30, 3) := by decide +kernel
theorem dX2_beginAnew_12 : decode cX2_beginAnew 12 = .ok (.iconst 0, 1) := by decide +kernel
theorem dX2_beginAnew_13 : decode cX2_beginAnew 13 = .ok (.invokestatic 88, 3) := by decide +kernel
theorem dX2_beginAnew_16 : decode cX2_beginAnew 16 = .ok (.aload_n 0, 1) := by decide +kernel
theorem dX2_beginAnew_17 : decode cX2_beginAnew 17 = .ok (.getfield 33, 3) := by decide +kernel
theorem dX2_beginAnew_20 : decode cX2_beginAnew 20 = .ok (.iconst 0, 1) := by decide +kernel
theorem dX2_beginAnew_21 : decode cX2_beginAnew 21 = .ok (.invokestatic 88, 3) := by decide +kernel
theorem dX2_beginAnew_24 : decode cX2_beginAnew 24 = .ok (.iconst 0, 1) := by decide +kernel
theorem dX2_beginAnew_25 : decode cX2_beginAnew 25 = .ok (.istore_n 1, 1) := by decide +kernel
theorem dX2_beginAnew_26 : decode cX2_beginAnew 26 = .ok (.iload_n 1, 1) := by decide +kernel
theorem dX2_beginAnew_27 : decode cX2_beginAnew 27 = .ok (.iconst 5, 1) := by decide +kernel
theorem dX2_beginAnew_28 : decode cX2_beginAnew 28 = .ok (.if_icmp .ge 21, 3) := by decide +kernel
theorem dX2_beginAnew_31 : decode cX2_beginAnew 31 = .ok (.aload_n 0, 1) := by decide +kernel
theorem dX2_beginAnew_32 : decode cX2_beginAnew 32 = .ok (.getfield 27, 3) := by decide +kernel
theorem dX2_beginAnew_35 : decode cX2_beginAnew 35 = .ok (.iload_n 1, 1) := by decide +kernel
theorem dX2_beginAnew_36 : decode cX2_beginAnew 36 = .ok (.iconst 0, 1) := by decide +kernel
theorem dX2_beginAnew_37 : decode cX2_beginAnew 37 = .ok (.invokestatic 58, 3) := by decide +kernel
theorem dX2_beginAnew_40 : decode cX2_beginAnew 40 = .ok (.bipush 64, 2) := by decide +kernel
theorem dX2_beginAnew_42 : decode cX2_beginAnew 42 = .ok (.iastore, 1) := by decide +kernel
theorem dX2_beginAnew_43 : decode cX2_beginAnew 43 = .ok (.iinc 1 1, 3) := by decide +kernel
theorem dX2_beginAnew_46 : decode cX2_beginAnew 46 = .ok (.goto (-20), 3) := by decide +kernel
theorem dX2_beginAnew_49 : decode cX2_beginAnew 49 = .ok (.iconst 0, 1) := by decide +kernel
theorem dX2_beginAnew_50 : decode cX2_beginAnew 50 = .ok (.istore_n 1, 1) := by decide +kernel
theorem dX2_beginAnew_51 : decode cX2_beginAnew 51 = .ok (.iload_n 1, 1) := by decide +kernel
theorem dX2_beginAnew_52 : decode cX2_beginAnew 52 = .ok (.aload_n 0, 1) := by decide +kernel
theorem dX2_beginAnew_53 : decode cX2_beginAnew 53 = .ok (.getfield 42, 3) := by decide +kernel
theorem dX2_beginAnew_56 : decode cX2_beginAnew 56 = .ok (.if_icmp .ge 16, 3) := by decide +kernel
theorem dX2_beginAnew_59 : decode cX2_beginAnew 59 = .ok (.aload_n 0, 1) := by decide +kernel
theorem dX2_beginAnew_60 : decode cX2_beginAnew 60 = .ok (.getfield 17, 3) := by decide +kernel
theorem dX2_beginAnew_63 : decode cX2_beginAnew 63 = .ok (.iload_n 1, 1) := by decide +kernel
theorem dX2_beginAnew_64 : decode cX2_beginAnew 64 = .ok (.iconst 0, 1) := by decide +kernel
theorem dX2_beginAnew_65 : decode cX2_beginAnew 65 = .ok (.bastore, 1) := by decide +kernel
theorem dX2_beginAnew_66 : decode cX2_beginAnew 66 = .ok (.iinc 1 1, 3) := by decide +kernel
theorem dX2_beginAnew_69 : decode cX2_beginAnew 69 = .ok (.goto (-18), 3) := by decide +kernel
theorem dX2_beginAnew_72 : decode cX2_beginAnew 72 = .ok (.return_, 1) := by decide +kernel
theorem dX2_takesEffect_0 : decode cX2_takesEffect 0 = .ok (.aload_n 0, 1) := by decide +kernel
theorem dX2_takesEffect_1 : decode cX2_takesEffect 1 = .ok (.iload_n 1, 1) := by decide +kernel
theorem dX2_takesEffect_2 : decode cX2_takesEffect 2 = .ok (.iconst 0, 1) := by decide +kernel
theorem dX2_takesEffect_3 : decode cX2_takesEffect 3 = .ok (.invokevirtual 50, 3) := by decide +kernel
theorem dX2_takesEffect_6 : decode cX2_takesEffect 6 = .ok (.lookupswitch 38 #[(0, 26), (1, 32)], 26) := by decide +kernel
theorem dX2_takesEffect_32 : decode cX2_takesEffect 32 = .ok (.aload_n 0, 1) := by decide +kernel
theorem dX2_takesEffect_33 : decode cX2_takesEffect 33 = .ok (.iload_n 1, 1) := by decide +kernel
theorem dX2_takesEffect_34 : decode cX2_takesEffect 34 = .ok (.invokevirtual 94, 3) := by decide +kernel
theorem dX2_takesEffect_37 : decode cX2_takesEffect 37 = .ok (.ireturn, 1) := by decide +kernel
theorem dX2_takesEffect_38 : decode cX2_takesEffect 38 = .ok (.aload_n 0, 1) := by decide +kernel
theorem dX2_takesEffect_39 : decode cX2_takesEffect 39 = .ok (.iload_n 1, 1) := by decide +kernel
theorem dX2_takesEffect_40 : decode cX2_takesEffect 40 = .ok (.invokevirtual 97, 3) := by decide +kernel
theorem dX2_takesEffect_43 : decode cX2_takesEffect 43 = .ok (.ireturn, 1) := by decide +kernel
theorem dX2_takesEffect_44 : decode cX2_takesEffect 44 = .ok (.aload_n 0, 1) := by decide +kernel
theorem dX2_takesEffect_45 : decode cX2_takesEffect 45 = .ok (.aload_n 0, 1) := by decide +kernel
theorem dX2_takesEffect_46 : decode cX2_takesEffect 46 = .ok (.iload_n 1, 1) := by decide +kernel
theorem dX2_takesEffect_47 : decode cX2_takesEffect 47 = .ok (.bipush 8, 2) := by decide +kernel
theorem dX2_takesEffect_49 : decode cX2_takesEffect 49 = .ok (.invokevirtual 50, 3) := by decide +kernel
theorem dX2_takesEffect_52 : decode cX2_takesEffect 52 = .ok (.invokevirtual 100, 3) := by decide +kernel
theorem dX2_takesEffect_55 : decode cX2_takesEffect 55 = .ok (.ireturn, 1) := by decide +kernel
theorem dX2_bringParts_0 : decode cX2_bringParts 0 = .ok (.aload_n 0, 1) := by decide +kernel
theorem dX2_bringParts_1 : decode cX2_bringParts 1 = .ok (.getfield 21, 3) := by decide +kernel
theorem dX2_bringParts_4 : decode cX2_bringParts 4 = .ok (.iload_n 1, 1) := by decide +kernel
theorem dX2_bringParts_5 : decode cX2_bringParts 5 = .ok (.iaload, 1) := by decide +kernel
theorem dX2_bringParts_6 : decode cX2_bringParts 6 = .ok (.istore_n 2, 1) := by decide +kernel
theorem dX2_bringParts_7 : decode cX2_bringParts 7 = .ok (.aload_n 0, 1) := by decide +kernel
theorem dX2_bringParts_8 : decode cX2_bringParts 8 = .ok (.iload_n 1, 1) := by decide +kernel
theorem dX2_bringParts_9 : decode cX2_bringParts 9 = .ok (.iconst 4, 1) := by decide +kernel
theorem dX2_bringParts_10 : decode cX2_bringParts 10 = .ok (.invokevirtual 50, 3) := by decide +kernel
theorem dX2_bringParts_13 : decode cX2_bringParts 13 = .ok (.istore_n 3, 1) := by decide +kernel
theorem dX2_bringParts_14 : decode cX2_bringParts 14 = .ok (.iload_n 3, 1) := by decide +kernel
theorem dX2_bringParts_15 : decode cX2_bringParts 15 = .ok (.aload_n 0, 1) := by decide +kernel
theorem dX2_bringParts_16 : decode cX2_bringParts 16 = .ok (.iload_n 2, 1) := by decide +kernel
theorem dX2_bringParts_17 : decode cX2_bringParts 17 = .ok (.invokevirtual 69, 3) := by decide +kernel
theorem dX2_bringParts_20 : decode cX2_bringParts 20 = .ok (.if_icmp .le 5, 3) := by decide +kernel
theorem dX2_bringParts_23 : decode cX2_bringParts 23 = .ok (.iconst 0, 1) := by decide +kernel
theorem dX2_bringParts_24 : decode cX2_bringParts 24 = .ok (.ireturn, 1) := by decide +kernel
theorem dX2_bringParts_25 : decode cX2_bringParts 25 = .ok (.aload_n 0, 1) := by decide +kernel
theorem dX2_bringParts_26 : decode cX2_bringParts 26 = .ok (.getfield 27, 3) := by decide +kernel
theorem dX2_bringParts_29 : decode cX2_bringParts 29 = .ok (.iload_n 2, 1) := by decide +kernel
theorem dX2_bringParts_30 : decode cX2_bringParts 30 = .ok (.dup2, 1) := by decide +kernel
theorem dX2_bringParts_31 : decode cX2_bringParts 31 = .ok (.iaload, 1) := by decide +kernel
theorem dX2_bringParts_32 : decode cX2_bringParts 32 = .ok (.iload_n 3, 1) := by decide +kernel
theorem dX2_bringParts_33 : decode cX2_bringParts 33 = .ok (.isub, 1) := by decide +kernel
theorem dX2_bringParts_34 : decode cX2_bringParts 34 = .ok (.iastore, 1) := by decide +kernel
theorem dX2_bringParts_35 : decode cX2_bringParts 35 = .ok (.aload_n 0, 1) := by decide +kernel
theorem dX2_bringParts_36 : decode cX2_bringParts 36 = .ok (.getfield 27, 3) := by decide +kernel
theorem dX2_bringParts_39 : decode cX2_bringParts 39 = .ok (.aload_n 0, 1) := by decide +kernel
theorem dX2_bringParts_40 : decode cX2_bringParts 40 = .ok (.getfield 24, 3) := by decide +kernel
theorem dX2_bringParts_43 : decode cX2_bringParts 43 = .ok (.iload_n 1, 1) := by decide +kernel
theorem dX2_bringParts_44 : decode cX2_bringParts 44 = .ok (.iaload, 1) := by decide +kernel
theorem dX2_bringParts_45 : decode cX2_bringParts 45 = .ok (.dup2, 1) := by decide +kernel
theorem dX2_bringParts_46 : decode cX2_bringParts 46 = .ok (.iaload, 1) := by decide +kernel
theorem dX2_bringParts_47 : decode cX2_bringParts 47 = .ok (.iload_n 3, 1) := by decide +kernel
theorem dX2_bringParts_48 : decode cX2_bringParts 48 = .ok (.iadd, 1) := by decide +kernel
theorem dX2_bringParts_49 : decode cX2_bringParts 49 = .ok (.iastore, 1) := by decide +kernel
theorem dX2_bringParts_50 : decode cX2_bringParts 50 = .ok (.iconst 1, 1) := by decide +kernel
theorem dX2_bringParts_51 : decode cX2_bringParts 51 = .ok (.ireturn, 1) := by decide +kernel
theorem dX2_beginPledge_0 : decode cX2_beginPledge 0 = .ok (.aload_n 0, 1) := by decide +kernel
theorem dX2_beginPledge_1 : decode cX2_beginPledge 1 = .ok (.iload_n 1, 1) := by decide +kernel
theorem dX2_beginPledge_2 : decode cX2_beginPledge 2 = .ok (.iconst 4, 1) := by decide +kernel
theorem dX2_beginPledge_3 : decode cX2_beginPledge 3 = .ok (.invokevirtual 50, 3) := by decide +kernel
theorem dX2_beginPledge_6 : decode cX2_beginPledge 6 = .ok (.aload_n 0, 1) := by decide +kernel
theorem dX2_beginPledge_7 : decode cX2_beginPledge 7 = .ok (.aload_n 0, 1) := by decide +kernel
theorem dX2_beginPledge_8 : decode cX2_beginPledge 8 = .ok (.getfield 21, 3) := by decide +kernel
theorem dX2_beginPledge_11 : decode cX2_beginPledge 11 = .ok (.iload_n 1, 1) := by decide +kernel
theorem dX2_beginPledge_12 : decode cX2_beginPledge 12 = .ok (.iaload, 1) := by decide +kernel
theorem dX2_beginPledge_13 : decode cX2_beginPledge 13 = .ok (.invokevirtual 69, 3) := by decide +kernel
theorem dX2_beginPledge_16 : decode cX2_beginPledge 16 = .ok (.if_icmp .le 5, 3) := by decide +kernel
theorem dX2_beginPledge_19 : decode cX2_beginPledge 19 = .ok (.iconst 0, 1) := by decide +kernel
theorem dX2_beginPledge_20 : decode cX2_beginPledge 20 = .ok (.ireturn, 1) := by decide +kernel
theorem dX2_beginPledge_21 : decode cX2_beginPledge 21 = .ok (.aload_n 0, 1) := by decide +kernel
theorem dX2_beginPledge_22 : decode cX2_beginPledge 22 = .ok (.iload_n 1, 1) := by decide +kernel
theorem dX2_beginPledge_23 : decode cX2_beginPledge 23 = .ok (.iconst 1, 1) := by decide +kernel
theorem dX2_beginPledge_24 : decode cX2_beginPledge 24 = .ok (.invokevirtual 103, 3) := by decide +kernel
theorem dX2_beginPledge_27 : decode cX2_beginPledge 27 = .ok (.iconst 1, 1) := by decide +kernel
theorem dX2_beginPledge_28 : decode cX2_beginPledge 28 = .ok (.ireturn, 1) := by decide +kernel
theorem dX2_endPledge_0 : decode cX2_endPledge 0 = .ok (.aload_n 0, 1) := by decide +kernel
theorem dX2_endPledge_1 : decode cX2_endPledge 1 = .ok (.iload_n 1, 1) := by decide +kernel
theorem dX2_endPledge_2 : decode cX2_endPledge 2 = .ok (.invokevirtual 107, 3) := by decide +kernel
theorem dX2_endPledge_5 : decode cX2_endPledge 5 = .ok (.ifCond .eq 12, 3) := by decide +kernel
theorem dX2_endPledge_8 : decode cX2_endPledge 8 = .ok (.aload_n 0, 1) := by decide +kernel
theorem dX2_endPledge_9 : decode cX2_endPledge 9 = .ok (.getfield 17, 3) := by decide +kernel
theorem dX2_endPledge_12 : decode cX2_endPledge 12 = .ok (.iload_n 1, 1) := by decide +kernel
theorem dX2_endPledge_13 : decode cX2_endPledge 13 = .ok (.baload, 1) := by decide +kernel
theorem dX2_endPledge_14 : decode cX2_endPledge 14 = .ok (.ifCond .ne 5, 3) := by decide +kernel
theorem dX2_endPledge_17 : decode cX2_endPledge 17 = .ok (.iconst 0, 1) := by decide +kernel
theorem dX2_endPledge_18 : decode cX2_endPledge 18 = .ok (.ireturn, 1) := by decide +kernel
theorem dX2_endPledge_19 : decode cX2_endPledge 19 = .ok (.aload_n 0, 1) := by decide +kernel
theorem dX2_endPledge_20 : decode cX2_endPledge 20 = .ok (.iload_n 1, 1) := by decide +kernel
theorem dX2_endPledge_21 : decode cX2_endPledge 21 = .ok (.iconst 0, 1) := by decide +kernel
theorem dX2_endPledge_22 : decode cX2_endPledge 22 = .ok (.invokevirtual 103, 3) := by decide +kernel
theorem dX2_endPledge_25 : decode cX2_endPledge 25 = .ok (.iconst 1, 1) := by decide +kernel
theorem dX2_endPledge_26 : decode cX2_endPledge 26 = .ok (.ireturn, 1) := by decide +kernel
theorem dX2_setStanding_0 : decode cX2_setStanding 0 = .ok (.iload_n 2, 1) := by decide +kernel
theorem dX2_setStanding_1 : decode cX2_setStanding 1 = .ok (.ifCond .eq 12, 3) := by decide +kernel
theorem dX2_setStanding_4 : decode cX2_setStanding 4 = .ok (.aload_n 0, 1) := by decide +kernel
theorem dX2_setStanding_5 : decode cX2_setStanding 5 = .ok (.iload_n 1, 1) := by decide +kernel
theorem dX2_setStanding_6 : decode cX2_setStanding 6 = .ok (.iconst 4, 1) := by decide +kernel
theorem dX2_setStanding_7 : decode cX2_setStanding 7 = .ok (.invokevirtual 50, 3) := by decide +kernel
theorem dX2_setStanding_10 : decode cX2_setStanding 10 = .ok (.goto 10, 3) := by decide +kernel
theorem dX2_setStanding_13 : decode cX2_setStanding 13 = .ok (.aload_n 0, 1) := by decide +kernel
theorem dX2_setStanding_14 : decode cX2_setStanding 14 = .ok (.iload_n 1, 1) := by decide +kernel
theorem dX2_setStanding_15 : decode cX2_setStanding 15 = .ok (.iconst 4, 1) := by decide +kernel
theorem dX2_setStanding_16 : decode cX2_setStanding 16 = .ok (.invokevirtual 50, 3) := by decide +kernel
theorem dX2_setStanding_19 : decode cX2_setStanding 19 = .ok (.ineg, 1) := by decide +kernel
theorem dX2_setStanding_20 : decode cX2_setStanding 20 = .ok (.istore_n 3, 1) := by decide +kernel
theorem dX2_setStanding_21 : decode cX2_setStanding 21 = .ok (.aload_n 0, 1) := by decide +kernel
theorem dX2_setStanding_22 : decode cX2_setStanding 22 = .ok (.getfield 17, 3) := by decide +kernel
theorem dX2_setStanding_25 : decode cX2_setStanding 25 = .ok (.iload_n 1, 1) := by decide +kernel
theorem dX2_setStanding_26 : decode cX2_setStanding 26 = .ok (.iload_n 2, 1) := by decide +kernel
theorem dX2_setStanding_27 : decode cX2_setStanding 27 = .ok (.bastore, 1) := by decide +kernel
theorem dX2_setStanding_28 : decode cX2_setStanding 28 = .ok (.aload_n 0, 1) := by decide +kernel
theorem dX2_setStanding_29 : decode cX2_setStanding 29 = .ok (.getfield 30, 3) := by decide +kernel
theorem dX2_setStanding_32 : decode cX2_setStanding 32 = .ok (.aload_n 0, 1) := by decide +kernel
theorem dX2_setStanding_33 : decode cX2_setStanding 33 = .ok (.getfield 21, 3) := by decide +kernel
theorem dX2_setStanding_36 : decode cX2_setStanding 36 = .ok (.iload_n 1, 1) := by decide +kernel
theorem dX2_setStanding_37 : decode cX2_setStanding 37 = .ok (.iaload, 1) := by decide +kernel
theorem dX2_setStanding_38 : decode cX2_setStanding 38 = .ok (.dup2, 1) := by decide +kernel
theorem dX2_setStanding_39 : decode cX2_setStanding 39 = .ok (.iaload, 1) := by decide +kernel
theorem dX2_setStanding_40 : decode cX2_setStanding 40 = .ok (.iload_n 3, 1) := by decide +kernel
theorem dX2_setStanding_41 : decode cX2_setStanding 41 = .ok (.iadd, 1) := by decide +kernel
theorem dX2_setStanding_42 : decode cX2_setStanding 42 = .ok (.iastore, 1) := by decide +kernel
theorem dX2_setStanding_43 : decode cX2_setStanding 43 = .ok (.aload_n 0, 1) := by decide +kernel
theorem dX2_setStanding_44 : decode cX2_setStanding 44 = .ok (.getfield 33, 3) := by decide +kernel
theorem dX2_setStanding_47 : decode cX2_setStanding 47 = .ok (.aload_n 0, 1) := by decide +kernel
theorem dX2_setStanding_48 : decode cX2_setStanding 48 = .ok (.getfield 24, 3) := by decide +kernel
theorem dX2_setStanding_51 : decode cX2_setStanding 51 = .ok (.iload_n 1, 1) := by decide +kernel
theorem dX2_setStanding_52 : decode cX2_setStanding 52 = .ok (.iaload, 1) := by decide +kernel
theorem dX2_setStanding_53 : decode cX2_setStanding 53 = .ok (.dup2, 1) := by decide +kernel
theorem dX2_setStanding_54 : decode cX2_setStanding 54 = .ok (.iaload, 1) := by decide +kernel
theorem dX2_setStanding_55 : decode cX2_setStanding 55 = .ok (.iload_n 3, 1) := by decide +kernel
theorem dX2_setStanding_56 : decode cX2_setStanding 56 = .ok (.iadd, 1) := by decide +kernel
theorem dX2_setStanding_57 : decode cX2_setStanding 57 = .ok (.iastore, 1) := by decide +kernel
theorem dX2_setStanding_58 : decode cX2_setStanding 58 = .ok (.return_, 1) := by decide +kernel
theorem dX2_rankPledges_0 : decode cX2_rankPledges 0 = .ok (.aload_n 0, 1) := by decide +kernel
theorem dX2_rankPledges_1 : decode cX2_rankPledges 1 = .ok (.getfield 36, 3) := by decide +kernel
theorem dX2_rankPledges_4 : decode cX2_rankPledges 4 = .ok (.iconst 0, 1) := by decide +kernel
theorem dX2_rankPledges_5 : decode cX2_rankPledges 5 = .ok (.invokestatic 88, 3) := by decide +kernel
theorem dX2_rankPledges_8 : decode cX2_rankPledges 8 = .ok (.iconst 0, 1) := by decide +kernel
theorem dX2_rankPledges_9 : decode cX2_rankPledges 9 = .ok (.istore_n 1, 1) := by decide +kernel
theorem dX2_rankPledges_10 : decode cX2_rankPledges 10 = .ok (.iload_n 1, 1) := by decide +kernel
theorem dX2_rankPledges_11 : decode cX2_rankPledges 11 = .ok (.aload_n 0, 1) := by decide +kernel
theorem dX2_rankPledges_12 : decode cX2_rankPledges 12 = .ok (.getfield 42, 3) := by decide +kernel
theorem dX2_rankPledges_15 : decode cX2_rankPledges 15 = .ok (.if_icmp .ge 57, 3) := by decide +kernel
theorem dX2_rankPledges_18 : decode cX2_rankPledges 18 = .ok (.aload_n 0, 1) := by decide +kernel
theorem dX2_rankPledges_19 : decode cX2_rankPledges 19 = .ok (.iload_n 1, 1) := by decide +kernel
theorem dX2_rankPledges_20 : decode cX2_rankPledges 20 = .ok (.bipush 7, 2) := by decide +kernel
theorem dX2_rankPledges_22 : decode cX2_rankPledges 22 = .ok (.bipush (-4), 2) := by decide +kernel
theorem dX2_rankPledges_24 : decode cX2_rankPledges 24 = .ok (.invokevirtual 61, 3) := by decide +kernel
theorem dX2_rankPledges_27 : decode cX2_rankPledges 27 = .ok (.aload_n 0, 1) := by decide +kernel
theorem dX2_rankPledges_28 : decode cX2_rankPledges 28 = .ok (.getfield 17, 3) := by decide +kernel
theorem dX2_rankPledges_31 : decode cX2_rankPledges 31 = .ok (.iload_n 1, 1) := by decide +kernel
theorem dX2_rankPledges_32 : decode cX2_rankPledges 32 = .ok (.baload, 1) := by decide +kernel
theorem dX2_rankPledges_33 : decode cX2_rankPledges 33 = .ok (.ifCond .eq 33, 3) := by decide +kernel
theorem dX2_rankPledges_36 : decode cX2_rankPledges 36 = .ok (.aload_n 0, 1) := by decide +kernel
theorem dX2_rankPledges_37 : decode cX2_rankPledges 37 = .ok (.getfield 21, 3) := by decide +kernel
theorem dX2_rankPledges_40 : decode cX2_rankPledges 40 = .ok (.iload_n 1, 1) := by decide +kernel
theorem dX2_rankPledges_41 : decode cX2_rankPledges 41 = .ok (.iaload, 1) := by decide +kernel
theorem dX2_rankPledges_42 : decode cX2_rankPledges 42 = .ok (.istore_n 2, 1) := by decide +kernel
theorem dX2_rankPledges_43 : decode cX2_rankPledges 43 = .ok (.aload_n 0, 1) := by decide +kernel
theorem dX2_rankPledges_44 : decode cX2_rankPledges 44 = .ok (.iload_n 1, 1) := by decide +kernel
theorem dX2_rankPledges_45 : decode cX2_rankPledges 45 = .ok (.bipush 7, 2) := by decide +kernel
theorem dX2_rankPledges_47 : decode cX2_rankPledges 47 = .ok (.aload_n 0, 1) := by decide +kernel
theorem dX2_rankPledges_48 : decode cX2_rankPledges 48 = .ok (.getfield 36, 3) := by decide +kernel
theorem dX2_rankPledges_51 : decode cX2_rankPledges 51 = .ok (.iload_n 2, 1) := by decide +kernel
theorem dX2_rankPledges_52 : decode cX2_rankPledges 52 = .ok (.iaload, 1) := by decide +kernel
theorem dX2_rankPledges_53 : decode cX2_rankPledges 53 = .ok (.invokevirtual 61, 3) := by decide +kernel
theorem dX2_rankPledges_56 : decode cX2_rankPledges 56 = .ok (.aload_n 0, 1) := by decide +kernel
theorem dX2_rankPledges_57 : decode cX2_rankPledges 57 = .ok (.getfield 36, 3) := by decide +kernel
theorem dX2_rankPledges_60 : decode cX2_rankPledges 60 = .ok (.iload_n 2, 1) := by decide +kernel
theorem dX2_rankPledges_61 : decode cX2_rankPledges 61 = .ok (.dup2, 1) := by decide +kernel
theorem dX2_rankPledges_62 : decode cX2_rankPledges 62 = .ok (.iaload, 1) := by decide +kernel
theorem dX2_rankPledges_63 : decode cX2_rankPledges 63 = .ok (.iconst 1, 1) := by decide +kernel
theorem dX2_rankPledges_64 : decode cX2_rankPledges 64 = .ok (.iadd, 1) := by decide +kernel
theorem dX2_rankPledges_65 : decode cX2_rankPledges 65 = .ok (.iastore, 1) := by decide +kernel
theorem dX2_rankPledges_66 : decode cX2_rankPledges 66 = .ok (.iinc 1 1, 3) := by decide +kernel
theorem dX2_rankPledges_69 : decode cX2_rankPledges 69 = .ok (.goto (-59), 3) := by decide +kernel
theorem dX2_rankPledges_72 : decode cX2_rankPledges 72 = .ok (.return_, 1) := by decide +kernel
end
section
theorem dX3_init_0 : decode cX3_init 0 = .ok (.aload_n 0, 1) := by decide +kernel
theorem dX3_init_1 : decode cX3_init 1 = .ok (.invokespecial 3, 3) := by decide +kernel
theorem dX3_init_4 : decode cX3_init 4 = .ok (.aload_n 0, 1) := by decide +kernel
theorem dX3_init_5 : decode cX3_init 5 = .ok (.bipush 8, 2) := by decide +kernel
theorem dX3_init_7 : decode cX3_init 7 = .ok (.newarray .int, 2) := by decide +kernel
theorem dX3_init_9 : decode cX3_init 9 = .ok (.putfield 11, 3) := by decide +kernel
theorem dX3_init_12 : decode cX3_init 12 = .ok (.aload_n 0, 1) := by decide +kernel
theorem dX3_init_13 : decode cX3_init 13 = .ok (.bipush 8, 2) := by decide +kernel
theorem dX3_init_15 : decode cX3_init 15 = .ok (.newarray .int, 2) := by decide +kernel
theorem dX3_init_17 : decode cX3_init 17 = .ok (.putfield 15, 3) := by decide +kernel
theorem dX3_init_20 : decode cX3_init 20 = .ok (.aload_n 0, 1) := by decide +kernel
theorem dX3_init_21 : decode cX3_init 21 = .ok (.bipush 8, 2) := by decide +kernel
theorem dX3_init_23 : decode cX3_init 23 = .ok (.newarray .int, 2) := by decide +kernel
theorem dX3_init_25 : decode cX3_init 25 = .ok (.putfield 18, 3) := by decide +kernel
theorem dX3_init_28 : decode cX3_init 28 = .ok (.aload_n 0, 1) := by decide +kernel
theorem dX3_init_29 : decode cX3_init 29 = .ok (.bipush 8, 2) := by decide +kernel
theorem dX3_init_31 : decode cX3_init 31 = .ok (.newarray .int, 2) := by decide +kernel
theorem dX3_init_33 : decode cX3_init 33 = .ok (.putfield 21, 3) := by decide +kernel
theorem dX3_init_36 : decode cX3_init 36 = .ok (.aload_n 0, 1) := by decide +kernel
theorem dX3_init_37 : decode cX3_init 37 = .ok (.bipush 8, 2) := by decide +kernel
theorem dX3_init_39 : decode cX3_init 39 = .ok (.newarray .int, 2) := by decide +kernel
theorem dX3_init_41 : decode cX3_init 41 = .ok (.putfield 24, 3) := by decide +kernel
theorem dX3_init_44 : decode cX3_init 44 = .ok (.aload_n 0, 1) := by decide +kernel
theorem dX3_init_45 : decode cX3_init 45 = .ok (.bipush 8, 2) := by decide +kernel
theorem dX3_init_47 : decode cX3_init 47 = .ok (.newarray .int, 2) := by decide +kernel
theorem dX3_init_49 : decode cX3_init 49 = .ok (.putfield 27, 3) := by decide +kernel
theorem dX3_init_52 : decode cX3_init 52 = .ok (.aload_n 0, 1) := by decide +kernel
theorem dX3_init_53 : decode cX3_init 53 = .ok (.bipush 8, 2) := by decide +kernel
theorem dX3_init_55 : decode cX3_init 55 = .ok (.newarray .int, 2) := by decide +kernel
theorem dX3_init_57 : decode cX3_init 57 = .ok (.putfield 30, 3) := by decide +kernel
theorem dX3_init_60 : decode cX3_init 60 = .ok (.aload_n 0, 1) := by decide +kernel
theorem dX3_init_61 : decode cX3_init 61 = .ok (.bipush 8, 2) := by decide +kernel
theorem dX3_init_63 : decode cX3_init 63 = .ok (.newarray .int, 2) := by decide +kernel
theorem dX3_init_65 : decode cX3_init 65 = .ok (.putfield 33, 3) := by decide +kernel
theorem dX3_init_68 : decode cX3_init 68 = .ok (.aload_n 0, 1) := by decide +kernel
theorem dX3_init_69 : decode cX3_init 69 = .ok (.bipush 8, 2) := by decide +kernel
theorem dX3_init_71 : decode cX3_init 71 = .ok (.newarray .int, 2) := by decide +kernel
theorem dX3_init_73 : decode cX3_init 73 = .ok (.putfield 36, 3) := by decide +kernel
theorem dX3_init_76 : decode cX3_init 76 = .ok (.return_, 1) := by decide +kernel
theorem dX3_size_0 : decode cX3_size 0 = .ok (.aload_n 0, 1) := by decide +kernel
theorem dX3_size_1 : decode cX3_size 1 = .ok (.getfield 39, 3) := by decide +kernel
theorem dX3_size_4 : decode cX3_size 4 = .ok (.ireturn, 1) := by decide +kernel
theorem dX3_witnesses_0 : decode cX3_witnesses 0 = .ok (.aload_n 0, 1) := by decide +kernel
theorem dX3_witnesses_1 : decode cX3_witnesses 1 = .ok (.getfield 43, 3) := by decide +kernel
theorem dX3_witnesses_4 : decode cX3_witnesses 4 = .ok (.ireturn, 1) := by decide +kernel
theorem dX3_has_0 : decode cX3_has 0 = .ok (.iload_n 1, 1) := by decide +kernel
theorem dX3_has_1 : decode cX3_has 1 = .ok (.iconst 0, 1) := by decide +kernel
theorem dX3_has_2 : decode cX3_has 2 = .ok (.aload_n 0, 1) := by decide +kernel
theorem dX3_has_3 : decode cX3_has 3 = .ok (.getfield 39, 3) := by decide +kernel
theorem dX3_has_6 : decode cX3_has 6 = .ok (.iconst 1, 1) := by decide +kernel
theorem dX3_has_7 : decode cX3_has 7 = .ok (.isub, 1) := by decide +kernel
theorem dX3_has_8 : decode cX3_has 8 = .ok (.invokestatic 46, 3) := by decide +kernel
theorem dX3_has_11 : decode cX3_has 11 = .ok (.ireturn, 1) := by decide +kernel
theorem dX3_areTwo_0 : decode cX3_areTwo 0 = .ok (.aload_n 0, 1) := by decide +kernel
theorem dX3_areTwo_1 : decode cX3_areTwo 1 = .ok (.iload_n 1, 1) := by decide +kernel
theorem dX3_areTwo_2 : decode cX3_areTwo 2 = .ok (.invokevirtual 50, 3) := by decide +kernel
theorem dX3_areTwo_5 : decode cX3_areTwo 5 = .ok (.ifCond .eq 20, 3) := by decide +kernel
theorem dX3_areTwo_8 : decode cX3_areTwo 8 = .ok (.aload_n 0, 1) := by decide +kernel
theorem dX3_areTwo_9 : decode cX3_areTwo 9 = .ok (.iload_n 2, 1) := by decide +kernel
theorem dX3_areTwo_10 : decode cX3_areTwo 10 = .ok (.invokevirtual 50, 3) := by decide +kernel
theorem dX3_areTwo_13 : decode cX3_areTwo 13 = .ok (.ifCond .eq 12, 3) := by decide +kernel
theorem dX3_areTwo_16 : decode cX3_areTwo 16 = .ok (.iload_n 1, 1) := by decide +kernel
theorem dX3_areTwo_17 : decode cX3_areTwo 17 = .ok (.iload_n 2, 1) := by decide +kernel
theorem dX3_areTwo_18 : decode cX3_areTwo 18 = .ok (.if_icmp .eq 7, 3) := by decide +kernel
theorem dX3_areTwo_21 : decode cX3_areTwo 21 = .ok (.iconst 1, 1) := by decide +kernel
theorem dX3_areTwo_22 : decode cX3_areTwo 22 = .ok (.goto 4, 3) := by decide +kernel
theorem dX3_areTwo_25 : decode cX3_areTwo 25 = .ok (.iconst 0, 1) := by decide +kernel
theorem dX3_areTwo_26 : decode cX3_areTwo 26 = .ok (.ireturn, 1) := by decide +kernel
theorem dX3_mayBeOne_0 : decode cX3_mayBeOne 0 = .ok (.iload_n 2, 1) := by decide +kernel
theorem dX3_mayBeOne_1 : decode cX3_mayBeOne 1 = .ok (.aload_n 0, 1) := by decide +kernel
theorem dX3_mayBeOne_2 : decode cX3_mayBeOne 2 = .ok (.getfield 27, 3) := by decide +kernel
theorem dX3_mayBeOne_5 : decode cX3_mayBeOne 5 = .ok (.iload_n 1, 1) := by decide +kernel
theorem dX3_mayBeOne_6 : decode cX3_mayBeOne 6 = .ok (.iaload, 1) := by decide +kernel
theorem dX3_mayBeOne_7 : decode cX3_mayBeOne 7 = .ok (.invokestatic 54, 3) := by decide +kernel
theorem dX3_mayBeOne_10 : decode cX3_mayBeOne 10 = .ok (.ireturn, 1) := by decide +kernel
theorem dX3_joinedGroup_0 : decode cX3_joinedGroup 0 = .ok (.aload_n 0, 1) := by decide +kernel
theorem dX3_joinedGroup_1 : decode cX3_joinedGroup 1 = .ok (.getfield 33, 3) := by decide +kernel
theorem dX3_joinedGroup_4 : decode cX3_joinedGroup 4 = .ok (.iload_n 1, 1) := by decide +kernel
theorem dX3_joinedGroup_5 : decode cX3_joinedGroup 5 = .ok (.iaload, 1) := by decide +kernel
theorem dX3_joinedGroup_6 : decode cX3_joinedGroup 6 = .ok (.ireturn, 1) := by decide +kernel
theorem dX3_joinedGroups_0 : decode cX3_joinedGroups 0 = .ok (.aload_n 0, 1) := by decide +kernel
theorem dX3_joinedGroups_1 : decode cX3_joinedGroups 1 = .ok (.getfield 58, 3) := by decide +kernel
theorem dX3_joinedGroups_4 : decode cX3_joinedGroups 4 = .ok (.ireturn, 1) := by decide +kernel
theorem dX3_add_0 : decode cX3_add 0 = .ok (.aload_n 0, 1) := by decide +kernel
theorem dX3_add_1 : decode cX3_add 1 = .ok (.getfield 39, 3) := by decide +kernel
theorem dX3_add_4 : decode cX3_add 4 = .ok (.bipush 8, 2) := by decide +kernel
theorem dX3_add_6 : decode cX3_add 6 = .ok (.if_icmp .lt 6, 3) := by decide +kernel
theorem dX3_add_9 : decode cX3_add 9 = .ok (.bipush (-2), 2) := by decide +kernel
theorem dX3_add_11 : decode cX3_add 11 = .ok (.ireturn, 1) := by decide +kernel
theorem dX3_add_12 : decode cX3_add 12 = .ok (.aload_n 0, 1) := by decide +kernel
theorem dX3_add_13 : decode cX3_add 13 = .ok (.getfield 11, 3) := by decide +kernel
theorem dX3_add_16 : decode cX3_add 16 = .ok (.aload_n 0, 1) := by decide +kernel
theorem dX3_add_17 : decode cX3_add 17 = .ok (.getfield 39, 3) := by decide +kernel
theorem dX3_add_20 : decode cX3_add 20 = .ok (.iload_n 1, 1) := by decide +kernel
theorem dX3_add_21 : decode cX3_add 21 = .ok (.iastore, 1) := by decide +kernel
theorem dX3_add_22 : decode cX3_add 22 = .ok (.aload_n 0, 1) := by decide +kernel
theorem dX3_add_23 : decode cX3_add 23 = .ok (.getfield 15, 3) := by decide +kernel
theorem dX3_add_26 : decode cX3_add 26 = .ok (.aload_n 0, 1) := by decide +kernel
theorem dX3_add_27 : decode cX3_add 27 = .ok (.getfield 39, 3) := by decide +kernel
theorem dX3_add_30 : decode cX3_add 30 = .ok (.iload_n 2, 1) := by decide +kernel
theorem dX3_add_31 : decode cX3_add 31 = .ok (.iastore, 1) := by decide +kernel
theorem dX3_add_32 : decode cX3_add 32 = .ok (.aload_n 0, 1) := by decide +kernel
theorem dX3_add_33 : decode cX3_add 33 = .ok (.getfield 18, 3) := by decide +kernel
theorem dX3_add_36 : decode cX3_add 36 = .ok (.aload_n 0, 1) := by decide +kernel
theorem dX3_add_37 : decode cX3_add 37 = .ok (.getfield 39, 3) := by decide +kernel
theorem dX3_add_40 : decode cX3_add 40 = .ok (.iload_n 3, 1) := by decide +kernel
theorem dX3_add_41 : decode cX3_add 41 = .ok (.iastore, 1) := by decide +kernel
theorem dX3_add_42 : decode cX3_add 42 = .ok (.aload_n 0, 1) := by decide +kernel
theorem dX3_add_43 : decode cX3_add 43 = .ok (.getfield 21, 3) := by decide +kernel
theorem dX3_add_46 : decode cX3_add 46 = .ok (.aload_n 0, 1) := by decide +kernel
theorem dX3_add_47 : decode cX3_add 47 = .ok (.getfield 39, 3) := by decide +kernel
theorem dX3_add_50 : decode cX3_add 50 = .ok (.iload 4, 2) := by decide +kernel
theorem dX3_add_52 : decode cX3_add 52 = .ok (.iastore, 1) := by decide +kernel
theorem dX3_add_53 : decode cX3_add 53 = .ok (.aload_n 0, 1) := by decide +kernel
theorem dX3_add_54 : decode cX3_add 54 = .ok (.getfield 24, 3) := by decide +kernel
theorem dX3_add_57 : decode cX3_add 57 = .ok (.aload_n 0, 1) := by decide +kernel
theorem dX3_add_58 : decode cX3_add 58 = .ok (.getfield 39, 3) := by decide +kernel
theorem dX3_add_61 : decode cX3_add 61 = .ok (.iload 5, 2) := by decide +kernel
theorem dX3_add_63 : decode cX3_add 63 = .ok (.iastore, 1) := by decide +kernel
theorem dX3_add_64 : decode cX3_add 64 = .ok (.iconst 0, 1) := by decide +kernel
theorem dX3_add_65 : decode cX3_add 65 = .ok (.istore 6, 2) := by decide +kernel
theorem dX3_add_67 : decode cX3_add 67 = .ok (.iload 6, 2) := by decide +kernel
theorem dX3_add_69 : decode cX3_add 69 = .ok (.aload_n 0, 1) := by decide +kernel
theorem dX3_add_70 : decode cX3_add 70 = .ok (.getfield 39, 3) := by decide +kernel
theorem dX3_add_73 : decode cX3_add 73 = .ok (.if_icmp .ge 29, 3) := by decide +kernel
theorem dX3_add_76 : decode cX3_add 76 = .ok (.aload_n 0, 1) := by decide +kernel
theorem dX3_add_77 : decode cX3_add 77 = .ok (.iload 6, 2) := by decide +kernel
theorem dX3_add_79 : decode cX3_add 79 = .ok (.aload_n 0, 1) := by decide +kernel
theorem dX3_add_80 : decode cX3_add 80 = .ok (.getfield 39, 3) := by decide +kernel
theorem dX3_add_83 : decode cX3_add 83 = .ok (.aload_n 0, 1) := by decide +kernel
theorem dX3_add_84 : decode cX3_add 84 = .ok (.iload 6, 2) := by decide +kernel
theorem dX3_add_86 : decode cX3_add 86 = .ok (.aload_n 0, 1) := by decide +kernel
theorem dX3_add_87 : decode cX3_add 87 = .ok (.getfield 39, 3) := by decide +kernel
theorem dX3_add_90 : decode cX3_add 90 = .ok (.invokevirtual 61, 3) := by decide +kernel
theorem dX3_add_93 : decode cX3_add 93 = .ok (.invokevirtual 64, 3) := by decide +kernel
theorem dX3_add_96 : decode cX3_add 96 = .ok (.iinc 6 1, 3) := by decide +kernel
theorem dX3_add_99 : decode cX3_add 99 = .ok (.goto (-32), 3) := by decide +kernel
theorem dX3_add_102 : decode cX3_add 102 = .ok (.aload_n 0, 1) := by decide +kernel
theorem dX3_add_103 : decode cX3_add 103 = .ok (.dup, 1) := by decide +kernel
theorem dX3_add_104 : decode cX3_add 104 = .ok (.getfield 39, 3) := by decide +kernel
theorem dX3_add_107 : decode cX3_add 107 = .ok (.iconst 1, 1) := by decide +kernel
theorem dX3_add_108 : decode cX3_add 108 = .ok (.iadd, 1) := by decide +kernel
theorem dX3_add_109 : decode cX3_add 109 = .ok (.putfield 39, 3) := by decide +kernel
theorem dX3_add_112 : decode cX3_add 112 = .ok (.aload_n 0, 1) := by decide +kernel
theorem dX3_add_113 : decode cX3_add 113 = .ok (.invokevirtual 68, 3) := by decide +kernel
theorem dX3_add_116 : decode cX3_add 116 = .ok (.aload_n 0, 1) := by decide +kernel
theorem dX3_add_117 : decode cX3_add 117 = .ok (.getfield 39, 3) := by decide +kernel
theorem dX3_add_120 : decode cX3_add 120 = .ok (.iconst 1, 1) := by decide +kernel
theorem dX3_add_121 : decode cX3_add 121 = .ok (.isub, 1) := by decide +kernel
theorem dX3_add_122 : decode cX3_add 122 = .ok (.ireturn, 1) := by decide +kernel
theorem dX3_hear_0 : decode cX3_hear 0 = .ok (.iload_n 2, 1) := by decide +kernel
theorem dX3_hear_1 : decode cX3_hear 1 = .ok (.aload_n 0, 1) := by decide +kernel
theorem dX3_hear_2 : decode cX3_hear 2 = .ok (.getfield 30, 3) := by decide +kernel
theorem dX3_hear_5 : decode cX3_hear 5 = .ok (.iload_n 1, 1) := by decide +kernel
theorem dX3_hear_6 : decode cX3_hear 6 = .ok (.iaload, 1) := by decide +kernel
theorem dX3_hear_7 : decode cX3_hear 7 = .ok (.invokestatic 54, 3) := by decide +kernel
theorem dX3_hear_10 : decode cX3_hear 10 = .ok (.ifCond .eq 6, 3) := by decide +kernel
theorem dX3_hear_13 : decode cX3_hear 13 = .ok (.bipush (-3), 2) := by decide +kernel
theorem dX3_hear_15 : decode cX3_hear 15 = .ok (.ireturn, 1) := by decide +kernel
theorem dX3_hear_16 : decode cX3_hear 16 = .ok (.aload_n 0, 1) := by decide +kernel
theorem dX3_hear_17 : decode cX3_hear 17 = .ok (.getfield 43, 3) := by decide +kernel
theorem dX3_hear_20 : decode cX3_hear 20 = .ok (.bipush 6, 2) := by decide +kernel
theorem dX3_hear_22 : decode cX3_hear 22 = .ok (.if_icmp .lt 6, 3) := by decide +kernel
theorem dX3_hear_25 : decode cX3_hear 25 = .ok (.bipush (-2), 2) := by decide +kernel
theorem dX3_hear_27 : decode cX3_hear 27 = .ok (.ireturn, 1) := by decide +kernel
theorem dX3_hear_28 : decode cX3_hear 28 = .ok (.aload_n 0, 1) := by decide +kernel
theorem dX3_hear_29 : decode cX3_hear 29 = .ok (.getfield 30, 3) := by decide +kernel
theorem dX3_hear_32 : decode cX3_hear 32 = .ok (.iload_n 1, 1) := by decide +kernel
theorem dX3_hear_33 : decode cX3_hear 33 = .ok (.dup2, 1) := by decide +kernel
theorem dX3_hear_34 : decode cX3_hear 34 = .ok (.iaload, 1) := by decide +kernel
theorem dX3_hear_35 : decode cX3_hear 35 = .ok (.iconst 1, 1) := by decide +kernel
theorem dX3_hear_36 : decode cX3_hear 36 = .ok (.iload_n 2, 1) := by decide +kernel
theorem dX3_hear_37 : decode cX3_hear 37 = .ok (.ishl, 1) := by decide +kernel
theorem dX3_hear_38 : decode cX3_hear 38 = .ok (.ior, 1) := by decide +kernel
theorem dX3_hear_39 : decode cX3_hear 39 = .ok (.iastore, 1) := by decide +kernel
theorem dX3_hear_40 : decode cX3_hear 40 = .ok (.aload_n 0, 1) := by decide +kernel
theorem dX3_hear_41 : decode cX3_hear 41 = .ok (.getfield 30, 3) := by decide +kernel
theorem dX3_hear_44 : decode cX3_hear 44 = .ok (.iload_n 2, 1) := by decide +kernel
theorem dX3_hear_45 : decode cX3_hear 45 = .ok (.dup2, 1) := by decide +kernel
theorem dX3_hear_46 : decode cX3_hear 46 = .ok (.iaload, 1) := by decide +kernel
theorem dX3_hear_47 : decode cX3_hear 47 = .ok (.iconst 1, 1) := by decide +kernel
theorem dX3_hear_48 : decode cX3_hear 48 = .ok (.iload_n 1, 1) := by decide +kernel
theorem dX3_hear_49 : decode cX3_hear 49 = .ok (.ishl, 1) := by decide +kernel
theorem dX3_hear_50 : decode cX3_hear 50 = .ok (.ior, 1) := by decide +kernel
theorem dX3_hear_51 : decode cX3_hear 51 = .ok (.iastore, 1) := by decide +kernel
theorem dX3_hear_52 : decode cX3_hear 52 = .ok (.aload_n 0, 1) := by decide +kernel
theorem dX3_hear_53 : decode cX3_hear 53 = .ok (.dup, 1) := by decide +kernel
theorem dX3_hear_54 : decode cX3_hear 54 = .ok (.getfield 43, 3) := by decide +kernel
theorem dX3_hear_57 : decode cX3_hear 57 = .ok (.iconst 1, 1) := by decide +kernel
theorem dX3_hear_58 : decode cX3_hear 58 = .ok (.iadd, 1) := by decide +kernel
theorem dX3_hear_59 : decode cX3_hear 59 = .ok (.putfield 43, 3) := by decide +kernel
theorem dX3_hear_62 : decode cX3_hear 62 = .ok (.aload_n 0, 1) := by decide +kernel
theorem dX3_hear_63 : decode cX3_hear 63 = .ok (.iload_n 1, 1) := by decide +kernel
theorem dX3_hear_64 : decode cX3_hear 64 = .ok (.iload_n 2, 1) := by decide +kernel
theorem dX3_hear_65 : decode cX3_hear 65 = .ok (.iload_n 3, 1) := by decide +kernel
theorem dX3_hear_66 : decode cX3_hear 66 = .ok (.invokevirtual 64, 3) := by decide +kernel
theorem dX3_hear_69 : decode cX3_hear 69 = .ok (.aload_n 0, 1) := by decide +kernel
theorem dX3_hear_70 : decode cX3_hear 70 = .ok (.invokevirtual 68, 3) := by decide +kernel
theorem dX3_hear_73 : decode cX3_hear 73 = .ok (.aload_n 0, 1) := by decide +kernel
theorem dX3_hear_74 : decode cX3_hear 74 = .ok (.getfield 43, 3) := by decide +kernel
theorem dX3_hear_77 : decode cX3_hear 77 = .ok (.ireturn, 1) := by decide +kernel
theorem dX3_isIn_0 : decode cX3_isIn 0 = .ok (.iload_n 1, 1) := by decide +kernel
theorem dX3_isIn_1 : decode cX3_isIn 1 = .ok (.iload_n 0, 1) := by decide +kernel
theorem dX3_isIn_2 : decode cX3_isIn 2 = .ok (.ishr, 1) := by decide +kernel
theorem dX3_isIn_3 : decode cX3_isIn 3 = .ok (.iconst 1, 1) := by decide +kernel
theorem dX3_isIn_4 : decode cX3_isIn 4 = .ok (.iand, 1) := by decide +kernel
theorem dX3_isIn_5 : decode cX3_isIn 5 = .ok (.iconst 1, 1) := by decide +kernel
theorem dX3_isIn_6 : decode cX3_isIn 6 = .ok (.if_icmp .ne 7, 3) := by decide +kernel
theorem dX3_isIn_9 : decode cX3_isIn 9 = .ok (.iconst 1, 1) := by decide +kernel
theorem dX3_isIn_10 : decode cX3_isIn 10 = .ok (.goto 4, 3) := by decide +kernel
theorem dX3_isIn_13 : decode cX3_isIn 13 = .ok (.iconst 0, 1) := by decide +kernel
theorem dX3_isIn_14 : decode cX3_isIn 14 = .ok (.ireturn, 1) := by decide +kernel
theorem dX3_setLike_0 : decode cX3_setLike 0 = .ok (.aload_n 0, 1) := by decide +kernel
theorem dX3_setLike_1 : decode cX3_setLike 1 = .ok (.getfield 27, 3) := by decide +kernel
theorem dX3_setLike_4 : decode cX3_setLike 4 = .ok (.iload_n 1, 1) := by decide +kernel
theorem dX3_setLike_5 : decode cX3_setLike 5 = .ok (.iload_n 3, 1) := by decide +kernel
theorem dX3_setLike_6 : decode cX3_setLike 6 = .ok (.ifCond .eq 16, 3) := by decide +kernel
theorem dX3_setLike_9 : decode cX3_setLike 9 = .ok (.aload_n 0, 1) := by decide +kernel
theorem dX3_setLike_10 : decode cX3_setLike 10 = .ok (.getfield 27, 3) := by decide +kernel
theorem dX3_setLike_13 : decode cX3_setLike 13 = .ok (.iload_n 1, 1) := by decide +kernel
theorem dX3_setLike_14 : decode cX3_setLike 14 = .ok (.iaload, 1) := by decide +kernel
theorem dX3_setLike_15 : decode cX3_setLike 15 = .ok (.iconst 1, 1) := by decide +kernel
theorem dX3_setLike_16 : decode cX3_setLike 16 = .ok (.iload_n 2, 1) := by decide +kernel
theorem dX3_setLike_17 : decode cX3_setLike 17 = .ok (.ishl, 1) := by decide +kernel
theorem dX3_setLike_18 : decode cX3_setLike 18 = .ok (.ior, 1) := by decide +kernel
theorem dX3_setLike_19 : decode cX3_setLike 19 = .ok (.goto 15, 3) := by decide +kernel
theorem dX3_setLike_22 : decode cX3_setLike 22 = .ok (.aload_n 0, 1) := by decide +kernel
theorem dX3_setLike_23 : decode cX3_setLike 23 = .ok (.getfield 27, 3) := by decide +kernel
theorem dX3_setLike_26 : decode cX3_setLike 26 = .ok (.iload_n 1, 1) := by decide +kernel
theorem dX3_setLike_27 : decode cX3_setLike 27 = .ok (.iaload, 1) := by decide +kernel
theorem dX3_setLike_28 : decode cX3_setLike 28 = .ok (.iconst 1, 1) := by decide +kernel
theorem dX3_setLike_29 : decode cX3_setLike 29 = .ok (.iload_n 2, 1) := by decide +kernel
theorem dX3_setLike_30 : decode cX3_setLike 30 = .ok (.ishl, 1) := by decide +kernel
theorem dX3_setLike_31 : decode cX3_setLike 31 = .ok (.iconst (-1), 1) := by decide +kernel
theorem dX3_setLike_32 : decode cX3_setLike 32 = .ok (.ixor, 1) := by decide +kernel
theorem dX3_setLike_33 : decode cX3_setLike 33 = .ok (.iand, 1) := by decide +kernel
theorem dX3_setLike_34 : decode cX3_setLike 34 = .ok (.iastore, 1) := by decide +kernel
theorem dX3_setLike_35 : decode cX3_setLike 35 = .ok (.aload_n 0, 1) := by decide +kernel
theorem dX3_setLike_36 : decode cX3_setLike 36 = .ok (.getfield 27, 3) := by decide +kernel
theorem dX3_setLike_39 : decode cX3_setLike 39 = .ok (.iload_n 2, 1) := by decide +kernel
theorem dX3_setLike_40 : decode cX3_setLike 40 = .ok (.iload_n 3, 1) := by decide +kernel
theorem dX3_setLike_41 : decode cX3_setLike 41 = .ok (.ifCond .eq 16, 3) := by decide +kernel
theorem dX3_setLike_44 : decode cX3_setLike 44 = .ok (.aload_n 0, 1) := by decide +kernel
theorem dX3_setLike_45 : decode cX3_setLike 45 = .ok (.getfield 27, 3) := by decide +kernel
theorem dX3_setLike_48 : decode cX3_setLike 48 = .ok (.iload_n 2, 1) := by decide +kernel
theorem dX3_setLike_49 : decode cX3_setLike 49 = .ok (.iaload, 1) := by decide +kernel
theorem dX3_setLike_50 : decode cX3_setLike 50 = .ok (.iconst 1, 1) := by decide +kernel
theorem dX3_setLike_51 : decode cX3_setLike 51 = .ok (.iload_n 1, 1) := by decide +kernel
theorem dX3_setLike_52 : decode cX3_setLike 52 = .ok (.ishl, 1) := by decide +kernel
theorem dX3_setLike_53 : decode cX3_setLike 53 = .ok (.ior, 1) := by decide +kernel
theorem dX3_setLike_54 : decode cX3_setLike 54 = .ok (.goto 15, 3) := by decide +kernel
theorem dX3_setLike_57 : decode cX3_setLike 57 = .ok (.aload_n 0, 1) := by decide +kernel
theorem dX3_setLike_58 : decode cX3_setLike 58 = .ok (.getfield 27, 3) := by decide +kernel
theorem dX3_setLike_61 : decode cX3_setLike 61 = .ok (.iload_n 2, 1) := by decide +kernel
theorem dX3_setLike_62 : decode cX3_setLike 62 = .ok (.iaload, 1) := by decide +kernel
theorem dX3_setLike_63 : decode cX3_setLike 63 = .ok (.iconst 1, 1) := by decide +kernel
theorem dX3_setLike_64 : decode cX3_setLike 64 = .ok (.iload_n 1, 1) := by decide +kernel
theorem dX3_setLike_65 : decode cX3_setLike 65 = .ok (.ishl, 1) := by decide +kernel
theorem dX3_setLike_66 : decode cX3_setLike 66 = .ok (.iconst (-1), 1) := by decide +kernel
theorem dX3_setLike_67 : decode cX3_setLike 67 = .ok (.ixor, 1) := by decide +kernel
theorem dX3_setLike_68 : decode cX3_setLike 68 = .ok (.iand, 1) := by decide +kernel
theorem dX3_setLike_69 : decode cX3_setLike 69 = .ok (.iastore, 1) := by decide +kernel
theorem dX3_setLike_70 : decode cX3_setLike 70 = .ok (.return_, 1) := by decide +kernel
theorem dX3_seemAlike_0 : decode cX3_seemAlike 0 = .ok (.aload_n 0, 1) := by decide +kernel
theorem dX3_seemAlike_1 : decode cX3_seemAlike 1 = .ok (.getfield 11, 3) := by decide +kernel
theorem dX3_seemAlike_4 : decode cX3_seemAlike 4 = .ok (.iload_n 1, 1) := by decide +kernel
theorem dX3_seemAlike_5 : decode cX3_seemAlike 5 = .ok (.iaload, 1) := by decide +kernel
theorem dX3_seemAlike_6 : decode cX3_seemAlike 6 = .ok (.aload_n 0, 1) := by decide +kernel
theorem dX3_seemAlike_7 : decode cX3_seemAlike 7 = .ok (.getfield 15, 3) := by decide +kernel
theorem dX3_seemAlike_10 : decode cX3_seemAlike 10 = .ok (.iload_n 2, 1) := by decide +kernel
theorem dX3_seemAlike_11 : decode cX3_seemAlike 11 = .ok (.iaload, 1) := by decide +kernel
theorem dX3_seemAlike_12 : decode cX3_seemAlike 12 = .ok (.if_icmp .gt 22, 3) := by decide +kernel
theorem dX3_seemAlike_15 : decode cX3_seemAlike 15 = .ok (.aload_n 0, 1) := by decide +kernel
theorem dX3_seemAlike_16 : decode cX3_seemAlike 16 = .ok (.getfield 11, 3) := by decide +kernel
theorem dX3_seemAlike_19 : decode cX3_seemAlike 19 = .ok (.iload_n 2, 1) := by decide +kernel
theorem dX3_seemAlike_20 : decode cX3_seemAlike 20 = .ok (.iaload, 1) := by decide +kernel
theorem dX3_seemAlike_21 : decode cX3_seemAlike 21 = .ok (.aload_n 0, 1) := by decide +kernel
theorem dX3_seemAlike_22 : decode cX3_seemAlike 22 = .ok (.getfield 15, 3) := by decide +kernel
theorem dX3_seemAlike_25 : decode cX3_seemAlike 25 = .ok (.iload_n 1, 1) := by decide +kernel
theorem dX3_seemAlike_26 : decode cX3_seemAlike 26 = .ok (.iaload, 1) := by decide +kernel
theorem dX3_seemAlike_27 : decode cX3_seemAlike 27 = .ok (.if_icmp .gt 7, 3) := by decide +kernel
theorem dX3_seemAlike_30 : decode cX3_seemAlike 30 = .ok (.iconst 1, 1) := by decide +kernel
theorem dX3_seemAlike_31 : decode cX3_seemAlike 31 = .ok (.goto 4, 3) := by decide +kernel
theorem dX3_seemAlike_34 : decode cX3_seemAlike 34 = .ok (.iconst 0, 1) := by decide +kernel
theorem dX3_seemAlike_35 : decode cX3_seemAlike 35 = .ok (.istore_n 3, 1) := by decide +kernel
theorem dX3_seemAlike_36 : decode cX3_seemAlike 36 = .ok (.aload_n 0, 1) := by decide +kernel
theorem dX3_seemAlike_37 : decode cX3_seemAlike 37 = .ok (.getfield 18, 3) := by decide +kernel
theorem dX3_seemAlike_40 : decode cX3_seemAlike 40 = .ok (.iload_n 1, 1) := by decide +kernel
theorem dX3_seemAlike_41 : decode cX3_seemAlike 41 = .ok (.iaload, 1) := by decide +kernel
theorem dX3_seemAlike_42 : decode cX3_seemAlike 42 = .ok (.aload_n 0, 1) := by decide +kernel
theorem dX3_seemAlike_43 : decode cX3_seemAlike 43 = .ok (.getfield 21, 3) := by decide +kernel
theorem dX3_seemAlike_46 : decode cX3_seemAlike 46 = .ok (.iload_n 2, 1) := by decide +kernel
theorem dX3_seemAlike_47 : decode cX3_seemAlike 47 = .ok (.iaload, 1) := by decide +kernel
theorem dX3_seemAlike_48 : decode cX3_seemAlike 48 = .ok (.if_icmp .gt 22, 3) := by decide +kernel
theorem dX3_seemAlike_51 : decode cX3_seemAlike 51 = .ok (.aload_n 0, 1) := by decide +kernel
theorem dX3_seemAlike_52 : decode cX3_seemAlike 52 = .ok (.getfield 18, 3) := by decide +kernel
theorem dX3_seemAlike_55 : decode cX3_seemAlike 55 = .ok (.iload_n 2, 1) := by decide +kernel
theorem dX3_seemAlike_56 : decode cX3_seemAlike 56 = .ok (.iaload, 1) := by decide +kernel
theorem dX3_seemAlike_57 : decode cX3_seemAlike 57 = .ok (.aload_n 0, 1) := by decide +kernel
theorem dX3_seemAlike_58 : decode cX3_seemAlike 58 = .ok (.getfield 21, 3) := by decide +kernel
theorem dX3_seemAlike_61 : decode cX3_seemAlike 61 = .ok (.iload_n 1, 1) := by decide +kernel
theorem dX3_seemAlike_62 : decode cX3_seemAlike 62 = .ok (.iaload, 1) := by decide +kernel
theorem dX3_seemAlike_63 : decode cX3_seemAlike 63 = .ok (.if_icmp .gt 7, 3) := by decide +kernel
theorem dX3_seemAlike_66 : decode cX3_seemAlike 66 = .ok (.iconst 1, 1) := by decide +kernel
theorem dX3_seemAlike_67 : decode cX3_seemAlike 67 = .ok (.goto 4, 3) := by decide +kernel
theorem dX3_seemAlike_70 : decode cX3_seemAlike 70 = .ok (.iconst 0, 1) := by decide +kernel
theorem dX3_seemAlike_71 : decode cX3_seemAlike 71 = .ok (.istore 4, 2) := by decide +kernel
theorem dX3_seemAlike_73 : decode cX3_seemAlike 73 = .ok (.aload_n 0, 1) := by decide +kernel
theorem dX3_seemAlike_74 : decode cX3_seemAlike 74 = .ok (.getfield 24, 3) := by decide +kernel
theorem dX3_seemAlike_77 : decode cX3_seemAlike 77 = .ok (.iload_n 1, 1) := by decide +kernel
theorem dX3_seemAlike_78 : decode cX3_seemAlike 78 = .ok (.iaload, 1) := by decide +kernel
theorem dX3_seemAlike_79 : decode cX3_seemAlike 79 = .ok (.aload_n 0, 1) := by decide +kernel
theorem dX3_seemAlike_80 : decode cX3_seemAlike 80 = .ok (.getfield 24, 3) := by decide +kernel
theorem dX3_seemAlike_83 : decode cX3_seemAlike 83 = .ok (.iload_n 2, 1) := by decide +kernel
theorem dX3_seemAlike_84 : decode cX3_seemAlike 84 = .ok (.iaload, 1) := by decide +kernel
theorem dX3_seemAlike_85 : decode cX3_seemAlike 85 = .ok (.if_icmp .eq 21, 3) := by decide +kernel
theorem dX3_seemAlike_88 : decode cX3_seemAlike 88 = .ok (.aload_n 0, 1) := by decide +kernel
theorem dX3_seemAlike_89 : decode cX3_seemAlike 89 = .ok (.getfield 24, 3) := by decide +kernel
theorem dX3_seemAlike_92 : decode cX3_seemAlike 92 = .ok (.iload_n 1, 1) := by decide +kernel
theorem dX3_seemAlike_93 : decode cX3_seemAlike 93 = .ok (.iaload, 1) := by decide +kernel
theorem dX3_seemAlike_94 : decode cX3_seemAlike 94 = .ok (.ifCond .eq 12, 3) := by decide +kernel
theorem dX3_seemAlike_97 : decode cX3_seemAlike 97 = .ok (.aload_n 0, 1) := by decide +kernel
theorem dX3_seemAlike_98 : decode cX3_seemAlike 98 = .ok (.getfield 24, 3) := by decide +kernel
theorem dX3_seemAlike_101 : decode cX3_seemAlike 101 = .ok (.iload_n 2, 1) := by decide +kernel
theorem dX3_seemAlike_102 : decode cX3_seemAlike 102 = .ok (.iaload, 1) := by decide +kernel
theorem dX3_seemAlike_103 : decode cX3_seemAlike 103 = .ok (.ifCond .ne 7, 3) := by decide +kernel
theorem dX3_seemAlike_106 : decode cX3_seemAlike 106 = .ok (.iconst 1, 1) := by decide +kernel
theorem dX3_seemAlike_107 : decode cX3_seemAlike 107 = .ok (.goto 4, 3) := by decide +kernel
theorem dX3_seemAlike_110 : decode cX3_seemAlike 110 = .ok (.iconst 0, 1) := by decide +kernel
theorem dX3_seemAlike_111 : decode cX3_seemAlike 111 = .ok (.istore 5, 2) := by decide +kernel
theorem dX3_seemAlike_113 : decode cX3_seemAlike 113 = .ok (.iload_n 3, 1) := by decide +kernel
theorem dX3_seemAlike_114 : decode cX3_seemAlike 114 = .ok (.ifCond .ne 17, 3) := by decide +kernel
theorem dX3_seemAlike_117 : decode cX3_seemAlike 117 = .ok (.iload 4, 2) := by decide +kernel
theorem dX3_seemAlike_119 : decode cX3_seemAlike 119 = .ok (.ifCond .eq 12, 3) := by decide +kernel
theorem dX3_seemAlike_122 : decode cX3_seemAlike 122 = .ok (.iload 5, 2) := by decide +kernel
theorem dX3_seemAlike_124 : decode cX3_seemAlike 124 = .ok (.ifCond .eq 7, 3) := by decide +kernel
theorem dX3_seemAlike_127 : decode cX3_seemAlike 127 = .ok (.iconst 1, 1) := by decide +kernel
theorem dX3_seemAlike_128 : decode cX3_seemAlike 128 = .ok (.goto 4, 3) := by decide +kernel
theorem dX3_seemAlike_131 : decode cX3_seemAlike 131 = .ok (.iconst 0, 1) := by decide +kernel
theorem dX3_seemAlike_132 : decode cX3_seemAlike 132 = .ok (.ireturn, 1) := by decide +kernel
theorem dX3_joinAnew_0 : decode cX3_joinAnew 0 = .ok (.iconst 1, 1) := by decide +kernel
theorem dX3_joinAnew_1 : decode cX3_joinAnew 1 = .ok (.istore_n 1, 1) := by decide +kernel
theorem dX3_joinAnew_2 : decode cX3_joinAnew 2 = .ok (.iload_n 1, 1) := by decide +kernel
theorem dX3_joinAnew_3 : decode cX3_joinAnew 3 = .ok (.aload_n 0, 1) := by decide +kernel
theorem dX3_joinAnew_4 : decode cX3_joinAnew 4 = .ok (.getfield 39, 3) := by decide +kernel
theorem dX3_joinAnew_7 : decode cX3_joinAnew 7 = .ok (.if_icmp .gt 33, 3) := by decide +kernel
theorem dX3_joinAnew_10 : decode cX3_joinAnew 10 = .ok (.aload_n 0, 1) := by decide +kernel
theorem dX3_joinAnew_11 : decode cX3_joinAnew 11 = .ok (.getfield 36, 3) := by decide +kernel
theorem dX3_joinAnew_14 : decode cX3_joinAnew 14 = .ok (.iconst 0, 1) := by decide +kernel
theorem dX3_joinAnew_15 : decode cX3_joinAnew 15 = .ok (.invokestatic 71, 3) := by decide +kernel
theorem dX3_joinAnew_18 : decode cX3_joinAnew 18 = .ok (.aload_n 0, 1) := by decide +kernel
theorem dX3_joinAnew_19 : decode cX3_joinAnew 19 = .ok (.iconst 0, 1) := by decide +kernel
theorem dX3_joinAnew_20 : decode cX3_joinAnew 20 = .ok (.iconst 0, 1) := by decide +kernel
theorem dX3_joinAnew_21 : decode cX3_joinAnew 21 = .ok (.iload_n 1, 1) := by decide +kernel
theorem dX3_joinAnew_22 : decode cX3_joinAnew 22 = .ok (.invokevirtual 77, 3) := by decide +kernel
theorem dX3_joinAnew_25 : decode cX3_joinAnew 25 = .ok (.ifCond .eq 9, 3) := by decide +kernel
theorem dX3_joinAnew_28 : decode cX3_joinAnew 28 = .ok (.aload_n 0, 1) := by decide +kernel
theorem dX3_joinAnew_29 : decode cX3_joinAnew 29 = .ok (.iload_n 1, 1) := by decide +kernel
theorem dX3_joinAnew_30 : decode cX3_joinAnew 30 = .ok (.putfield 58, 3) := by decide +kernel
theorem dX3_joinAnew_33 : decode cX3_joinAnew 33 = .ok (.return_, 1) := by decide +kernel
theorem dX3_joinAnew_34 : decode cX3_joinAnew 34 = .ok (.iinc 1 1, 3) := by decide +kernel
theorem dX3_joinAnew_37 : decode cX3_joinAnew 37 = .ok (.goto (-35), 3) := by decide +kernel
theorem dX3_joinAnew_40 : decode cX3_joinAnew 40 = .ok (.return_, 1) := by decide +kernel
theorem dX3_placeFrom_0 : decode cX3_placeFrom 0 = .ok (.iload_n 1, 1) := by decide +kernel
theorem dX3_placeFrom_1 : decode cX3_placeFrom 1 = .ok (.aload_n 0, 1) := by decide +kernel
theorem dX3_placeFrom_2 : decode cX3_placeFrom 2 = .ok (.getfield 39, 3) := by decide +kernel
theorem dX3_placeFrom_5 : decode cX3_placeFrom 5 = .ok (.if_icmp .lt 5, 3) := by decide +kernel
theorem dX3_placeFrom_8 : decode cX3_placeFrom 8 = .ok (.iconst 1, 1) := by decide +kernel
theorem dX3_placeFrom_9 : decode cX3_placeFrom 9 = .ok (.ireturn, 1) := by decide +kernel
theorem dX3_placeFrom_10 : decode cX3_placeFrom 10 = .ok (.iload_n 2, 1) := by decide +kernel
theorem dX3_placeFrom_11 : decode cX3_placeFrom 11 = .ok (.iload_n 3, 1) := by decide +kernel
theorem dX3_placeFrom_12 : decode cX3_placeFrom 12 = .ok (.iconst 1, 1) := by decide +kernel
theorem dX3_placeFrom_13 : decode cX3_placeFrom 13 = .ok (.isub, 1) := by decide +kernel
theorem dX3_placeFrom_14 : decode cX3_placeFrom 14 = .ok (.invokestatic 80, 3) := by decide +kernel
theorem dX3_placeFrom_17 : decode cX3_placeFrom 17 = .ok (.istore 4, 2) := by decide +kernel
theorem dX3_placeFrom_19 : decode cX3_placeFrom 19 = .ok (.iconst 0, 1) := by decide +kernel
theorem dX3_placeFrom_20 : decode cX3_placeFrom 20 = .ok (.istore 5, 2) := by decide +kernel
theorem dX3_placeFrom_22 : decode cX3_placeFrom 22 = .ok (.iload 5, 2) := by decide +kernel
theorem dX3_placeFrom_24 : decode cX3_placeFrom 24 = .ok (.iload 4, 2) := by decide +kernel
theorem dX3_placeFrom_26 : decode cX3_placeFrom 26 = .ok (.if_icmp .gt 23, 3) := by decide +kernel
theorem dX3_placeFrom_29 : decode cX3_placeFrom 29 = .ok (.aload_n 0, 1) := by decide +kernel
theorem dX3_placeFrom_30 : decode cX3_placeFrom 30 = .ok (.iload 5, 2) := by decide +kernel
theorem dX3_placeFrom_32 : decode cX3_placeFrom 32 = .ok (.iload_n 1, 1) := by decide +kernel
theorem dX3_placeFrom_33 : decode cX3_placeFrom 33 = .ok (.iload_n 2, 1) := by decide +kernel
theorem dX3_placeFrom_34 : decode cX3_placeFrom 34 = .ok (.iload_n 3, 1) := by decide +kernel
theorem dX3_placeFrom_35 : decode cX3_placeFrom 35 = .ok (.invokevirtual 86, 3) := by decide +kernel
theorem dX3_placeFrom_38 : decode cX3_placeFrom 38 = .ok (.ifCond .eq 5, 3) := by decide +kernel
theorem dX3_placeFrom_41 : decode cX3_placeFrom 41 = .ok (.iconst 1, 1) := by decide +kernel
theorem dX3_placeFrom_42 : decode cX3_placeFrom 42 = .ok (.ireturn, 1) := by decide +kernel
theorem dX3_placeFrom_43 : decode cX3_placeFrom 43 = .ok (.iinc 5 1, 3) := by decide +kernel
theorem dX3_placeFrom_46 : decode cX3_placeFrom 46 = .ok (.goto (-24), 3) := by decide +kernel
theorem dX3_placeFrom_49 : decode cX3_placeFrom 49 = .ok (.iconst 0, 1) := by decide +kernel
theorem dX3_placeFrom_50 : decode cX3_placeFrom 50 = .ok (.ireturn, 1) := by decide +kernel
theorem dX3_placeInto_0 : decode cX3_placeInto 0 = .ok (.aload_n 0, 1) := by decide +kernel
theorem dX3_placeInto_1 : decode cX3_placeInto 1 = .ok (.getfield 36, 3) := by decide +kernel
theorem dX3_placeInto_4 : decode cX3_placeInto 4 = .ok (.iload_n 1, 1) := by decide +kernel
theorem dX3_placeInto_5 : decode cX3_placeInto 5 = .ok (.iaload, 1) := by decide +kernel
theorem dX3_placeInto_6 : decode cX3_placeInto 6 = .ok (.aload_n 0, 1) := by decide +kernel
theorem dX3_placeInto_7 : decode cX3_placeInto 7 = .ok (.getfield 27, 3) := by decide +kernel
theorem dX3_placeInto_10 : decode cX3_placeInto 10 = .ok (.iload_n 2, 1) := by decide +kernel
theorem dX3_placeInto_11 : decode cX3_placeInto 11 = .ok (.iaload, 1) := by decide +kernel
theorem dX3_placeInto_12 : decode cX3_placeInto 12 = .ok (.iconst (-1), 1) := by decide +kernel
theorem dX3_placeInto_13 : decode cX3_placeInto 13 = .ok (.ixor, 1) := by decide +kernel
theorem dX3_placeInto_14 : decode cX3_placeInto 14 = .ok (.iand, 1) := by decide +kernel
theorem dX3_placeInto_15 : decode cX3_placeInto 15 = .ok (.ifCond .eq 5, 3) := by decide +kernel
theorem dX3_placeInto_18 : decode cX3_placeInto 18 = .ok (.iconst 0, 1) := by decide +kernel
theorem dX3_placeInto_19 : decode cX3_placeInto 19 = .ok (.ireturn, 1) := by decide +kernel
theorem dX3_placeInto_20 : decode cX3_placeInto 20 = .ok (.aload_n 0, 1) := by decide +kernel
theorem dX3_placeInto_21 : decode cX3_placeInto 21 = .ok (.getfield 36, 3) := by decide +kernel
theorem dX3_placeInto_24 : decode cX3_placeInto 24 = .ok (.iload_n 1, 1) := by decide +kernel
theorem dX3_placeInto_25 : decode cX3_placeInto 25 = .ok (.dup2, 1) := by decide +kernel
theorem dX3_placeInto_26 : decode cX3_placeInto 26 = .ok (.iaload, 1) := by decide +kernel
theorem dX3_placeInto_27 : decode cX3_placeInto 27 = .ok (.iconst 1, 1) := by decide +kernel
theorem dX3_placeInto_28 : decode cX3_placeInto 28 = .ok (.iload_n 2, 1) := by decide +kernel
theorem dX3_placeInto_29 : decode cX3_placeInto 29 = .ok (.ishl, 1) := by decide +kernel
theorem dX3_placeInto_30 : decode cX3_placeInto 30 = .ok (.ior, 1) := by decide +kernel
theorem dX3_placeInto_31 : decode cX3_placeInto 31 = .ok (.iastore, 1) := by decide +kernel
theorem dX3_placeInto_32 : decode cX3_placeInto 32 = .ok (.aload_n 0, 1) := by decide +kernel
theorem dX3_placeInto_33 : decode cX3_placeInto 33 = .ok (.getfield 33, 3) := by decide +kernel
theorem dX3_placeInto_36 : decode cX3_placeInto 36 = .ok (.iload_n 2, 1) := by decide +kernel
theorem dX3_placeInto_37 : decode cX3_placeInto 37 = .ok (.iload_n 1, 1) := by decide +kernel
theorem dX3_placeInto_38 : decode cX3_placeInto 38 = .ok (.iastore, 1) := by decide +kernel
theorem dX3_placeInto_39 : decode cX3_placeInto 39 = .ok (.aload_n 0, 1) := by decide +kernel
theorem dX3_placeInto_40 : decode cX3_placeInto 40 = .ok (.iload_n 2, 1) := by decide +kernel
theorem dX3_placeInto_41 : decode cX3_placeInto 41 = .ok (.iconst 1, 1) := by decide +kernel
theorem dX3_placeInto_42 : decode cX3_placeInto 42 = .ok (.iadd, 1) := by decide +kernel
theorem dX3_placeInto_43 : decode cX3_placeInto 43 = .ok (.iload_n 3, 1) := by decide +kernel
theorem dX3_placeInto_44 : decode cX3_placeInto 44 = .ok (.iload_n 1, 1) := by decide +kernel
theorem dX3_placeInto_45 : decode cX3_placeInto 45 = .ok (.iconst 1, 1) := by decide +kernel
theorem dX3_placeInto_46 : decode cX3_placeInto 46 = .ok (.iadd, 1) := by decide +kernel
theorem dX3_placeInto_47 : decode cX3_placeInto 47 = .ok (.invokestatic 90, 3) := by decide +kernel
theorem dX3_placeInto_50 : decode cX3_placeInto 50 = .ok (.iload 4, 2) := by decide +kernel
theorem dX3_placeInto_52 : decode cX3_placeInto 52 = .ok (.invokevirtual 77, 3) := by decide +kernel
theorem dX3_placeInto_55 : decode cX3_placeInto 55 = .ok (.ifCond .eq 5, 3) := by decide +kernel
theorem dX3_placeInto_58 : decode cX3_placeInto 58 = .ok (.iconst 1, 1) := by decide +kernel
theorem dX3_placeInto_59 : decode cX3_placeInto 59 = .ok (.ireturn, 1) := by decide +kernel
theorem dX3_placeInto_60 : decode cX3_placeInto 60 = .ok (.aload_n 0, 1) := by decide +kernel
theorem dX3_placeInto_61 : decode cX3_placeInto 61 = .ok (.getfield 36, 3) := by decide +kernel
theorem dX3_placeInto_64 : decode cX3_placeInto 64 = .ok (.iload_n 1, 1) := by decide +kernel
theorem dX3_placeInto_65 : decode cX3_placeInto 65 = .ok (.dup2, 1) := by decide +kernel
theorem dX3_placeInto_66 : decode cX3_placeInto 66 = .ok (.iaload, 1) := by decide +kernel
theorem dX3_placeInto_67 : decode cX3_placeInto 67 = .ok (.iconst 1, 1) := by decide +kernel
theorem dX3_placeInto_68 : decode cX3_placeInto 68 = .ok (.iload_n 2, 1) := by decide +kernel
theorem dX3_placeInto_69 : decode cX3_placeInto 69 = .ok (.ishl, 1) := by decide +kernel
theorem dX3_placeInto_70 : decode cX3_placeInto 70 = .ok (.iconst (-1), 1) := by decide +kernel
theorem dX3_placeInto_71 : decode cX3_placeInto 71 = .ok (.ixor, 1) := by decide +kernel
theorem dX3_placeInto_72 : decode cX3_placeInto 72 = .ok (.iand, 1) := by decide +kernel
theorem dX3_placeInto_73 : decode cX3_placeInto 73 = .ok (.iastore, 1) := by decide +kernel
theorem dX3_placeInto_74 : decode cX3_placeInto 74 = .ok (.iconst 0, 1) := by decide +kernel
theorem dX3_placeInto_75 : decode cX3_placeInto 75 = .ok (.ireturn, 1) := by decide +kernel
theorem dX4_init_0 : decode cX4_init 0 = .ok (.aload_n 0, 1) := by decide +kernel
theorem dX4_init_1 : decode cX4_init 1 = .ok (.invokespecial 3, 3) := by decide +kernel
theorem dX4_init_4 : decode cX4_init 4 = .ok (.aload_n 0, 1) := by decide +kernel
theorem dX4_init_5 : decode cX4_init 5 = .ok (.bipush 40, 2) := by decide +kernel
theorem dX4_init_7 : decode cX4_init 7 = .ok (.newarray .int, 2) := by decide +kernel
theorem dX4_init_9 : decode cX4_init 9 = .ok (.putfield 11, 3) := by decide +kernel
theorem dX4_init_12 : decode cX4_init 12 = .ok (.return_, 1) := by decide +kernel
theorem dX4_setSizes_0 : decode cX4_setSizes 0 = .ok (.aload_n 0, 1) := by decide +kernel
theorem dX4_setSizes_1 : decode cX4_setSizes 1 = .ok (.iload_n 1, 1) := by decide +kernel
theorem dX4_setSizes_2 : decode cX4_setSizes 2 = .ok (.putfield 15, 3) := by decide +kernel
theorem dX4_setSizes_5 : decode cX4_setSizes 5 = .ok (.aload_n 0, 1) := by decide +kernel
theorem dX4_setSizes_6 : decode cX4_setSizes 6 = .ok (.iload_n 2, 1) := by decide +kernel
theorem dX4_setSizes_7 : decode cX4_setSizes 7 = .ok (.putfield 19, 3) := by decide +kernel
theorem dX4_setSizes_10 : decode cX4_setSizes 10 = .ok (.aload_n 0, 1) := by decide +kernel
theorem dX4_setSizes_11 : decode cX4_setSizes 11 = .ok (.iload_n 3, 1) := by decide +kernel
theorem dX4_setSizes_12 : decode cX4_setSizes 12 = .ok (.putfield 22, 3) := by decide +kernel
theorem dX4_setSizes_15 : decode cX4_setSizes 15 = .ok (.aload_n 0, 1) := by decide +kernel
theorem dX4_setSizes_16 : decode cX4_setSizes 16 = .ok (.iload 4, 2) := by decide +kernel
theorem dX4_setSizes_18 : decode cX4_setSizes 18 = .ok (.putfield 25, 3) := by decide +kernel
theorem dX4_setSizes_21 : decode cX4_setSizes 21 = .ok (.return_, 1) := by decide +kernel
theorem dX4_reckon_0 : decode cX4_reckon 0 = .ok (.aload_n 0, 1) := by decide +kernel
theorem dX4_reckon_1 : decode cX4_reckon 1 = .ok (.iconst 0, 1) := by decide +kernel
theorem dX4_reckon_2 : decode cX4_reckon 2 = .ok (.putfield 28, 3) := by decide +kernel
theorem dX4_reckon_5 : decode cX4_reckon 5 = .ok (.aload_n 0, 1) := by decide +kernel
theorem dX4_reckon_6 : decode cX4_reckon 6 = .ok (.iconst 0, 1) := by decide +kernel
theorem dX4_reckon_7 : decode cX4_reckon 7 = .ok (.putfield 31, 3) := by decide +kernel
theorem dX4_reckon_10 : decode cX4_reckon 10 = .ok (.aload_n 1, 1) := by decide +kernel
theorem dX4_reckon_11 : decode cX4_reckon 11 = .ok (.astore_n 2, 1) := by decide +kernel
theorem dX4_reckon_12 : decode cX4_reckon 12 = .ok (.aload_n 2, 1) := by decide +kernel
theorem dX4_reckon_13 : decode cX4_reckon 13 = .ok (.arraylength, 1) := by decide +kernel
theorem dX4_reckon_14 : decode cX4_reckon 14 = .ok (.istore_n 3, 1) := by decide +kernel
theorem dX4_reckon_15 : decode cX4_reckon 15 = .ok (.iconst 0, 1) := by decide +kernel
theorem dX4_reckon_16 : decode cX4_reckon 16 = .ok (.istore 4, 2) := by decide +kernel
theorem dX4_reckon_18 : decode cX4_reckon 18 = .ok (.iload 4, 2) := by decide +kernel
theorem dX4_reckon_20 : decode cX4_reckon 20 = .ok (.iload_n 3, 1) := by decide +kernel
theorem dX4_reckon_21 : decode cX4_reckon 21 = .ok (.if_icmp .ge 35, 3) := by decide +kernel
theorem dX4_reckon_24 : decode cX4_reckon 24 = .ok (.aload_n 2, 1) := by decide +kernel
theorem dX4_reckon_25 : decode cX4_reckon 25 = .ok (.iload 4, 2) := by decide +kernel
theorem dX4_reckon_27 : decode cX4_reckon 27 = .ok (.iaload, 1) := by decide +kernel
theorem dX4_reckon_28 : decode cX4_reckon 28 = .ok (.istore 5, 2) := by decide +kernel
theorem dX4_reckon_30 : decode cX4_reckon 30 = .ok (.iload 5, 2) := by decide +kernel
theorem dX4_reckon_32 : decode cX4_reckon 32 = .ok (.ifCond .ne 6, 3) := by decide +kernel
theorem dX4_reckon_35 : decode cX4_reckon 35 = .ok (.goto 21, 3) := by decide +kernel
theorem dX4_reckon_38 : decode cX4_reckon 38 = .ok (.aload_n 0, 1) := by decide +kernel
theorem dX4_reckon_39 : decode cX4_reckon 39 = .ok (.iload 5, 2) := by decide +kernel
theorem dX4_reckon_41 : decode cX4_reckon 41 = .ok (.invokevirtual 34, 3) := by decide +kernel
theorem dX4_reckon_44 : decode cX4_reckon 44 = .ok (.ifCond .ne 6, 3) := by decide +kernel
theorem dX4_reckon_47 : decode cX4_reckon 47 = .ok (.ldc 38, 2) := by decide +kernel
theorem dX4_reckon_49 : decode cX4_reckon 49 = .ok (.ireturn, 1) := by decide +kernel
theorem dX4_reckon_50 : decode cX4_reckon 50 = .ok (.iinc 4 1, 3) := by decide +kernel
theorem dX4_reckon_53 : decode cX4_reckon 53 = .ok (.goto (-35), 3) := by decide +kernel
theorem dX4_reckon_56 : decode cX4_reckon 56 = .ok (.aload_n 0, 1) := by decide +kernel
theorem dX4_reckon_57 : decode cX4_reckon 57 = .ok (.getfield 28, 3) := by decide +kernel
theorem dX4_reckon_60 : decode cX4_reckon 60 = .ok (.iconst 1, 1) := by decide +kernel
theorem dX4_reckon_61 : decode cX4_reckon 61 = .ok (.if_icmp .ne 12, 3) := by decide +kernel
theorem dX4_reckon_64 : decode cX4_reckon 64 = .ok (.aload_n 0, 1) := by decide +kernel
theorem dX4_reckon_65 : decode cX4_reckon 65 = .ok (.getfield 11, 3) := by decide +kernel
theorem dX4_reckon_68 : decode cX4_reckon 68 = .ok (.iconst 0, 1) := by decide +kernel
theorem dX4_reckon_69 : decode cX4_reckon 69 = .ok (.iaload, 1) := by decide +kernel
theorem dX4_reckon_70 : decode cX4_reckon 70 = .ok (.goto 5, 3) := by decide +kernel
theorem dX4_reckon_73 : decode cX4_reckon 73 = .ok (.ldc 38, 2) := by decide +kernel
theorem dX4_reckon_75 : decode cX4_reckon 75 = .ok (.ireturn, 1) := by decide +kernel
theorem dX4_read_0 : decode cX4_read 0 = .ok (.iload_n 1, 1) := by decide +kernel
theorem dX4_read_1 : decode cX4_read 1 = .ok (.bipush 48, 2) := by decide +kernel
theorem dX4_read_3 : decode cX4_read 3 = .ok (.bipush 57, 2) := by decide +kernel
theorem dX4_read_5 : decode cX4_read 5 = .ok (.invokestatic 39, 3) := by decide +kernel
theorem dX4_read_8 : decode cX4_read 8 = .ok (.ifCond .eq 12, 3) := by decide +kernel
theorem dX4_read_11 : decode cX4_read 11 = .ok (.aload_n 0, 1) := by decide +kernel
theorem dX4_read_12 : decode cX4_read 12 = .ok (.iload_n 1, 1) := by decide +kernel
theorem dX4_read_13 : decode cX4_read 13 = .ok (.bipush 48, 2) := by decide +kernel
theorem dX4_read_15 : decode cX4_read 15 = .ok (.isub, 1) := by decide +kernel
theorem dX4_read_16 : decode cX4_read 16 = .ok (.invokevirtual 43, 3) := by decide +kernel
theorem dX4_read_19 : decode cX4_read 19 = .ok (.ireturn, 1) := by decide +kernel
theorem dX4_read_20 : decode cX4_read 20 = .ok (.aload_n 0, 1) := by decide +kernel
theorem dX4_read_21 : decode cX4_read 21 = .ok (.iconst 0, 1) := by decide +kernel
theorem dX4_read_22 : decode cX4_read 22 = .ok (.putfield 31, 3) := by decide +kernel
theorem dX4_read_25 : decode cX4_read 25 = .ok (.iload_n 1, 1) := by decide +kernel
theorem dX4_read_26 : decode cX4_read 26 = .ok (.lookupswitch 139 #[(32, 90), (33, 128), (42, 133), (43, 133), (45, 133), (47, 133), (98, 101), (100, 110), (108, 92), (114, 119)], 90) := by decide +kernel
theorem dX4_read_116 : decode cX4_read 116 = .ok (.iconst 1, 1) := by decide +kernel
theorem dX4_read_117 : decode cX4_read 117 = .ok (.ireturn, 1) := by decide +kernel
theorem dX4_read_118 : decode cX4_read 118 = .ok (.aload_n 0, 1) := by decide +kernel
theorem dX4_read_119 : decode cX4_read 119 = .ok (.aload_n 0, 1) := by decide +kernel
theorem dX4_read_120 : decode cX4_read 120 = .ok (.getfield 15, 3) := by decide +kernel
theorem dX4_read_123 : decode cX4_read 123 = .ok (.invokevirtual 46, 3) := by decide +kernel
theorem dX4_read_126 : decode cX4_read 126 = .ok (.ireturn, 1) := by decide +kernel
theorem dX4_read_127 : decode cX4_read 127 = .ok (.aload_n 0, 1) := by decide +kernel
theorem dX4_read_128 : decode cX4_read 128 = .ok (.aload_n 0, 1) := by decide +kernel
theorem dX4_read_129 : decode cX4_read 129 = .ok (.getfield 19, 3) := by decide +kernel
theorem dX4_read_132 : decode cX4_read 132 = .ok (.invokevirtual 46, 3) := by decide +kernel
theorem dX4_read_135 : decode cX4_read 135 = .ok (.ireturn, 1) := by decide +kernel
theorem dX4_read_136 : decode cX4_read 136 = .ok (.aload_n 0, 1) := by decide +kernel
theorem dX4_read_137 : decode cX4_read 137 = .ok (.aload_n 0, 1) := by decide +kernel
theorem dX4_read_138 : decode cX4_read 138 = .ok (.getfield 22, 3) := by decide +kernel
theorem dX4_read_141 : decode cX4_read 141 = .ok (.invokevirtual 46, 3) := by decide +kernel
theorem dX4_read_144 : decode cX4_read 144 = .ok (.ireturn, 1) := by decide +kernel
theorem dX4_read_145 : decode cX4_read 145 = .ok (.aload_n 0, 1) := by decide +kernel
theorem dX4_read_146 : decode cX4_read 146 = .ok (.aload_n 0, 1) := by decide +kernel
theorem dX4_read_147 : decode cX4_read 147 = .ok (.getfield 25, 3) := by decide +kernel
theorem dX4_read_150 : decode cX4_read 150 = .ok (.invokevirtual 46, 3) := by decide +kernel
theorem dX4_read_153 : decode cX4_read 153 = .ok (.ireturn, 1) := by decide +kernel
theorem dX4_read_154 : decode cX4_read 154 = .ok (.aload_n 0, 1) := by decide +kernel
theorem dX4_read_155 : decode cX4_read 155 = .ok (.invokevirtual 49, 3) := by decide +kernel
theorem dX4_read_158 : decode cX4_read 158 = .ok (.ireturn, 1) := by decide +kernel
theorem dX4_read_159 : decode cX4_read 159 = .ok (.aload_n 0, 1) := by decide +kernel
theorem dX4_read_160 : decode cX4_read 160 = .ok (.iload_n 1, 1) := by decide +kernel
theorem dX4_read_161 : decode cX4_read 161 = .ok (.invokevirtual 53, 3) := by decide +kernel
theorem dX4_read_164 : decode cX4_read 164 = .ok (.ireturn, 1) := by decide +kernel
theorem dX4_read_165 : decode cX4_read 165 = .ok (.iconst 0, 1) := by decide +kernel
theorem dX4_read_166 : decode cX4_read 166 = .ok (.ireturn, 1) := by decide +kernel
theorem dX4_readFigure_0 : decode cX4_readFigure 0 = .ok (.aload_n 0, 1) := by decide +kernel
theorem dX4_readFigure_1 : decode cX4_readFigure 1 = .ok (.dup, 1) := by decide +kernel
theorem dX4_readFigure_2 : decode cX4_readFigure 2 = .ok (.getfield 31, 3) := by decide +kernel
theorem dX4_readFigure_5 : decode cX4_readFigure 5 = .ok (.iconst 1, 1) := by decide +kernel
theorem dX4_readFigure_6 : decode cX4_readFigure 6 = .ok (.iadd, 1) := by decide +kernel
theorem dX4_readFigure_7 : decode cX4_readFigure 7 = .ok (.putfield 31, 3) := by decide +kernel
theorem dX4_readFigure_10 : decode cX4_readFigure 10 = .ok (.aload_n 0, 1) := by decide +kernel
theorem dX4_readFigure_11 : decode cX4_readFigure 11 = .ok (.getfield 31, 3) := by decide +kernel
theorem dX4_readFigure_14 : decode cX4_readFigure 14 = .ok (.iconst 1, 1) := by decide +kernel
theorem dX4_readFigure_15 : decode cX4_readFigure 15 = .ok (.if_icmp .ne 9, 3) := by decide +kernel
theorem dX4_readFigure_18 : decode cX4_readFigure 18 = .ok (.aload_n 0, 1) := by decide +kernel
theorem dX4_readFigure_19 : decode cX4_readFigure 19 = .ok (.iload_n 1, 1) := by decide +kernel
theorem dX4_readFigure_20 : decode cX4_readFigure 20 = .ok (.invokevirtual 46, 3) := by decide +kernel
theorem dX4_readFigure_23 : decode cX4_readFigure 23 = .ok (.ireturn, 1) := by decide +kernel
theorem dX4_readFigure_24 : decode cX4_readFigure 24 = .ok (.aload_n 0, 1) := by decide +kernel
theorem dX4_readFigure_25 : decode cX4_readFigure 25 = .ok (.getfield 31, 3) := by decide +kernel
theorem dX4_readFigure_28 : decode cX4_readFigure 28 = .ok (.iconst 4, 1) := by decide +kernel
theorem dX4_readFigure_29 : decode cX4_readFigure 29 = .ok (.if_icmp .gt 11, 3) := by decide +kernel
theorem dX4_readFigure_32 : decode cX4_readFigure 32 = .ok (.aload_n 0, 1) := by decide +kernel
theorem dX4_readFigure_33 : decode cX4_readFigure 33 = .ok (.getfield 28, 3) := by decide +kernel
theorem dX4_readFigure_36 : decode cX4_readFigure 36 = .ok (.iconst 1, 1) := by decide +kernel
theorem dX4_readFigure_37 : decode cX4_readFigure 37 = .ok (.if_icmp .ge 5, 3) := by decide +kernel
theorem dX4_readFigure_40 : decode cX4_readFigure 40 = .ok (.iconst 0, 1) := by decide +kernel
theorem dX4_readFigure_41 : decode cX4_readFigure 41 = .ok (.ireturn, 1) := by decide +kernel
theorem dX4_readFigure_42 : decode cX4_readFigure 42 = .ok (.aload_n 0, 1) := by decide +kernel
theorem dX4_readFigure_43 : decode cX4_readFigure 43 = .ok (.getfield 11, 3) := by decide +kernel
theorem dX4_readFigure_46 : decode cX4_readFigure 46 = .ok (.aload_n 0, 1) := by decide +kernel
theorem dX4_readFigure_47 : decode cX4_readFigure 47 = .ok (.getfield 28, 3) := by decide +kernel
theorem dX4_readFigure_50 : decode cX4_readFigure 50 = .ok (.iconst 1, 1) := by decide +kernel
theorem dX4_readFigure_51 : decode cX4_readFigure 51 = .ok (.isub, 1) := by decide +kernel
theorem dX4_readFigure_52 : decode cX4_readFigure 52 = .ok (.aload_n 0, 1) := by decide +kernel
theorem dX4_readFigure_53 : decode cX4_readFigure 53 = .ok (.getfield 11, 3) := by decide +kernel
theorem dX4_readFigure_56 : decode cX4_readFigure 56 = .ok (.aload_n 0, 1) := by decide +kernel
theorem dX4_readFigure_57 : decode cX4_readFigure 57 = .ok (.getfield 28, 3) := by decide +kernel
theorem dX4_readFigure_60 : decode cX4_readFigure 60 = .ok (.iconst 1, 1) := by decide +kernel
theorem dX4_readFigure_61 : decode cX4_readFigure 61 = .ok (.isub, 1) := by decide +kernel
theorem dX4_readFigure_62 : decode cX4_readFigure 62 = .ok (.iaload, 1) := by decide +kernel
theorem dX4_readFigure_63 : decode cX4_readFigure 63 = .ok (.bipush 10, 2) := by decide +kernel
theorem dX4_readFigure_65 : decode cX4_readFigure 65 = .ok (.imul, 1) := by decide +kernel
theorem dX4_readFigure_66 : decode cX4_readFigure 66 = .ok (.iload_n 1, 1) := by decide +kernel
theorem dX4_readFigure_67 : decode cX4_readFigure 67 = .ok (.iadd, 1) := by decide +kernel
theorem dX4_readFigure_68 : decode cX4_readFigure 68 = .ok (.iastore, 1) := by decide +kernel
theorem dX4_readFigure_69 : decode cX4_readFigure 69 = .ok (.iconst 1, 1) := by decide +kernel
theorem dX4_readFigure_70 : decode cX4_readFigure 70 = .ok (.ireturn, 1) := by decide +kernel
theorem dX4_push_0 : decode cX4_push 0 = .ok (.aload_n 0, 1) := by decide +kernel
theorem dX4_push_1 : decode cX4_push 1 = .ok (.getfield 28, 3) := by decide +kernel
theorem dX4_push_4 : decode cX4_push 4 = .ok (.aload_n 0, 1) := by decide +kernel
theorem dX4_push_5 : decode cX4_push 5 = .ok (.getfield 11, 3) := by decide +kernel
theorem dX4_push_8 : decode cX4_push 8 = .ok (.arraylength, 1) := by decide +kernel
theorem dX4_push_9 : decode cX4_push 9 = .ok (.if_icmp .lt 5, 3) := by decide +kernel
theorem dX4_push_12 : decode cX4_push 12 = .ok (.iconst 0, 1) := by decide +kernel
theorem dX4_push_13 : decode cX4_push 13 = .ok (.ireturn, 1) := by decide +kernel
theorem dX4_push_14 : decode cX4_push 14 = .ok (.aload_n 0, 1) := by decide +kernel
theorem dX4_push_15 : decode cX4_push 15 = .ok (.getfield 11, 3) := by decide +kernel
theorem dX4_push_18 : decode cX4_push 18 = .ok (.aload_n 0, 1) := by decide +kernel
theorem dX4_push_19 : decode cX4_push 19 = .ok (.getfield 28, 3) := by decide +kernel
theorem dX4_push_22 : decode cX4_push 22 = .ok (.iload_n 1, 1) := by decide +kernel
theorem dX4_push_23 : decode cX4_push 23 = .ok (.iastore, 1) := by decide +kernel
theorem dX4_push_24 : decode cX4_push 24 = .ok (.aload_n 0, 1) := by decide +kernel
theorem dX4_push_25 : decode cX4_push 25 = .ok (.dup, 1) := by decide +kernel
theorem dX4_push_26 : decode cX4_push 26 = .ok (.getfield 28, 3) := by decide +kernel
theorem dX4_push_29 : decode cX4_push 29 = .ok (.iconst 1, 1) := by decide +kernel
theorem dX4_push_30 : decode cX4_push 30 = .ok (.iadd, 1) := by decide +kernel
theorem dX4_push_31 : decode cX4_push 31 = .ok (.putfield 28, 3) := by decide +kernel
theorem dX4_push_34 : decode cX4_push 34 = .ok (.iconst 1, 1) := by decide +kernel
theorem dX4_push_35 : decode cX4_push 35 = .ok (.ireturn, 1) := by decide +kernel
theorem dX4_liftToZero_0 : decode cX4_liftToZero 0 = .ok (.aload_n 0, 1) := by decide +kernel
theorem dX4_liftToZero_1 : decode cX4_liftToZero 1 = .ok (.getfield 28, 3) := by decide +kernel
theorem dX4_liftToZero_4 : decode cX4_liftToZero 4 = .ok (.iconst 1, 1) := by decide +kernel
theorem dX4_liftToZero_5 : decode cX4_liftToZero 5 = .ok (.if_icmp .ge 5, 3) := by decide +kernel
theorem dX4_liftToZero_8 : decode cX4_liftToZero 8 = .ok (.iconst 0, 1) := by decide +kernel
theorem dX4_liftToZero_9 : decode cX4_liftToZero 9 = .ok (.ireturn, 1) := by decide +kernel
theorem dX4_liftToZero_10 : decode cX4_liftToZero 10 = .ok (.aload_n 0, 1) := by decide +kernel
theorem dX4_liftToZero_11 : decode cX4_liftToZero 11 = .ok (.getfield 11, 3) := by decide +kernel
theorem dX4_liftToZero_14 : decode cX4_liftToZero 14 = .ok (.aload_n 0, 1) := by decide +kernel
theorem dX4_liftToZero_15 : decode cX4_liftToZero 15 = .ok (.getfield 28, 3) := by decide +kernel
theorem dX4_liftToZero_18 : decode cX4_liftToZero 18 = .ok (.iconst 1, 1) := by decide +kernel
theorem dX4_liftToZero_19 : decode cX4_liftToZero 19 = .ok (.isub, 1) := by decide +kernel
theorem dX4_liftToZero_20 : decode cX4_liftToZero 20 = .ok (.aload_n 0, 1) := by decide +kernel
theorem dX4_liftToZero_21 : decode cX4_liftToZero 21 = .ok (.getfield 11, 3) := by decide +kernel
theorem dX4_liftToZero_24 : decode cX4_liftToZero 24 = .ok (.aload_n 0, 1) := by decide +kernel
theorem dX4_liftToZero_25 : decode cX4_liftToZero 25 = .ok (.getfield 28, 3) := by decide +kernel
theorem dX4_liftToZero_28 : decode cX4_liftToZero 28 = .ok (.iconst 1, 1) := by decide +kernel
theorem dX4_liftToZero_29 : decode cX4_liftToZero 29 = .ok (.isub, 1) := by decide +kernel
theorem dX4_liftToZero_30 : decode cX4_liftToZero 30 = .ok (.iaload, 1) := by decide +kernel
theorem dX4_liftToZero_31 : decode cX4_liftToZero 31 = .ok (.iconst 0, 1) := by decide +kernel
theorem dX4_liftToZero_32 : decode cX4_liftToZero 32 = .ok (.invokestatic 56, 3) := by decide +kernel
theorem dX4_liftToZero_35 : decode cX4_liftToZero 35 = .ok (.iastore, 1) := by decide +kernel
theorem dX4_liftToZero_36 : decode cX4_liftToZero 36 = .ok (.iconst 1, 1) := by decide +kernel
theorem dX4_liftToZero_37 : decode cX4_liftToZero 37 = .ok (.ireturn, 1) := by decide +kernel
theorem dX4_joinTwo_0 : decode cX4_joinTwo 0 = .ok (.aload_n 0, 1) := by decide +kernel
theorem dX4_joinTwo_1 : decode cX4_joinTwo 1 = .ok (.getfield 28, 3) := by decide +kernel
theorem dX4_joinTwo_4 : decode cX4_joinTwo 4 = .ok (.iconst 2, 1) := by decide +kernel
theorem dX4_joinTwo_5 : decode cX4_joinTwo 5 = .ok (.if_icmp .ge 5, 3) := by decide +kernel
theorem dX4_joinTwo_8 : decode cX4_joinTwo 8 = .ok (.iconst 0, 1) := by decide +kernel
theorem dX4_joinTwo_9 : decode cX4_joinTwo 9 = .ok (.ireturn, 1) := by decide +kernel
theorem dX4_joinTwo_10 : decode cX4_joinTwo 10 = .ok (.aload_n 0, 1) := by decide +kernel
theorem dX4_joinTwo_11 : decode cX4_joinTwo 11 = .ok (.dup, 1) := by decide +kernel
theorem dX4_joinTwo_12 : decode cX4_joinTwo 12 = .ok (.getfield 28, 3) := by decide +kernel
theorem dX4_joinTwo_15 : decode cX4_joinTwo 15 = .ok (.iconst 1, 1) := by decide +kernel
theorem dX4_joinTwo_16 : decode cX4_joinTwo 16 = .ok (.isub, 1) := by decide +kernel
theorem dX4_joinTwo_17 : decode cX4_joinTwo 17 = .ok (.putfield 28, 3) := by decide +kernel
theorem dX4_joinTwo_20 : decode cX4_joinTwo 20 = .ok (.aload_n 0, 1) := by decide +kernel
theorem dX4_joinTwo_21 : decode cX4_joinTwo 21 = .ok (.getfield 11, 3) := by decide +kernel
theorem dX4_joinTwo_24 : decode cX4_joinTwo 24 = .ok (.aload_n 0, 1) := by decide +kernel
theorem dX4_joinTwo_25 : decode cX4_joinTwo 25 = .ok (.getfield 28, 3) := by decide +kernel
theorem dX4_joinTwo_28 : decode cX4_joinTwo 28 = .ok (.iconst 1, 1) := by decide +kernel
theorem dX4_joinTwo_29 : decode cX4_joinTwo 29 = .ok (.isub, 1) := by decide +kernel
theorem dX4_joinTwo_30 : decode cX4_joinTwo 30 = .ok (.iload_n 1, 1) := by decide +kernel
theorem dX4_joinTwo_31 : decode cX4_joinTwo 31 = .ok (.aload_n 0, 1) := by decide +kernel
theorem dX4_joinTwo_32 : decode cX4_joinTwo 32 = .ok (.getfield 11, 3) := by decide +kernel
theorem dX4_joinTwo_35 : decode cX4_joinTwo 35 = .ok (.aload_n 0, 1) := by decide +kernel
theorem dX4_joinTwo_36 : decode cX4_joinTwo 36 = .ok (.getfield 28, 3) := by decide +kernel
theorem dX4_joinTwo_39 : decode cX4_joinTwo 39 = .ok (.iconst 1, 1) := by decide +kernel
theorem dX4_joinTwo_40 : decode cX4_joinTwo 40 = .ok (.isub, 1) := by decide +kernel
theorem dX4_joinTwo_41 : decode cX4_joinTwo 41 = .ok (.iaload, 1) := by decide +kernel
theorem dX4_joinTwo_42 : decode cX4_joinTwo 42 = .ok (.i2l, 1) := by decide +kernel
theorem dX4_joinTwo_43 : decode cX4_joinTwo 43 = .ok (.aload_n 0, 1) := by decide +kernel
theorem dX4_joinTwo_44 : decode cX4_joinTwo 44 = .ok (.getfield 11, 3) := by decide +kernel
theorem dX4_joinTwo_47 : decode cX4_joinTwo 47 = .ok (.aload_n 0, 1) := by decide +kernel
theorem dX4_joinTwo_48 : decode cX4_joinTwo 48 = .ok (.getfield 28, 3) := by decide +kernel
theorem dX4_joinTwo_51 : decode cX4_joinTwo 51 = .ok (.iaload, 1) := by decide +kernel
theorem dX4_joinTwo_52 : decode cX4_joinTwo 52 = .ok (.i2l, 1) := by decide +kernel
theorem dX4_joinTwo_53 : decode cX4_joinTwo 53 = .ok (.invokestatic 62, 3) := by decide +kernel
theorem dX4_joinTwo_56 : decode cX4_joinTwo 56 = .ok (.invokestatic 66, 3) := by decide +kernel
theorem dX4_joinTwo_59 : decode cX4_joinTwo 59 = .ok (.iastore, 1) := by decide +kernel
theorem dX4_joinTwo_60 : decode cX4_joinTwo 60 = .ok (.iconst 1, 1) := by decide +kernel
theorem dX4_joinTwo_61 : decode cX4_joinTwo 61 = .ok (.ireturn, 1) := by decide +kernel
theorem dX4_joined_0 : decode cX4_joined 0 = .ok (.iload_n 0, 1) := by decide +kernel
theorem dX4_joined_1 : decode cX4_joined 1 = .ok (.tableswitch 43 42 45 #[39, 31, 43, 35], 31) := by decide +kernel
theorem dX4_joined_32 : decode cX4_joined 32 = .ok (.lload_n 1, 1) := by decide +kernel
theorem dX4_joined_33 : decode cX4_joined 33 = .ok (.lload_n 3, 1) := by decide +kernel
theorem dX4_joined_34 : decode cX4_joined 34 = .ok (.ladd, 1) := by decide +kernel
theorem dX4_joined_35 : decode cX4_joined 35 = .ok (.lreturn, 1) := by decide +kernel
theorem dX4_joined_36 : decode cX4_joined 36 = .ok (.lload_n 1, 1) := by decide +kernel
theorem dX4_joined_37 : decode cX4_joined 37 = .ok (.lload_n 3, 1) := by decide +kernel
theorem dX4_joined_38 : decode cX4_joined 38 = .ok (.lsub, 1) := by decide +kernel
theorem dX4_joined_39 : decode cX4_joined 39 = .ok (.lreturn, 1) := by decide +kernel
theorem dX4_joined_40 : decode cX4_joined 40 = .ok (.lload_n 1, 1) := by decide +kernel
theorem dX4_joined_41 : decode cX4_joined 41 = .ok (.lload_n 3, 1) := by decide +kernel
theorem dX4_joined_42 : decode cX4_joined 42 = .ok (.lmul, 1) := by decide +kernel
theorem dX4_joined_43 : decode cX4_joined 43 = .ok (.lreturn, 1) := by decide +kernel
theorem dX4_joined_44 : decode cX4_joined 44 = .ok (.lload_n 3, 1) := by decide +kernel
theorem dX4_joined_45 : decode cX4_joined 45 = .ok (.lconst 0, 1) := by decide +kernel
theorem dX4_joined_46 : decode cX4_joined 46 = .ok (.lcmp, 1) := by decide +kernel
theorem dX4_joined_47 : decode cX4_joined 47 = .ok (.ifCond .ne 7, 3) := by decide +kernel
theorem dX4_joined_50 : decode cX4_joined 50 = .ok (.lconst 0, 1) := by decide +kernel
theorem dX4_joined_51 : decode cX4_joined 51 = .ok (.goto 6, 3) := by decide +kernel
theorem dX4_joined_54 : decode cX4_joined 54 = .ok (.lload_n 1, 1) := by decide +kernel
theorem dX4_joined_55 : decode cX4_joined 55 = .ok (.lload_n 3, 1) := by decide +kernel
theorem dX4_joined_56 : decode cX4_joined 56 = .ok (.ldiv, 1) := by decide +kernel
theorem dX4_joined_57 : decode cX4_joined 57 = .ok (.lreturn, 1) := by decide +kernel
theorem dX4_bounded_0 : decode cX4_bounded 0 = .ok (.lload_n 0, 1) := by decide +kernel
theorem dX4_bounded_1 : decode cX4_bounded 1 = .ok (.ldc2_w 70, 3) := by decide +kernel
theorem dX4_bounded_4 : decode cX4_bounded 4 = .ok (.lcmp, 1) := by decide +kernel
theorem dX4_bounded_5 : decode cX4_bounded 5 = .ok (.ifCond .le 6, 3) := by decide +kernel
theorem dX4_bounded_8 : decode cX4_bounded 8 = .ok (.ldc 72, 2) := by decide +kernel
theorem dX4_bounded_10 : decode cX4_bounded 10 = .ok (.ireturn, 1) := by decide +kernel
theorem dX4_bounded_11 : decode cX4_bounded 11 = .ok (.lload_n 0, 1) := by decide +kernel
theorem dX4_bounded_12 : decode cX4_bounded 12 = .ok (.ldc2_w 73, 3) := by decide +kernel
theorem dX4_bounded_15 : decode cX4_bounded 15 = .ok (.lcmp, 1) := by decide +kernel
theorem dX4_bounded_16 : decode cX4_bounded 16 = .ok (.ifCond .ge 8, 3) := by decide +kernel
theorem dX4_bounded_19 : decode cX4_bounded 19 = .ok (.ldc 75, 2) := by decide +kernel
theorem dX4_bounded_21 : decode cX4_bounded 21 = .ok (.goto 5, 3) := by decide +kernel
theorem dX4_bounded_24 : decode cX4_bounded 24 = .ok (.lload_n 0, 1) := by decide +kernel
theorem dX4_bounded_25 : decode cX4_bounded 25 = .ok (.l2i, 1) := by decide +kernel
theorem dX4_bounded_26 : decode cX4_bounded 26 = .ok (.ireturn, 1) := by decide +kernel
theorem dX5_init_0 : decode cX5_init 0 = .ok (.aload_n 0, 1) := by decide +kernel
theorem dX5_init_1 : decode cX5_init 1 = .ok (.invokespecial 1, 3) := by decide +kernel
theorem dX5_init_4 : decode cX5_init 4 = .ok (.aload_n 0, 1) := by decide +kernel
theorem dX5_init_5 : decode cX5_init 5 = .ok (.new 7, 3) := by decide +kernel
theorem dX5_init_8 : decode cX5_init 8 = .ok (.dup, 1) := by decide +kernel
theorem dX5_init_9 : decode cX5_init 9 = .ok (.invokespecial 9, 3) := by decide +kernel
theorem dX5_init_12 : decode cX5_init 12 = .ok (.putfield 10, 3) := by decide +kernel
theorem dX5_init_15 : decode cX5_init 15 = .ok (.aload_n 0, 1) := by decide +kernel
theorem dX5_init_16 : decode cX5_init 16 = .ok (.new 16, 3) := by decide +kernel
theorem dX5_init_19 : decode cX5_init 19 = .ok (.dup, 1) := by decide +kernel
theorem dX5_init_20 : decode cX5_init 20 = .ok (.invokespecial 18, 3) := by decide +kernel
theorem dX5_init_23 : decode cX5_init 23 = .ok (.putfield 19, 3) := by decide +kernel
theorem dX5_init_26 : decode cX5_init 26 = .ok (.aload_n 0, 1) := by decide +kernel
theorem dX5_init_27 : decode cX5_init 27 = .ok (.new 23, 3) := by decide +kernel
theorem dX5_init_30 : decode cX5_init 30 = .ok (.dup, 1) := by decide +kernel
theorem dX5_init_31 : decode cX5_init 31 = .ok (.invokespecial 25, 3) := by decide +kernel
theorem dX5_init_34 : decode cX5_init 34 = .ok (.putfield 26, 3) := by decide +kernel
theorem dX5_init_37 : decode cX5_init 37 = .ok (.aload_n 0, 1) := by decide +kernel
theorem dX5_init_38 : decode cX5_init 38 = .ok (.new 30, 3) := by decide +kernel
theorem dX5_init_41 : decode cX5_init 41 = .ok (.dup, 1) := by decide +kernel
theorem dX5_init_42 : decode cX5_init 42 = .ok (.invokespecial 32, 3) := by decide +kernel
theorem dX5_init_45 : decode cX5_init 45 = .ok (.putfield 33, 3) := by decide +kernel
theorem dX5_init_48 : decode cX5_init 48 = .ok (.return_, 1) := by decide +kernel
theorem dX5_feed_0 : decode cX5_feed 0 = .ok (.aload_n 0, 1) := by decide +kernel
theorem dX5_feed_1 : decode cX5_feed 1 = .ok (.getfield 10, 3) := by decide +kernel
theorem dX5_feed_4 : decode cX5_feed 4 = .ok (.iload_n 1, 1) := by decide +kernel
theorem dX5_feed_5 : decode cX5_feed 5 = .ok (.invokevirtual 37, 3) := by decide +kernel
theorem dX5_feed_8 : decode cX5_feed 8 = .ok (.ireturn, 1) := by decide +kernel
theorem dX5_scrap_0 : decode cX5_scrap 0 = .ok (.aload_n 0, 1) := by decide +kernel
theorem dX5_scrap_1 : decode cX5_scrap 1 = .ok (.getfield 10, 3) := by decide +kernel
theorem dX5_scrap_4 : decode cX5_scrap 4 = .ok (.invokevirtual 41, 3) := by decide +kernel
theorem dX5_scrap_7 : decode cX5_scrap 7 = .ok (.ireturn, 1) := by decide +kernel
theorem dX5_act_0 : decode cX5_act 0 = .ok (.aload_n 0, 1) := by decide +kernel
theorem dX5_act_1 : decode cX5_act 1 = .ok (.getfield 10, 3) := by decide +kernel
theorem dX5_act_4 : decode cX5_act 4 = .ok (.iload_n 1, 1) := by decide +kernel
theorem dX5_act_5 : decode cX5_act 5 = .ok (.invokevirtual 45, 3) := by decide +kernel
theorem dX5_act_8 : decode cX5_act 8 = .ok (.ireturn, 1) := by decide +kernel
theorem dX5_inForce_0 : decode cX5_inForce 0 = .ok (.iload_n 1, 1) := by decide +kernel
theorem dX5_inForce_1 : decode cX5_inForce 1 = .ok (.invokestatic 48, 3) := by decide +kernel
theorem dX5_inForce_4 : decode cX5_inForce 4 = .ok (.ifCond .eq 14, 3) := by decide +kernel
theorem dX5_inForce_7 : decode cX5_inForce 7 = .ok (.aload_n 0, 1) := by decide +kernel
theorem dX5_inForce_8 : decode cX5_inForce 8 = .ok (.getfield 10, 3) := by decide +kernel
theorem dX5_inForce_11 : decode cX5_inForce 11 = .ok (.iload_n 1, 1) := by decide +kernel
theorem dX5_inForce_12 : decode cX5_inForce 12 = .ok (.invokevirtual 52, 3) := by decide +kernel
theorem dX5_inForce_15 : decode cX5_inForce 15 = .ok (.goto 4, 3) := by decide +kernel
theorem dX5_inForce_18 : decode cX5_inForce 18 = .ok (.iconst (-1), 1) := by decide +kernel
theorem dX5_inForce_19 : decode cX5_inForce 19 = .ok (.ireturn, 1) := by decide +kernel
theorem dX5_tons_0 : decode cX5_tons 0 = .ok (.aload_n 0, 1) := by decide +kernel
theorem dX5_tons_1 : decode cX5_tons 1 = .ok (.getfield 10, 3) := by decide +kernel
theorem dX5_tons_4 : decode cX5_tons 4 = .ok (.iload_n 1, 1) := by decide +kernel
theorem dX5_tons_5 : decode cX5_tons 5 = .ok (.invokevirtual 55, 3) := by decide +kernel
theorem dX5_tons_8 : decode cX5_tons 8 = .ok (.ifCond .eq 15, 3) := by decide +kernel
theorem dX5_tons_11 : decode cX5_tons 11 = .ok (.iload_n 2, 1) := by decide +kernel
theorem dX5_tons_12 : decode cX5_tons 12 = .ok (.iload_n 3, 1) := by decide +kernel
theorem dX5_tons_13 : decode cX5_tons 13 = .ok (.iload 4, 2) := by decide +kernel
theorem dX5_tons_15 : decode cX5_tons 15 = .ok (.iload 5, 2) := by decide +kernel
theorem dX5_tons_17 : decode cX5_tons 17 = .ok (.invokestatic 58, 3) := by decide +kernel
theorem dX5_tons_20 : decode cX5_tons 20 = .ok (.ifCond .ne 6, 3) := by decide +kernel
theorem dX5_tons_23 : decode cX5_tons 23 = .ok (.ldc 62, 2) := by decide +kernel
theorem dX5_tons_25 : decode cX5_tons 25 = .ok (.ireturn, 1) := by decide +kernel
theorem dX5_tons_26 : decode cX5_tons 26 = .ok (.aload_n 0, 1) := by decide +kernel
theorem dX5_tons_27 : decode cX5_tons 27 = .ok (.getfield 10, 3) := by decide +kernel
theorem dX5_tons_30 : decode cX5_tons 30 = .ok (.iload_n 1, 1) := by decide +kernel
theorem dX5_tons_31 : decode cX5_tons 31 = .ok (.iload_n 2, 1) := by decide +kernel
theorem dX5_tons_32 : decode cX5_tons 32 = .ok (.iload_n 3, 1) := by decide +kernel
theorem dX5_tons_33 : decode cX5_tons 33 = .ok (.iload 4, 2) := by decide +kernel
theorem dX5_tons_35 : decode cX5_tons 35 = .ok (.iload 5, 2) := by decide +kernel
theorem dX5_tons_37 : decode cX5_tons 37 = .ok (.invokevirtual 63, 3) := by decide +kernel
theorem dX5_tons_40 : decode cX5_tons 40 = .ok (.ireturn, 1) := by decide +kernel
theorem dX5_shape_0 : decode cX5_shape 0 = .ok (.aload_n 0, 1) := by decide +kernel
theorem dX5_shape_1 : decode cX5_shape 1 = .ok (.getfield 10, 3) := by decide +kernel
theorem dX5_shape_4 : decode cX5_shape 4 = .ok (.iload_n 1, 1) := by decide +kernel
theorem dX5_shape_5 : decode cX5_shape 5 = .ok (.invokevirtual 55, 3) := by decide +kernel
theorem dX5_shape_8 : decode cX5_shape 8 = .ok (.ifCond .eq 23, 3) := by decide +kernel
theorem dX5_shape_11 : decode cX5_shape 11 = .ok (.iload_n 2, 1) := by decide +kernel
theorem dX5_shape_12 : decode cX5_shape 12 = .ok (.iconst 1, 1) := by decide +kernel
theorem dX5_shape_13 : decode cX5_shape 13 = .ok (.sipush 1728, 3) := by decide +kernel
theorem dX5_shape_16 : decode cX5_shape 16 = .ok (.invokestatic 67, 3) := by decide +kernel
theorem dX5_shape_19 : decode cX5_shape 19 = .ok (.ifCond .eq 12, 3) := by decide +kernel
theorem dX5_shape_22 : decode cX5_shape 22 = .ok (.iload_n 3, 1) := by decide +kernel
theorem dX5_shape_23 : decode cX5_shape 23 = .ok (.iconst 0, 1) := by decide +kernel
theorem dX5_shape_24 : decode cX5_shape 24 = .ok (.iconst 3, 1) := by decide +kernel
theorem dX5_shape_25 : decode cX5_shape 25 = .ok (.invokestatic 67, 3) := by decide +kernel
theorem dX5_shape_28 : decode cX5_shape 28 = .ok (.ifCond .ne 6, 3) := by decide +kernel
theorem dX5_shape_31 : decode cX5_shape 31 = .ok (.ldc 62, 2) := by decide +kernel
theorem dX5_shape_33 : decode cX5_shape 33 = .ok (.ireturn, 1) := by decide +kernel
theorem dX5_shape_34 : decode cX5_shape 34 = .ok (.aload_n 0, 1) := by decide +kernel
theorem dX5_shape_35 : decode cX5_shape 35 = .ok (.getfield 10, 3) := by decide +kernel
theorem dX5_shape_38 : decode cX5_shape 38 = .ok (.iload_n 1, 1) := by decide +kernel
theorem dX5_shape_39 : decode cX5_shape 39 = .ok (.iload_n 2, 1) := by decide +kernel
theorem dX5_shape_40 : decode cX5_shape 40 = .ok (.iload_n 3, 1) := by decide +kernel
theorem dX5_shape_41 : decode cX5_shape 41 = .ok (.invokevirtual 71, 3) := by decide +kernel
theorem dX5_shape_44 : decode cX5_shape 44 = .ok (.ireturn, 1) := by decide +kernel
theorem dX5_hull_0 : decode cX5_hull 0 = .ok (.iload_n 1, 1) := by decide +kernel
theorem dX5_hull_1 : decode cX5_hull 1 = .ok (.iload_n 2, 1) := by decide +kernel
theorem dX5_hull_2 : decode cX5_hull 2 = .ok (.iload_n 3, 1) := by decide +kernel
theorem dX5_hull_3 : decode cX5_hull 3 = .ok (.iload 4, 2) := by decide +kernel
theorem dX5_hull_5 : decode cX5_hull 5 = .ok (.invokestatic 58, 3) := by decide +kernel
theorem dX5_hull_8 : decode cX5_hull 8 = .ok (.ifCond .ne 5, 3) := by decide +kernel
theorem dX5_hull_11 : decode cX5_hull 11 = .ok (.iconst (-1), 1) := by decide +kernel
theorem dX5_hull_12 : decode cX5_hull 12 = .ok (.ireturn, 1) := by decide +kernel
theorem dX5_hull_13 : decode cX5_hull 13 = .ok (.aload_n 0, 1) := by decide +kernel
theorem dX5_hull_14 : decode cX5_hull 14 = .ok (.getfield 19, 3) := by decide +kernel
theorem dX5_hull_17 : decode cX5_hull 17 = .ok (.iload_n 1, 1) := by decide +kernel
theorem dX5_hull_18 : decode cX5_hull 18 = .ok (.iload_n 2, 1) := by decide +kernel
theorem dX5_hull_19 : decode cX5_hull 19 = .ok (.iload_n 3, 1) := by decide +kernel
theorem dX5_hull_20 : decode cX5_hull 20 = .ok (.iload 4, 2) := by decide +kernel
theorem dX5_hull_22 : decode cX5_hull 22 = .ok (.invokevirtual 75, 3) := by decide +kernel
theorem dX5_hull_25 : decode cX5_hull 25 = .ok (.ireturn, 1) := by decide +kernel
theorem dX5_alter_0 : decode cX5_alter 0 = .ok (.aload_n 0, 1) := by decide +kernel
theorem dX5_alter_1 : decode cX5_alter 1 = .ok (.getfield 19, 3) := by decide +kernel
theorem dX5_alter_4 : decode cX5_alter 4 = .ok (.iload_n 1, 1) := by decide +kernel
theorem dX5_alter_5 : decode cX5_alter 5 = .ok (.invokevirtual 79, 3) := by decide +kernel
theorem dX5_alter_8 : decode cX5_alter 8 = .ok (.ifCond .eq 15, 3) := by decide +kernel
theorem dX5_alter_11 : decode cX5_alter 11 = .ok (.iload_n 2, 1) := by decide +kernel
theorem dX5_alter_12 : decode cX5_alter 12 = .ok (.iload_n 3, 1) := by decide +kernel
theorem dX5_alter_13 : decode cX5_alter 13 = .ok (.iload 4, 2) := by decide +kernel
theorem dX5_alter_15 : decode cX5_alter 15 = .ok (.iload 5, 2) := by decide +kernel
theorem dX5_alter_17 : decode cX5_alter 17 = .ok (.invokestatic 58, 3) := by decide +kernel
theorem dX5_alter_20 : decode cX5_alter 20 = .ok (.ifCond .ne 5, 3) := by decide +kernel
theorem dX5_alter_23 : decode cX5_alter 23 = .ok (.iconst (-1), 1) := by decide +kernel
theorem dX5_alter_24 : decode cX5_alter 24 = .ok (.ireturn, 1) := by decide +kernel
theorem dX5_alter_25 : decode cX5_alter 25 = .ok (.aload_n 0, 1) := by decide +kernel
theorem dX5_alter_26 : decode cX5_alter 26 = .ok (.getfield 19, 3) := by decide +kernel
theorem dX5_alter_29 : decode cX5_alter 29 = .ok (.iload_n 1, 1) := by decide +kernel
theorem dX5_alter_30 : decode cX5_alter 30 = .ok (.iload_n 2, 1) := by decide +kernel
theorem dX5_alter_31 : decode cX5_alter 31 = .ok (.iload_n 3, 1) := by decide +kernel
theorem dX5_alter_32 : decode cX5_alter 32 = .ok (.iload 4, 2) := by decide +kernel
theorem dX5_alter_34 : decode cX5_alter 34 = .ok (.iload 5, 2) := by decide +kernel
theorem dX5_alter_36 : decode cX5_alter 36 = .ok (.invokevirtual 80, 3) := by decide +kernel
theorem dX5_alter_39 : decode cX5_alter 39 = .ok (.iconst 1, 1) := by decide +kernel
theorem dX5_alter_40 : decode cX5_alter 40 = .ok (.ireturn, 1) := by decide +kernel
theorem dX5_measure_0 : decode cX5_measure 0 = .ok (.aload_n 0, 1) := by decide +kernel
theorem dX5_measure_1 : decode cX5_measure 1 = .ok (.getfield 19, 3) := by decide +kernel
theorem dX5_measure_4 : decode cX5_measure 4 = .ok (.iload_n 1, 1) := by decide +kernel
theorem dX5_measure_5 : decode cX5_measure 5 = .ok (.invokevirtual 79, 3) := by decide +kernel
theorem dX5_measure_8 : decode cX5_measure 8 = .ok (.ifCond .eq 10, 3) := by decide +kernel
theorem dX5_measure_11 : decode cX5_measure 11 = .ok (.iload_n 2, 1) := by decide +kernel
theorem dX5_measure_12 : decode cX5_measure 12 = .ok (.invokestatic 48, 3) := by decide +kernel
theorem dX5_measure_15 : decode cX5_measure 15 = .ok (.ifCond .ne 5, 3) := by decide +kernel
theorem dX5_measure_18 : decode cX5_measure 18 = .ok (.iconst (-1), 1) := by decide +kernel
theorem dX5_measure_19 : decode cX5_measure 19 = .ok (.ireturn, 1) := by decide +kernel
theorem dX5_measure_20 : decode cX5_measure 20 = .ok (.aload_n 0, 1) := by decide +kernel
theorem dX5_measure_21 : decode cX5_measure 21 = .ok (.getfield 10, 3) := by decide +kernel
theorem dX5_measure_24 : decode cX5_measure 24 = .ok (.iload_n 2, 1) := by decide +kernel
theorem dX5_measure_25 : decode cX5_measure 25 = .ok (.invokevirtual 52, 3) := by decide +kernel
theorem dX5_measure_28 : decode cX5_measure 28 = .ok (.istore_n 3, 1) := by decide +kernel
theorem dX5_measure_29 : decode cX5_measure 29 = .ok (.aload_n 0, 1) := by decide +kernel
theorem dX5_measure_30 : decode cX5_measure 30 = .ok (.getfield 10, 3) := by decide +kernel
theorem dX5_measure_33 : decode cX5_measure 33 = .ok (.iload_n 3, 1) := by decide +kernel
theorem dX5_measure_34 : decode cX5_measure 34 = .ok (.invokevirtual 55, 3) := by decide +kernel
theorem dX5_measure_37 : decode cX5_measure 37 = .ok (.ifCond .ne 6, 3) := by decide +kernel
theorem dX5_measure_40 : decode cX5_measure 40 = .ok (.bipush (-4), 2) := by decide +kernel
theorem dX5_measure_42 : decode cX5_measure 42 = .ok (.ireturn, 1) := by decide +kernel
theorem dX5_measure_43 : decode cX5_measure 43 = .ok (.aload_n 0, 1) := by decide +kernel
theorem dX5_measure_44 : decode cX5_measure 44 = .ok (.getfield 10, 3) := by decide +kernel
theorem dX5_measure_47 : decode cX5_measure 47 = .ok (.iload_n 3, 1) := by decide +kernel
theorem dX5_measure_48 : decode cX5_measure 48 = .ok (.aload_n 0, 1) := by decide +kernel
theorem dX5_measure_49 : decode cX5_measure 49 = .ok (.getfield 19, 3) := by decide +kernel
theorem dX5_measure_52 : decode cX5_measure 52 = .ok (.iload_n 1, 1) := by decide +kernel
theorem dX5_measure_53 : decode cX5_measure 53 = .ok (.iconst 0, 1) := by decide +kernel
theorem dX5_measure_54 : decode cX5_measure 54 = .ok (.invokevirtual 84, 3) := by decide +kernel
theorem dX5_measure_57 : decode cX5_measure 57 = .ok (.aload_n 0, 1) := by decide +kernel
theorem dX5_measure_58 : decode cX5_measure 58 = .ok (.getfield 19, 3) := by decide +kernel
theorem dX5_measure_61 : decode cX5_measure 61 = .ok (.iload_n 1, 1) := by decide +kernel
theorem dX5_measure_62 : decode cX5_measure 62 = .ok (.iconst 1, 1) := by decide +kernel
theorem dX5_measure_63 : decode cX5_measure 63 = .ok (.invokevirtual 84, 3) := by decide +kernel
theorem dX5_measure_66 : decode cX5_measure 66 = .ok (.aload_n 0, 1) := by decide +kernel
theorem dX5_measure_67 : decode cX5_measure 67 = .ok (.getfield 19, 3) := by decide +kernel
theorem dX5_measure_70 : decode cX5_measure 70 = .ok (.iload_n 1, 1) := by decide +kernel
theorem dX5_measure_71 : decode cX5_measure 71 = .ok (.iconst 2, 1) := by decide +kernel
theorem dX5_measure_72 : decode cX5_measure 72 = .ok (.invokevirtual 84, 3) := by decide +kernel
theorem dX5_measure_75 : decode cX5_measure 75 = .ok (.aload_n 0, 1) := by decide +kernel
theorem dX5_measure_76 : decode cX5_measure 76 = .ok (.getfield 19, 3) := by decide +kernel
theorem dX5_measure_79 : decode cX5_measure 79 = .ok (.iload_n 1, 1) := by decide +kernel
theorem dX5_measure_80 : decode cX5_measure 80 = .ok (.iconst 3, 1) := by decide +kernel
theorem dX5_measure_81 : decode cX5_measure 81 = .ok (.invokevirtual 84, 3) := by decide +kernel
theorem dX5_measure_84 : decode cX5_measure 84 = .ok (.invokevirtual 63, 3) := by decide +kernel
theorem dX5_measure_87 : decode cX5_measure 87 = .ok (.istore 4, 2) := by decide +kernel
theorem dX5_measure_89 : decode cX5_measure 89 = .ok (.aload_n 0, 1) := by decide +kernel
theorem dX5_measure_90 : decode cX5_measure 90 = .ok (.getfield 19, 3) := by decide +kernel
theorem dX5_measure_93 : decode cX5_measure 93 = .ok (.iload_n 1, 1) := by decide +kernel
theorem dX5_measure_94 : decode cX5_measure 94 = .ok (.iload 4, 2) := by decide +kernel
theorem dX5_measure_96 : decode cX5_measure 96 = .ok (.iload_n 2, 1) := by decide +kernel
theorem dX5_measure_97 : decode cX5_measure 97 = .ok (.iload_n 3, 1) := by decide +kernel
theorem dX5_measure_98 : decode cX5_measure 98 = .ok (.invokevirtual 88, 3) := by decide +kernel
theorem dX5_measure_101 : decode cX5_measure 101 = .ok (.iconst 1, 1) := by decide +kernel
theorem dX5_measure_102 : decode cX5_measure 102 = .ok (.ireturn, 1) := by decide +kernel
theorem dX5_of_0 : decode cX5_of 0 = .ok (.aload_n 0, 1) := by decide +kernel
theorem dX5_of_1 : decode cX5_of 1 = .ok (.getfield 19, 3) := by decide +kernel
theorem dX5_of_4 : decode cX5_of 4 = .ok (.iload_n 1, 1) := by decide +kernel
theorem dX5_of_5 : decode cX5_of 5 = .ok (.invokevirtual 79, 3) := by decide +kernel
theorem dX5_of_8 : decode cX5_of 8 = .ok (.ifCond .eq 13, 3) := by decide +kernel
theorem dX5_of_11 : decode cX5_of 11 = .ok (.iload_n 2, 1) := by decide +kernel
theorem dX5_of_12 : decode cX5_of 12 = .ok (.iconst 0, 1) := by decide +kernel
theorem dX5_of_13 : decode cX5_of 13 = .ok (.bipush 6, 2) := by decide +kernel
theorem dX5_of_15 : decode cX5_of 15 = .ok (.invokestatic 67, 3) := by decide +kernel
theorem dX5_of_18 : decode cX5_of 18 = .ok (.ifCond .ne 6, 3) := by decide +kernel
theorem dX5_of_21 : decode cX5_of 21 = .ok (.ldc 62, 2) := by decide +kernel
theorem dX5_of_23 : decode cX5_of 23 = .ok (.ireturn, 1) := by decide +kernel
theorem dX5_of_24 : decode cX5_of 24 = .ok (.aload_n 0, 1) := by decide +kernel
theorem dX5_of_25 : decode cX5_of 25 = .ok (.getfield 19, 3) := by decide +kernel
theorem dX5_of_28 : decode cX5_of 28 = .ok (.iload_n 1, 1) := by decide +kernel
theorem dX5_of_29 : decode cX5_of 29 = .ok (.iload_n 2, 1) := by decide +kernel
theorem dX5_of_30 : decode cX5_of 30 = .ok (.invokevirtual 84, 3) := by decide +kernel
theorem dX5_of_33 : decode cX5_of 33 = .ok (.ireturn, 1) := by decide +kernel
theorem dX5_sell_0 : decode cX5_sell 0 = .ok (.aload_n 0, 1) := by decide +kernel
theorem dX5_sell_1 : decode cX5_sell 1 = .ok (.iconst 0, 1) := by decide +kernel
theorem dX5_sell_2 : decode cX5_sell 2 = .ok (.iload_n 1, 1) := by decide +kernel
theorem dX5_sell_3 : decode cX5_sell 3 = .ok (.iload_n 2, 1) := by decide +kernel
theorem dX5_sell_4 : decode cX5_sell 4 = .ok (.iload_n 3, 1) := by decide +kernel
theorem dX5_sell_5 : decode cX5_sell 5 = .ok (.iload 4, 2) := by decide +kernel
theorem dX5_sell_7 : decode cX5_sell 7 = .ok (.invokevirtual 92, 3) := by decide +kernel
theorem dX5_sell_10 : decode cX5_sell 10 = .ok (.ireturn, 1) := by decide +kernel
theorem dX5_pledge_0 : decode cX5_pledge 0 = .ok (.aload_n 0, 1) := by decide +kernel
theorem dX5_pledge_1 : decode cX5_pledge 1 = .ok (.iconst 1, 1) := by decide +kernel
theorem dX5_pledge_2 : decode cX5_pledge 2 = .ok (.iload_n 1, 1) := by decide +kernel
theorem dX5_pledge_3 : decode cX5_pledge 3 = .ok (.iload_n 2, 1) := by decide +kernel
theorem dX5_pledge_4 : decode cX5_pledge 4 = .ok (.iload_n 3, 1) := by decide +kernel
theorem dX5_pledge_5 : decode cX5_pledge 5 = .ok (.iload 4, 2) := by decide +kernel
theorem dX5_pledge_7 : decode cX5_pledge 7 = .ok (.invokevirtual 92, 3) := by decide +kernel
theorem dX5_pledge_10 : decode cX5_pledge 10 = .ok (.ireturn, 1) := by decide +kernel
theorem dX5_redeem_0 : decode cX5_redeem 0 = .ok (.aload_n 0, 1) := by decide +kernel
theorem dX5_redeem_1 : decode cX5_redeem 1 = .ok (.getfield 26, 3) := by decide +kernel
theorem dX5_redeem_4 : decode cX5_redeem 4 = .ok (.iload_n 1, 1) := by decide +kernel
theorem dX5_redeem_5 : decode cX5_redeem 5 = .ok (.invokevirtual 95, 3) := by decide +kernel
theorem dX5_redeem_8 : decode cX5_redeem 8 = .ok (.ifCond .eq 14, 3) := by decide +kernel
theorem dX5_redeem_11 : decode cX5_redeem 11 = .ok (.aload_n 0, 1) := by decide +kernel
theorem dX5_redeem_12 : decode cX5_redeem 12 = .ok (.getfield 26, 3) := by decide +kernel
theorem dX5_redeem_15 : decode cX5_redeem 15 = .ok (.iload_n 1, 1) := by decide +kernel
theorem dX5_redeem_16 : decode cX5_redeem 16 = .ok (.invokevirtual 96, 3) := by decide +kernel
theorem dX5_redeem_19 : decode cX5_redeem 19 = .ok (.goto 4, 3) := by decide +kernel
theorem dX5_redeem_22 : decode cX5_redeem 22 = .ok (.iconst (-1), 1) := by decide +kernel
theorem dX5_redeem_23 : decode cX5_redeem 23 = .ok (.ireturn, 1) := by decide +kernel
theorem dX5_forge_0 : decode cX5_forge 0 = .ok (.aload_n 0, 1) := by decide +kernel
theorem dX5_forge_1 : decode cX5_forge 1 = .ok (.getfield 26, 3) := by decide +kernel
theorem dX5_forge_4 : decode cX5_forge 4 = .ok (.iload_n 1, 1) := by decide +kernel
theorem dX5_forge_5 : decode cX5_forge 5 = .ok (.invokevirtual 95, 3) := by decide +kernel
theorem dX5_forge_8 : decode cX5_forge 8 = .ok (.ifCond .eq 14, 3) := by decide +kernel
theorem dX5_forge_11 : decode cX5_forge 11 = .ok (.aload_n 0, 1) := by decide +kernel
theorem dX5_forge_12 : decode cX5_forge 12 = .ok (.getfield 26, 3) := by decide +kernel
theorem dX5_forge_15 : decode cX5_forge 15 = .ok (.iload_n 1, 1) := by decide +kernel
theorem dX5_forge_16 : decode cX5_forge 16 = .ok (.invokevirtual 99, 3) := by decide +kernel
theorem dX5_forge_19 : decode cX5_forge 19 = .ok (.goto 4, 3) := by decide +kernel
theorem dX5_forge_22 : decode cX5_forge 22 = .ok (.iconst (-1), 1) := by decide +kernel
theorem dX5_forge_23 : decode cX5_forge 23 = .ok (.ireturn, 1) := by decide +kernel
theorem dX5_entry_0 : decode cX5_entry 0 = .ok (.aload_n 0, 1) := by decide +kernel
theorem dX5_entry_1 : decode cX5_entry 1 = .ok (.getfield 26, 3) := by decide +kernel
theorem dX5_entry_4 : decode cX5_entry 4 = .ok (.iload_n 1, 1) := by decide +kernel
theorem dX5_entry_5 : decode cX5_entry 5 = .ok (.invokevirtual 95, 3) := by decide +kernel
theorem dX5_entry_8 : decode cX5_entry 8 = .ok (.ifCond .eq 13, 3) := by decide +kernel
theorem dX5_entry_11 : decode cX5_entry 11 = .ok (.iload_n 2, 1) := by decide +kernel
theorem dX5_entry_12 : decode cX5_entry 12 = .ok (.iconst 0, 1) := by decide +kernel
theorem dX5_entry_13 : decode cX5_entry 13 = .ok (.bipush 8, 2) := by decide +kernel
theorem dX5_entry_15 : decode cX5_entry 15 = .ok (.invokestatic 67, 3) := by decide +kernel
theorem dX5_entry_18 : decode cX5_entry 18 = .ok (.ifCond .ne 5, 3) := by decide +kernel
theorem dX5_entry_21 : decode cX5_entry 21 = .ok (.iconst (-1), 1) := by decide +kernel
theorem dX5_entry_22 : decode cX5_entry 22 = .ok (.ireturn, 1) := by decide +kernel
theorem dX5_entry_23 : decode cX5_entry 23 = .ok (.aload_n 0, 1) := by decide +kernel
theorem dX5_entry_24 : decode cX5_entry 24 = .ok (.getfield 26, 3) := by decide +kernel
theorem dX5_entry_27 : decode cX5_entry 27 = .ok (.iload_n 1, 1) := by decide +kernel
theorem dX5_entry_28 : decode cX5_entry 28 = .ok (.iload_n 2, 1) := by decide +kernel
theorem dX5_entry_29 : decode cX5_entry 29 = .ok (.invokevirtual 102, 3) := by decide +kernel
theorem dX5_entry_32 : decode cX5_entry 32 = .ok (.ireturn, 1) := by decide +kernel
theorem dX5_parts_0 : decode cX5_parts 0 = .ok (.aload_n 0, 1) := by decide +kernel
theorem dX5_parts_1 : decode cX5_parts 1 = .ok (.getfield 19, 3) := by decide +kernel
theorem dX5_parts_4 : decode cX5_parts 4 = .ok (.iload_n 1, 1) := by decide +kernel
theorem dX5_parts_5 : decode cX5_parts 5 = .ok (.invokevirtual 79, 3) := by decide +kernel
theorem dX5_parts_8 : decode cX5_parts 8 = .ok (.ifCond .eq 10, 3) := by decide +kernel
theorem dX5_parts_11 : decode cX5_parts 11 = .ok (.iload_n 2, 1) := by decide +kernel
theorem dX5_parts_12 : decode cX5_parts 12 = .ok (.invokestatic 103, 3) := by decide +kernel
theorem dX5_parts_15 : decode cX5_parts 15 = .ok (.ifCond .ne 5, 3) := by decide +kernel
theorem dX5_parts_18 : decode cX5_parts 18 = .ok (.iconst (-1), 1) := by decide +kernel
theorem dX5_parts_19 : decode cX5_parts 19 = .ok (.ireturn, 1) := by decide +kernel
theorem dX5_parts_20 : decode cX5_parts 20 = .ok (.iload_n 3, 1) := by decide +kernel
theorem dX5_parts_21 : decode cX5_parts 21 = .ok (.ifCond .eq 15, 3) := by decide +kernel
theorem dX5_parts_24 : decode cX5_parts 24 = .ok (.aload_n 0, 1) := by decide +kernel
theorem dX5_parts_25 : decode cX5_parts 25 = .ok (.getfield 26, 3) := by decide +kernel
theorem dX5_parts_28 : decode cX5_parts 28 = .ok (.iload_n 1, 1) := by decide +kernel
theorem dX5_parts_29 : decode cX5_parts 29 = .ok (.iload_n 2, 1) := by decide +kernel
theorem dX5_parts_30 : decode cX5_parts 30 = .ok (.invokevirtual 106, 3) := by decide +kernel
theorem dX5_parts_33 : decode cX5_parts 33 = .ok (.goto 12, 3) := by decide +kernel
theorem dX5_parts_36 : decode cX5_parts 36 = .ok (.aload_n 0, 1) := by decide +kernel
theorem dX5_parts_37 : decode cX5_parts 37 = .ok (.getfield 26, 3) := by decide +kernel
theorem dX5_parts_40 : decode cX5_parts 40 = .ok (.iload_n 1, 1) := by decide +kernel
theorem dX5_parts_41 : decode cX5_parts 41 = .ok (.iload_n 2, 1) := by decide +kernel
theorem dX5_parts_42 : decode cX5_parts 42 = .ok (.invokevirtual 109, 3) := by decide +kernel
theorem dX5_parts_45 : decode cX5_parts 45 = .ok (.ireturn, 1) := by decide +kernel
theorem dX5_manager_0 : decode cX5_manager 0 = .ok (.aload_n 0, 1) := by decide +kernel
theorem dX5_manager_1 : decode cX5_manager 1 = .ok (.getfield 19, 3) := by decide +kernel
theorem dX5_manager_4 : decode cX5_manager 4 = .ok (.iload_n 1, 1) := by decide +kernel
theorem dX5_manager_5 : decode cX5_manager 5 = .ok (.invokevirtual 79, 3) := by decide +kernel
theorem dX5_manager_8 : decode cX5_manager 8 = .ok (.ifCond .eq 14, 3) := by decide +kernel
theorem dX5_manager_11 : decode cX5_manager 11 = .ok (.aload_n 0, 1) := by decide +kernel
theorem dX5_manager_12 : decode cX5_manager 12 = .ok (.getfield 26, 3) := by decide +kernel
theorem dX5_manager_15 : decode cX5_manager 15 = .ok (.iload_n 1, 1) := by decide +kernel
theorem dX5_manager_16 : decode cX5_manager 16 = .ok (.invokevirtual 112, 3) := by decide +kernel
theorem dX5_manager_19 : decode cX5_manager 19 = .ok (.goto 4, 3) := by decide +kernel
theorem dX5_manager_22 : decode cX5_manager 22 = .ok (.iconst (-1), 1) := by decide +kernel
theorem dX5_manager_23 : decode cX5_manager 23 = .ok (.ireturn, 1) := by decide +kernel
theorem dX5_held_0 : decode cX5_held 0 = .ok (.aload_n 0, 1) := by decide +kernel
theorem dX5_held_1 : decode cX5_held 1 = .ok (.getfield 19, 3) := by decide +kernel
theorem dX5_held_4 : decode cX5_held 4 = .ok (.iload_n 1, 1) := by decide +kernel
theorem dX5_held_5 : decode cX5_held 5 = .ok (.invokevirtual 79, 3) := by decide +kernel
theorem dX5_held_8 : decode cX5_held 8 = .ok (.ifCond .eq 10, 3) := by decide +kernel
theorem dX5_held_11 : decode cX5_held 11 = .ok (.iload_n 2, 1) := by decide +kernel
theorem dX5_held_12 : decode cX5_held 12 = .ok (.invokestatic 103, 3) := by decide +kernel
theorem dX5_held_15 : decode cX5_held 15 = .ok (.ifCond .ne 5, 3) := by decide +kernel
theorem dX5_held_18 : decode cX5_held 18 = .ok (.iconst (-1), 1) := by decide +kernel
theorem dX5_held_19 : decode cX5_held 19 = .ok (.ireturn, 1) := by decide +kernel
theorem dX5_held_20 : decode cX5_held 20 = .ok (.aload_n 0, 1) := by decide +kernel
theorem dX5_held_21 : decode cX5_held 21 = .ok (.getfield 26, 3) := by decide +kernel
theorem dX5_held_24 : decode cX5_held 24 = .ok (.iload_n 1, 1) := by decide +kernel
theorem dX5_held_25 : decode cX5_held 25 = .ok (.iload_n 2, 1) := by decide +kernel
theorem dX5_held_26 : decode cX5_held 26 = .ok (.invokevirtual 115, 3) := by decide +kernel
theorem dX5_held_29 : decode cX5_held 29 = .ok (.ireturn, 1) := by decide +kernel
theorem dX5_paper_0 : decode cX5_paper 0 = .ok (.iload_n 1, 1) := by decide +kernel
theorem dX5_paper_1 : decode cX5_paper 1 = .ok (.invokestatic 48, 3) := by decide +kernel
theorem dX5_paper_4 : decode cX5_paper 4 = .ok (.ifCond .eq 47, 3) := by decide +kernel
theorem dX5_paper_7 : decode cX5_paper 7 = .ok (.iload_n 2, 1) := by decide +kernel
theorem dX5_paper_8 : decode cX5_paper 8 = .ok (.invokestatic 48, 3) := by decide +kernel
theorem dX5_paper_11 : decode cX5_paper 11 = .ok (.ifCond .eq 40, 3) := by decide +kernel
theorem dX5_paper_14 : decode cX5_paper 14 = .ok (.iload_n 1, 1) := by decide +kernel
theorem dX5_paper_15 : decode cX5_paper 15 = .ok (.iload_n 2, 1) := by decide +kernel
theorem dX5_paper_16 : decode cX5_paper 16 = .ok (.if_icmp .gt 35, 3) := by decide +kernel
theorem dX5_paper_19 : decode cX5_paper 19 = .ok (.iload_n 3, 1) := by decide +kernel
theorem dX5_paper_20 : decode cX5_paper 20 = .ok (.invokestatic 118, 3) := by decide +kernel
theorem dX5_paper_23 : decode cX5_paper 23 = .ok (.ifCond .eq 28, 3) := by decide +kernel
theorem dX5_paper_26 : decode cX5_paper 26 = .ok (.iload 4, 2) := by decide +kernel
theorem dX5_paper_28 : decode cX5_paper 28 = .ok (.invokestatic 118, 3) := by decide +kernel
theorem dX5_paper_31 : decode cX5_paper 31 = .ok (.ifCond .eq 20, 3) := by decide +kernel
theorem dX5_paper_34 : decode cX5_paper 34 = .ok (.iload_n 3, 1) := by decide +kernel
theorem dX5_paper_35 : decode cX5_paper 35 = .ok (.iload 4, 2) := by decide +kernel
theorem dX5_paper_37 : decode cX5_paper 37 = .ok (.if_icmp .gt 14, 3) := by decide +kernel
theorem dX5_paper_40 : decode cX5_paper 40 = .ok (.iload 5, 2) := by decide +kernel
theorem dX5_paper_42 : decode cX5_paper 42 = .ok (.iconst 0, 1) := by decide +kernel
theorem dX5_paper_43 : decode cX5_paper 43 = .ok (.bipush 9, 2) := by decide +kernel
theorem dX5_paper_45 : decode cX5_paper 45 = .ok (.invokestatic 67, 3) := by decide +kernel
theorem dX5_paper_48 : decode cX5_paper 48 = .ok (.ifCond .ne 5, 3) := by decide +kernel
theorem dX5_paper_51 : decode cX5_paper 51 = .ok (.iconst (-1), 1) := by decide +kernel
theorem dX5_paper_52 : decode cX5_paper 52 = .ok (.ireturn, 1) := by decide +kernel
theorem dX5_paper_53 : decode cX5_paper 53 = .ok (.aload_n 0, 1) := by decide +kernel
theorem dX5_paper_54 : decode cX5_paper 54 = .ok (.getfield 33, 3) := by decide +kernel
theorem dX5_paper_57 : decode cX5_paper 57 = .ok (.iload_n 1, 1) := by decide +kernel
theorem dX5_paper_58 : decode cX5_paper 58 = .ok (.iload_n 2, 1) := by decide +kernel
theorem dX5_paper_59 : decode cX5_paper 59 = .ok (.iload_n 3, 1) := by decide +kernel
theorem dX5_paper_60 : decode cX5_paper 60 = .ok (.iload 4, 2) := by decide +kernel
theorem dX5_paper_62 : decode cX5_paper 62 = .ok (.iload 5, 2) := by decide +kernel
theorem dX5_paper_64 : decode cX5_paper 64 = .ok (.invokevirtual 121, 3) := by decide +kernel
theorem dX5_paper_67 : decode cX5_paper 67 = .ok (.ireturn, 1) := by decide +kernel
theorem dX5_witness_0 : decode cX5_witness 0 = .ok (.aload_n 0, 1) := by decide +kernel
theorem dX5_witness_1 : decode cX5_witness 1 = .ok (.getfield 33, 3) := by decide +kernel
theorem dX5_witness_4 : decode cX5_witness 4 = .ok (.iload_n 1, 1) := by decide +kernel
theorem dX5_witness_5 : decode cX5_witness 5 = .ok (.iload_n 2, 1) := by decide +kernel
theorem dX5_witness_6 : decode cX5_witness 6 = .ok (.invokevirtual 123, 3) := by decide +kernel
theorem dX5_witness_9 : decode cX5_witness 9 = .ok (.ifCond .eq 16, 3) := by decide +kernel
theorem dX5_witness_12 : decode cX5_witness 12 = .ok (.aload_n 0, 1) := by decide +kernel
theorem dX5_witness_13 : decode cX5_witness 13 = .ok (.getfield 33, 3) := by decide +kernel
theorem dX5_witness_16 : decode cX5_witness 16 = .ok (.iload_n 1, 1) := by decide +kernel
theorem dX5_witness_17 : decode cX5_witness 17 = .ok (.iload_n 2, 1) := by decide +kernel
theorem dX5_witness_18 : decode cX5_witness 18 = .ok (.iload_n 3, 1) := by decide +kernel
theorem dX5_witness_19 : decode cX5_witness 19 = .ok (.invokevirtual 127, 3) := by decide +kernel
theorem dX5_witness_22 : decode cX5_witness 22 = .ok (.goto 4, 3) := by decide +kernel
theorem dX5_witness_25 : decode cX5_witness 25 = .ok (.iconst (-1), 1) := by decide +kernel
theorem dX5_witness_26 : decode cX5_witness 26 = .ok (.ireturn, 1) := by decide +kernel
theorem dX5_alike_0 : decode cX5_alike 0 = .ok (.aload_n 0, 1) := by decide +kernel
theorem dX5_alike_1 : decode cX5_alike 1 = .ok (.getfield 33, 3) := by decide +kernel
theorem dX5_alike_4 : decode cX5_alike 4 = .ok (.iload_n 1, 1) := by decide +kernel
theorem dX5_alike_5 : decode cX5_alike 5 = .ok (.iload_n 2, 1) := by decide +kernel
theorem dX5_alike_6 : decode cX5_alike 6 = .ok (.invokevirtual 123, 3) := by decide +kernel
theorem dX5_alike_9 : decode cX5_alike 9 = .ok (.ifCond .ne 5, 3) := by decide +kernel
theorem dX5_alike_12 : decode cX5_alike 12 = .ok (.iconst (-1), 1) := by decide +kernel
theorem dX5_alike_13 : decode cX5_alike 13 = .ok (.ireturn, 1) := by decide +kernel
theorem dX5_alike_14 : decode cX5_alike 14 = .ok (.aload_n 0, 1) := by decide +kernel
theorem dX5_alike_15 : decode cX5_alike 15 = .ok (.getfield 33, 3) := by decide +kernel
theorem dX5_alike_18 : decode cX5_alike 18 = .ok (.iload_n 1, 1) := by decide +kernel
theorem dX5_alike_19 : decode cX5_alike 19 = .ok (.iload_n 2, 1) := by decide +kernel
theorem dX5_alike_20 : decode cX5_alike 20 = .ok (.invokevirtual 131, 3) := by decide +kernel
theorem dX5_alike_23 : decode cX5_alike 23 = .ok (.ifCond .eq 7, 3) := by decide +kernel
theorem dX5_alike_26 : decode cX5_alike 26 = .ok (.iconst 1, 1) := by decide +kernel
theorem dX5_alike_27 : decode cX5_alike 27 = .ok (.goto 4, 3) := by decide +kernel
theorem dX5_alike_30 : decode cX5_alike 30 = .ok (.iconst 0, 1) := by decide +kernel
theorem dX5_alike_31 : decode cX5_alike 31 = .ok (.ireturn, 1) := by decide +kernel
theorem dX5_group_0 : decode cX5_group 0 = .ok (.aload_n 0, 1) := by decide +kernel
theorem dX5_group_1 : decode cX5_group 1 = .ok (.getfield 33, 3) := by decide +kernel
theorem dX5_group_4 : decode cX5_group 4 = .ok (.iload_n 1, 1) := by decide +kernel
theorem dX5_group_5 : decode cX5_group 5 = .ok (.invokevirtual 134, 3) := by decide +kernel
theorem dX5_group_8 : decode cX5_group 8 = .ok (.ifCond .eq 14, 3) := by decide +kernel
theorem dX5_group_11 : decode cX5_group 11 = .ok (.aload_n 0, 1) := by decide +kernel
theorem dX5_group_12 : decode cX5_group 12 = .ok (.getfield 33, 3) := by decide +kernel
theorem dX5_group_15 : decode cX5_group 15 = .ok (.iload_n 1, 1) := by decide +kernel
theorem dX5_group_16 : decode cX5_group 16 = .ok (.invokevirtual 135, 3) := by decide +kernel
theorem dX5_group_19 : decode cX5_group 19 = .ok (.goto 4, 3) := by decide +kernel
theorem dX5_group_22 : decode cX5_group 22 = .ok (.iconst (-1), 1) := by decide +kernel
theorem dX5_group_23 : decode cX5_group 23 = .ok (.ireturn, 1) := by decide +kernel
theorem dX5_groups_0 : decode cX5_groups 0 = .ok (.aload_n 0, 1) := by decide +kernel
theorem dX5_groups_1 : decode cX5_groups 1 = .ok (.getfield 33, 3) := by decide +kernel
theorem dX5_groups_4 : decode cX5_groups 4 = .ok (.invokevirtual 138, 3) := by decide +kernel
theorem dX5_groups_7 : decode cX5_groups 7 = .ok (.ireturn, 1) := by decide +kernel
theorem dX5_many_0 : decode cX5_many 0 = .ok (.iload_n 1, 1) := by decide +kernel
theorem dX5_many_1 : decode cX5_many 1 = .ok (.tableswitch 123 0 8 #[51, 59, 67, 75, 83, 91, 99, 107, 115], 51) := by decide +kernel
theorem dX5_many_52 : decode cX5_many 52 = .ok (.aload_n 0, 1) := by decide +kernel
theorem dX5_many_53 : decode cX5_many 53 = .ok (.getfield 10, 3) := by decide +kernel
theorem dX5_many_56 : decode cX5_many 56 = .ok (.invokevirtual 141, 3) := by decide +kernel
theorem dX5_many_59 : decode cX5_many 59 = .ok (.ireturn, 1) := by decide +kernel
theorem dX5_many_60 : decode cX5_many 60 = .ok (.aload_n 0, 1) := by decide +kernel
theorem dX5_many_61 : decode cX5_many 61 = .ok (.getfield 19, 3) := by decide +kernel
theorem dX5_many_64 : decode cX5_many 64 = .ok (.invokevirtual 144, 3) := by decide +kernel
theorem dX5_many_67 : decode cX5_many 67 = .ok (.ireturn, 1) := by decide +kernel
theorem dX5_many_68 : decode cX5_many 68 = .ok (.aload_n 0, 1) := by decide +kernel
theorem dX5_many_69 : decode cX5_many 69 = .ok (.getfield 26, 3) := by decide +kernel
theorem dX5_many_72 : decode cX5_many 72 = .ok (.invokevirtual 145, 3) := by decide +kernel
theorem dX5_many_75 : decode cX5_many 75 = .ok (.ireturn, 1) := by decide +kernel
theorem dX5_many_76 : decode cX5_many 76 = .ok (.aload_n 0, 1) := by decide +kernel
theorem dX5_many_77 : decode cX5_many 77 = .ok (.getfield 26, 3) := by decide +kernel
theorem dX5_many_80 : decode cX5_many 80 = .ok (.invokevirtual 146, 3) := by decide +kernel
theorem dX5_many_83 : decode cX5_many 83 = .ok (.ireturn, 1) := by decide +kernel
theorem dX5_many_84 : decode cX5_many 84 = .ok (.aload_n 0, 1) := by decide +kernel
theorem dX5_many_85 : decode cX5_many 85 = .ok (.getfield 26, 3) := by decide +kernel
theorem dX5_many_88 : decode cX5_many 88 = .ok (.invokevirtual 149, 3) := by decide +kernel
theorem dX5_many_91 : decode cX5_many 91 = .ok (.ireturn, 1) := by decide +kernel
theorem dX5_many_92 : decode cX5_many 92 = .ok (.aload_n 0, 1) := by decide +kernel
theorem dX5_many_93 : decode cX5_many 93 = .ok (.getfield 26, 3) := by decide +kernel
theorem dX5_many_96 : decode cX5_many 96 = .ok (.invokevirtual 152, 3) := by decide +kernel
theorem dX5_many_99 : decode cX5_many 99 = .ok (.ireturn, 1) := by decide +kernel
theorem dX5_many_100 : decode cX5_many 100 = .ok (.aload_n 0, 1) := by decide +kernel
theorem dX5_many_101 : decode cX5_many 101 = .ok (.getfield 33, 3) := by decide +kernel
theorem dX5_many_104 : decode cX5_many 104 = .ok (.invokevirtual 155, 3) := by decide +kernel
theorem dX5_many_107 : decode cX5_many 107 = .ok (.ireturn, 1) := by decide +kernel
theorem dX5_many_108 : decode cX5_many 108 = .ok (.aload_n 0, 1) := by decide +kernel
theorem dX5_many_109 : decode cX5_many 109 = .ok (.getfield 33, 3) := by decide +kernel
theorem dX5_many_112 : decode cX5_many 112 = .ok (.invokevirtual 156, 3) := by decide +kernel
theorem dX5_many_115 : decode cX5_many 115 = .ok (.ireturn, 1) := by decide +kernel
theorem dX5_many_116 : decode cX5_many 116 = .ok (.aload_n 0, 1) := by decide +kernel
theorem dX5_many_117 : decode cX5_many 117 = .ok (.getfield 10, 3) := by decide +kernel
theorem dX5_many_120 : decode cX5_many 120 = .ok (.invokevirtual 159, 3) := by decide +kernel
theorem dX5_many_123 : decode cX5_many 123 = .ok (.ireturn, 1) := by decide +kernel
theorem dX5_many_124 : decode cX5_many 124 = .ok (.iconst (-1), 1) := by decide +kernel
theorem dX5_many_125 : decode cX5_many 125 = .ok (.ireturn, 1) := by decide +kernel
theorem dX5_enter_0 : decode cX5_enter 0 = .ok (.aload_n 0, 1) := by decide +kernel
theorem dX5_enter_1 : decode cX5_enter 1 = .ok (.getfield 19, 3) := by decide +kernel
theorem dX5_enter_4 : decode cX5_enter 4 = .ok (.iload_n 2, 1) := by decide +kernel
theorem dX5_enter_5 : decode cX5_enter 5 = .ok (.invokevirtual 79, 3) := by decide +kernel
theorem dX5_enter_8 : decode cX5_enter 8 = .ok (.ifCond .eq 35, 3) := by decide +kernel
theorem dX5_enter_11 : decode cX5_enter 11 = .ok (.iload_n 3, 1) := by decide +kernel
theorem dX5_enter_12 : decode cX5_enter 12 = .ok (.invokestatic 103, 3) := by decide +kernel
theorem dX5_enter_15 : decode cX5_enter 15 = .ok (.ifCond .eq 28, 3) := by decide +kernel
theorem dX5_enter_18 : decode cX5_enter 18 = .ok (.iload 4, 2) := by decide +kernel
theorem dX5_enter_20 : decode cX5_enter 20 = .ok (.invokestatic 103, 3) := by decide +kernel
theorem dX5_enter_23 : decode cX5_enter 23 = .ok (.ifCond .eq 20, 3) := by decide +kernel
theorem dX5_enter_26 : decode cX5_enter 26 = .ok (.iload_n 3, 1) := by decide +kernel
theorem dX5_enter_27 : decode cX5_enter 27 = .ok (.iload 4, 2) := by decide +kernel
theorem dX5_enter_29 : decode cX5_enter 29 = .ok (.if_icmp .eq 14, 3) := by decide +kernel
theorem dX5_enter_32 : decode cX5_enter 32 = .ok (.iload 5, 2) := by decide +kernel
theorem dX5_enter_34 : decode cX5_enter 34 = .ok (.iconst 1, 1) := by decide +kernel
theorem dX5_enter_35 : decode cX5_enter 35 = .ok (.bipush 64, 2) := by decide +kernel
theorem dX5_enter_37 : decode cX5_enter 37 = .ok (.invokestatic 67, 3) := by decide +kernel
theorem dX5_enter_40 : decode cX5_enter 40 = .ok (.ifCond .ne 5, 3) := by decide +kernel
theorem dX5_enter_43 : decode cX5_enter 43 = .ok (.iconst (-1), 1) := by decide +kernel
theorem dX5_enter_44 : decode cX5_enter 44 = .ok (.ireturn, 1) := by decide +kernel
theorem dX5_enter_45 : decode cX5_enter 45 = .ok (.aload_n 0, 1) := by decide +kernel
theorem dX5_enter_46 : decode cX5_enter 46 = .ok (.getfield 26, 3) := by decide +kernel
theorem dX5_enter_49 : decode cX5_enter 49 = .ok (.iload_n 1, 1) := by decide +kernel
theorem dX5_enter_50 : decode cX5_enter 50 = .ok (.iload_n 2, 1) := by decide +kernel
theorem dX5_enter_51 : decode cX5_enter 51 = .ok (.iload_n 3, 1) := by decide +kernel
theorem dX5_enter_52 : decode cX5_enter 52 = .ok (.iload 4, 2) := by decide +kernel
theorem dX5_enter_54 : decode cX5_enter 54 = .ok (.iload 5, 2) := by decide +kernel
theorem dX5_enter_56 : decode cX5_enter 56 = .ok (.bipush (-4), 2) := by decide +kernel
theorem dX5_enter_58 : decode cX5_enter 58 = .ok (.invokevirtual 162, 3) := by decide +kernel
theorem dX5_enter_61 : decode cX5_enter 61 = .ok (.ireturn, 1) := by decide +kernel
theorem dX5_isWithin_0 : decode cX5_isWithin 0 = .ok (.iload_n 1, 1) := by decide +kernel
theorem dX5_isWithin_1 : decode cX5_isWithin 1 = .ok (.iload_n 0, 1) := by decide +kernel
theorem dX5_isWithin_2 : decode cX5_isWithin 2 = .ok (.if_icmp .gt 12, 3) := by decide +kernel
theorem dX5_isWithin_5 : decode cX5_isWithin 5 = .ok (.iload_n 0, 1) := by decide +kernel
theorem dX5_isWithin_6 : decode cX5_isWithin 6 = .ok (.iload_n 2, 1) := by decide +kernel
theorem dX5_isWithin_7 : decode cX5_isWithin 7 = .ok (.if_icmp .gt 7, 3) := by decide +kernel
theorem dX5_isWithin_10 : decode cX5_isWithin 10 = .ok (.iconst 1, 1) := by decide +kernel
theorem dX5_isWithin_11 : decode cX5_isWithin 11 = .ok (.goto 4, 3) := by decide +kernel
theorem dX5_isWithin_14 : decode cX5_isWithin 14 = .ok (.iconst 0, 1) := by decide +kernel
theorem dX5_isWithin_15 : decode cX5_isWithin 15 = .ok (.ireturn, 1) := by decide +kernel
theorem dX5_isDay_0 : decode cX5_isDay 0 = .ok (.iload_n 0, 1) := by decide +kernel
theorem dX5_isDay_1 : decode cX5_isDay 1 = .ok (.iconst 0, 1) := by decide +kernel
theorem dX5_isDay_2 : decode cX5_isDay 2 = .ok (.sipush 999, 3) := by decide +kernel
theorem dX5_isDay_5 : decode cX5_isDay 5 = .ok (.invokestatic 67, 3) := by decide +kernel
theorem dX5_isDay_8 : decode cX5_isDay 8 = .ok (.ireturn, 1) := by decide +kernel
theorem dX5_isMeasure_0 : decode cX5_isMeasure 0 = .ok (.iload_n 0, 1) := by decide +kernel
theorem dX5_isMeasure_1 : decode cX5_isMeasure 1 = .ok (.iconst 1, 1) := by decide +kernel
theorem dX5_isMeasure_2 : decode cX5_isMeasure 2 = .ok (.bipush 99, 2) := by decide +kernel
theorem dX5_isMeasure_4 : decode cX5_isMeasure 4 = .ok (.invokestatic 67, 3) := by decide +kernel
theorem dX5_isMeasure_7 : decode cX5_isMeasure 7 = .ok (.ireturn, 1) := by decide +kernel
theorem dX5_areSizes_0 : decode cX5_areSizes 0 = .ok (.iload_n 0, 1) := by decide +kernel
theorem dX5_areSizes_1 : decode cX5_areSizes 1 = .ok (.invokestatic 118, 3) := by decide +kernel
theorem dX5_areSizes_4 : decode cX5_areSizes 4 = .ok (.ifCond .eq 32, 3) := by decide +kernel
theorem dX5_areSizes_7 : decode cX5_areSizes 7 = .ok (.iload_n 1, 1) := by decide +kernel
theorem dX5_areSizes_8 : decode cX5_areSizes 8 = .ok (.invokestatic 118, 3) := by decide +kernel
theorem dX5_areSizes_11 : decode cX5_areSizes 11 = .ok (.ifCond .eq 25, 3) := by decide +kernel
theorem dX5_areSizes_14 : decode cX5_areSizes 14 = .ok (.iload_n 2, 1) := by decide +kernel
theorem dX5_areSizes_15 : decode cX5_areSizes 15 = .ok (.invokestatic 118, 3) := by decide +kernel
theorem dX5_areSizes_18 : decode cX5_areSizes 18 = .ok (.ifCond .eq 18, 3) := by decide +kernel
theorem dX5_areSizes_21 : decode cX5_areSizes 21 = .ok (.iload_n 3, 1) := by decide +kernel
theorem dX5_areSizes_22 : decode cX5_areSizes 22 = .ok (.iconst 0, 1) := by decide +kernel
theorem dX5_areSizes_23 : decode cX5_areSizes 23 = .ok (.sipush 999, 3) := by decide +kernel
theorem dX5_areSizes_26 : decode cX5_areSizes 26 = .ok (.invokestatic 67, 3) := by decide +kernel
theorem dX5_areSizes_29 : decode cX5_areSizes 29 = .ok (.ifCond .eq 7, 3) := by decide +kernel
theorem dX5_areSizes_32 : decode cX5_areSizes 32 = .ok (.iconst 1, 1) := by decide +kernel
theorem dX5_areSizes_33 : decode cX5_areSizes 33 = .ok (.goto 4, 3) := by decide +kernel
theorem dX5_areSizes_36 : decode cX5_areSizes 36 = .ok (.iconst 0, 1) := by decide +kernel
theorem dX5_areSizes_37 : decode cX5_areSizes 37 = .ok (.ireturn, 1) := by decide +kernel
theorem dX5_isPerson_0 : decode cX5_isPerson 0 = .ok (.iload_n 0, 1) := by decide +kernel
theorem dX5_isPerson_1 : decode cX5_isPerson 1 = .ok (.iconst 0, 1) := by decide +kernel
theorem dX5_isPerson_2 : decode cX5_isPerson 2 = .ok (.bipush 7, 2) := by decide +kernel
theorem dX5_isPerson_4 : decode cX5_isPerson 4 = .ok (.invokestatic 67, 3) := by decide +kernel
theorem dX5_isPerson_7 : decode cX5_isPerson 7 = .ok (.ireturn, 1) := by decide +kernel
end
section
theorem dX6_init_0 : decode cX6_init 0 = .ok (.aload_n 0, 1) := by decide +kernel
theorem dX6_init_1 : decode cX6_init 1 = .ok (.invokespecial 1, 3) := by decide +kernel
theorem dX6_init_4 : decode cX6_init 4 = .ok (.aload_n 0, 1) := by decide +kernel
theorem dX6_init_5 : decode cX6_init 5 = .ok (.bipush 40, 2) := by decide +kernel
theorem dX6_init_7 : decode cX6_init 7 = .ok (.newarray .int, 2) := by decide +kernel
theorem dX6_init_9 : decode cX6_init 9 = .ok (.putfield 7, 3) := by decide +kernel
theorem dX6_init_12 : decode cX6_init 12 = .ok (.aload_n 0, 1) := by decide +kernel
theorem dX6_init_13 : decode cX6_init 13 = .ok (.iconst 5, 1) := by decide +kernel
theorem dX6_init_14 : decode cX6_init 14 = .ok (.newarray .int, 2) := by decide +kernel
theorem dX6_init_16 : decode cX6_init 16 = .ok (.putfield 13, 3) := by decide +kernel
theorem dX6_init_19 : decode cX6_init 19 = .ok (.aload_n 0, 1) := by decide +kernel
theorem dX6_init_20 : decode cX6_init 20 = .ok (.iconst 5, 1) := by decide +kernel
theorem dX6_init_21 : decode cX6_init 21 = .ok (.newarray .int, 2) := by decide +kernel
theorem dX6_init_23 : decode cX6_init 23 = .ok (.putfield 16, 3) := by decide +kernel
theorem dX6_init_26 : decode cX6_init 26 = .ok (.aload_n 0, 1) := by decide +kernel
theorem dX6_init_27 : decode cX6_init 27 = .ok (.sipush 200, 3) := by decide +kernel
theorem dX6_init_30 : decode cX6_init 30 = .ok (.newarray .int, 2) := by decide +kernel
theorem dX6_init_32 : decode cX6_init 32 = .ok (.putfield 19, 3) := by decide +kernel
theorem dX6_init_35 : decode cX6_init 35 = .ok (.aload_n 0, 1) := by decide +kernel
theorem dX6_init_36 : decode cX6_init 36 = .ok (.bipush 20, 2) := by decide +kernel
theorem dX6_init_38 : decode cX6_init 38 = .ok (.newarray .int, 2) := by decide +kernel
theorem dX6_init_40 : decode cX6_init 40 = .ok (.putfield 22, 3) := by decide +kernel
theorem dX6_init_43 : decode cX6_init 43 = .ok (.aload_n 0, 1) := by decide +kernel
theorem dX6_init_44 : decode cX6_init 44 = .ok (.iconst 5, 1) := by decide +kernel
theorem dX6_init_45 : decode cX6_init 45 = .ok (.newarray .int, 2) := by decide +kernel
theorem dX6_init_47 : decode cX6_init 47 = .ok (.putfield 25, 3) := by decide +kernel
theorem dX6_init_50 : decode cX6_init 50 = .ok (.aload_n 0, 1) := by decide +kernel
theorem dX6_init_51 : decode cX6_init 51 = .ok (.iconst 5, 1) := by decide +kernel
theorem dX6_init_52 : decode cX6_init 52 = .ok (.newarray .int, 2) := by decide +kernel
theorem dX6_init_54 : decode cX6_init 54 = .ok (.putfield 28, 3) := by decide +kernel
theorem dX6_init_57 : decode cX6_init 57 = .ok (.aload_n 0, 1) := by decide +kernel
theorem dX6_init_58 : decode cX6_init 58 = .ok (.iconst 5, 1) := by decide +kernel
theorem dX6_init_59 : decode cX6_init 59 = .ok (.newarray .int, 2) := by decide +kernel
theorem dX6_init_61 : decode cX6_init 61 = .ok (.putfield 31, 3) := by decide +kernel
theorem dX6_init_64 : decode cX6_init 64 = .ok (.aload_n 0, 1) := by decide +kernel
theorem dX6_init_65 : decode cX6_init 65 = .ok (.bipush 60, 2) := by decide +kernel
theorem dX6_init_67 : decode cX6_init 67 = .ok (.newarray .int, 2) := by decide +kernel
theorem dX6_init_69 : decode cX6_init 69 = .ok (.putfield 34, 3) := by decide +kernel
theorem dX6_init_72 : decode cX6_init 72 = .ok (.aload_n 0, 1) := by decide +kernel
theorem dX6_init_73 : decode cX6_init 73 = .ok (.bipush 60, 2) := by decide +kernel
theorem dX6_init_75 : decode cX6_init 75 = .ok (.newarray .int, 2) := by decide +kernel
theorem dX6_init_77 : decode cX6_init 77 = .ok (.putfield 37, 3) := by decide +kernel
theorem dX6_init_80 : decode cX6_init 80 = .ok (.aload_n 0, 1) := by decide +kernel
theorem dX6_init_81 : decode cX6_init 81 = .ok (.bipush 60, 2) := by decide +kernel
theorem dX6_init_83 : decode cX6_init 83 = .ok (.newarray .int, 2) := by decide +kernel
theorem dX6_init_85 : decode cX6_init 85 = .ok (.putfield 40, 3) := by decide +kernel
theorem dX6_init_88 : decode cX6_init 88 = .ok (.aload_n 0, 1) := by decide +kernel
theorem dX6_init_89 : decode cX6_init 89 = .ok (.bipush 60, 2) := by decide +kernel
theorem dX6_init_91 : decode cX6_init 91 = .ok (.newarray .int, 2) := by decide +kernel
theorem dX6_init_93 : decode cX6_init 93 = .ok (.putfield 43, 3) := by decide +kernel
theorem dX6_init_96 : decode cX6_init 96 = .ok (.aload_n 0, 1) := by decide +kernel
theorem dX6_init_97 : decode cX6_init 97 = .ok (.bipush 60, 2) := by decide +kernel
theorem dX6_init_99 : decode cX6_init 99 = .ok (.newarray .int, 2) := by decide +kernel
theorem dX6_init_101 : decode cX6_init 101 = .ok (.putfield 46, 3) := by decide +kernel
theorem dX6_init_104 : decode cX6_init 104 = .ok (.aload_n 0, 1) := by decide +kernel
theorem dX6_init_105 : decode cX6_init 105 = .ok (.bipush 60, 2) := by decide +kernel
theorem dX6_init_107 : decode cX6_init 107 = .ok (.newarray .int, 2) := by decide +kernel
theorem dX6_init_109 : decode cX6_init 109 = .ok (.putfield 49, 3) := by decide +kernel
theorem dX6_init_112 : decode cX6_init 112 = .ok (.aload_n 0, 1) := by decide +kernel
theorem dX6_init_113 : decode cX6_init 113 = .ok (.bipush 60, 2) := by decide +kernel
theorem dX6_init_115 : decode cX6_init 115 = .ok (.newarray .boolean, 2) := by decide +kernel
theorem dX6_init_117 : decode cX6_init 117 = .ok (.putfield 52, 3) := by decide +kernel
theorem dX6_init_120 : decode cX6_init 120 = .ok (.aload_n 0, 1) := by decide +kernel
theorem dX6_init_121 : decode cX6_init 121 = .ok (.bipush 40, 2) := by decide +kernel
theorem dX6_init_123 : decode cX6_init 123 = .ok (.newarray .int, 2) := by decide +kernel
theorem dX6_init_125 : decode cX6_init 125 = .ok (.putfield 56, 3) := by decide +kernel
theorem dX6_init_128 : decode cX6_init 128 = .ok (.aload_n 0, 1) := by decide +kernel
theorem dX6_init_129 : decode cX6_init 129 = .ok (.bipush 6, 2) := by decide +kernel
theorem dX6_init_131 : decode cX6_init 131 = .ok (.newarray .int, 2) := by decide +kernel
theorem dX6_init_133 : decode cX6_init 133 = .ok (.putfield 59, 3) := by decide +kernel
theorem dX6_init_136 : decode cX6_init 136 = .ok (.aload_n 0, 1) := by decide +kernel
theorem dX6_init_137 : decode cX6_init 137 = .ok (.bipush 6, 2) := by decide +kernel
theorem dX6_init_139 : decode cX6_init 139 = .ok (.newarray .int, 2) := by decide +kernel
theorem dX6_init_141 : decode cX6_init 141 = .ok (.putfield 62, 3) := by decide +kernel
theorem dX6_init_144 : decode cX6_init 144 = .ok (.aload_n 0, 1) := by decide +kernel
theorem dX6_init_145 : decode cX6_init 145 = .ok (.bipush 6, 2) := by decide +kernel
theorem dX6_init_147 : decode cX6_init 147 = .ok (.newarray .boolean, 2) := by decide +kernel
theorem dX6_init_149 : decode cX6_init 149 = .ok (.putfield 65, 3) := by decide +kernel
theorem dX6_init_152 : decode cX6_init 152 = .ok (.aload_n 0, 1) := by decide +kernel
theorem dX6_init_153 : decode cX6_init 153 = .ok (.bipush 41, 2) := by decide +kernel
theorem dX6_init_155 : decode cX6_init 155 = .ok (.newarray .int, 2) := by decide +kernel
theorem dX6_init_157 : decode cX6_init 157 = .ok (.putfield 68, 3) := by decide +kernel
theorem dX6_init_160 : decode cX6_init 160 = .ok (.aload_n 0, 1) := by decide +kernel
theorem dX6_init_161 : decode cX6_init 161 = .ok (.bipush 40, 2) := by decide +kernel
theorem dX6_init_163 : decode cX6_init 163 = .ok (.newarray .int, 2) := by decide +kernel
theorem dX6_init_165 : decode cX6_init 165 = .ok (.putfield 71, 3) := by decide +kernel
theorem dX6_init_168 : decode cX6_init 168 = .ok (.aload_n 0, 1) := by decide +kernel
theorem dX6_init_169 : decode cX6_init 169 = .ok (.bipush 40, 2) := by decide +kernel
theorem dX6_init_171 : decode cX6_init 171 = .ok (.newarray .int, 2) := by decide +kernel
theorem dX6_init_173 : decode cX6_init 173 = .ok (.putfield 74, 3) := by decide +kernel
theorem dX6_init_176 : decode cX6_init 176 = .ok (.aload_n 0, 1) := by decide +kernel
theorem dX6_init_177 : decode cX6_init 177 = .ok (.bipush 60, 2) := by decide +kernel
theorem dX6_init_179 : decode cX6_init 179 = .ok (.newarray .boolean, 2) := by decide +kernel
theorem dX6_init_181 : decode cX6_init 181 = .ok (.putfield 77, 3) := by decide +kernel
theorem dX6_init_184 : decode cX6_init 184 = .ok (.aload_n 0, 1) := by decide +kernel
theorem dX6_init_185 : decode cX6_init 185 = .ok (.bipush 60, 2) := by decide +kernel
theorem dX6_init_187 : decode cX6_init 187 = .ok (.newarray .boolean, 2) := by decide +kernel
theorem dX6_init_189 : decode cX6_init 189 = .ok (.putfield 80, 3) := by decide +kernel
theorem dX6_init_192 : decode cX6_init 192 = .ok (.aload_n 0, 1) := by decide +kernel
theorem dX6_init_193 : decode cX6_init 193 = .ok (.bipush 9, 2) := by decide +kernel
theorem dX6_init_195 : decode cX6_init 195 = .ok (.newarray .int, 2) := by decide +kernel
theorem dX6_init_197 : decode cX6_init 197 = .ok (.putfield 83, 3) := by decide +kernel
theorem dX6_init_200 : decode cX6_init 200 = .ok (.aload_n 0, 1) := by decide +kernel
theorem dX6_init_201 : decode cX6_init 201 = .ok (.bipush 10, 2) := by decide +kernel
theorem dX6_init_203 : decode cX6_init 203 = .ok (.newarray .int, 2) := by decide +kernel
theorem dX6_init_205 : decode cX6_init 205 = .ok (.putfield 86, 3) := by decide +kernel
theorem dX6_init_208 : decode cX6_init 208 = .ok (.aload_n 0, 1) := by decide +kernel
theorem dX6_init_209 : decode cX6_init 209 = .ok (.iconst 0, 1) := by decide +kernel
theorem dX6_init_210 : decode cX6_init 210 = .ok (.putfield 89, 3) := by decide +kernel
theorem dX6_init_213 : decode cX6_init 213 = .ok (.return_, 1) := by decide +kernel
theorem dX6_in_0 : decode cX6_in 0 = .ok (.iload_n 0, 1) := by decide +kernel
theorem dX6_in_1 : decode cX6_in 1 = .ok (.iload_n 1, 1) := by decide +kernel
theorem dX6_in_2 : decode cX6_in 2 = .ok (.if_icmp .lt 12, 3) := by decide +kernel
theorem dX6_in_5 : decode cX6_in 5 = .ok (.iload_n 0, 1) := by decide +kernel
theorem dX6_in_6 : decode cX6_in 6 = .ok (.iload_n 2, 1) := by decide +kernel
theorem dX6_in_7 : decode cX6_in 7 = .ok (.if_icmp .gt 7, 3) := by decide +kernel
theorem dX6_in_10 : decode cX6_in 10 = .ok (.iconst 1, 1) := by decide +kernel
theorem dX6_in_11 : decode cX6_in 11 = .ok (.goto 4, 3) := by decide +kernel
theorem dX6_in_14 : decode cX6_in 14 = .ok (.iconst 0, 1) := by decide +kernel
theorem dX6_in_15 : decode cX6_in 15 = .ok (.ireturn, 1) := by decide +kernel
theorem dX6_feed_0 : decode cX6_feed 0 = .ok (.iconst 0, 1) := by decide +kernel
theorem dX6_feed_1 : decode cX6_feed 1 = .ok (.istore_n 2, 1) := by decide +kernel
theorem dX6_feed_2 : decode cX6_feed 2 = .ok (.iload_n 2, 1) := by decide +kernel
theorem dX6_feed_3 : decode cX6_feed 3 = .ok (.iconst 4, 1) := by decide +kernel
theorem dX6_feed_4 : decode cX6_feed 4 = .ok (.if_icmp .ge 22, 3) := by decide +kernel
theorem dX6_feed_7 : decode cX6_feed 7 = .ok (.iload_n 1, 1) := by decide +kernel
theorem dX6_feed_8 : decode cX6_feed 8 = .ok (.bipush 8, 2) := by decide +kernel
theorem dX6_feed_10 : decode cX6_feed 10 = .ok (.iload_n 2, 1) := by decide +kernel
theorem dX6_feed_11 : decode cX6_feed 11 = .ok (.imul, 1) := by decide +kernel
theorem dX6_feed_12 : decode cX6_feed 12 = .ok (.ishr, 1) := by decide +kernel
theorem dX6_feed_13 : decode cX6_feed 13 = .ok (.sipush 255, 3) := by decide +kernel
theorem dX6_feed_16 : decode cX6_feed 16 = .ok (.iand, 1) := by decide +kernel
theorem dX6_feed_17 : decode cX6_feed 17 = .ok (.ifCond .eq 9, 3) := by decide +kernel
theorem dX6_feed_20 : decode cX6_feed 20 = .ok (.iinc 2 1, 3) := by decide +kernel
theorem dX6_feed_23 : decode cX6_feed 23 = .ok (.goto (-21), 3) := by decide +kernel
theorem dX6_feed_26 : decode cX6_feed 26 = .ok (.aload_n 0, 1) := by decide +kernel
theorem dX6_feed_27 : decode cX6_feed 27 = .ok (.getfield 89, 3) := by decide +kernel
theorem dX6_feed_30 : decode cX6_feed 30 = .ok (.iload_n 2, 1) := by decide +kernel
theorem dX6_feed_31 : decode cX6_feed 31 = .ok (.iadd, 1) := by decide +kernel
theorem dX6_feed_32 : decode cX6_feed 32 = .ok (.bipush 40, 2) := by decide +kernel
theorem dX6_feed_34 : decode cX6_feed 34 = .ok (.if_icmp .le 6, 3) := by decide +kernel
theorem dX6_feed_37 : decode cX6_feed 37 = .ok (.bipush (-2), 2) := by decide +kernel
theorem dX6_feed_39 : decode cX6_feed 39 = .ok (.ireturn, 1) := by decide +kernel
theorem dX6_feed_40 : decode cX6_feed 40 = .ok (.iconst 0, 1) := by decide +kernel
theorem dX6_feed_41 : decode cX6_feed 41 = .ok (.istore_n 3, 1) := by decide +kernel
theorem dX6_feed_42 : decode cX6_feed 42 = .ok (.iload_n 3, 1) := by decide +kernel
theorem dX6_feed_43 : decode cX6_feed 43 = .ok (.iload_n 2, 1) := by decide +kernel
theorem dX6_feed_44 : decode cX6_feed 44 = .ok (.if_icmp .ge 38, 3) := by decide +kernel
theorem dX6_feed_47 : decode cX6_feed 47 = .ok (.aload_n 0, 1) := by decide +kernel
theorem dX6_feed_48 : decode cX6_feed 48 = .ok (.getfield 7, 3) := by decide +kernel
theorem dX6_feed_51 : decode cX6_feed 51 = .ok (.aload_n 0, 1) := by decide +kernel
theorem dX6_feed_52 : decode cX6_feed 52 = .ok (.getfield 89, 3) := by decide +kernel
theorem dX6_feed_55 : decode cX6_feed 55 = .ok (.iload_n 1, 1) := by decide +kernel
theorem dX6_feed_56 : decode cX6_feed 56 = .ok (.bipush 8, 2) := by decide +kernel
theorem dX6_feed_58 : decode cX6_feed 58 = .ok (.iload_n 3, 1) := by decide +kernel
theorem dX6_feed_59 : decode cX6_feed 59 = .ok (.imul, 1) := by decide +kernel
theorem dX6_feed_60 : decode cX6_feed 60 = .ok (.ishr, 1) := by decide +kernel
theorem dX6_feed_61 : decode cX6_feed 61 = .ok (.sipush 255, 3) := by decide +kernel
theorem dX6_feed_64 : decode cX6_feed 64 = .ok (.iand, 1) := by decide +kernel
theorem dX6_feed_65 : decode cX6_feed 65 = .ok (.iastore, 1) := by decide +kernel
theorem dX6_feed_66 : decode cX6_feed 66 = .ok (.aload_n 0, 1) := by decide +kernel
theorem dX6_feed_67 : decode cX6_feed 67 = .ok (.dup, 1) := by decide +kernel
theorem dX6_feed_68 : decode cX6_feed 68 = .ok (.getfield 89, 3) := by decide +kernel
theorem dX6_feed_71 : decode cX6_feed 71 = .ok (.iconst 1, 1) := by decide +kernel
theorem dX6_feed_72 : decode cX6_feed 72 = .ok (.iadd, 1) := by decide +kernel
theorem dX6_feed_73 : decode cX6_feed 73 = .ok (.putfield 89, 3) := by decide +kernel
theorem dX6_feed_76 : decode cX6_feed 76 = .ok (.iinc 3 1, 3) := by decide +kernel
theorem dX6_feed_79 : decode cX6_feed 79 = .ok (.goto (-37), 3) := by decide +kernel
theorem dX6_feed_82 : decode cX6_feed 82 = .ok (.aload_n 0, 1) := by decide +kernel
theorem dX6_feed_83 : decode cX6_feed 83 = .ok (.getfield 89, 3) := by decide +kernel
theorem dX6_feed_86 : decode cX6_feed 86 = .ok (.ireturn, 1) := by decide +kernel
theorem dX6_scrap_0 : decode cX6_scrap 0 = .ok (.aload_n 0, 1) := by decide +kernel
theorem dX6_scrap_1 : decode cX6_scrap 1 = .ok (.getfield 89, 3) := by decide +kernel
theorem dX6_scrap_4 : decode cX6_scrap 4 = .ok (.istore_n 1, 1) := by decide +kernel
theorem dX6_scrap_5 : decode cX6_scrap 5 = .ok (.aload_n 0, 1) := by decide +kernel
theorem dX6_scrap_6 : decode cX6_scrap 6 = .ok (.iconst 0, 1) := by decide +kernel
theorem dX6_scrap_7 : decode cX6_scrap 7 = .ok (.putfield 89, 3) := by decide +kernel
theorem dX6_scrap_10 : decode cX6_scrap 10 = .ok (.iload_n 1, 1) := by decide +kernel
theorem dX6_scrap_11 : decode cX6_scrap 11 = .ok (.ireturn, 1) := by decide +kernel
theorem dX6_isFigure_0 : decode cX6_isFigure 0 = .ok (.iload_n 0, 1) := by decide +kernel
theorem dX6_isFigure_1 : decode cX6_isFigure 1 = .ok (.bipush 48, 2) := by decide +kernel
theorem dX6_isFigure_3 : decode cX6_isFigure 3 = .ok (.if_icmp .lt 13, 3) := by decide +kernel
theorem dX6_isFigure_6 : decode cX6_isFigure 6 = .ok (.iload_n 0, 1) := by decide +kernel
theorem dX6_isFigure_7 : decode cX6_isFigure 7 = .ok (.bipush 57, 2) := by decide +kernel
theorem dX6_isFigure_9 : decode cX6_isFigure 9 = .ok (.if_icmp .gt 7, 3) := by decide +kernel
theorem dX6_isFigure_12 : decode cX6_isFigure 12 = .ok (.iconst 1, 1) := by decide +kernel
theorem dX6_isFigure_13 : decode cX6_isFigure 13 = .ok (.goto 4, 3) := by decide +kernel
theorem dX6_isFigure_16 : decode cX6_isFigure 16 = .ok (.iconst 0, 1) := by decide +kernel
theorem dX6_isFigure_17 : decode cX6_isFigure 17 = .ok (.ireturn, 1) := by decide +kernel
theorem dX6_takes_0 : decode cX6_takes 0 = .ok (.iload_n 0, 1) := by decide +kernel
theorem dX6_takes_1 : decode cX6_takes 1 = .ok (.bipush 108, 2) := by decide +kernel
theorem dX6_takes_3 : decode cX6_takes 3 = .ok (.if_icmp .eq 34, 3) := by decide +kernel
theorem dX6_takes_6 : decode cX6_takes 6 = .ok (.iload_n 0, 1) := by decide +kernel
theorem dX6_takes_7 : decode cX6_takes 7 = .ok (.bipush 98, 2) := by decide +kernel
theorem dX6_takes_9 : decode cX6_takes 9 = .ok (.if_icmp .eq 28, 3) := by decide +kernel
theorem dX6_takes_12 : decode cX6_takes 12 = .ok (.iload_n 0, 1) := by decide +kernel
theorem dX6_takes_13 : decode cX6_takes 13 = .ok (.bipush 100, 2) := by decide +kernel
theorem dX6_takes_15 : decode cX6_takes 15 = .ok (.if_icmp .eq 22, 3) := by decide +kernel
theorem dX6_takes_18 : decode cX6_takes 18 = .ok (.iload_n 0, 1) := by decide +kernel
theorem dX6_takes_19 : decode cX6_takes 19 = .ok (.bipush 114, 2) := by decide +kernel
theorem dX6_takes_21 : decode cX6_takes 21 = .ok (.if_icmp .eq 16, 3) := by decide +kernel
theorem dX6_takes_24 : decode cX6_takes 24 = .ok (.iload_n 0, 1) := by decide +kernel
theorem dX6_takes_25 : decode cX6_takes 25 = .ok (.bipush 32, 2) := by decide +kernel
theorem dX6_takes_27 : decode cX6_takes 27 = .ok (.if_icmp .eq 10, 3) := by decide +kernel
theorem dX6_takes_30 : decode cX6_takes 30 = .ok (.iload_n 0, 1) := by decide +kernel
theorem dX6_takes_31 : decode cX6_takes 31 = .ok (.invokestatic 93, 3) := by decide +kernel
theorem dX6_takes_34 : decode cX6_takes 34 = .ok (.ifCond .eq 5, 3) := by decide +kernel
theorem dX6_takes_37 : decode cX6_takes 37 = .ok (.iconst 0, 1) := by decide +kernel
theorem dX6_takes_38 : decode cX6_takes 38 = .ok (.ireturn, 1) := by decide +kernel
theorem dX6_takes_39 : decode cX6_takes 39 = .ok (.iload_n 0, 1) := by decide +kernel
theorem dX6_takes_40 : decode cX6_takes 40 = .ok (.bipush 33, 2) := by decide +kernel
theorem dX6_takes_42 : decode cX6_takes 42 = .ok (.if_icmp .ne 7, 3) := by decide +kernel
theorem dX6_takes_45 : decode cX6_takes 45 = .ok (.iconst 1, 1) := by decide +kernel
theorem dX6_takes_46 : decode cX6_takes 46 = .ok (.goto 32, 3) := by decide +kernel
theorem dX6_takes_49 : decode cX6_takes 49 = .ok (.iload_n 0, 1) := by decide +kernel
theorem dX6_takes_50 : decode cX6_takes 50 = .ok (.bipush 43, 2) := by decide +kernel
theorem dX6_takes_52 : decode cX6_takes 52 = .ok (.if_icmp .eq 21, 3) := by decide +kernel
theorem dX6_takes_55 : decode cX6_takes 55 = .ok (.iload_n 0, 1) := by decide +kernel
theorem dX6_takes_56 : decode cX6_takes 56 = .ok (.bipush 45, 2) := by decide +kernel
theorem dX6_takes_58 : decode cX6_takes 58 = .ok (.if_icmp .eq 15, 3) := by decide +kernel
theorem dX6_takes_61 : decode cX6_takes 61 = .ok (.iload_n 0, 1) := by decide +kernel
theorem dX6_takes_62 : decode cX6_takes 62 = .ok (.bipush 42, 2) := by decide +kernel
theorem dX6_takes_64 : decode cX6_takes 64 = .ok (.if_icmp .eq 9, 3) := by decide +kernel
theorem dX6_takes_67 : decode cX6_takes 67 = .ok (.iload_n 0, 1) := by decide +kernel
theorem dX6_takes_68 : decode cX6_takes 68 = .ok (.bipush 47, 2) := by decide +kernel
theorem dX6_takes_70 : decode cX6_takes 70 = .ok (.if_icmp .ne 7, 3) := by decide +kernel
theorem dX6_takes_73 : decode cX6_takes 73 = .ok (.iconst 2, 1) := by decide +kernel
theorem dX6_takes_74 : decode cX6_takes 74 = .ok (.goto 4, 3) := by decide +kernel
theorem dX6_takes_77 : decode cX6_takes 77 = .ok (.iconst (-1), 1) := by decide +kernel
theorem dX6_takes_78 : decode cX6_takes 78 = .ok (.ireturn, 1) := by decide +kernel
theorem dX6_isGood_0 : decode cX6_isGood 0 = .ok (.iconst 0, 1) := by decide +kernel
theorem dX6_isGood_1 : decode cX6_isGood 1 = .ok (.istore_n 1, 1) := by decide +kernel
theorem dX6_isGood_2 : decode cX6_isGood 2 = .ok (.iconst 0, 1) := by decide +kernel
theorem dX6_isGood_3 : decode cX6_isGood 3 = .ok (.istore_n 2, 1) := by decide +kernel
theorem dX6_isGood_4 : decode cX6_isGood 4 = .ok (.iconst 0, 1) := by decide +kernel
theorem dX6_isGood_5 : decode cX6_isGood 5 = .ok (.istore_n 3, 1) := by decide +kernel
theorem dX6_isGood_6 : decode cX6_isGood 6 = .ok (.iload_n 3, 1) := by decide +kernel
theorem dX6_isGood_7 : decode cX6_isGood 7 = .ok (.aload_n 0, 1) := by decide +kernel
theorem dX6_isGood_8 : decode cX6_isGood 8 = .ok (.getfield 89, 3) := by decide +kernel
theorem dX6_isGood_11 : decode cX6_isGood 11 = .ok (.if_icmp .ge 92, 3) := by decide +kernel
theorem dX6_isGood_14 : decode cX6_isGood 14 = .ok (.aload_n 0, 1) := by decide +kernel
theorem dX6_isGood_15 : decode cX6_isGood 15 = .ok (.getfield 7, 3) := by decide +kernel
theorem dX6_isGood_18 : decode cX6_isGood 18 = .ok (.iload_n 3, 1) := by decide +kernel
theorem dX6_isGood_19 : decode cX6_isGood 19 = .ok (.iaload, 1) := by decide +kernel
theorem dX6_isGood_20 : decode cX6_isGood 20 = .ok (.istore 4, 2) := by decide +kernel
theorem dX6_isGood_22 : decode cX6_isGood 22 = .ok (.iload 4, 2) := by decide +kernel
theorem dX6_isGood_24 : decode cX6_isGood 24 = .ok (.invokestatic 97, 3) := by decide +kernel
theorem dX6_isGood_27 : decode cX6_isGood 27 = .ok (.istore 5, 2) := by decide +kernel
theorem dX6_isGood_29 : decode cX6_isGood 29 = .ok (.iload 5, 2) := by decide +kernel
theorem dX6_isGood_31 : decode cX6_isGood 31 = .ok (.ifCond .lt 9, 3) := by decide +kernel
theorem dX6_isGood_34 : decode cX6_isGood 34 = .ok (.iload 5, 2) := by decide +kernel
theorem dX6_isGood_36 : decode cX6_isGood 36 = .ok (.iload_n 1, 1) := by decide +kernel
theorem dX6_isGood_37 : decode cX6_isGood 37 = .ok (.if_icmp .le 5, 3) := by decide +kernel
theorem dX6_isGood_40 : decode cX6_isGood 40 = .ok (.iconst 0, 1) := by decide +kernel
theorem dX6_isGood_41 : decode cX6_isGood 41 = .ok (.ireturn, 1) := by decide +kernel
theorem dX6_isGood_42 : decode cX6_isGood 42 = .ok (.iload 4, 2) := by decide +kernel
theorem dX6_isGood_44 : decode cX6_isGood 44 = .ok (.invokestatic 93, 3) := by decide +kernel
theorem dX6_isGood_47 : decode cX6_isGood 47 = .ok (.ifCond .eq 9, 3) := by decide +kernel
theorem dX6_isGood_50 : decode cX6_isGood 50 = .ok (.iload_n 2, 1) := by decide +kernel
theorem dX6_isGood_51 : decode cX6_isGood 51 = .ok (.iconst 1, 1) := by decide +kernel
theorem dX6_isGood_52 : decode cX6_isGood 52 = .ok (.iadd, 1) := by decide +kernel
theorem dX6_isGood_53 : decode cX6_isGood 53 = .ok (.goto 4, 3) := by decide +kernel
theorem dX6_isGood_56 : decode cX6_isGood 56 = .ok (.iconst 0, 1) := by decide +kernel
theorem dX6_isGood_57 : decode cX6_isGood 57 = .ok (.istore_n 2, 1) := by decide +kernel
theorem dX6_isGood_58 : decode cX6_isGood 58 = .ok (.iload_n 2, 1) := by decide +kernel
theorem dX6_isGood_59 : decode cX6_isGood 59 = .ok (.iconst 4, 1) := by decide +kernel
theorem dX6_isGood_60 : decode cX6_isGood 60 = .ok (.if_icmp .le 5, 3) := by decide +kernel
theorem dX6_isGood_63 : decode cX6_isGood 63 = .ok (.iconst 0, 1) := by decide +kernel
theorem dX6_isGood_64 : decode cX6_isGood 64 = .ok (.ireturn, 1) := by decide +kernel
theorem dX6_isGood_65 : decode cX6_isGood 65 = .ok (.iload 5, 2) := by decide +kernel
theorem dX6_isGood_67 : decode cX6_isGood 67 = .ok (.iconst 2, 1) := by decide +kernel
theorem dX6_isGood_68 : decode cX6_isGood 68 = .ok (.if_icmp .ne 9, 3) := by decide +kernel
theorem dX6_isGood_71 : decode cX6_isGood 71 = .ok (.iinc 1 (-1), 3) := by decide +kernel
theorem dX6_isGood_74 : decode cX6_isGood 74 = .ok (.goto 23, 3) := by decide +kernel
theorem dX6_isGood_77 : decode cX6_isGood 77 = .ok (.iload 5, 2) := by decide +kernel
theorem dX6_isGood_79 : decode cX6_isGood 79 = .ok (.ifCond .ne 18, 3) := by decide +kernel
theorem dX6_isGood_82 : decode cX6_isGood 82 = .ok (.iload 4, 2) := by decide +kernel
theorem dX6_isGood_84 : decode cX6_isGood 84 = .ok (.bipush 32, 2) := by decide +kernel
theorem dX6_isGood_86 : decode cX6_isGood 86 = .ok (.if_icmp .eq 11, 3) := by decide +kernel
theorem dX6_isGood_89 : decode cX6_isGood 89 = .ok (.iload_n 2, 1) := by decide +kernel
theorem dX6_isGood_90 : decode cX6_isGood 90 = .ok (.iconst 2, 1) := by decide +kernel
theorem dX6_isGood_91 : decode cX6_isGood 91 = .ok (.if_icmp .ge 6, 3) := by decide +kernel
theorem dX6_isGood_94 : decode cX6_isGood 94 = .ok (.iinc 1 1, 3) := by decide +kernel
theorem dX6_isGood_97 : decode cX6_isGood 97 = .ok (.iinc 3 1, 3) := by decide +kernel
theorem dX6_isGood_100 : decode cX6_isGood 100 = .ok (.goto (-94), 3) := by decide +kernel
theorem dX6_isGood_103 : decode cX6_isGood 103 = .ok (.iload_n 1, 1) := by decide +kernel
theorem dX6_isGood_104 : decode cX6_isGood 104 = .ok (.iconst 1, 1) := by decide +kernel
theorem dX6_isGood_105 : decode cX6_isGood 105 = .ok (.if_icmp .ne 7, 3) := by decide +kernel
theorem dX6_isGood_108 : decode cX6_isGood 108 = .ok (.iconst 1, 1) := by decide +kernel
theorem dX6_isGood_109 : decode cX6_isGood 109 = .ok (.goto 4, 3) := by decide +kernel
theorem dX6_isGood_112 : decode cX6_isGood 112 = .ok (.iconst 0, 1) := by decide +kernel
theorem dX6_isGood_113 : decode cX6_isGood 113 = .ok (.ireturn, 1) := by decide +kernel
theorem dX6_act_0 : decode cX6_act 0 = .ok (.iload_n 1, 1) := by decide +kernel
theorem dX6_act_1 : decode cX6_act 1 = .ok (.iconst 0, 1) := by decide +kernel
theorem dX6_act_2 : decode cX6_act 2 = .ok (.sipush 999, 3) := by decide +kernel
theorem dX6_act_5 : decode cX6_act 5 = .ok (.invokestatic 101, 3) := by decide +kernel
theorem dX6_act_8 : decode cX6_act 8 = .ok (.ifCond .ne 5, 3) := by decide +kernel
theorem dX6_act_11 : decode cX6_act 11 = .ok (.iconst (-1), 1) := by decide +kernel
theorem dX6_act_12 : decode cX6_act 12 = .ok (.ireturn, 1) := by decide +kernel
theorem dX6_act_13 : decode cX6_act 13 = .ok (.aload_n 0, 1) := by decide +kernel
theorem dX6_act_14 : decode cX6_act 14 = .ok (.getfield 105, 3) := by decide +kernel
theorem dX6_act_17 : decode cX6_act 17 = .ok (.iconst 5, 1) := by decide +kernel
theorem dX6_act_18 : decode cX6_act 18 = .ok (.if_icmp .ne 6, 3) := by decide +kernel
theorem dX6_act_21 : decode cX6_act 21 = .ok (.bipush (-2), 2) := by decide +kernel
theorem dX6_act_23 : decode cX6_act 23 = .ok (.ireturn, 1) := by decide +kernel
theorem dX6_act_24 : decode cX6_act 24 = .ok (.aload_n 0, 1) := by decide +kernel
theorem dX6_act_25 : decode cX6_act 25 = .ok (.invokevirtual 108, 3) := by decide +kernel
theorem dX6_act_28 : decode cX6_act 28 = .ok (.ifCond .ne 6, 3) := by decide +kernel
theorem dX6_act_31 : decode cX6_act 31 = .ok (.bipush (-5), 2) := by decide +kernel
theorem dX6_act_33 : decode cX6_act 33 = .ok (.ireturn, 1) := by decide +kernel
theorem dX6_act_34 : decode cX6_act 34 = .ok (.iconst 0, 1) := by decide +kernel
theorem dX6_act_35 : decode cX6_act 35 = .ok (.istore_n 2, 1) := by decide +kernel
theorem dX6_act_36 : decode cX6_act 36 = .ok (.iload_n 2, 1) := by decide +kernel
theorem dX6_act_37 : decode cX6_act 37 = .ok (.aload_n 0, 1) := by decide +kernel
theorem dX6_act_38 : decode cX6_act 38 = .ok (.getfield 89, 3) := by decide +kernel
theorem dX6_act_41 : decode cX6_act 41 = .ok (.if_icmp .ge 29, 3) := by decide +kernel
theorem dX6_act_44 : decode cX6_act 44 = .ok (.aload_n 0, 1) := by decide +kernel
theorem dX6_act_45 : decode cX6_act 45 = .ok (.getfield 19, 3) := by decide +kernel
theorem dX6_act_48 : decode cX6_act 48 = .ok (.bipush 40, 2) := by decide +kernel
theorem dX6_act_50 : decode cX6_act 50 = .ok (.aload_n 0, 1) := by decide +kernel
theorem dX6_act_51 : decode cX6_act 51 = .ok (.getfield 105, 3) := by decide +kernel
theorem dX6_act_54 : decode cX6_act 54 = .ok (.imul, 1) := by decide +kernel
theorem dX6_act_55 : decode cX6_act 55 = .ok (.iload_n 2, 1) := by decide +kernel
theorem dX6_act_56 : decode cX6_act 56 = .ok (.iadd, 1) := by decide +kernel
theorem dX6_act_57 : decode cX6_act 57 = .ok (.aload_n 0, 1) := by decide +kernel
theorem dX6_act_58 : decode cX6_act 58 = .ok (.getfield 7, 3) := by decide +kernel
theorem dX6_act_61 : decode cX6_act 61 = .ok (.iload_n 2, 1) := by decide +kernel
theorem dX6_act_62 : decode cX6_act 62 = .ok (.iaload, 1) := by decide +kernel
theorem dX6_act_63 : decode cX6_act 63 = .ok (.iastore, 1) := by decide +kernel
theorem dX6_act_64 : decode cX6_act 64 = .ok (.iinc 2 1, 3) := by decide +kernel
theorem dX6_act_67 : decode cX6_act 67 = .ok (.goto (-31), 3) := by decide +kernel
theorem dX6_act_70 : decode cX6_act 70 = .ok (.aload_n 0, 1) := by decide +kernel
theorem dX6_act_71 : decode cX6_act 71 = .ok (.getfield 16, 3) := by decide +kernel
theorem dX6_act_74 : decode cX6_act 74 = .ok (.aload_n 0, 1) := by decide +kernel
theorem dX6_act_75 : decode cX6_act 75 = .ok (.getfield 105, 3) := by decide +kernel
theorem dX6_act_78 : decode cX6_act 78 = .ok (.aload_n 0, 1) := by decide +kernel
theorem dX6_act_79 : decode cX6_act 79 = .ok (.getfield 89, 3) := by decide +kernel
theorem dX6_act_82 : decode cX6_act 82 = .ok (.iastore, 1) := by decide +kernel
theorem dX6_act_83 : decode cX6_act 83 = .ok (.aload_n 0, 1) := by decide +kernel
theorem dX6_act_84 : decode cX6_act 84 = .ok (.getfield 13, 3) := by decide +kernel
theorem dX6_act_87 : decode cX6_act 87 = .ok (.aload_n 0, 1) := by decide +kernel
theorem dX6_act_88 : decode cX6_act 88 = .ok (.getfield 105, 3) := by decide +kernel
theorem dX6_act_91 : decode cX6_act 91 = .ok (.iload_n 1, 1) := by decide +kernel
theorem dX6_act_92 : decode cX6_act 92 = .ok (.iastore, 1) := by decide +kernel
theorem dX6_act_93 : decode cX6_act 93 = .ok (.aload_n 0, 1) := by decide +kernel
theorem dX6_act_94 : decode cX6_act 94 = .ok (.iconst 0, 1) := by decide +kernel
theorem dX6_act_95 : decode cX6_act 95 = .ok (.putfield 89, 3) := by decide +kernel
theorem dX6_act_98 : decode cX6_act 98 = .ok (.aload_n 0, 1) := by decide +kernel
theorem dX6_act_99 : decode cX6_act 99 = .ok (.dup, 1) := by decide +kernel
theorem dX6_act_100 : decode cX6_act 100 = .ok (.getfield 105, 3) := by decide +kernel
theorem dX6_act_103 : decode cX6_act 103 = .ok (.iconst 1, 1) := by decide +kernel
theorem dX6_act_104 : decode cX6_act 104 = .ok (.iadd, 1) := by decide +kernel
theorem dX6_act_105 : decode cX6_act 105 = .ok (.putfield 105, 3) := by decide +kernel
theorem dX6_act_108 : decode cX6_act 108 = .ok (.aload_n 0, 1) := by decide +kernel
theorem dX6_act_109 : decode cX6_act 109 = .ok (.getfield 105, 3) := by decide +kernel
theorem dX6_act_112 : decode cX6_act 112 = .ok (.iconst 1, 1) := by decide +kernel
theorem dX6_act_113 : decode cX6_act 113 = .ok (.isub, 1) := by decide +kernel
theorem dX6_act_114 : decode cX6_act 114 = .ok (.ireturn, 1) := by decide +kernel
theorem dX6_isAct_0 : decode cX6_isAct 0 = .ok (.iload_n 1, 1) := by decide +kernel
theorem dX6_isAct_1 : decode cX6_isAct 1 = .ok (.iconst 0, 1) := by decide +kernel
theorem dX6_isAct_2 : decode cX6_isAct 2 = .ok (.aload_n 0, 1) := by decide +kernel
theorem dX6_isAct_3 : decode cX6_isAct 3 = .ok (.getfield 105, 3) := by decide +kernel
theorem dX6_isAct_6 : decode cX6_isAct 6 = .ok (.iconst 1, 1) := by decide +kernel
theorem dX6_isAct_7 : decode cX6_isAct 7 = .ok (.isub, 1) := by decide +kernel
theorem dX6_isAct_8 : decode cX6_isAct 8 = .ok (.invokestatic 101, 3) := by decide +kernel
theorem dX6_isAct_11 : decode cX6_isAct 11 = .ok (.ireturn, 1) := by decide +kernel
theorem dX6_forceOn_0 : decode cX6_forceOn 0 = .ok (.bipush (-4), 2) := by decide +kernel
theorem dX6_forceOn_2 : decode cX6_forceOn 2 = .ok (.istore_n 2, 1) := by decide +kernel
theorem dX6_forceOn_3 : decode cX6_forceOn 3 = .ok (.iconst 0, 1) := by decide +kernel
theorem dX6_forceOn_4 : decode cX6_forceOn 4 = .ok (.istore_n 3, 1) := by decide +kernel
theorem dX6_forceOn_5 : decode cX6_forceOn 5 = .ok (.iload_n 3, 1) := by decide +kernel
theorem dX6_forceOn_6 : decode cX6_forceOn 6 = .ok (.aload_n 0, 1) := by decide +kernel
theorem dX6_forceOn_7 : decode cX6_forceOn 7 = .ok (.getfield 105, 3) := by decide +kernel
theorem dX6_forceOn_10 : decode cX6_forceOn 10 = .ok (.if_icmp .ge 44, 3) := by decide +kernel
theorem dX6_forceOn_13 : decode cX6_forceOn 13 = .ok (.aload_n 0, 1) := by decide +kernel
theorem dX6_forceOn_14 : decode cX6_forceOn 14 = .ok (.getfield 13, 3) := by decide +kernel
theorem dX6_forceOn_17 : decode cX6_forceOn 17 = .ok (.iload_n 3, 1) := by decide +kernel
theorem dX6_forceOn_18 : decode cX6_forceOn 18 = .ok (.iaload, 1) := by decide +kernel
theorem dX6_forceOn_19 : decode cX6_forceOn 19 = .ok (.iload_n 1, 1) := by decide +kernel
theorem dX6_forceOn_20 : decode cX6_forceOn 20 = .ok (.if_icmp .gt 26, 3) := by decide +kernel
theorem dX6_forceOn_23 : decode cX6_forceOn 23 = .ok (.iload_n 2, 1) := by decide +kernel
theorem dX6_forceOn_24 : decode cX6_forceOn 24 = .ok (.ifCond .lt 18, 3) := by decide +kernel
theorem dX6_forceOn_27 : decode cX6_forceOn 27 = .ok (.aload_n 0, 1) := by decide +kernel
theorem dX6_forceOn_28 : decode cX6_forceOn 28 = .ok (.getfield 13, 3) := by decide +kernel
theorem dX6_forceOn_31 : decode cX6_forceOn 31 = .ok (.iload_n 3, 1) := by decide +kernel
theorem dX6_forceOn_32 : decode cX6_forceOn 32 = .ok (.iaload, 1) := by decide +kernel
theorem dX6_forceOn_33 : decode cX6_forceOn 33 = .ok (.aload_n 0, 1) := by decide +kernel
theorem dX6_forceOn_34 : decode cX6_forceOn 34 = .ok (.getfield 13, 3) := by decide +kernel
theorem dX6_forceOn_37 : decode cX6_forceOn 37 = .ok (.iload_n 2, 1) := by decide +kernel
theorem dX6_forceOn_38 : decode cX6_forceOn 38 = .ok (.iaload, 1) := by decide +kernel
theorem dX6_forceOn_39 : decode cX6_forceOn 39 = .ok (.if_icmp .lt 7, 3) := by decide +kernel
theorem dX6_forceOn_42 : decode cX6_forceOn 42 = .ok (.iload_n 3, 1) := by decide +kernel
theorem dX6_forceOn_43 : decode cX6_forceOn 43 = .ok (.goto 4, 3) := by decide +kernel
theorem dX6_forceOn_46 : decode cX6_forceOn 46 = .ok (.iload_n 2, 1) := by decide +kernel
theorem dX6_forceOn_47 : decode cX6_forceOn 47 = .ok (.istore_n 2, 1) := by decide +kernel
theorem dX6_forceOn_48 : decode cX6_forceOn 48 = .ok (.iinc 3 1, 3) := by decide +kernel
theorem dX6_forceOn_51 : decode cX6_forceOn 51 = .ok (.goto (-46), 3) := by decide +kernel
theorem dX6_forceOn_54 : decode cX6_forceOn 54 = .ok (.iload_n 2, 1) := by decide +kernel
theorem dX6_forceOn_55 : decode cX6_forceOn 55 = .ok (.ireturn, 1) := by decide +kernel
theorem dX6_inForce_0 : decode cX6_inForce 0 = .ok (.iload_n 1, 1) := by decide +kernel
theorem dX6_inForce_1 : decode cX6_inForce 1 = .ok (.iconst 0, 1) := by decide +kernel
theorem dX6_inForce_2 : decode cX6_inForce 2 = .ok (.sipush 999, 3) := by decide +kernel
theorem dX6_inForce_5 : decode cX6_inForce 5 = .ok (.invokestatic 101, 3) := by decide +kernel
theorem dX6_inForce_8 : decode cX6_inForce 8 = .ok (.ifCond .eq 11, 3) := by decide +kernel
theorem dX6_inForce_11 : decode cX6_inForce 11 = .ok (.aload_n 0, 1) := by decide +kernel
theorem dX6_inForce_12 : decode cX6_inForce 12 = .ok (.iload_n 1, 1) := by decide +kernel
theorem dX6_inForce_13 : decode cX6_inForce 13 = .ok (.invokevirtual 112, 3) := by decide +kernel
theorem dX6_inForce_16 : decode cX6_inForce 16 = .ok (.goto 4, 3) := by decide +kernel
theorem dX6_inForce_19 : decode cX6_inForce 19 = .ok (.iconst (-1), 1) := by decide +kernel
theorem dX6_inForce_20 : decode cX6_inForce 20 = .ok (.ireturn, 1) := by decide +kernel
theorem dX6_push_0 : decode cX6_push 0 = .ok (.aload_n 0, 1) := by decide +kernel
theorem dX6_push_1 : decode cX6_push 1 = .ok (.getfield 68, 3) := by decide +kernel
theorem dX6_push_4 : decode cX6_push 4 = .ok (.aload_n 0, 1) := by decide +kernel
theorem dX6_push_5 : decode cX6_push 5 = .ok (.getfield 115, 3) := by decide +kernel
theorem dX6_push_8 : decode cX6_push 8 = .ok (.lload_n 1, 1) := by decide +kernel
theorem dX6_push_9 : decode cX6_push 9 = .ok (.ldc2_w 118, 3) := by decide +kernel
theorem dX6_push_12 : decode cX6_push 12 = .ok (.lcmp, 1) := by decide +kernel
theorem dX6_push_13 : decode cX6_push 13 = .ok (.ifCond .le 8, 3) := by decide +kernel
theorem dX6_push_16 : decode cX6_push 16 = .ok (.ldc 120, 2) := by decide +kernel
theorem dX6_push_18 : decode cX6_push 18 = .ok (.goto 18, 3) := by decide +kernel
theorem dX6_push_21 : decode cX6_push 21 = .ok (.lload_n 1, 1) := by decide +kernel
theorem dX6_push_22 : decode cX6_push 22 = .ok (.ldc2_w 121, 3) := by decide +kernel
theorem dX6_push_25 : decode cX6_push 25 = .ok (.lcmp, 1) := by decide +kernel
theorem dX6_push_26 : decode cX6_push 26 = .ok (.ifCond .ge 8, 3) := by decide +kernel
theorem dX6_push_29 : decode cX6_push 29 = .ok (.ldc 123, 2) := by decide +kernel
theorem dX6_push_31 : decode cX6_push 31 = .ok (.goto 5, 3) := by decide +kernel
theorem dX6_push_34 : decode cX6_push 34 = .ok (.lload_n 1, 1) := by decide +kernel
theorem dX6_push_35 : decode cX6_push 35 = .ok (.l2i, 1) := by decide +kernel
theorem dX6_push_36 : decode cX6_push 36 = .ok (.iastore, 1) := by decide +kernel
theorem dX6_push_37 : decode cX6_push 37 = .ok (.aload_n 0, 1) := by decide +kernel
theorem dX6_push_38 : decode cX6_push 38 = .ok (.dup, 1) := by decide +kernel
theorem dX6_push_39 : decode cX6_push 39 = .ok (.getfield 115, 3) := by decide +kernel
theorem dX6_push_42 : decode cX6_push 42 = .ok (.iconst 1, 1) := by decide +kernel
theorem dX6_push_43 : decode cX6_push 43 = .ok (.iadd, 1) := by decide +kernel
theorem dX6_push_44 : decode cX6_push 44 = .ok (.putfield 115, 3) := by decide +kernel
theorem dX6_push_47 : decode cX6_push 47 = .ok (.return_, 1) := by decide +kernel
theorem dX6_combine_0 : decode cX6_combine 0 = .ok (.aload_n 0, 1) := by decide +kernel
theorem dX6_combine_1 : decode cX6_combine 1 = .ok (.getfield 68, 3) := by decide +kernel
theorem dX6_combine_4 : decode cX6_combine 4 = .ok (.aload_n 0, 1) := by decide +kernel
theorem dX6_combine_5 : decode cX6_combine 5 = .ok (.getfield 115, 3) := by decide +kernel
theorem dX6_combine_8 : decode cX6_combine 8 = .ok (.iconst 2, 1) := by decide +kernel
theorem dX6_combine_9 : decode cX6_combine 9 = .ok (.isub, 1) := by decide +kernel
theorem dX6_combine_10 : decode cX6_combine 10 = .ok (.iaload, 1) := by decide +kernel
theorem dX6_combine_11 : decode cX6_combine 11 = .ok (.i2l, 1) := by decide +kernel
theorem dX6_combine_12 : decode cX6_combine 12 = .ok (.lstore_n 2, 1) := by decide +kernel
theorem dX6_combine_13 : decode cX6_combine 13 = .ok (.aload_n 0, 1) := by decide +kernel
theorem dX6_combine_14 : decode cX6_combine 14 = .ok (.getfield 68, 3) := by decide +kernel
theorem dX6_combine_17 : decode cX6_combine 17 = .ok (.aload_n 0, 1) := by decide +kernel
theorem dX6_combine_18 : decode cX6_combine 18 = .ok (.getfield 115, 3) := by decide +kernel
theorem dX6_combine_21 : decode cX6_combine 21 = .ok (.iconst 1, 1) := by decide +kernel
theorem dX6_combine_22 : decode cX6_combine 22 = .ok (.isub, 1) := by decide +kernel
theorem dX6_combine_23 : decode cX6_combine 23 = .ok (.iaload, 1) := by decide +kernel
theorem dX6_combine_24 : decode cX6_combine 24 = .ok (.i2l, 1) := by decide +kernel
theorem dX6_combine_25 : decode cX6_combine 25 = .ok (.lstore 4, 2) := by decide +kernel
theorem dX6_combine_27 : decode cX6_combine 27 = .ok (.aload_n 0, 1) := by decide +kernel
theorem dX6_combine_28 : decode cX6_combine 28 = .ok (.dup, 1) := by decide +kernel
theorem dX6_combine_29 : decode cX6_combine 29 = .ok (.getfield 115, 3) := by decide +kernel
theorem dX6_combine_32 : decode cX6_combine 32 = .ok (.iconst 2, 1) := by decide +kernel
theorem dX6_combine_33 : decode cX6_combine 33 = .ok (.isub, 1) := by decide +kernel
theorem dX6_combine_34 : decode cX6_combine 34 = .ok (.putfield 115, 3) := by decide +kernel
theorem dX6_combine_37 : decode cX6_combine 37 = .ok (.iload_n 1, 1) := by decide +kernel
theorem dX6_combine_38 : decode cX6_combine 38 = .ok (.bipush 47, 2) := by decide +kernel
theorem dX6_combine_40 : decode cX6_combine 40 = .ok (.if_icmp .ne 25, 3) := by decide +kernel
theorem dX6_combine_43 : decode cX6_combine 43 = .ok (.aload_n 0, 1) := by decide +kernel
theorem dX6_combine_44 : decode cX6_combine 44 = .ok (.lload 4, 2) := by decide +kernel
theorem dX6_combine_46 : decode cX6_combine 46 = .ok (.lconst 0, 1) := by decide +kernel
theorem dX6_combine_47 : decode cX6_combine 47 = .ok (.lcmp, 1) := by decide +kernel
theorem dX6_combine_48 : decode cX6_combine 48 = .ok (.ifCond .ne 7, 3) := by decide +kernel
theorem dX6_combine_51 : decode cX6_combine 51 = .ok (.lconst 0, 1) := by decide +kernel
theorem dX6_combine_52 : decode cX6_combine 52 = .ok (.goto 7, 3) := by decide +kernel
theorem dX6_combine_55 : decode cX6_combine 55 = .ok (.lload_n 2, 1) := by decide +kernel
theorem dX6_combine_56 : decode cX6_combine 56 = .ok (.lload 4, 2) := by decide +kernel
theorem dX6_combine_58 : decode cX6_combine 58 = .ok (.ldiv, 1) := by decide +kernel
theorem dX6_combine_59 : decode cX6_combine 59 = .ok (.invokevirtual 124, 3) := by decide +kernel
theorem dX6_combine_62 : decode cX6_combine 62 = .ok (.goto 37, 3) := by decide +kernel
theorem dX6_combine_65 : decode cX6_combine 65 = .ok (.aload_n 0, 1) := by decide +kernel
theorem dX6_combine_66 : decode cX6_combine 66 = .ok (.iload_n 1, 1) := by decide +kernel
theorem dX6_combine_67 : decode cX6_combine 67 = .ok (.bipush 43, 2) := by decide +kernel
theorem dX6_combine_69 : decode cX6_combine 69 = .ok (.if_icmp .ne 10, 3) := by decide +kernel
theorem dX6_combine_72 : decode cX6_combine 72 = .ok (.lload_n 2, 1) := by decide +kernel
theorem dX6_combine_73 : decode cX6_combine 73 = .ok (.lload 4, 2) := by decide +kernel
theorem dX6_combine_75 : decode cX6_combine 75 = .ok (.ladd, 1) := by decide +kernel
theorem dX6_combine_76 : decode cX6_combine 76 = .ok (.goto 20, 3) := by decide +kernel
theorem dX6_combine_79 : decode cX6_combine 79 = .ok (.iload_n 1, 1) := by decide +kernel
theorem dX6_combine_80 : decode cX6_combine 80 = .ok (.bipush 45, 2) := by decide +kernel
theorem dX6_combine_82 : decode cX6_combine 82 = .ok (.if_icmp .ne 10, 3) := by decide +kernel
theorem dX6_combine_85 : decode cX6_combine 85 = .ok (.lload_n 2, 1) := by decide +kernel
theorem dX6_combine_86 : decode cX6_combine 86 = .ok (.lload 4, 2) := by decide +kernel
theorem dX6_combine_88 : decode cX6_combine 88 = .ok (.lsub, 1) := by decide +kernel
theorem dX6_combine_89 : decode cX6_combine 89 = .ok (.goto 7, 3) := by decide +kernel
theorem dX6_combine_92 : decode cX6_combine 92 = .ok (.lload_n 2, 1) := by decide +kernel
theorem dX6_combine_93 : decode cX6_combine 93 = .ok (.lload 4, 2) := by decide +kernel
theorem dX6_combine_95 : decode cX6_combine 95 = .ok (.lmul, 1) := by decide +kernel
theorem dX6_combine_96 : decode cX6_combine 96 = .ok (.invokevirtual 124, 3) := by decide +kernel
theorem dX6_combine_99 : decode cX6_combine 99 = .ok (.return_, 1) := by decide +kernel
theorem dX6_tonsBy_0 : decode cX6_tonsBy 0 = .ok (.aload_n 0, 1) := by decide +kernel
theorem dX6_tonsBy_1 : decode cX6_tonsBy 1 = .ok (.iconst 0, 1) := by decide +kernel
theorem dX6_tonsBy_2 : decode cX6_tonsBy 2 = .ok (.putfield 115, 3) := by decide +kernel
theorem dX6_tonsBy_5 : decode cX6_tonsBy 5 = .ok (.iconst 0, 1) := by decide +kernel
theorem dX6_tonsBy_6 : decode cX6_tonsBy 6 = .ok (.istore 6, 2) := by decide +kernel
theorem dX6_tonsBy_8 : decode cX6_tonsBy 8 = .ok (.iconst 0, 1) := by decide +kernel
theorem dX6_tonsBy_9 : decode cX6_tonsBy 9 = .ok (.istore 7, 2) := by decide +kernel
theorem dX6_tonsBy_11 : decode cX6_tonsBy 11 = .ok (.iload 7, 2) := by decide +kernel
theorem dX6_tonsBy_13 : decode cX6_tonsBy 13 = .ok (.aload_n 0, 1) := by decide +kernel
theorem dX6_tonsBy_14 : decode cX6_tonsBy 14 = .ok (.getfield 16, 3) := by decide +kernel
theorem dX6_tonsBy_17 : decode cX6_tonsBy 17 = .ok (.iload_n 1, 1) := by decide +kernel
theorem dX6_tonsBy_18 : decode cX6_tonsBy 18 = .ok (.iaload, 1) := by decide +kernel
theorem dX6_tonsBy_19 : decode cX6_tonsBy 19 = .ok (.if_icmp .ge 233, 3) := by decide +kernel
theorem dX6_tonsBy_22 : decode cX6_tonsBy 22 = .ok (.aload_n 0, 1) := by decide +kernel
theorem dX6_tonsBy_23 : decode cX6_tonsBy 23 = .ok (.getfield 19, 3) := by decide +kernel
theorem dX6_tonsBy_26 : decode cX6_tonsBy 26 = .ok (.bipush 40, 2) := by decide +kernel
theorem dX6_tonsBy_28 : decode cX6_tonsBy 28 = .ok (.iload_n 1, 1) := by decide +kernel
theorem dX6_tonsBy_29 : decode cX6_tonsBy 29 = .ok (.imul, 1) := by decide +kernel
theorem dX6_tonsBy_30 : decode cX6_tonsBy 30 = .ok (.iload 7, 2) := by decide +kernel
theorem dX6_tonsBy_32 : decode cX6_tonsBy 32 = .ok (.iadd, 1) := by decide +kernel
theorem dX6_tonsBy_33 : decode cX6_tonsBy 33 = .ok (.iaload, 1) := by decide +kernel
theorem dX6_tonsBy_34 : decode cX6_tonsBy 34 = .ok (.istore 8, 2) := by decide +kernel
theorem dX6_tonsBy_36 : decode cX6_tonsBy 36 = .ok (.iload 8, 2) := by decide +kernel
theorem dX6_tonsBy_38 : decode cX6_tonsBy 38 = .ok (.invokestatic 93, 3) := by decide +kernel
theorem dX6_tonsBy_41 : decode cX6_tonsBy 41 = .ok (.ifCond .eq 60, 3) := by decide +kernel
theorem dX6_tonsBy_44 : decode cX6_tonsBy 44 = .ok (.iload 6, 2) := by decide +kernel
theorem dX6_tonsBy_46 : decode cX6_tonsBy 46 = .ok (.ifCond .eq 42, 3) := by decide +kernel
theorem dX6_tonsBy_49 : decode cX6_tonsBy 49 = .ok (.aload_n 0, 1) := by decide +kernel
theorem dX6_tonsBy_50 : decode cX6_tonsBy 50 = .ok (.dup, 1) := by decide +kernel
theorem dX6_tonsBy_51 : decode cX6_tonsBy 51 = .ok (.getfield 115, 3) := by decide +kernel
theorem dX6_tonsBy_54 : decode cX6_tonsBy 54 = .ok (.iconst 1, 1) := by decide +kernel
theorem dX6_tonsBy_55 : decode cX6_tonsBy 55 = .ok (.isub, 1) := by decide +kernel
theorem dX6_tonsBy_56 : decode cX6_tonsBy 56 = .ok (.putfield 115, 3) := by decide +kernel
theorem dX6_tonsBy_59 : decode cX6_tonsBy 59 = .ok (.aload_n 0, 1) := by decide +kernel
theorem dX6_tonsBy_60 : decode cX6_tonsBy 60 = .ok (.ldc2_w 128, 3) := by decide +kernel
theorem dX6_tonsBy_63 : decode cX6_tonsBy 63 = .ok (.aload_n 0, 1) := by decide +kernel
theorem dX6_tonsBy_64 : decode cX6_tonsBy 64 = .ok (.getfield 68, 3) := by decide +kernel
theorem dX6_tonsBy_67 : decode cX6_tonsBy 67 = .ok (.aload_n 0, 1) := by decide +kernel
theorem dX6_tonsBy_68 : decode cX6_tonsBy 68 = .ok (.getfield 115, 3) := by decide +kernel
theorem dX6_tonsBy_71 : decode cX6_tonsBy 71 = .ok (.iaload, 1) := by decide +kernel
theorem dX6_tonsBy_72 : decode cX6_tonsBy 72 = .ok (.i2l, 1) := by decide +kernel
theorem dX6_tonsBy_73 : decode cX6_tonsBy 73 = .ok (.lmul, 1) := by decide +kernel
theorem dX6_tonsBy_74 : decode cX6_tonsBy 74 = .ok (.iload 8, 2) := by decide +kernel
theorem dX6_tonsBy_76 : decode cX6_tonsBy 76 = .ok (.i2l, 1) := by decide +kernel
theorem dX6_tonsBy_77 : decode cX6_tonsBy 77 = .ok (.ladd, 1) := by decide +kernel
theorem dX6_tonsBy_78 : decode cX6_tonsBy 78 = .ok (.ldc2_w 130, 3) := by decide +kernel
theorem dX6_tonsBy_81 : decode cX6_tonsBy 81 = .ok (.lsub, 1) := by decide +kernel
theorem dX6_tonsBy_82 : decode cX6_tonsBy 82 = .ok (.invokevirtual 124, 3) := by decide +kernel
theorem dX6_tonsBy_85 : decode cX6_tonsBy 85 = .ok (.goto 154, 3) := by decide +kernel
theorem dX6_tonsBy_88 : decode cX6_tonsBy 88 = .ok (.aload_n 0, 1) := by decide +kernel
theorem dX6_tonsBy_89 : decode cX6_tonsBy 89 = .ok (.iload 8, 2) := by decide +kernel
theorem dX6_tonsBy_91 : decode cX6_tonsBy 91 = .ok (.bipush 48, 2) := by decide +kernel
theorem dX6_tonsBy_93 : decode cX6_tonsBy 93 = .ok (.isub, 1) := by decide +kernel
theorem dX6_tonsBy_94 : decode cX6_tonsBy 94 = .ok (.i2l, 1) := by decide +kernel
theorem dX6_tonsBy_95 : decode cX6_tonsBy 95 = .ok (.invokevirtual 124, 3) := by decide +kernel
theorem dX6_tonsBy_98 : decode cX6_tonsBy 98 = .ok (.goto 141, 3) := by decide +kernel
theorem dX6_tonsBy_101 : decode cX6_tonsBy 101 = .ok (.iload 8, 2) := by decide +kernel
theorem dX6_tonsBy_103 : decode cX6_tonsBy 103 = .ok (.bipush 33, 2) := by decide +kernel
theorem dX6_tonsBy_105 : decode cX6_tonsBy 105 = .ok (.if_icmp .ne 46, 3) := by decide +kernel
theorem dX6_tonsBy_108 : decode cX6_tonsBy 108 = .ok (.aload_n 0, 1) := by decide +kernel
theorem dX6_tonsBy_109 : decode cX6_tonsBy 109 = .ok (.getfield 68, 3) := by decide +kernel
theorem dX6_tonsBy_112 : decode cX6_tonsBy 112 = .ok (.aload_n 0, 1) := by decide +kernel
theorem dX6_tonsBy_113 : decode cX6_tonsBy 113 = .ok (.getfield 115, 3) := by decide +kernel
theorem dX6_tonsBy_116 : decode cX6_tonsBy 116 = .ok (.iconst 1, 1) := by decide +kernel
theorem dX6_tonsBy_117 : decode cX6_tonsBy 117 = .ok (.isub, 1) := by decide +kernel
theorem dX6_tonsBy_118 : decode cX6_tonsBy 118 = .ok (.aload_n 0, 1) := by decide +kernel
theorem dX6_tonsBy_119 : decode cX6_tonsBy 119 = .ok (.getfield 68, 3) := by decide +kernel
theorem dX6_tonsBy_122 : decode cX6_tonsBy 122 = .ok (.aload_n 0, 1) := by decide +kernel
theorem dX6_tonsBy_123 : decode cX6_tonsBy 123 = .ok (.getfield 115, 3) := by decide +kernel
theorem dX6_tonsBy_126 : decode cX6_tonsBy 126 = .ok (.iconst 1, 1) := by decide +kernel
theorem dX6_tonsBy_127 : decode cX6_tonsBy 127 = .ok (.isub, 1) := by decide +kernel
theorem dX6_tonsBy_128 : decode cX6_tonsBy 128 = .ok (.iaload, 1) := by decide +kernel
theorem dX6_tonsBy_129 : decode cX6_tonsBy 129 = .ok (.ifCond .ge 7, 3) := by decide +kernel
theorem dX6_tonsBy_132 : decode cX6_tonsBy 132 = .ok (.iconst 0, 1) := by decide +kernel
theorem dX6_tonsBy_133 : decode cX6_tonsBy 133 = .ok (.goto 14, 3) := by decide +kernel
theorem dX6_tonsBy_136 : decode cX6_tonsBy 136 = .ok (.aload_n 0, 1) := by decide +kernel
theorem dX6_tonsBy_137 : decode cX6_tonsBy 137 = .ok (.getfield 68, 3) := by decide +kernel
theorem dX6_tonsBy_140 : decode cX6_tonsBy 140 = .ok (.aload_n 0, 1) := by decide +kernel
theorem dX6_tonsBy_141 : decode cX6_tonsBy 141 = .ok (.getfield 115, 3) := by decide +kernel
theorem dX6_tonsBy_144 : decode cX6_tonsBy 144 = .ok (.iconst 1, 1) := by decide +kernel
theorem dX6_tonsBy_145 : decode cX6_tonsBy 145 = .ok (.isub, 1) := by decide +kernel
theorem dX6_tonsBy_146 : decode cX6_tonsBy 146 = .ok (.iaload, 1) := by decide +kernel
theorem dX6_tonsBy_147 : decode cX6_tonsBy 147 = .ok (.iastore, 1) := by decide +kernel
theorem dX6_tonsBy_148 : decode cX6_tonsBy 148 = .ok (.goto 91, 3) := by decide +kernel
theorem dX6_tonsBy_151 : decode cX6_tonsBy 151 = .ok (.iload 8, 2) := by decide +kernel
theorem dX6_tonsBy_153 : decode cX6_tonsBy 153 = .ok (.bipush 108, 2) := by decide +kernel
theorem dX6_tonsBy_155 : decode cX6_tonsBy 155 = .ok (.if_icmp .eq 24, 3) := by decide +kernel
theorem dX6_tonsBy_158 : decode cX6_tonsBy 158 = .ok (.iload 8, 2) := by decide +kernel
theorem dX6_tonsBy_160 : decode cX6_tonsBy 160 = .ok (.bipush 98, 2) := by decide +kernel
theorem dX6_tonsBy_162 : decode cX6_tonsBy 162 = .ok (.if_icmp .eq 17, 3) := by decide +kernel
theorem dX6_tonsBy_165 : decode cX6_tonsBy 165 = .ok (.iload 8, 2) := by decide +kernel
theorem dX6_tonsBy_167 : decode cX6_tonsBy 167 = .ok (.bipush 100, 2) := by decide +kernel
theorem dX6_tonsBy_169 : decode cX6_tonsBy 169 = .ok (.if_icmp .eq 10, 3) := by decide +kernel
theorem dX6_tonsBy_172 : decode cX6_tonsBy 172 = .ok (.iload 8, 2) := by decide +kernel
theorem dX6_tonsBy_174 : decode cX6_tonsBy 174 = .ok (.bipush 114, 2) := by decide +kernel
theorem dX6_tonsBy_176 : decode cX6_tonsBy 176 = .ok (.if_icmp .ne 50, 3) := by decide +kernel
theorem dX6_tonsBy_179 : decode cX6_tonsBy 179 = .ok (.aload_n 0, 1) := by decide +kernel
theorem dX6_tonsBy_180 : decode cX6_tonsBy 180 = .ok (.iload 8, 2) := by decide +kernel
theorem dX6_tonsBy_182 : decode cX6_tonsBy 182 = .ok (.bipush 108, 2) := by decide +kernel
theorem dX6_tonsBy_184 : decode cX6_tonsBy 184 = .ok (.if_icmp .ne 8, 3) := by decide +kernel
theorem dX6_tonsBy_187 : decode cX6_tonsBy 187 = .ok (.iload_n 2, 1) := by decide +kernel
theorem dX6_tonsBy_188 : decode cX6_tonsBy 188 = .ok (.i2l, 1) := by decide +kernel
theorem dX6_tonsBy_189 : decode cX6_tonsBy 189 = .ok (.goto 31, 3) := by decide +kernel
theorem dX6_tonsBy_192 : decode cX6_tonsBy 192 = .ok (.iload 8, 2) := by decide +kernel
theorem dX6_tonsBy_194 : decode cX6_tonsBy 194 = .ok (.bipush 98, 2) := by decide +kernel
theorem dX6_tonsBy_196 : decode cX6_tonsBy 196 = .ok (.if_icmp .ne 8, 3) := by decide +kernel
theorem dX6_tonsBy_199 : decode cX6_tonsBy 199 = .ok (.iload_n 3, 1) := by decide +kernel
theorem dX6_tonsBy_200 : decode cX6_tonsBy 200 = .ok (.i2l, 1) := by decide +kernel
theorem dX6_tonsBy_201 : decode cX6_tonsBy 201 = .ok (.goto 19, 3) := by decide +kernel
theorem dX6_tonsBy_204 : decode cX6_tonsBy 204 = .ok (.iload 8, 2) := by decide +kernel
theorem dX6_tonsBy_206 : decode cX6_tonsBy 206 = .ok (.bipush 100, 2) := by decide +kernel
theorem dX6_tonsBy_208 : decode cX6_tonsBy 208 = .ok (.if_icmp .ne 9, 3) := by decide +kernel
theorem dX6_tonsBy_211 : decode cX6_tonsBy 211 = .ok (.iload 4, 2) := by decide +kernel
theorem dX6_tonsBy_213 : decode cX6_tonsBy 213 = .ok (.i2l, 1) := by decide +kernel
theorem dX6_tonsBy_214 : decode cX6_tonsBy 214 = .ok (.goto 6, 3) := by decide +kernel
theorem dX6_tonsBy_217 : decode cX6_tonsBy 217 = .ok (.iload 5, 2) := by decide +kernel
theorem dX6_tonsBy_219 : decode cX6_tonsBy 219 = .ok (.i2l, 1) := by decide +kernel
theorem dX6_tonsBy_220 : decode cX6_tonsBy 220 = .ok (.invokevirtual 124, 3) := by decide +kernel
theorem dX6_tonsBy_223 : decode cX6_tonsBy 223 = .ok (.goto 16, 3) := by decide +kernel
theorem dX6_tonsBy_226 : decode cX6_tonsBy 226 = .ok (.iload 8, 2) := by decide +kernel
theorem dX6_tonsBy_228 : decode cX6_tonsBy 228 = .ok (.bipush 32, 2) := by decide +kernel
theorem dX6_tonsBy_230 : decode cX6_tonsBy 230 = .ok (.if_icmp .eq 9, 3) := by decide +kernel
theorem dX6_tonsBy_233 : decode cX6_tonsBy 233 = .ok (.aload_n 0, 1) := by decide +kernel
theorem dX6_tonsBy_234 : decode cX6_tonsBy 234 = .ok (.iload 8, 2) := by decide +kernel
theorem dX6_tonsBy_236 : decode cX6_tonsBy 236 = .ok (.invokevirtual 132, 3) := by decide +kernel
theorem dX6_tonsBy_239 : decode cX6_tonsBy 239 = .ok (.iload 8, 2) := by decide +kernel
theorem dX6_tonsBy_241 : decode cX6_tonsBy 241 = .ok (.invokestatic 93, 3) := by decide +kernel
theorem dX6_tonsBy_244 : decode cX6_tonsBy 244 = .ok (.istore 6, 2) := by decide +kernel
theorem dX6_tonsBy_246 : decode cX6_tonsBy 246 = .ok (.iinc 7 1, 3) := by decide +kernel
theorem dX6_tonsBy_249 : decode cX6_tonsBy 249 = .ok (.goto (-238), 3) := by decide +kernel
theorem dX6_tonsBy_252 : decode cX6_tonsBy 252 = .ok (.aload_n 0, 1) := by decide +kernel
theorem dX6_tonsBy_253 : decode cX6_tonsBy 253 = .ok (.getfield 68, 3) := by decide +kernel
theorem dX6_tonsBy_256 : decode cX6_tonsBy 256 = .ok (.iconst 0, 1) := by decide +kernel
theorem dX6_tonsBy_257 : decode cX6_tonsBy 257 = .ok (.iaload, 1) := by decide +kernel
theorem dX6_tonsBy_258 : decode cX6_tonsBy 258 = .ok (.ireturn, 1) := by decide +kernel
theorem dX6_areSizes_0 : decode cX6_areSizes 0 = .ok (.iload_n 0, 1) := by decide +kernel
theorem dX6_areSizes_1 : decode cX6_areSizes 1 = .ok (.iconst 1, 1) := by decide +kernel
theorem dX6_areSizes_2 : decode cX6_areSizes 2 = .ok (.bipush 99, 2) := by decide +kernel
theorem dX6_areSizes_4 : decode cX6_areSizes 4 = .ok (.invokestatic 101, 3) := by decide +kernel
theorem dX6_areSizes_7 : decode cX6_areSizes 7 = .ok (.ifCond .eq 38, 3) := by decide +kernel
theorem dX6_areSizes_10 : decode cX6_areSizes 10 = .ok (.iload_n 1, 1) := by decide +kernel
theorem dX6_areSizes_11 : decode cX6_areSizes 11 = .ok (.iconst 1, 1) := by decide +kernel
theorem dX6_areSizes_12 : decode cX6_areSizes 12 = .ok (.bipush 99, 2) := by decide +kernel
theorem dX6_areSizes_14 : decode cX6_areSizes 14 = .ok (.invokestatic 101, 3) := by decide +kernel
theorem dX6_areSizes_17 : decode cX6_areSizes 17 = .ok (.ifCond .eq 28, 3) := by decide +kernel
theorem dX6_areSizes_20 : decode cX6_areSizes 20 = .ok (.iload_n 2, 1) := by decide +kernel
theorem dX6_areSizes_21 : decode cX6_areSizes 21 = .ok (.iconst 1, 1) := by decide +kernel
theorem dX6_areSizes_22 : decode cX6_areSizes 22 = .ok (.bipush 99, 2) := by decide +kernel
theorem dX6_areSizes_24 : decode cX6_areSizes 24 = .ok (.invokestatic 101, 3) := by decide +kernel
theorem dX6_areSizes_27 : decode cX6_areSizes 27 = .ok (.ifCond .eq 18, 3) := by decide +kernel
theorem dX6_areSizes_30 : decode cX6_areSizes 30 = .ok (.iload_n 3, 1) := by decide +kernel
theorem dX6_areSizes_31 : decode cX6_areSizes 31 = .ok (.iconst 0, 1) := by decide +kernel
theorem dX6_areSizes_32 : decode cX6_areSizes 32 = .ok (.sipush 999, 3) := by decide +kernel
theorem dX6_areSizes_35 : decode cX6_areSizes 35 = .ok (.invokestatic 101, 3) := by decide +kernel
theorem dX6_areSizes_38 : decode cX6_areSizes 38 = .ok (.ifCond .eq 7, 3) := by decide +kernel
theorem dX6_areSizes_41 : decode cX6_areSizes 41 = .ok (.iconst 1, 1) := by decide +kernel
theorem dX6_areSizes_42 : decode cX6_areSizes 42 = .ok (.goto 4, 3) := by decide +kernel
theorem dX6_areSizes_45 : decode cX6_areSizes 45 = .ok (.iconst 0, 1) := by decide +kernel
theorem dX6_areSizes_46 : decode cX6_areSizes 46 = .ok (.ireturn, 1) := by decide +kernel
theorem dX6_tons_0 : decode cX6_tons 0 = .ok (.aload_n 0, 1) := by decide +kernel
theorem dX6_tons_1 : decode cX6_tons 1 = .ok (.iload_n 1, 1) := by decide +kernel
theorem dX6_tons_2 : decode cX6_tons 2 = .ok (.invokevirtual 136, 3) := by decide +kernel
theorem dX6_tons_5 : decode cX6_tons 5 = .ok (.ifCond .eq 29, 3) := by decide +kernel
theorem dX6_tons_8 : decode cX6_tons 8 = .ok (.iload_n 2, 1) := by decide +kernel
theorem dX6_tons_9 : decode cX6_tons 9 = .ok (.iload_n 3, 1) := by decide +kernel
theorem dX6_tons_10 : decode cX6_tons 10 = .ok (.iload 4, 2) := by decide +kernel
theorem dX6_tons_12 : decode cX6_tons 12 = .ok (.iload 5, 2) := by decide +kernel
theorem dX6_tons_14 : decode cX6_tons 14 = .ok (.invokestatic 139, 3) := by decide +kernel
theorem dX6_tons_17 : decode cX6_tons 17 = .ok (.ifCond .eq 17, 3) := by decide +kernel
theorem dX6_tons_20 : decode cX6_tons 20 = .ok (.aload_n 0, 1) := by decide +kernel
theorem dX6_tons_21 : decode cX6_tons 21 = .ok (.iload_n 1, 1) := by decide +kernel
theorem dX6_tons_22 : decode cX6_tons 22 = .ok (.iload_n 2, 1) := by decide +kernel
theorem dX6_tons_23 : decode cX6_tons 23 = .ok (.iload_n 3, 1) := by decide +kernel
theorem dX6_tons_24 : decode cX6_tons 24 = .ok (.iload 4, 2) := by decide +kernel
theorem dX6_tons_26 : decode cX6_tons 26 = .ok (.iload 5, 2) := by decide +kernel
theorem dX6_tons_28 : decode cX6_tons 28 = .ok (.invokevirtual 143, 3) := by decide +kernel
theorem dX6_tons_31 : decode cX6_tons 31 = .ok (.goto 5, 3) := by decide +kernel
theorem dX6_tons_34 : decode cX6_tons 34 = .ok (.ldc 147, 2) := by decide +kernel
theorem dX6_tons_36 : decode cX6_tons 36 = .ok (.ireturn, 1) := by decide +kernel
theorem dX6_shape_0 : decode cX6_shape 0 = .ok (.aload_n 0, 1) := by decide +kernel
theorem dX6_shape_1 : decode cX6_shape 1 = .ok (.iload_n 1, 1) := by decide +kernel
theorem dX6_shape_2 : decode cX6_shape 2 = .ok (.invokevirtual 136, 3) := by decide +kernel
theorem dX6_shape_5 : decode cX6_shape 5 = .ok (.ifCond .eq 23, 3) := by decide +kernel
theorem dX6_shape_8 : decode cX6_shape 8 = .ok (.iload_n 2, 1) := by decide +kernel
theorem dX6_shape_9 : decode cX6_shape 9 = .ok (.iconst 1, 1) := by decide +kernel
theorem dX6_shape_10 : decode cX6_shape 10 = .ok (.sipush 1728, 3) := by decide +kernel
theorem dX6_shape_13 : decode cX6_shape 13 = .ok (.invokestatic 101, 3) := by decide +kernel
theorem dX6_shape_16 : decode cX6_shape 16 = .ok (.ifCond .eq 12, 3) := by decide +kernel
theorem dX6_shape_19 : decode cX6_shape 19 = .ok (.iload_n 3, 1) := by decide +kernel
theorem dX6_shape_20 : decode cX6_shape 20 = .ok (.iconst 0, 1) := by decide +kernel
theorem dX6_shape_21 : decode cX6_shape 21 = .ok (.iconst 3, 1) := by decide +kernel
theorem dX6_shape_22 : decode cX6_shape 22 = .ok (.invokestatic 101, 3) := by decide +kernel
theorem dX6_shape_25 : decode cX6_shape 25 = .ok (.ifCond .ne 6, 3) := by decide +kernel
theorem dX6_shape_28 : decode cX6_shape 28 = .ok (.ldc 147, 2) := by decide +kernel
theorem dX6_shape_30 : decode cX6_shape 30 = .ok (.ireturn, 1) := by decide +kernel
theorem dX6_shape_31 : decode cX6_shape 31 = .ok (.ldc 148, 2) := by decide +kernel
theorem dX6_shape_33 : decode cX6_shape 33 = .ok (.istore 4, 2) := by decide +kernel
theorem dX6_shape_35 : decode cX6_shape 35 = .ok (.iconst 0, 1) := by decide +kernel
theorem dX6_shape_36 : decode cX6_shape 36 = .ok (.istore 5, 2) := by decide +kernel
theorem dX6_shape_38 : decode cX6_shape 38 = .ok (.iconst 1, 1) := by decide +kernel
theorem dX6_shape_39 : decode cX6_shape 39 = .ok (.istore 6, 2) := by decide +kernel
theorem dX6_shape_41 : decode cX6_shape 41 = .ok (.iload 6, 2) := by decide +kernel
theorem dX6_shape_43 : decode cX6_shape 43 = .ok (.bipush 12, 2) := by decide +kernel
theorem dX6_shape_45 : decode cX6_shape 45 = .ok (.if_icmp .gt 116, 3) := by decide +kernel
theorem dX6_shape_48 : decode cX6_shape 48 = .ok (.iconst 1, 1) := by decide +kernel
theorem dX6_shape_49 : decode cX6_shape 49 = .ok (.istore 7, 2) := by decide +kernel
theorem dX6_shape_51 : decode cX6_shape 51 = .ok (.iload 7, 2) := by decide +kernel
theorem dX6_shape_53 : decode cX6_shape 53 = .ok (.bipush 12, 2) := by decide +kernel
theorem dX6_shape_55 : decode cX6_shape 55 = .ok (.if_icmp .gt 100, 3) := by decide +kernel
theorem dX6_shape_58 : decode cX6_shape 58 = .ok (.iconst 1, 1) := by decide +kernel
theorem dX6_shape_59 : decode cX6_shape 59 = .ok (.istore 8, 2) := by decide +kernel
theorem dX6_shape_61 : decode cX6_shape 61 = .ok (.iload 8, 2) := by decide +kernel
theorem dX6_shape_63 : decode cX6_shape 63 = .ok (.bipush 12, 2) := by decide +kernel
theorem dX6_shape_65 : decode cX6_shape 65 = .ok (.if_icmp .gt 84, 3) := by decide +kernel
theorem dX6_shape_68 : decode cX6_shape 68 = .ok (.iload 6, 2) := by decide +kernel
theorem dX6_shape_70 : decode cX6_shape 70 = .ok (.iload 7, 2) := by decide +kernel
theorem dX6_shape_72 : decode cX6_shape 72 = .ok (.imul, 1) := by decide +kernel
theorem dX6_shape_73 : decode cX6_shape 73 = .ok (.iload 8, 2) := by decide +kernel
theorem dX6_shape_75 : decode cX6_shape 75 = .ok (.imul, 1) := by decide +kernel
theorem dX6_shape_76 : decode cX6_shape 76 = .ok (.iload_n 2, 1) := by decide +kernel
theorem dX6_shape_77 : decode cX6_shape 77 = .ok (.if_icmp .ge 8, 3) := by decide +kernel
theorem dX6_shape_80 : decode cX6_shape 80 = .ok (.ldc 148, 2) := by decide +kernel
theorem dX6_shape_82 : decode cX6_shape 82 = .ok (.goto 15, 3) := by decide +kernel
theorem dX6_shape_85 : decode cX6_shape 85 = .ok (.aload_n 0, 1) := by decide +kernel
theorem dX6_shape_86 : decode cX6_shape 86 = .ok (.iload_n 1, 1) := by decide +kernel
theorem dX6_shape_87 : decode cX6_shape 87 = .ok (.iload 6, 2) := by decide +kernel
theorem dX6_shape_89 : decode cX6_shape 89 = .ok (.iload 7, 2) := by decide +kernel
theorem dX6_shape_91 : decode cX6_shape 91 = .ok (.iload 8, 2) := by decide +kernel
theorem dX6_shape_93 : decode cX6_shape 93 = .ok (.iconst 0, 1) := by decide +kernel
theorem dX6_shape_94 : decode cX6_shape 94 = .ok (.invokevirtual 143, 3) := by decide +kernel
theorem dX6_shape_97 : decode cX6_shape 97 = .ok (.istore 9, 2) := by decide +kernel
theorem dX6_shape_99 : decode cX6_shape 99 = .ok (.iload 9, 2) := by decide +kernel
theorem dX6_shape_101 : decode cX6_shape 101 = .ok (.iload 4, 2) := by decide +kernel
theorem dX6_shape_103 : decode cX6_shape 103 = .ok (.if_icmp .ge 40, 3) := by decide +kernel
theorem dX6_shape_106 : decode cX6_shape 106 = .ok (.iload 9, 2) := by decide +kernel
theorem dX6_shape_108 : decode cX6_shape 108 = .ok (.istore 4, 2) := by decide +kernel
theorem dX6_shape_110 : decode cX6_shape 110 = .ok (.iload_n 3, 1) := by decide +kernel
theorem dX6_shape_111 : decode cX6_shape 111 = .ok (.ifCond .ne 8, 3) := by decide +kernel
theorem dX6_shape_114 : decode cX6_shape 114 = .ok (.iload 6, 2) := by decide +kernel
theorem dX6_shape_116 : decode cX6_shape 116 = .ok (.goto 25, 3) := by decide +kernel
theorem dX6_shape_119 : decode cX6_shape 119 = .ok (.iload_n 3, 1) := by decide +kernel
theorem dX6_shape_120 : decode cX6_shape 120 = .ok (.iconst 1, 1) := by decide +kernel
theorem dX6_shape_121 : decode cX6_shape 121 = .ok (.if_icmp .ne 8, 3) := by decide +kernel
theorem dX6_shape_124 : decode cX6_shape 124 = .ok (.iload 7, 2) := by decide +kernel
theorem dX6_shape_126 : decode cX6_shape 126 = .ok (.goto 15, 3) := by decide +kernel
theorem dX6_shape_129 : decode cX6_shape 129 = .ok (.iload_n 3, 1) := by decide +kernel
theorem dX6_shape_130 : decode cX6_shape 130 = .ok (.iconst 2, 1) := by decide +kernel
theorem dX6_shape_131 : decode cX6_shape 131 = .ok (.if_icmp .ne 8, 3) := by decide +kernel
theorem dX6_shape_134 : decode cX6_shape 134 = .ok (.iload 8, 2) := by decide +kernel
theorem dX6_shape_136 : decode cX6_shape 136 = .ok (.goto 5, 3) := by decide +kernel
theorem dX6_shape_139 : decode cX6_shape 139 = .ok (.iload 9, 2) := by decide +kernel
theorem dX6_shape_141 : decode cX6_shape 141 = .ok (.istore 5, 2) := by decide +kernel
theorem dX6_shape_143 : decode cX6_shape 143 = .ok (.iinc 8 1, 3) := by decide +kernel
theorem dX6_shape_146 : decode cX6_shape 146 = .ok (.goto (-85), 3) := by decide +kernel
theorem dX6_shape_149 : decode cX6_shape 149 = .ok (.iinc 7 1, 3) := by decide +kernel
theorem dX6_shape_152 : decode cX6_shape 152 = .ok (.goto (-101), 3) := by decide +kernel
theorem dX6_shape_155 : decode cX6_shape 155 = .ok (.iinc 6 1, 3) := by decide +kernel
theorem dX6_shape_158 : decode cX6_shape 158 = .ok (.goto (-117), 3) := by decide +kernel
theorem dX6_shape_161 : decode cX6_shape 161 = .ok (.iload 5, 2) := by decide +kernel
theorem dX6_shape_163 : decode cX6_shape 163 = .ok (.ireturn, 1) := by decide +kernel
theorem dX6_isHull_0 : decode cX6_isHull 0 = .ok (.iload_n 1, 1) := by decide +kernel
theorem dX6_isHull_1 : decode cX6_isHull 1 = .ok (.iconst 0, 1) := by decide +kernel
theorem dX6_isHull_2 : decode cX6_isHull 2 = .ok (.aload_n 0, 1) := by decide +kernel
theorem dX6_isHull_3 : decode cX6_isHull 3 = .ok (.getfield 149, 3) := by decide +kernel
theorem dX6_isHull_6 : decode cX6_isHull 6 = .ok (.iconst 1, 1) := by decide +kernel
theorem dX6_isHull_7 : decode cX6_isHull 7 = .ok (.isub, 1) := by decide +kernel
theorem dX6_isHull_8 : decode cX6_isHull 8 = .ok (.invokestatic 101, 3) := by decide +kernel
theorem dX6_isHull_11 : decode cX6_isHull 11 = .ok (.ireturn, 1) := by decide +kernel
theorem dX6_put_0 : decode cX6_put 0 = .ok (.aload_n 0, 1) := by decide +kernel
theorem dX6_put_1 : decode cX6_put 1 = .ok (.getfield 22, 3) := by decide +kernel
theorem dX6_put_4 : decode cX6_put 4 = .ok (.iconst 4, 1) := by decide +kernel
theorem dX6_put_5 : decode cX6_put 5 = .ok (.iload_n 1, 1) := by decide +kernel
theorem dX6_put_6 : decode cX6_put 6 = .ok (.imul, 1) := by decide +kernel
theorem dX6_put_7 : decode cX6_put 7 = .ok (.iload_n 2, 1) := by decide +kernel
theorem dX6_put_8 : decode cX6_put 8 = .ok (.iastore, 1) := by decide +kernel
theorem dX6_put_9 : decode cX6_put 9 = .ok (.aload_n 0, 1) := by decide +kernel
theorem dX6_put_10 : decode cX6_put 10 = .ok (.getfield 22, 3) := by decide +kernel
theorem dX6_put_13 : decode cX6_put 13 = .ok (.iconst 4, 1) := by decide +kernel
theorem dX6_put_14 : decode cX6_put 14 = .ok (.iload_n 1, 1) := by decide +kernel
theorem dX6_put_15 : decode cX6_put 15 = .ok (.imul, 1) := by decide +kernel
theorem dX6_put_16 : decode cX6_put 16 = .ok (.iconst 1, 1) := by decide +kernel
theorem dX6_put_17 : decode cX6_put 17 = .ok (.iadd, 1) := by decide +kernel
theorem dX6_put_18 : decode cX6_put 18 = .ok (.iload_n 3, 1) := by decide +kernel
theorem dX6_put_19 : decode cX6_put 19 = .ok (.iastore, 1) := by decide +kernel
theorem dX6_put_20 : decode cX6_put 20 = .ok (.aload_n 0, 1) := by decide +kernel
theorem dX6_put_21 : decode cX6_put 21 = .ok (.getfield 22, 3) := by decide +kernel
theorem dX6_put_24 : decode cX6_put 24 = .ok (.iconst 4, 1) := by decide +kernel
theorem dX6_put_25 : decode cX6_put 25 = .ok (.iload_n 1, 1) := by decide +kernel
theorem dX6_put_26 : decode cX6_put 26 = .ok (.imul, 1) := by decide +kernel
theorem dX6_put_27 : decode cX6_put 27 = .ok (.iconst 2, 1) := by decide +kernel
theorem dX6_put_28 : decode cX6_put 28 = .ok (.iadd, 1) := by decide +kernel
theorem dX6_put_29 : decode cX6_put 29 = .ok (.iload 4, 2) := by decide +kernel
theorem dX6_put_31 : decode cX6_put 31 = .ok (.iastore, 1) := by decide +kernel
theorem dX6_put_32 : decode cX6_put 32 = .ok (.aload_n 0, 1) := by decide +kernel
theorem dX6_put_33 : decode cX6_put 33 = .ok (.getfield 22, 3) := by decide +kernel
theorem dX6_put_36 : decode cX6_put 36 = .ok (.iconst 4, 1) := by decide +kernel
theorem dX6_put_37 : decode cX6_put 37 = .ok (.iload_n 1, 1) := by decide +kernel
theorem dX6_put_38 : decode cX6_put 38 = .ok (.imul, 1) := by decide +kernel
theorem dX6_put_39 : decode cX6_put 39 = .ok (.iconst 3, 1) := by decide +kernel
theorem dX6_put_40 : decode cX6_put 40 = .ok (.iadd, 1) := by decide +kernel
theorem dX6_put_41 : decode cX6_put 41 = .ok (.iload 5, 2) := by decide +kernel
theorem dX6_put_43 : decode cX6_put 43 = .ok (.iastore, 1) := by decide +kernel
theorem dX6_put_44 : decode cX6_put 44 = .ok (.return_, 1) := by decide +kernel
theorem dX6_hull_0 : decode cX6_hull 0 = .ok (.iload_n 1, 1) := by decide +kernel
theorem dX6_hull_1 : decode cX6_hull 1 = .ok (.iload_n 2, 1) := by decide +kernel
theorem dX6_hull_2 : decode cX6_hull 2 = .ok (.iload_n 3, 1) := by decide +kernel
theorem dX6_hull_3 : decode cX6_hull 3 = .ok (.iload 4, 2) := by decide +kernel
theorem dX6_hull_5 : decode cX6_hull 5 = .ok (.invokestatic 139, 3) := by decide +kernel
theorem dX6_hull_8 : decode cX6_hull 8 = .ok (.ifCond .ne 5, 3) := by decide +kernel
theorem dX6_hull_11 : decode cX6_hull 11 = .ok (.iconst (-1), 1) := by decide +kernel
theorem dX6_hull_12 : decode cX6_hull 12 = .ok (.ireturn, 1) := by decide +kernel
theorem dX6_hull_13 : decode cX6_hull 13 = .ok (.aload_n 0, 1) := by decide +kernel
theorem dX6_hull_14 : decode cX6_hull 14 = .ok (.getfield 149, 3) := by decide +kernel
theorem dX6_hull_17 : decode cX6_hull 17 = .ok (.iconst 5, 1) := by decide +kernel
theorem dX6_hull_18 : decode cX6_hull 18 = .ok (.if_icmp .ne 6, 3) := by decide +kernel
theorem dX6_hull_21 : decode cX6_hull 21 = .ok (.bipush (-2), 2) := by decide +kernel
theorem dX6_hull_23 : decode cX6_hull 23 = .ok (.ireturn, 1) := by decide +kernel
theorem dX6_hull_24 : decode cX6_hull 24 = .ok (.aload_n 0, 1) := by decide +kernel
theorem dX6_hull_25 : decode cX6_hull 25 = .ok (.aload_n 0, 1) := by decide +kernel
theorem dX6_hull_26 : decode cX6_hull 26 = .ok (.getfield 149, 3) := by decide +kernel
theorem dX6_hull_29 : decode cX6_hull 29 = .ok (.iload_n 1, 1) := by decide +kernel
theorem dX6_hull_30 : decode cX6_hull 30 = .ok (.iload_n 2, 1) := by decide +kernel
theorem dX6_hull_31 : decode cX6_hull 31 = .ok (.iload_n 3, 1) := by decide +kernel
theorem dX6_hull_32 : decode cX6_hull 32 = .ok (.iload 4, 2) := by decide +kernel
theorem dX6_hull_34 : decode cX6_hull 34 = .ok (.invokevirtual 152, 3) := by decide +kernel
theorem dX6_hull_37 : decode cX6_hull 37 = .ok (.aload_n 0, 1) := by decide +kernel
theorem dX6_hull_38 : decode cX6_hull 38 = .ok (.getfield 28, 3) := by decide +kernel
theorem dX6_hull_41 : decode cX6_hull 41 = .ok (.aload_n 0, 1) := by decide +kernel
theorem dX6_hull_42 : decode cX6_hull 42 = .ok (.getfield 149, 3) := by decide +kernel
theorem dX6_hull_45 : decode cX6_hull 45 = .ok (.iconst (-1), 1) := by decide +kernel
theorem dX6_hull_46 : decode cX6_hull 46 = .ok (.iastore, 1) := by decide +kernel
theorem dX6_hull_47 : decode cX6_hull 47 = .ok (.aload_n 0, 1) := by decide +kernel
theorem dX6_hull_48 : decode cX6_hull 48 = .ok (.dup, 1) := by decide +kernel
theorem dX6_hull_49 : decode cX6_hull 49 = .ok (.getfield 149, 3) := by decide +kernel
theorem dX6_hull_52 : decode cX6_hull 52 = .ok (.iconst 1, 1) := by decide +kernel
theorem dX6_hull_53 : decode cX6_hull 53 = .ok (.iadd, 1) := by decide +kernel
theorem dX6_hull_54 : decode cX6_hull 54 = .ok (.putfield 149, 3) := by decide +kernel
theorem dX6_hull_57 : decode cX6_hull 57 = .ok (.aload_n 0, 1) := by decide +kernel
theorem dX6_hull_58 : decode cX6_hull 58 = .ok (.getfield 149, 3) := by decide +kernel
theorem dX6_hull_61 : decode cX6_hull 61 = .ok (.iconst 1, 1) := by decide +kernel
theorem dX6_hull_62 : decode cX6_hull 62 = .ok (.isub, 1) := by decide +kernel
theorem dX6_hull_63 : decode cX6_hull 63 = .ok (.ireturn, 1) := by decide +kernel
theorem dX6_alter_0 : decode cX6_alter 0 = .ok (.aload_n 0, 1) := by decide +kernel
theorem dX6_alter_1 : decode cX6_alter 1 = .ok (.iload_n 1, 1) := by decide +kernel
theorem dX6_alter_2 : decode cX6_alter 2 = .ok (.invokevirtual 156, 3) := by decide +kernel
theorem dX6_alter_5 : decode cX6_alter 5 = .ok (.ifCond .eq 15, 3) := by decide +kernel
theorem dX6_alter_8 : decode cX6_alter 8 = .ok (.iload_n 2, 1) := by decide +kernel
theorem dX6_alter_9 : decode cX6_alter 9 = .ok (.iload_n 3, 1) := by decide +kernel
theorem dX6_alter_10 : decode cX6_alter 10 = .ok (.iload 4, 2) := by decide +kernel
theorem dX6_alter_12 : decode cX6_alter 12 = .ok (.iload 5, 2) := by decide +kernel
theorem dX6_alter_14 : decode cX6_alter 14 = .ok (.invokestatic 139, 3) := by decide +kernel
theorem dX6_alter_17 : decode cX6_alter 17 = .ok (.ifCond .ne 5, 3) := by decide +kernel
theorem dX6_alter_20 : decode cX6_alter 20 = .ok (.iconst (-1), 1) := by decide +kernel
theorem dX6_alter_21 : decode cX6_alter 21 = .ok (.ireturn, 1) := by decide +kernel
theorem dX6_alter_22 : decode cX6_alter 22 = .ok (.aload_n 0, 1) := by decide +kernel
theorem dX6_alter_23 : decode cX6_alter 23 = .ok (.iload_n 1, 1) := by decide +kernel
theorem dX6_alter_24 : decode cX6_alter 24 = .ok (.iload_n 2, 1) := by decide +kernel
theorem dX6_alter_25 : decode cX6_alter 25 = .ok (.iload_n 3, 1) := by decide +kernel
theorem dX6_alter_26 : decode cX6_alter 26 = .ok (.iload 4, 2) := by decide +kernel
theorem dX6_alter_28 : decode cX6_alter 28 = .ok (.iload 5, 2) := by decide +kernel
theorem dX6_alter_30 : decode cX6_alter 30 = .ok (.invokevirtual 152, 3) := by decide +kernel
theorem dX6_alter_33 : decode cX6_alter 33 = .ok (.iconst 1, 1) := by decide +kernel
theorem dX6_alter_34 : decode cX6_alter 34 = .ok (.ireturn, 1) := by decide +kernel
theorem dX6_measure_0 : decode cX6_measure 0 = .ok (.aload_n 0, 1) := by decide +kernel
theorem dX6_measure_1 : decode cX6_measure 1 = .ok (.iload_n 1, 1) := by decide +kernel
theorem dX6_measure_2 : decode cX6_measure 2 = .ok (.invokevirtual 156, 3) := by decide +kernel
theorem dX6_measure_5 : decode cX6_measure 5 = .ok (.ifCond .eq 14, 3) := by decide +kernel
theorem dX6_measure_8 : decode cX6_measure 8 = .ok (.iload_n 2, 1) := by decide +kernel
theorem dX6_measure_9 : decode cX6_measure 9 = .ok (.iconst 0, 1) := by decide +kernel
theorem dX6_measure_10 : decode cX6_measure 10 = .ok (.sipush 999, 3) := by decide +kernel
theorem dX6_measure_13 : decode cX6_measure 13 = .ok (.invokestatic 101, 3) := by decide +kernel
theorem dX6_measure_16 : decode cX6_measure 16 = .ok (.ifCond .ne 5, 3) := by decide +kernel
theorem dX6_measure_19 : decode cX6_measure 19 = .ok (.iconst (-1), 1) := by decide +kernel
theorem dX6_measure_20 : decode cX6_measure 20 = .ok (.ireturn, 1) := by decide +kernel
theorem dX6_measure_21 : decode cX6_measure 21 = .ok (.aload_n 0, 1) := by decide +kernel
theorem dX6_measure_22 : decode cX6_measure 22 = .ok (.iload_n 2, 1) := by decide +kernel
theorem dX6_measure_23 : decode cX6_measure 23 = .ok (.invokevirtual 112, 3) := by decide +kernel
theorem dX6_measure_26 : decode cX6_measure 26 = .ok (.istore_n 3, 1) := by decide +kernel
theorem dX6_measure_27 : decode cX6_measure 27 = .ok (.iload_n 3, 1) := by decide +kernel
theorem dX6_measure_28 : decode cX6_measure 28 = .ok (.ifCond .ge 6, 3) := by decide +kernel
theorem dX6_measure_31 : decode cX6_measure 31 = .ok (.bipush (-4), 2) := by decide +kernel
theorem dX6_measure_33 : decode cX6_measure 33 = .ok (.ireturn, 1) := by decide +kernel
theorem dX6_measure_34 : decode cX6_measure 34 = .ok (.aload_n 0, 1) := by decide +kernel
theorem dX6_measure_35 : decode cX6_measure 35 = .ok (.getfield 25, 3) := by decide +kernel
theorem dX6_measure_38 : decode cX6_measure 38 = .ok (.iload_n 1, 1) := by decide +kernel
theorem dX6_measure_39 : decode cX6_measure 39 = .ok (.aload_n 0, 1) := by decide +kernel
theorem dX6_measure_40 : decode cX6_measure 40 = .ok (.iload_n 3, 1) := by decide +kernel
theorem dX6_measure_41 : decode cX6_measure 41 = .ok (.aload_n 0, 1) := by decide +kernel
theorem dX6_measure_42 : decode cX6_measure 42 = .ok (.getfield 22, 3) := by decide +kernel
theorem dX6_measure_45 : decode cX6_measure 45 = .ok (.iconst 4, 1) := by decide +kernel
theorem dX6_measure_46 : decode cX6_measure 46 = .ok (.iload_n 1, 1) := by decide +kernel
theorem dX6_measure_47 : decode cX6_measure 47 = .ok (.imul, 1) := by decide +kernel
theorem dX6_measure_48 : decode cX6_measure 48 = .ok (.iaload, 1) := by decide +kernel
theorem dX6_measure_49 : decode cX6_measure 49 = .ok (.aload_n 0, 1) := by decide +kernel
theorem dX6_measure_50 : decode cX6_measure 50 = .ok (.getfield 22, 3) := by decide +kernel
theorem dX6_measure_53 : decode cX6_measure 53 = .ok (.iconst 4, 1) := by decide +kernel
theorem dX6_measure_54 : decode cX6_measure 54 = .ok (.iload_n 1, 1) := by decide +kernel
theorem dX6_measure_55 : decode cX6_measure 55 = .ok (.imul, 1) := by decide +kernel
theorem dX6_measure_56 : decode cX6_measure 56 = .ok (.iconst 1, 1) := by decide +kernel
theorem dX6_measure_57 : decode cX6_measure 57 = .ok (.iadd, 1) := by decide +kernel
theorem dX6_measure_58 : decode cX6_measure 58 = .ok (.iaload, 1) := by decide +kernel
theorem dX6_measure_59 : decode cX6_measure 59 = .ok (.aload_n 0, 1) := by decide +kernel
theorem dX6_measure_60 : decode cX6_measure 60 = .ok (.getfield 22, 3) := by decide +kernel
theorem dX6_measure_63 : decode cX6_measure 63 = .ok (.iconst 4, 1) := by decide +kernel
theorem dX6_measure_64 : decode cX6_measure 64 = .ok (.iload_n 1, 1) := by decide +kernel
theorem dX6_measure_65 : decode cX6_measure 65 = .ok (.imul, 1) := by decide +kernel
theorem dX6_measure_66 : decode cX6_measure 66 = .ok (.iconst 2, 1) := by decide +kernel
theorem dX6_measure_67 : decode cX6_measure 67 = .ok (.iadd, 1) := by decide +kernel
theorem dX6_measure_68 : decode cX6_measure 68 = .ok (.iaload, 1) := by decide +kernel
theorem dX6_measure_69 : decode cX6_measure 69 = .ok (.aload_n 0, 1) := by decide +kernel
theorem dX6_measure_70 : decode cX6_measure 70 = .ok (.getfield 22, 3) := by decide +kernel
theorem dX6_measure_73 : decode cX6_measure 73 = .ok (.iconst 4, 1) := by decide +kernel
theorem dX6_measure_74 : decode cX6_measure 74 = .ok (.iload_n 1, 1) := by decide +kernel
theorem dX6_measure_75 : decode cX6_measure 75 = .ok (.imul, 1) := by decide +kernel
theorem dX6_measure_76 : decode cX6_measure 76 = .ok (.iconst 3, 1) := by decide +kernel
theorem dX6_measure_77 : decode cX6_measure 77 = .ok (.iadd, 1) := by decide +kernel
theorem dX6_measure_78 : decode cX6_measure 78 = .ok (.iaload, 1) := by decide +kernel
theorem dX6_measure_79 : decode cX6_measure 79 = .ok (.invokevirtual 143, 3) := by decide +kernel
theorem dX6_measure_82 : decode cX6_measure 82 = .ok (.iastore, 1) := by decide +kernel
theorem dX6_measure_83 : decode cX6_measure 83 = .ok (.aload_n 0, 1) := by decide +kernel
theorem dX6_measure_84 : decode cX6_measure 84 = .ok (.getfield 28, 3) := by decide +kernel
theorem dX6_measure_87 : decode cX6_measure 87 = .ok (.iload_n 1, 1) := by decide +kernel
theorem dX6_measure_88 : decode cX6_measure 88 = .ok (.iload_n 2, 1) := by decide +kernel
theorem dX6_measure_89 : decode cX6_measure 89 = .ok (.iastore, 1) := by decide +kernel
theorem dX6_measure_90 : decode cX6_measure 90 = .ok (.aload_n 0, 1) := by decide +kernel
theorem dX6_measure_91 : decode cX6_measure 91 = .ok (.getfield 31, 3) := by decide +kernel
theorem dX6_measure_94 : decode cX6_measure 94 = .ok (.iload_n 1, 1) := by decide +kernel
theorem dX6_measure_95 : decode cX6_measure 95 = .ok (.iload_n 3, 1) := by decide +kernel
theorem dX6_measure_96 : decode cX6_measure 96 = .ok (.iastore, 1) := by decide +kernel
theorem dX6_measure_97 : decode cX6_measure 97 = .ok (.iconst 1, 1) := by decide +kernel
theorem dX6_measure_98 : decode cX6_measure 98 = .ok (.ireturn, 1) := by decide +kernel
theorem dX6_of_0 : decode cX6_of 0 = .ok (.aload_n 0, 1) := by decide +kernel
theorem dX6_of_1 : decode cX6_of 1 = .ok (.iload_n 1, 1) := by decide +kernel
theorem dX6_of_2 : decode cX6_of 2 = .ok (.invokevirtual 156, 3) := by decide +kernel
theorem dX6_of_5 : decode cX6_of 5 = .ok (.ifCond .eq 27, 3) := by decide +kernel
theorem dX6_of_8 : decode cX6_of 8 = .ok (.iload_n 2, 1) := by decide +kernel
theorem dX6_of_9 : decode cX6_of 9 = .ok (.iconst 0, 1) := by decide +kernel
theorem dX6_of_10 : decode cX6_of 10 = .ok (.bipush 6, 2) := by decide +kernel
theorem dX6_of_12 : decode cX6_of 12 = .ok (.invokestatic 101, 3) := by decide +kernel
theorem dX6_of_15 : decode cX6_of 15 = .ok (.ifCond .eq 17, 3) := by decide +kernel
theorem dX6_of_18 : decode cX6_of 18 = .ok (.iload_n 2, 1) := by decide +kernel
theorem dX6_of_19 : decode cX6_of 19 = .ok (.iconst 3, 1) := by decide +kernel
theorem dX6_of_20 : decode cX6_of 20 = .ok (.if_icmp .le 15, 3) := by decide +kernel
theorem dX6_of_23 : decode cX6_of 23 = .ok (.aload_n 0, 1) := by decide +kernel
theorem dX6_of_24 : decode cX6_of 24 = .ok (.getfield 28, 3) := by decide +kernel
theorem dX6_of_27 : decode cX6_of 27 = .ok (.iload_n 1, 1) := by decide +kernel
theorem dX6_of_28 : decode cX6_of 28 = .ok (.iaload, 1) := by decide +kernel
theorem dX6_of_29 : decode cX6_of 29 = .ok (.ifCond .ge 6, 3) := by decide +kernel
theorem dX6_of_32 : decode cX6_of 32 = .ok (.ldc 147, 2) := by decide +kernel
theorem dX6_of_34 : decode cX6_of 34 = .ok (.ireturn, 1) := by decide +kernel
theorem dX6_of_35 : decode cX6_of 35 = .ok (.iload_n 2, 1) := by decide +kernel
theorem dX6_of_36 : decode cX6_of 36 = .ok (.iconst 4, 1) := by decide +kernel
theorem dX6_of_37 : decode cX6_of 37 = .ok (.if_icmp .ge 16, 3) := by decide +kernel
theorem dX6_of_40 : decode cX6_of 40 = .ok (.aload_n 0, 1) := by decide +kernel
theorem dX6_of_41 : decode cX6_of 41 = .ok (.getfield 22, 3) := by decide +kernel
theorem dX6_of_44 : decode cX6_of 44 = .ok (.iconst 4, 1) := by decide +kernel
theorem dX6_of_45 : decode cX6_of 45 = .ok (.iload_n 1, 1) := by decide +kernel
theorem dX6_of_46 : decode cX6_of 46 = .ok (.imul, 1) := by decide +kernel
theorem dX6_of_47 : decode cX6_of 47 = .ok (.iload_n 2, 1) := by decide +kernel
theorem dX6_of_48 : decode cX6_of 48 = .ok (.iadd, 1) := by decide +kernel
theorem dX6_of_49 : decode cX6_of 49 = .ok (.iaload, 1) := by decide +kernel
theorem dX6_of_50 : decode cX6_of 50 = .ok (.goto 37, 3) := by decide +kernel
theorem dX6_of_53 : decode cX6_of 53 = .ok (.iload_n 2, 1) := by decide +kernel
theorem dX6_of_54 : decode cX6_of 54 = .ok (.iconst 4, 1) := by decide +kernel
theorem dX6_of_55 : decode cX6_of 55 = .ok (.if_icmp .ne 12, 3) := by decide +kernel
theorem dX6_of_58 : decode cX6_of 58 = .ok (.aload_n 0, 1) := by decide +kernel
theorem dX6_of_59 : decode cX6_of 59 = .ok (.getfield 25, 3) := by decide +kernel
theorem dX6_of_62 : decode cX6_of 62 = .ok (.iload_n 1, 1) := by decide +kernel
theorem dX6_of_63 : decode cX6_of 63 = .ok (.iaload, 1) := by decide +kernel
theorem dX6_of_64 : decode cX6_of 64 = .ok (.goto 23, 3) := by decide +kernel
theorem dX6_of_67 : decode cX6_of 67 = .ok (.iload_n 2, 1) := by decide +kernel
theorem dX6_of_68 : decode cX6_of 68 = .ok (.iconst 5, 1) := by decide +kernel
theorem dX6_of_69 : decode cX6_of 69 = .ok (.if_icmp .ne 12, 3) := by decide +kernel
theorem dX6_of_72 : decode cX6_of 72 = .ok (.aload_n 0, 1) := by decide +kernel
theorem dX6_of_73 : decode cX6_of 73 = .ok (.getfield 28, 3) := by decide +kernel
theorem dX6_of_76 : decode cX6_of 76 = .ok (.iload_n 1, 1) := by decide +kernel
theorem dX6_of_77 : decode cX6_of 77 = .ok (.iaload, 1) := by decide +kernel
theorem dX6_of_78 : decode cX6_of 78 = .ok (.goto 9, 3) := by decide +kernel
theorem dX6_of_81 : decode cX6_of 81 = .ok (.aload_n 0, 1) := by decide +kernel
theorem dX6_of_82 : decode cX6_of 82 = .ok (.getfield 31, 3) := by decide +kernel
theorem dX6_of_85 : decode cX6_of 85 = .ok (.iload_n 1, 1) := by decide +kernel
theorem dX6_of_86 : decode cX6_of 86 = .ok (.iaload, 1) := by decide +kernel
theorem dX6_of_87 : decode cX6_of 87 = .ok (.ireturn, 1) := by decide +kernel
theorem dX6_isPerson_0 : decode cX6_isPerson 0 = .ok (.iload_n 0, 1) := by decide +kernel
theorem dX6_isPerson_1 : decode cX6_isPerson 1 = .ok (.iconst 0, 1) := by decide +kernel
theorem dX6_isPerson_2 : decode cX6_isPerson 2 = .ok (.bipush 7, 2) := by decide +kernel
theorem dX6_isPerson_4 : decode cX6_isPerson 4 = .ok (.invokestatic 101, 3) := by decide +kernel
theorem dX6_isPerson_7 : decode cX6_isPerson 7 = .ok (.ireturn, 1) := by decide +kernel
theorem dX6_isEntry_0 : decode cX6_isEntry 0 = .ok (.iload_n 1, 1) := by decide +kernel
theorem dX6_isEntry_1 : decode cX6_isEntry 1 = .ok (.iconst 0, 1) := by decide +kernel
theorem dX6_isEntry_2 : decode cX6_isEntry 2 = .ok (.aload_n 0, 1) := by decide +kernel
theorem dX6_isEntry_3 : decode cX6_isEntry 3 = .ok (.getfield 159, 3) := by decide +kernel
theorem dX6_isEntry_6 : decode cX6_isEntry 6 = .ok (.iconst 1, 1) := by decide +kernel
theorem dX6_isEntry_7 : decode cX6_isEntry 7 = .ok (.isub, 1) := by decide +kernel
theorem dX6_isEntry_8 : decode cX6_isEntry 8 = .ok (.invokestatic 101, 3) := by decide +kernel
theorem dX6_isEntry_11 : decode cX6_isEntry 11 = .ok (.ireturn, 1) := by decide +kernel
theorem dX6_enter_0 : decode cX6_enter 0 = .ok (.aload_n 0, 1) := by decide +kernel
theorem dX6_enter_1 : decode cX6_enter 1 = .ok (.getfield 34, 3) := by decide +kernel
theorem dX6_enter_4 : decode cX6_enter 4 = .ok (.aload_n 0, 1) := by decide +kernel
theorem dX6_enter_5 : decode cX6_enter 5 = .ok (.getfield 159, 3) := by decide +kernel
theorem dX6_enter_8 : decode cX6_enter 8 = .ok (.iload_n 1, 1) := by decide +kernel
theorem dX6_enter_9 : decode cX6_enter 9 = .ok (.iastore, 1) := by decide +kernel
theorem dX6_enter_10 : decode cX6_enter 10 = .ok (.aload_n 0, 1) := by decide +kernel
theorem dX6_enter_11 : decode cX6_enter 11 = .ok (.getfield 37, 3) := by decide +kernel
theorem dX6_enter_14 : decode cX6_enter 14 = .ok (.aload_n 0, 1) := by decide +kernel
theorem dX6_enter_15 : decode cX6_enter 15 = .ok (.getfield 159, 3) := by decide +kernel
theorem dX6_enter_18 : decode cX6_enter 18 = .ok (.iload_n 2, 1) := by decide +kernel
theorem dX6_enter_19 : decode cX6_enter 19 = .ok (.iastore, 1) := by decide +kernel
theorem dX6_enter_20 : decode cX6_enter 20 = .ok (.aload_n 0, 1) := by decide +kernel
theorem dX6_enter_21 : decode cX6_enter 21 = .ok (.getfield 40, 3) := by decide +kernel
theorem dX6_enter_24 : decode cX6_enter 24 = .ok (.aload_n 0, 1) := by decide +kernel
theorem dX6_enter_25 : decode cX6_enter 25 = .ok (.getfield 159, 3) := by decide +kernel
theorem dX6_enter_28 : decode cX6_enter 28 = .ok (.iload_n 3, 1) := by decide +kernel
theorem dX6_enter_29 : decode cX6_enter 29 = .ok (.iastore, 1) := by decide +kernel
theorem dX6_enter_30 : decode cX6_enter 30 = .ok (.aload_n 0, 1) := by decide +kernel
theorem dX6_enter_31 : decode cX6_enter 31 = .ok (.getfield 43, 3) := by decide +kernel
theorem dX6_enter_34 : decode cX6_enter 34 = .ok (.aload_n 0, 1) := by decide +kernel
theorem dX6_enter_35 : decode cX6_enter 35 = .ok (.getfield 159, 3) := by decide +kernel
theorem dX6_enter_38 : decode cX6_enter 38 = .ok (.iload 4, 2) := by decide +kernel
theorem dX6_enter_40 : decode cX6_enter 40 = .ok (.iastore, 1) := by decide +kernel
theorem dX6_enter_41 : decode cX6_enter 41 = .ok (.aload_n 0, 1) := by decide +kernel
theorem dX6_enter_42 : decode cX6_enter 42 = .ok (.getfield 46, 3) := by decide +kernel
theorem dX6_enter_45 : decode cX6_enter 45 = .ok (.aload_n 0, 1) := by decide +kernel
theorem dX6_enter_46 : decode cX6_enter 46 = .ok (.getfield 159, 3) := by decide +kernel
theorem dX6_enter_49 : decode cX6_enter 49 = .ok (.iload 5, 2) := by decide +kernel
theorem dX6_enter_51 : decode cX6_enter 51 = .ok (.iastore, 1) := by decide +kernel
theorem dX6_enter_52 : decode cX6_enter 52 = .ok (.aload_n 0, 1) := by decide +kernel
theorem dX6_enter_53 : decode cX6_enter 53 = .ok (.getfield 49, 3) := by decide +kernel
theorem dX6_enter_56 : decode cX6_enter 56 = .ok (.aload_n 0, 1) := by decide +kernel
theorem dX6_enter_57 : decode cX6_enter 57 = .ok (.getfield 159, 3) := by decide +kernel
theorem dX6_enter_60 : decode cX6_enter 60 = .ok (.iload 6, 2) := by decide +kernel
theorem dX6_enter_62 : decode cX6_enter 62 = .ok (.iastore, 1) := by decide +kernel
theorem dX6_enter_63 : decode cX6_enter 63 = .ok (.aload_n 0, 1) := by decide +kernel
theorem dX6_enter_64 : decode cX6_enter 64 = .ok (.getfield 52, 3) := by decide +kernel
theorem dX6_enter_67 : decode cX6_enter 67 = .ok (.aload_n 0, 1) := by decide +kernel
theorem dX6_enter_68 : decode cX6_enter 68 = .ok (.getfield 159, 3) := by decide +kernel
theorem dX6_enter_71 : decode cX6_enter 71 = .ok (.iconst 0, 1) := by decide +kernel
theorem dX6_enter_72 : decode cX6_enter 72 = .ok (.bastore, 1) := by decide +kernel
theorem dX6_enter_73 : decode cX6_enter 73 = .ok (.aload_n 0, 1) := by decide +kernel
theorem dX6_enter_74 : decode cX6_enter 74 = .ok (.dup, 1) := by decide +kernel
theorem dX6_enter_75 : decode cX6_enter 75 = .ok (.getfield 159, 3) := by decide +kernel
theorem dX6_enter_78 : decode cX6_enter 78 = .ok (.iconst 1, 1) := by decide +kernel
theorem dX6_enter_79 : decode cX6_enter 79 = .ok (.iadd, 1) := by decide +kernel
theorem dX6_enter_80 : decode cX6_enter 80 = .ok (.putfield 159, 3) := by decide +kernel
theorem dX6_enter_83 : decode cX6_enter 83 = .ok (.aload_n 0, 1) := by decide +kernel
theorem dX6_enter_84 : decode cX6_enter 84 = .ok (.getfield 159, 3) := by decide +kernel
theorem dX6_enter_87 : decode cX6_enter 87 = .ok (.iconst 1, 1) := by decide +kernel
theorem dX6_enter_88 : decode cX6_enter 88 = .ok (.isub, 1) := by decide +kernel
theorem dX6_enter_89 : decode cX6_enter 89 = .ok (.ireturn, 1) := by decide +kernel
theorem dX6_deal_0 : decode cX6_deal 0 = .ok (.aload_n 0, 1) := by decide +kernel
theorem dX6_deal_1 : decode cX6_deal 1 = .ok (.iload_n 2, 1) := by decide +kernel
theorem dX6_deal_2 : decode cX6_deal 2 = .ok (.invokevirtual 156, 3) := by decide +kernel
theorem dX6_deal_5 : decode cX6_deal 5 = .ok (.ifCond .eq 35, 3) := by decide +kernel
theorem dX6_deal_8 : decode cX6_deal 8 = .ok (.iload_n 3, 1) := by decide +kernel
theorem dX6_deal_9 : decode cX6_deal 9 = .ok (.invokestatic 162, 3) := by decide +kernel
theorem dX6_deal_12 : decode cX6_deal 12 = .ok (.ifCond .eq 28, 3) := by decide +kernel
theorem dX6_deal_15 : decode cX6_deal 15 = .ok (.iload 4, 2) := by decide +kernel
theorem dX6_deal_17 : decode cX6_deal 17 = .ok (.invokestatic 162, 3) := by decide +kernel
theorem dX6_deal_20 : decode cX6_deal 20 = .ok (.ifCond .eq 20, 3) := by decide +kernel
theorem dX6_deal_23 : decode cX6_deal 23 = .ok (.iload_n 3, 1) := by decide +kernel
theorem dX6_deal_24 : decode cX6_deal 24 = .ok (.iload 4, 2) := by decide +kernel
theorem dX6_deal_26 : decode cX6_deal 26 = .ok (.if_icmp .eq 14, 3) := by decide +kernel
theorem dX6_deal_29 : decode cX6_deal 29 = .ok (.iload 5, 2) := by decide +kernel
theorem dX6_deal_31 : decode cX6_deal 31 = .ok (.iconst 1, 1) := by decide +kernel
theorem dX6_deal_32 : decode cX6_deal 32 = .ok (.bipush 64, 2) := by decide +kernel
theorem dX6_deal_34 : decode cX6_deal 34 = .ok (.invokestatic 101, 3) := by decide +kernel
theorem dX6_deal_37 : decode cX6_deal 37 = .ok (.ifCond .ne 5, 3) := by decide +kernel
theorem dX6_deal_40 : decode cX6_deal 40 = .ok (.iconst (-1), 1) := by decide +kernel
theorem dX6_deal_41 : decode cX6_deal 41 = .ok (.ireturn, 1) := by decide +kernel
theorem dX6_deal_42 : decode cX6_deal 42 = .ok (.aload_n 0, 1) := by decide +kernel
theorem dX6_deal_43 : decode cX6_deal 43 = .ok (.getfield 159, 3) := by decide +kernel
theorem dX6_deal_46 : decode cX6_deal 46 = .ok (.bipush 60, 2) := by decide +kernel
theorem dX6_deal_48 : decode cX6_deal 48 = .ok (.if_icmp .ne 8, 3) := by decide +kernel
theorem dX6_deal_51 : decode cX6_deal 51 = .ok (.bipush (-2), 2) := by decide +kernel
theorem dX6_deal_53 : decode cX6_deal 53 = .ok (.goto 16, 3) := by decide +kernel
theorem dX6_deal_56 : decode cX6_deal 56 = .ok (.aload_n 0, 1) := by decide +kernel
theorem dX6_deal_57 : decode cX6_deal 57 = .ok (.iload_n 1, 1) := by decide +kernel
theorem dX6_deal_58 : decode cX6_deal 58 = .ok (.iload_n 2, 1) := by decide +kernel
theorem dX6_deal_59 : decode cX6_deal 59 = .ok (.iload_n 3, 1) := by decide +kernel
theorem dX6_deal_60 : decode cX6_deal 60 = .ok (.iload 4, 2) := by decide +kernel
theorem dX6_deal_62 : decode cX6_deal 62 = .ok (.iload 5, 2) := by decide +kernel
theorem dX6_deal_64 : decode cX6_deal 64 = .ok (.bipush (-4), 2) := by decide +kernel
theorem dX6_deal_66 : decode cX6_deal 66 = .ok (.invokevirtual 165, 3) := by decide +kernel
theorem dX6_deal_69 : decode cX6_deal 69 = .ok (.ireturn, 1) := by decide +kernel
theorem dX6_sell_0 : decode cX6_sell 0 = .ok (.aload_n 0, 1) := by decide +kernel
theorem dX6_sell_1 : decode cX6_sell 1 = .ok (.iconst 0, 1) := by decide +kernel
theorem dX6_sell_2 : decode cX6_sell 2 = .ok (.iload_n 1, 1) := by decide +kernel
theorem dX6_sell_3 : decode cX6_sell 3 = .ok (.iload_n 2, 1) := by decide +kernel
theorem dX6_sell_4 : decode cX6_sell 4 = .ok (.iload_n 3, 1) := by decide +kernel
theorem dX6_sell_5 : decode cX6_sell 5 = .ok (.iload 4, 2) := by decide +kernel
theorem dX6_sell_7 : decode cX6_sell 7 = .ok (.invokevirtual 169, 3) := by decide +kernel
theorem dX6_sell_10 : decode cX6_sell 10 = .ok (.ireturn, 1) := by decide +kernel
theorem dX6_pledge_0 : decode cX6_pledge 0 = .ok (.aload_n 0, 1) := by decide +kernel
theorem dX6_pledge_1 : decode cX6_pledge 1 = .ok (.iconst 1, 1) := by decide +kernel
theorem dX6_pledge_2 : decode cX6_pledge 2 = .ok (.iload_n 1, 1) := by decide +kernel
theorem dX6_pledge_3 : decode cX6_pledge 3 = .ok (.iload_n 2, 1) := by decide +kernel
theorem dX6_pledge_4 : decode cX6_pledge 4 = .ok (.iload_n 3, 1) := by decide +kernel
theorem dX6_pledge_5 : decode cX6_pledge 5 = .ok (.iload 4, 2) := by decide +kernel
theorem dX6_pledge_7 : decode cX6_pledge 7 = .ok (.invokevirtual 169, 3) := by decide +kernel
theorem dX6_pledge_10 : decode cX6_pledge 10 = .ok (.ireturn, 1) := by decide +kernel
theorem dX6_redeem_0 : decode cX6_redeem 0 = .ok (.aload_n 0, 1) := by decide +kernel
theorem dX6_redeem_1 : decode cX6_redeem 1 = .ok (.iload_n 1, 1) := by decide +kernel
theorem dX6_redeem_2 : decode cX6_redeem 2 = .ok (.invokevirtual 172, 3) := by decide +kernel
theorem dX6_redeem_5 : decode cX6_redeem 5 = .ok (.ifCond .ne 5, 3) := by decide +kernel
theorem dX6_redeem_8 : decode cX6_redeem 8 = .ok (.iconst (-1), 1) := by decide +kernel
theorem dX6_redeem_9 : decode cX6_redeem 9 = .ok (.ireturn, 1) := by decide +kernel
theorem dX6_redeem_10 : decode cX6_redeem 10 = .ok (.aload_n 0, 1) := by decide +kernel
theorem dX6_redeem_11 : decode cX6_redeem 11 = .ok (.getfield 34, 3) := by decide +kernel
theorem dX6_redeem_14 : decode cX6_redeem 14 = .ok (.iload_n 1, 1) := by decide +kernel
theorem dX6_redeem_15 : decode cX6_redeem 15 = .ok (.iaload, 1) := by decide +kernel
theorem dX6_redeem_16 : decode cX6_redeem 16 = .ok (.iconst 1, 1) := by decide +kernel
theorem dX6_redeem_17 : decode cX6_redeem 17 = .ok (.if_icmp .eq 6, 3) := by decide +kernel
theorem dX6_redeem_20 : decode cX6_redeem 20 = .ok (.bipush (-5), 2) := by decide +kernel
theorem dX6_redeem_22 : decode cX6_redeem 22 = .ok (.ireturn, 1) := by decide +kernel
theorem dX6_redeem_23 : decode cX6_redeem 23 = .ok (.aload_n 0, 1) := by decide +kernel
theorem dX6_redeem_24 : decode cX6_redeem 24 = .ok (.getfield 159, 3) := by decide +kernel
theorem dX6_redeem_27 : decode cX6_redeem 27 = .ok (.bipush 60, 2) := by decide +kernel
theorem dX6_redeem_29 : decode cX6_redeem 29 = .ok (.if_icmp .ne 8, 3) := by decide +kernel
theorem dX6_redeem_32 : decode cX6_redeem 32 = .ok (.bipush (-2), 2) := by decide +kernel
theorem dX6_redeem_34 : decode cX6_redeem 34 = .ok (.goto 33, 3) := by decide +kernel
theorem dX6_redeem_37 : decode cX6_redeem 37 = .ok (.aload_n 0, 1) := by decide +kernel
theorem dX6_redeem_38 : decode cX6_redeem 38 = .ok (.iconst 2, 1) := by decide +kernel
theorem dX6_redeem_39 : decode cX6_redeem 39 = .ok (.aload_n 0, 1) := by decide +kernel
theorem dX6_redeem_40 : decode cX6_redeem 40 = .ok (.getfield 37, 3) := by decide +kernel
theorem dX6_redeem_43 : decode cX6_redeem 43 = .ok (.iload_n 1, 1) := by decide +kernel
theorem dX6_redeem_44 : decode cX6_redeem 44 = .ok (.iaload, 1) := by decide +kernel
theorem dX6_redeem_45 : decode cX6_redeem 45 = .ok (.aload_n 0, 1) := by decide +kernel
theorem dX6_redeem_46 : decode cX6_redeem 46 = .ok (.getfield 40, 3) := by decide +kernel
theorem dX6_redeem_49 : decode cX6_redeem 49 = .ok (.iload_n 1, 1) := by decide +kernel
theorem dX6_redeem_50 : decode cX6_redeem 50 = .ok (.iaload, 1) := by decide +kernel
theorem dX6_redeem_51 : decode cX6_redeem 51 = .ok (.aload_n 0, 1) := by decide +kernel
theorem dX6_redeem_52 : decode cX6_redeem 52 = .ok (.getfield 43, 3) := by decide +kernel
theorem dX6_redeem_55 : decode cX6_redeem 55 = .ok (.iload_n 1, 1) := by decide +kernel
theorem dX6_redeem_56 : decode cX6_redeem 56 = .ok (.iaload, 1) := by decide +kernel
theorem dX6_redeem_57 : decode cX6_redeem 57 = .ok (.aload_n 0, 1) := by decide +kernel
theorem dX6_redeem_58 : decode cX6_redeem 58 = .ok (.getfield 46, 3) := by decide +kernel
theorem dX6_redeem_61 : decode cX6_redeem 61 = .ok (.iload_n 1, 1) := by decide +kernel
theorem dX6_redeem_62 : decode cX6_redeem 62 = .ok (.iaload, 1) := by decide +kernel
theorem dX6_redeem_63 : decode cX6_redeem 63 = .ok (.iload_n 1, 1) := by decide +kernel
theorem dX6_redeem_64 : decode cX6_redeem 64 = .ok (.invokevirtual 165, 3) := by decide +kernel
theorem dX6_redeem_67 : decode cX6_redeem 67 = .ok (.ireturn, 1) := by decide +kernel
theorem dX6_forge_0 : decode cX6_forge 0 = .ok (.aload_n 0, 1) := by decide +kernel
theorem dX6_forge_1 : decode cX6_forge 1 = .ok (.iload_n 1, 1) := by decide +kernel
theorem dX6_forge_2 : decode cX6_forge 2 = .ok (.invokevirtual 172, 3) := by decide +kernel
theorem dX6_forge_5 : decode cX6_forge 5 = .ok (.ifCond .ne 5, 3) := by decide +kernel
theorem dX6_forge_8 : decode cX6_forge 8 = .ok (.iconst (-1), 1) := by decide +kernel
theorem dX6_forge_9 : decode cX6_forge 9 = .ok (.ireturn, 1) := by decide +kernel
theorem dX6_forge_10 : decode cX6_forge 10 = .ok (.aload_n 0, 1) := by decide +kernel
theorem dX6_forge_11 : decode cX6_forge 11 = .ok (.getfield 52, 3) := by decide +kernel
theorem dX6_forge_14 : decode cX6_forge 14 = .ok (.iload_n 1, 1) := by decide +kernel
theorem dX6_forge_15 : decode cX6_forge 15 = .ok (.baload, 1) := by decide +kernel
theorem dX6_forge_16 : decode cX6_forge 16 = .ok (.ifCond .eq 6, 3) := by decide +kernel
theorem dX6_forge_19 : decode cX6_forge 19 = .ok (.bipush (-3), 2) := by decide +kernel
theorem dX6_forge_21 : decode cX6_forge 21 = .ok (.ireturn, 1) := by decide +kernel
theorem dX6_forge_22 : decode cX6_forge 22 = .ok (.aload_n 0, 1) := by decide +kernel
theorem dX6_forge_23 : decode cX6_forge 23 = .ok (.getfield 52, 3) := by decide +kernel
theorem dX6_forge_26 : decode cX6_forge 26 = .ok (.iload_n 1, 1) := by decide +kernel
theorem dX6_forge_27 : decode cX6_forge 27 = .ok (.iconst 1, 1) := by decide +kernel
theorem dX6_forge_28 : decode cX6_forge 28 = .ok (.bastore, 1) := by decide +kernel
theorem dX6_forge_29 : decode cX6_forge 29 = .ok (.iconst 1, 1) := by decide +kernel
theorem dX6_forge_30 : decode cX6_forge 30 = .ok (.ireturn, 1) := by decide +kernel
theorem dX6_goThrough_0 : decode cX6_goThrough 0 = .ok (.iconst 0, 1) := by decide +kernel
theorem dX6_goThrough_1 : decode cX6_goThrough 1 = .ok (.istore_n 1, 1) := by decide +kernel
theorem dX6_goThrough_2 : decode cX6_goThrough 2 = .ok (.iload_n 1, 1) := by decide +kernel
theorem dX6_goThrough_3 : decode cX6_goThrough 3 = .ok (.bipush 40, 2) := by decide +kernel
theorem dX6_goThrough_5 : decode cX6_goThrough 5 = .ok (.if_icmp .ge 35, 3) := by decide +kernel
theorem dX6_goThrough_8 : decode cX6_goThrough 8 = .ok (.aload_n 0, 1) := by decide +kernel
theorem dX6_goThrough_9 : decode cX6_goThrough 9 = .ok (.getfield 71, 3) := by decide +kernel
theorem dX6_goThrough_12 : decode cX6_goThrough 12 = .ok (.iload_n 1, 1) := by decide +kernel
theorem dX6_goThrough_13 : decode cX6_goThrough 13 = .ok (.iload_n 1, 1) := by decide +kernel
theorem dX6_goThrough_14 : decode cX6_goThrough 14 = .ok (.bipush 8, 2) := by decide +kernel
theorem dX6_goThrough_16 : decode cX6_goThrough 16 = .ok (.irem, 1) := by decide +kernel
theorem dX6_goThrough_17 : decode cX6_goThrough 17 = .ok (.ifCond .ne 8, 3) := by decide +kernel
theorem dX6_goThrough_20 : decode cX6_goThrough 20 = .ok (.bipush 64, 2) := by decide +kernel
theorem dX6_goThrough_22 : decode cX6_goThrough 22 = .ok (.goto 4, 3) := by decide +kernel
theorem dX6_goThrough_25 : decode cX6_goThrough 25 = .ok (.iconst 0, 1) := by decide +kernel
theorem dX6_goThrough_26 : decode cX6_goThrough 26 = .ok (.iastore, 1) := by decide +kernel
theorem dX6_goThrough_27 : decode cX6_goThrough 27 = .ok (.aload_n 0, 1) := by decide +kernel
theorem dX6_goThrough_28 : decode cX6_goThrough 28 = .ok (.getfield 74, 3) := by decide +kernel
theorem dX6_goThrough_31 : decode cX6_goThrough 31 = .ok (.iload_n 1, 1) := by decide +kernel
theorem dX6_goThrough_32 : decode cX6_goThrough 32 = .ok (.iconst 0, 1) := by decide +kernel
theorem dX6_goThrough_33 : decode cX6_goThrough 33 = .ok (.iastore, 1) := by decide +kernel
theorem dX6_goThrough_34 : decode cX6_goThrough 34 = .ok (.iinc 1 1, 3) := by decide +kernel
theorem dX6_goThrough_37 : decode cX6_goThrough 37 = .ok (.goto (-35), 3) := by decide +kernel
theorem dX6_goThrough_40 : decode cX6_goThrough 40 = .ok (.iconst 0, 1) := by decide +kernel
theorem dX6_goThrough_41 : decode cX6_goThrough 41 = .ok (.istore_n 1, 1) := by decide +kernel
theorem dX6_goThrough_42 : decode cX6_goThrough 42 = .ok (.iload_n 1, 1) := by decide +kernel
theorem dX6_goThrough_43 : decode cX6_goThrough 43 = .ok (.aload_n 0, 1) := by decide +kernel
theorem dX6_goThrough_44 : decode cX6_goThrough 44 = .ok (.getfield 159, 3) := by decide +kernel
theorem dX6_goThrough_47 : decode cX6_goThrough 47 = .ok (.if_icmp .ge 37, 3) := by decide +kernel
theorem dX6_goThrough_50 : decode cX6_goThrough 50 = .ok (.aload_n 0, 1) := by decide +kernel
theorem dX6_goThrough_51 : decode cX6_goThrough 51 = .ok (.getfield 77, 3) := by decide +kernel
theorem dX6_goThrough_54 : decode cX6_goThrough 54 = .ok (.iload_n 1, 1) := by decide +kernel
theorem dX6_goThrough_55 : decode cX6_goThrough 55 = .ok (.iconst 0, 1) := by decide +kernel
theorem dX6_goThrough_56 : decode cX6_goThrough 56 = .ok (.bastore, 1) := by decide +kernel
theorem dX6_goThrough_57 : decode cX6_goThrough 57 = .ok (.aload_n 0, 1) := by decide +kernel
theorem dX6_goThrough_58 : decode cX6_goThrough 58 = .ok (.getfield 80, 3) := by decide +kernel
theorem dX6_goThrough_61 : decode cX6_goThrough 61 = .ok (.iload_n 1, 1) := by decide +kernel
theorem dX6_goThrough_62 : decode cX6_goThrough 62 = .ok (.iconst 0, 1) := by decide +kernel
theorem dX6_goThrough_63 : decode cX6_goThrough 63 = .ok (.bastore, 1) := by decide +kernel
theorem dX6_goThrough_64 : decode cX6_goThrough 64 = .ok (.aload_n 0, 1) := by decide +kernel
theorem dX6_goThrough_65 : decode cX6_goThrough 65 = .ok (.getfield 52, 3) := by decide +kernel
theorem dX6_goThrough_68 : decode cX6_goThrough 68 = .ok (.iload_n 1, 1) := by decide +kernel
theorem dX6_goThrough_69 : decode cX6_goThrough 69 = .ok (.baload, 1) := by decide +kernel
theorem dX6_goThrough_70 : decode cX6_goThrough 70 = .ok (.ifCond .ne 8, 3) := by decide +kernel
theorem dX6_goThrough_73 : decode cX6_goThrough 73 = .ok (.aload_n 0, 1) := by decide +kernel
theorem dX6_goThrough_74 : decode cX6_goThrough 74 = .ok (.iload_n 1, 1) := by decide +kernel
theorem dX6_goThrough_75 : decode cX6_goThrough 75 = .ok (.invokevirtual 175, 3) := by decide +kernel
theorem dX6_goThrough_78 : decode cX6_goThrough 78 = .ok (.iinc 1 1, 3) := by decide +kernel
theorem dX6_goThrough_81 : decode cX6_goThrough 81 = .ok (.goto (-39), 3) := by decide +kernel
theorem dX6_goThrough_84 : decode cX6_goThrough 84 = .ok (.return_, 1) := by decide +kernel
theorem dX6_does_0 : decode cX6_does 0 = .ok (.bipush 8, 2) := by decide +kernel
theorem dX6_does_2 : decode cX6_does 2 = .ok (.aload_n 0, 1) := by decide +kernel
theorem dX6_does_3 : decode cX6_does 3 = .ok (.getfield 37, 3) := by decide +kernel
theorem dX6_does_6 : decode cX6_does 6 = .ok (.iload_n 1, 1) := by decide +kernel
theorem dX6_does_7 : decode cX6_does 7 = .ok (.iaload, 1) := by decide +kernel
theorem dX6_does_8 : decode cX6_does 8 = .ok (.imul, 1) := by decide +kernel
theorem dX6_does_9 : decode cX6_does 9 = .ok (.aload_n 0, 1) := by decide +kernel
theorem dX6_does_10 : decode cX6_does 10 = .ok (.getfield 40, 3) := by decide +kernel
theorem dX6_does_13 : decode cX6_does 13 = .ok (.iload_n 1, 1) := by decide +kernel
theorem dX6_does_14 : decode cX6_does 14 = .ok (.iaload, 1) := by decide +kernel
theorem dX6_does_15 : decode cX6_does 15 = .ok (.iadd, 1) := by decide +kernel
theorem dX6_does_16 : decode cX6_does 16 = .ok (.istore_n 2, 1) := by decide +kernel
theorem dX6_does_17 : decode cX6_does 17 = .ok (.aload_n 0, 1) := by decide +kernel
theorem dX6_does_18 : decode cX6_does 18 = .ok (.getfield 46, 3) := by decide +kernel
theorem dX6_does_21 : decode cX6_does 21 = .ok (.iload_n 1, 1) := by decide +kernel
theorem dX6_does_22 : decode cX6_does 22 = .ok (.iaload, 1) := by decide +kernel
theorem dX6_does_23 : decode cX6_does 23 = .ok (.istore_n 3, 1) := by decide +kernel
theorem dX6_does_24 : decode cX6_does 24 = .ok (.aload_n 0, 1) := by decide +kernel
theorem dX6_does_25 : decode cX6_does 25 = .ok (.getfield 34, 3) := by decide +kernel
theorem dX6_does_28 : decode cX6_does 28 = .ok (.iload_n 1, 1) := by decide +kernel
theorem dX6_does_29 : decode cX6_does 29 = .ok (.iaload, 1) := by decide +kernel
theorem dX6_does_30 : decode cX6_does 30 = .ok (.iconst 2, 1) := by decide +kernel
theorem dX6_does_31 : decode cX6_does 31 = .ok (.if_icmp .ne 61, 3) := by decide +kernel
theorem dX6_does_34 : decode cX6_does 34 = .ok (.aload_n 0, 1) := by decide +kernel
theorem dX6_does_35 : decode cX6_does 35 = .ok (.getfield 49, 3) := by decide +kernel
theorem dX6_does_38 : decode cX6_does 38 = .ok (.iload_n 1, 1) := by decide +kernel
theorem dX6_does_39 : decode cX6_does 39 = .ok (.iaload, 1) := by decide +kernel
theorem dX6_does_40 : decode cX6_does 40 = .ok (.istore 4, 2) := by decide +kernel
theorem dX6_does_42 : decode cX6_does 42 = .ok (.aload_n 0, 1) := by decide +kernel
theorem dX6_does_43 : decode cX6_does 43 = .ok (.getfield 80, 3) := by decide +kernel
theorem dX6_does_46 : decode cX6_does 46 = .ok (.iload_n 1, 1) := by decide +kernel
theorem dX6_does_47 : decode cX6_does 47 = .ok (.aload_n 0, 1) := by decide +kernel
theorem dX6_does_48 : decode cX6_does 48 = .ok (.getfield 77, 3) := by decide +kernel
theorem dX6_does_51 : decode cX6_does 51 = .ok (.iload 4, 2) := by decide +kernel
theorem dX6_does_53 : decode cX6_does 53 = .ok (.baload, 1) := by decide +kernel
theorem dX6_does_54 : decode cX6_does 54 = .ok (.ifCond .ne 7, 3) := by decide +kernel
theorem dX6_does_57 : decode cX6_does 57 = .ok (.iconst 1, 1) := by decide +kernel
theorem dX6_does_58 : decode cX6_does 58 = .ok (.goto 4, 3) := by decide +kernel
theorem dX6_does_61 : decode cX6_does 61 = .ok (.iconst 0, 1) := by decide +kernel
theorem dX6_does_62 : decode cX6_does 62 = .ok (.bastore, 1) := by decide +kernel
theorem dX6_does_63 : decode cX6_does 63 = .ok (.aload_n 0, 1) := by decide +kernel
theorem dX6_does_64 : decode cX6_does 64 = .ok (.getfield 77, 3) := by decide +kernel
theorem dX6_does_67 : decode cX6_does 67 = .ok (.iload 4, 2) := by decide +kernel
theorem dX6_does_69 : decode cX6_does 69 = .ok (.baload, 1) := by decide +kernel
theorem dX6_does_70 : decode cX6_does 70 = .ok (.ifCond .eq 21, 3) := by decide +kernel
theorem dX6_does_73 : decode cX6_does 73 = .ok (.aload_n 0, 1) := by decide +kernel
theorem dX6_does_74 : decode cX6_does 74 = .ok (.getfield 77, 3) := by decide +kernel
theorem dX6_does_77 : decode cX6_does 77 = .ok (.iload 4, 2) := by decide +kernel
theorem dX6_does_79 : decode cX6_does 79 = .ok (.iconst 0, 1) := by decide +kernel
theorem dX6_does_80 : decode cX6_does 80 = .ok (.bastore, 1) := by decide +kernel
theorem dX6_does_81 : decode cX6_does 81 = .ok (.aload_n 0, 1) := by decide +kernel
theorem dX6_does_82 : decode cX6_does 82 = .ok (.getfield 74, 3) := by decide +kernel
theorem dX6_does_85 : decode cX6_does 85 = .ok (.iload_n 2, 1) := by decide +kernel
theorem dX6_does_86 : decode cX6_does 86 = .ok (.dup2, 1) := by decide +kernel
theorem dX6_does_87 : decode cX6_does 87 = .ok (.iaload, 1) := by decide +kernel
theorem dX6_does_88 : decode cX6_does 88 = .ok (.iload_n 3, 1) := by decide +kernel
theorem dX6_does_89 : decode cX6_does 89 = .ok (.isub, 1) := by decide +kernel
theorem dX6_does_90 : decode cX6_does 90 = .ok (.iastore, 1) := by decide +kernel
theorem dX6_does_91 : decode cX6_does 91 = .ok (.return_, 1) := by decide +kernel
theorem dX6_does_92 : decode cX6_does 92 = .ok (.aload_n 0, 1) := by decide +kernel
theorem dX6_does_93 : decode cX6_does 93 = .ok (.getfield 71, 3) := by decide +kernel
theorem dX6_does_96 : decode cX6_does 96 = .ok (.iload_n 2, 1) := by decide +kernel
theorem dX6_does_97 : decode cX6_does 97 = .ok (.iaload, 1) := by decide +kernel
theorem dX6_does_98 : decode cX6_does 98 = .ok (.aload_n 0, 1) := by decide +kernel
theorem dX6_does_99 : decode cX6_does 99 = .ok (.getfield 74, 3) := by decide +kernel
theorem dX6_does_102 : decode cX6_does 102 = .ok (.iload_n 2, 1) := by decide +kernel
theorem dX6_does_103 : decode cX6_does 103 = .ok (.iaload, 1) := by decide +kernel
theorem dX6_does_104 : decode cX6_does 104 = .ok (.isub, 1) := by decide +kernel
theorem dX6_does_105 : decode cX6_does 105 = .ok (.iload_n 3, 1) := by decide +kernel
theorem dX6_does_106 : decode cX6_does 106 = .ok (.if_icmp .ge 13, 3) := by decide +kernel
theorem dX6_does_109 : decode cX6_does 109 = .ok (.aload_n 0, 1) := by decide +kernel
theorem dX6_does_110 : decode cX6_does 110 = .ok (.getfield 80, 3) := by decide +kernel
theorem dX6_does_113 : decode cX6_does 113 = .ok (.iload_n 1, 1) := by decide +kernel
theorem dX6_does_114 : decode cX6_does 114 = .ok (.iconst 1, 1) := by decide +kernel
theorem dX6_does_115 : decode cX6_does 115 = .ok (.bastore, 1) := by decide +kernel
theorem dX6_does_116 : decode cX6_does 116 = .ok (.goto 67, 3) := by decide +kernel
theorem dX6_does_119 : decode cX6_does 119 = .ok (.aload_n 0, 1) := by decide +kernel
theorem dX6_does_120 : decode cX6_does 120 = .ok (.getfield 34, 3) := by decide +kernel
theorem dX6_does_123 : decode cX6_does 123 = .ok (.iload_n 1, 1) := by decide +kernel
theorem dX6_does_124 : decode cX6_does 124 = .ok (.iaload, 1) := by decide +kernel
theorem dX6_does_125 : decode cX6_does 125 = .ok (.ifCond .ne 41, 3) := by decide +kernel
theorem dX6_does_128 : decode cX6_does 128 = .ok (.aload_n 0, 1) := by decide +kernel
theorem dX6_does_129 : decode cX6_does 129 = .ok (.getfield 71, 3) := by decide +kernel
theorem dX6_does_132 : decode cX6_does 132 = .ok (.iload_n 2, 1) := by decide +kernel
theorem dX6_does_133 : decode cX6_does 133 = .ok (.dup2, 1) := by decide +kernel
theorem dX6_does_134 : decode cX6_does 134 = .ok (.iaload, 1) := by decide +kernel
theorem dX6_does_135 : decode cX6_does 135 = .ok (.iload_n 3, 1) := by decide +kernel
theorem dX6_does_136 : decode cX6_does 136 = .ok (.isub, 1) := by decide +kernel
theorem dX6_does_137 : decode cX6_does 137 = .ok (.iastore, 1) := by decide +kernel
theorem dX6_does_138 : decode cX6_does 138 = .ok (.aload_n 0, 1) := by decide +kernel
theorem dX6_does_139 : decode cX6_does 139 = .ok (.getfield 71, 3) := by decide +kernel
theorem dX6_does_142 : decode cX6_does 142 = .ok (.bipush 8, 2) := by decide +kernel
theorem dX6_does_144 : decode cX6_does 144 = .ok (.aload_n 0, 1) := by decide +kernel
theorem dX6_does_145 : decode cX6_does 145 = .ok (.getfield 37, 3) := by decide +kernel
theorem dX6_does_148 : decode cX6_does 148 = .ok (.iload_n 1, 1) := by decide +kernel
theorem dX6_does_149 : decode cX6_does 149 = .ok (.iaload, 1) := by decide +kernel
theorem dX6_does_150 : decode cX6_does 150 = .ok (.imul, 1) := by decide +kernel
theorem dX6_does_151 : decode cX6_does 151 = .ok (.aload_n 0, 1) := by decide +kernel
theorem dX6_does_152 : decode cX6_does 152 = .ok (.getfield 43, 3) := by decide +kernel
theorem dX6_does_155 : decode cX6_does 155 = .ok (.iload_n 1, 1) := by decide +kernel
theorem dX6_does_156 : decode cX6_does 156 = .ok (.iaload, 1) := by decide +kernel
theorem dX6_does_157 : decode cX6_does 157 = .ok (.iadd, 1) := by decide +kernel
theorem dX6_does_158 : decode cX6_does 158 = .ok (.dup2, 1) := by decide +kernel
theorem dX6_does_159 : decode cX6_does 159 = .ok (.iaload, 1) := by decide +kernel
theorem dX6_does_160 : decode cX6_does 160 = .ok (.iload_n 3, 1) := by decide +kernel
theorem dX6_does_161 : decode cX6_does 161 = .ok (.iadd, 1) := by decide +kernel
theorem dX6_does_162 : decode cX6_does 162 = .ok (.iastore, 1) := by decide +kernel
theorem dX6_does_163 : decode cX6_does 163 = .ok (.goto 20, 3) := by decide +kernel
theorem dX6_does_166 : decode cX6_does 166 = .ok (.aload_n 0, 1) := by decide +kernel
theorem dX6_does_167 : decode cX6_does 167 = .ok (.getfield 77, 3) := by decide +kernel
theorem dX6_does_170 : decode cX6_does 170 = .ok (.iload_n 1, 1) := by decide +kernel
theorem dX6_does_171 : decode cX6_does 171 = .ok (.iconst 1, 1) := by decide +kernel
theorem dX6_does_172 : decode cX6_does 172 = .ok (.bastore, 1) := by decide +kernel
theorem dX6_does_173 : decode cX6_does 173 = .ok (.aload_n 0, 1) := by decide +kernel
theorem dX6_does_174 : decode cX6_does 174 = .ok (.getfield 74, 3) := by decide +kernel
theorem dX6_does_177 : decode cX6_does 177 = .ok (.iload_n 2, 1) := by decide +kernel
theorem dX6_does_178 : decode cX6_does 178 = .ok (.dup2, 1) := by decide +kernel
theorem dX6_does_179 : decode cX6_does 179 = .ok (.iaload, 1) := by decide +kernel
theorem dX6_does_180 : decode cX6_does 180 = .ok (.iload_n 3, 1) := by decide +kernel
theorem dX6_does_181 : decode cX6_does 181 = .ok (.iadd, 1) := by decide +kernel
theorem dX6_does_182 : decode cX6_does 182 = .ok (.iastore, 1) := by decide +kernel
theorem dX6_does_183 : decode cX6_does 183 = .ok (.return_, 1) := by decide +kernel
theorem dX6_rankOf_0 : decode cX6_rankOf 0 = .ok (.aload_n 0, 1) := by decide +kernel
theorem dX6_rankOf_1 : decode cX6_rankOf 1 = .ok (.getfield 77, 3) := by decide +kernel
theorem dX6_rankOf_4 : decode cX6_rankOf 4 = .ok (.iload_n 1, 1) := by decide +kernel
theorem dX6_rankOf_5 : decode cX6_rankOf 5 = .ok (.baload, 1) := by decide +kernel
theorem dX6_rankOf_6 : decode cX6_rankOf 6 = .ok (.ifCond .ne 6, 3) := by decide +kernel
theorem dX6_rankOf_9 : decode cX6_rankOf 9 = .ok (.bipush (-4), 2) := by decide +kernel
theorem dX6_rankOf_11 : decode cX6_rankOf 11 = .ok (.ireturn, 1) := by decide +kernel
theorem dX6_rankOf_12 : decode cX6_rankOf 12 = .ok (.iconst 0, 1) := by decide +kernel
theorem dX6_rankOf_13 : decode cX6_rankOf 13 = .ok (.istore_n 2, 1) := by decide +kernel
theorem dX6_rankOf_14 : decode cX6_rankOf 14 = .ok (.iconst 0, 1) := by decide +kernel
theorem dX6_rankOf_15 : decode cX6_rankOf 15 = .ok (.istore_n 3, 1) := by decide +kernel
theorem dX6_rankOf_16 : decode cX6_rankOf 16 = .ok (.iload_n 3, 1) := by decide +kernel
theorem dX6_rankOf_17 : decode cX6_rankOf 17 = .ok (.iload_n 1, 1) := by decide +kernel
theorem dX6_rankOf_18 : decode cX6_rankOf 18 = .ok (.if_icmp .ge 56, 3) := by decide +kernel
theorem dX6_rankOf_21 : decode cX6_rankOf 21 = .ok (.iload_n 2, 1) := by decide +kernel
theorem dX6_rankOf_22 : decode cX6_rankOf 22 = .ok (.aload_n 0, 1) := by decide +kernel
theorem dX6_rankOf_23 : decode cX6_rankOf 23 = .ok (.getfield 77, 3) := by decide +kernel
theorem dX6_rankOf_26 : decode cX6_rankOf 26 = .ok (.iload_n 3, 1) := by decide +kernel
theorem dX6_rankOf_27 : decode cX6_rankOf 27 = .ok (.baload, 1) := by decide +kernel
theorem dX6_rankOf_28 : decode cX6_rankOf 28 = .ok (.ifCond .eq 37, 3) := by decide +kernel
theorem dX6_rankOf_31 : decode cX6_rankOf 31 = .ok (.aload_n 0, 1) := by decide +kernel
theorem dX6_rankOf_32 : decode cX6_rankOf 32 = .ok (.getfield 37, 3) := by decide +kernel
theorem dX6_rankOf_35 : decode cX6_rankOf 35 = .ok (.iload_n 3, 1) := by decide +kernel
theorem dX6_rankOf_36 : decode cX6_rankOf 36 = .ok (.iaload, 1) := by decide +kernel
theorem dX6_rankOf_37 : decode cX6_rankOf 37 = .ok (.aload_n 0, 1) := by decide +kernel
theorem dX6_rankOf_38 : decode cX6_rankOf 38 = .ok (.getfield 37, 3) := by decide +kernel
theorem dX6_rankOf_41 : decode cX6_rankOf 41 = .ok (.iload_n 1, 1) := by decide +kernel
theorem dX6_rankOf_42 : decode cX6_rankOf 42 = .ok (.iaload, 1) := by decide +kernel
theorem dX6_rankOf_43 : decode cX6_rankOf 43 = .ok (.if_icmp .ne 22, 3) := by decide +kernel
theorem dX6_rankOf_46 : decode cX6_rankOf 46 = .ok (.aload_n 0, 1) := by decide +kernel
theorem dX6_rankOf_47 : decode cX6_rankOf 47 = .ok (.getfield 40, 3) := by decide +kernel
theorem dX6_rankOf_50 : decode cX6_rankOf 50 = .ok (.iload_n 3, 1) := by decide +kernel
theorem dX6_rankOf_51 : decode cX6_rankOf 51 = .ok (.iaload, 1) := by decide +kernel
theorem dX6_rankOf_52 : decode cX6_rankOf 52 = .ok (.aload_n 0, 1) := by decide +kernel
theorem dX6_rankOf_53 : decode cX6_rankOf 53 = .ok (.getfield 40, 3) := by decide +kernel
theorem dX6_rankOf_56 : decode cX6_rankOf 56 = .ok (.iload_n 1, 1) := by decide +kernel
theorem dX6_rankOf_57 : decode cX6_rankOf 57 = .ok (.iaload, 1) := by decide +kernel
theorem dX6_rankOf_58 : decode cX6_rankOf 58 = .ok (.if_icmp .ne 7, 3) := by decide +kernel
theorem dX6_rankOf_61 : decode cX6_rankOf 61 = .ok (.iconst 1, 1) := by decide +kernel
theorem dX6_rankOf_62 : decode cX6_rankOf 62 = .ok (.goto 4, 3) := by decide +kernel
theorem dX6_rankOf_65 : decode cX6_rankOf 65 = .ok (.iconst 0, 1) := by decide +kernel
theorem dX6_rankOf_66 : decode cX6_rankOf 66 = .ok (.iadd, 1) := by decide +kernel
theorem dX6_rankOf_67 : decode cX6_rankOf 67 = .ok (.istore_n 2, 1) := by decide +kernel
theorem dX6_rankOf_68 : decode cX6_rankOf 68 = .ok (.iinc 3 1, 3) := by decide +kernel
theorem dX6_rankOf_71 : decode cX6_rankOf 71 = .ok (.goto (-55), 3) := by decide +kernel
theorem dX6_rankOf_74 : decode cX6_rankOf 74 = .ok (.iload_n 2, 1) := by decide +kernel
theorem dX6_rankOf_75 : decode cX6_rankOf 75 = .ok (.ireturn, 1) := by decide +kernel
theorem dX6_entry_0 : decode cX6_entry 0 = .ok (.aload_n 0, 1) := by decide +kernel
theorem dX6_entry_1 : decode cX6_entry 1 = .ok (.iload_n 1, 1) := by decide +kernel
theorem dX6_entry_2 : decode cX6_entry 2 = .ok (.invokevirtual 172, 3) := by decide +kernel
theorem dX6_entry_5 : decode cX6_entry 5 = .ok (.ifCond .ne 5, 3) := by decide +kernel
theorem dX6_entry_8 : decode cX6_entry 8 = .ok (.iconst (-1), 1) := by decide +kernel
theorem dX6_entry_9 : decode cX6_entry 9 = .ok (.ireturn, 1) := by decide +kernel
theorem dX6_entry_10 : decode cX6_entry 10 = .ok (.aload_n 0, 1) := by decide +kernel
theorem dX6_entry_11 : decode cX6_entry 11 = .ok (.invokevirtual 178, 3) := by decide +kernel
theorem dX6_entry_14 : decode cX6_entry 14 = .ok (.iload_n 2, 1) := by decide +kernel
theorem dX6_entry_15 : decode cX6_entry 15 = .ok (.tableswitch 127 0 8 #[49, 56, 63, 70, 77, 84, 99, 114, 120], 49) := by decide +kernel
theorem dX6_entry_64 : decode cX6_entry 64 = .ok (.aload_n 0, 1) := by decide +kernel
theorem dX6_entry_65 : decode cX6_entry 65 = .ok (.getfield 34, 3) := by decide +kernel
theorem dX6_entry_68 : decode cX6_entry 68 = .ok (.iload_n 1, 1) := by decide +kernel
theorem dX6_entry_69 : decode cX6_entry 69 = .ok (.iaload, 1) := by decide +kernel
theorem dX6_entry_70 : decode cX6_entry 70 = .ok (.ireturn, 1) := by decide +kernel
theorem dX6_entry_71 : decode cX6_entry 71 = .ok (.aload_n 0, 1) := by decide +kernel
theorem dX6_entry_72 : decode cX6_entry 72 = .ok (.getfield 37, 3) := by decide +kernel
theorem dX6_entry_75 : decode cX6_entry 75 = .ok (.iload_n 1, 1) := by decide +kernel
theorem dX6_entry_76 : decode cX6_entry 76 = .ok (.iaload, 1) := by decide +kernel
theorem dX6_entry_77 : decode cX6_entry 77 = .ok (.ireturn, 1) := by decide +kernel
theorem dX6_entry_78 : decode cX6_entry 78 = .ok (.aload_n 0, 1) := by decide +kernel
theorem dX6_entry_79 : decode cX6_entry 79 = .ok (.getfield 40, 3) := by decide +kernel
theorem dX6_entry_82 : decode cX6_entry 82 = .ok (.iload_n 1, 1) := by decide +kernel
theorem dX6_entry_83 : decode cX6_entry 83 = .ok (.iaload, 1) := by decide +kernel
theorem dX6_entry_84 : decode cX6_entry 84 = .ok (.ireturn, 1) := by decide +kernel
theorem dX6_entry_85 : decode cX6_entry 85 = .ok (.aload_n 0, 1) := by decide +kernel
theorem dX6_entry_86 : decode cX6_entry 86 = .ok (.getfield 43, 3) := by decide +kernel
theorem dX6_entry_89 : decode cX6_entry 89 = .ok (.iload_n 1, 1) := by decide +kernel
theorem dX6_entry_90 : decode cX6_entry 90 = .ok (.iaload, 1) := by decide +kernel
theorem dX6_entry_91 : decode cX6_entry 91 = .ok (.ireturn, 1) := by decide +kernel
theorem dX6_entry_92 : decode cX6_entry 92 = .ok (.aload_n 0, 1) := by decide +kernel
theorem dX6_entry_93 : decode cX6_entry 93 = .ok (.getfield 46, 3) := by decide +kernel
theorem dX6_entry_96 : decode cX6_entry 96 = .ok (.iload_n 1, 1) := by decide +kernel
theorem dX6_entry_97 : decode cX6_entry 97 = .ok (.iaload, 1) := by decide +kernel
theorem dX6_entry_98 : decode cX6_entry 98 = .ok (.ireturn, 1) := by decide +kernel
theorem dX6_entry_99 : decode cX6_entry 99 = .ok (.aload_n 0, 1) := by decide +kernel
theorem dX6_entry_100 : decode cX6_entry 100 = .ok (.getfield 52, 3) := by decide +kernel
theorem dX6_entry_103 : decode cX6_entry 103 = .ok (.iload_n 1, 1) := by decide +kernel
theorem dX6_entry_104 : decode cX6_entry 104 = .ok (.baload, 1) := by decide +kernel
theorem dX6_entry_105 : decode cX6_entry 105 = .ok (.ifCond .eq 7, 3) := by decide +kernel
theorem dX6_entry_108 : decode cX6_entry 108 = .ok (.iconst 1, 1) := by decide +kernel
theorem dX6_entry_109 : decode cX6_entry 109 = .ok (.goto 4, 3) := by decide +kernel
theorem dX6_entry_112 : decode cX6_entry 112 = .ok (.iconst 0, 1) := by decide +kernel
theorem dX6_entry_113 : decode cX6_entry 113 = .ok (.ireturn, 1) := by decide +kernel
theorem dX6_entry_114 : decode cX6_entry 114 = .ok (.aload_n 0, 1) := by decide +kernel
theorem dX6_entry_115 : decode cX6_entry 115 = .ok (.getfield 80, 3) := by decide +kernel
theorem dX6_entry_118 : decode cX6_entry 118 = .ok (.iload_n 1, 1) := by decide +kernel
theorem dX6_entry_119 : decode cX6_entry 119 = .ok (.baload, 1) := by decide +kernel
theorem dX6_entry_120 : decode cX6_entry 120 = .ok (.ifCond .eq 7, 3) := by decide +kernel
theorem dX6_entry_123 : decode cX6_entry 123 = .ok (.iconst 1, 1) := by decide +kernel
theorem dX6_entry_124 : decode cX6_entry 124 = .ok (.goto 4, 3) := by decide +kernel
theorem dX6_entry_127 : decode cX6_entry 127 = .ok (.iconst 0, 1) := by decide +kernel
theorem dX6_entry_128 : decode cX6_entry 128 = .ok (.ireturn, 1) := by decide +kernel
theorem dX6_entry_129 : decode cX6_entry 129 = .ok (.aload_n 0, 1) := by decide +kernel
theorem dX6_entry_130 : decode cX6_entry 130 = .ok (.iload_n 1, 1) := by decide +kernel
theorem dX6_entry_131 : decode cX6_entry 131 = .ok (.invokevirtual 181, 3) := by decide +kernel
theorem dX6_entry_134 : decode cX6_entry 134 = .ok (.ireturn, 1) := by decide +kernel
theorem dX6_entry_135 : decode cX6_entry 135 = .ok (.aload_n 0, 1) := by decide +kernel
theorem dX6_entry_136 : decode cX6_entry 136 = .ok (.getfield 49, 3) := by decide +kernel
theorem dX6_entry_139 : decode cX6_entry 139 = .ok (.iload_n 1, 1) := by decide +kernel
theorem dX6_entry_140 : decode cX6_entry 140 = .ok (.iaload, 1) := by decide +kernel
theorem dX6_entry_141 : decode cX6_entry 141 = .ok (.ireturn, 1) := by decide +kernel
theorem dX6_entry_142 : decode cX6_entry 142 = .ok (.iconst (-1), 1) := by decide +kernel
theorem dX6_entry_143 : decode cX6_entry 143 = .ok (.ireturn, 1) := by decide +kernel
theorem dX6_parts_0 : decode cX6_parts 0 = .ok (.aload_n 0, 1) := by decide +kernel
theorem dX6_parts_1 : decode cX6_parts 1 = .ok (.iload_n 1, 1) := by decide +kernel
theorem dX6_parts_2 : decode cX6_parts 2 = .ok (.invokevirtual 156, 3) := by decide +kernel
theorem dX6_parts_5 : decode cX6_parts 5 = .ok (.ifCond .eq 10, 3) := by decide +kernel
theorem dX6_parts_8 : decode cX6_parts 8 = .ok (.iload_n 2, 1) := by decide +kernel
theorem dX6_parts_9 : decode cX6_parts 9 = .ok (.invokestatic 162, 3) := by decide +kernel
theorem dX6_parts_12 : decode cX6_parts 12 = .ok (.ifCond .ne 5, 3) := by decide +kernel
theorem dX6_parts_15 : decode cX6_parts 15 = .ok (.iconst (-1), 1) := by decide +kernel
theorem dX6_parts_16 : decode cX6_parts 16 = .ok (.ireturn, 1) := by decide +kernel
theorem dX6_parts_17 : decode cX6_parts 17 = .ok (.aload_n 0, 1) := by decide +kernel
theorem dX6_parts_18 : decode cX6_parts 18 = .ok (.invokevirtual 178, 3) := by decide +kernel
theorem dX6_parts_21 : decode cX6_parts 21 = .ok (.bipush 8, 2) := by decide +kernel
theorem dX6_parts_23 : decode cX6_parts 23 = .ok (.iload_n 1, 1) := by decide +kernel
theorem dX6_parts_24 : decode cX6_parts 24 = .ok (.imul, 1) := by decide +kernel
theorem dX6_parts_25 : decode cX6_parts 25 = .ok (.iload_n 2, 1) := by decide +kernel
theorem dX6_parts_26 : decode cX6_parts 26 = .ok (.iadd, 1) := by decide +kernel
theorem dX6_parts_27 : decode cX6_parts 27 = .ok (.istore 4, 2) := by decide +kernel
theorem dX6_parts_29 : decode cX6_parts 29 = .ok (.iload_n 3, 1) := by decide +kernel
theorem dX6_parts_30 : decode cX6_parts 30 = .ok (.ifCond .eq 21, 3) := by decide +kernel
theorem dX6_parts_33 : decode cX6_parts 33 = .ok (.aload_n 0, 1) := by decide +kernel
theorem dX6_parts_34 : decode cX6_parts 34 = .ok (.getfield 71, 3) := by decide +kernel
theorem dX6_parts_37 : decode cX6_parts 37 = .ok (.iload 4, 2) := by decide +kernel
theorem dX6_parts_39 : decode cX6_parts 39 = .ok (.iaload, 1) := by decide +kernel
theorem dX6_parts_40 : decode cX6_parts 40 = .ok (.aload_n 0, 1) := by decide +kernel
theorem dX6_parts_41 : decode cX6_parts 41 = .ok (.getfield 74, 3) := by decide +kernel
theorem dX6_parts_44 : decode cX6_parts 44 = .ok (.iload 4, 2) := by decide +kernel
theorem dX6_parts_46 : decode cX6_parts 46 = .ok (.iaload, 1) := by decide +kernel
theorem dX6_parts_47 : decode cX6_parts 47 = .ok (.isub, 1) := by decide +kernel
theorem dX6_parts_48 : decode cX6_parts 48 = .ok (.goto 10, 3) := by decide +kernel
theorem dX6_parts_51 : decode cX6_parts 51 = .ok (.aload_n 0, 1) := by decide +kernel
theorem dX6_parts_52 : decode cX6_parts 52 = .ok (.getfield 71, 3) := by decide +kernel
theorem dX6_parts_55 : decode cX6_parts 55 = .ok (.iload 4, 2) := by decide +kernel
theorem dX6_parts_57 : decode cX6_parts 57 = .ok (.iaload, 1) := by decide +kernel
theorem dX6_parts_58 : decode cX6_parts 58 = .ok (.ireturn, 1) := by decide +kernel
theorem dX6_manager_0 : decode cX6_manager 0 = .ok (.aload_n 0, 1) := by decide +kernel
theorem dX6_manager_1 : decode cX6_manager 1 = .ok (.iload_n 1, 1) := by decide +kernel
theorem dX6_manager_2 : decode cX6_manager 2 = .ok (.invokevirtual 156, 3) := by decide +kernel
theorem dX6_manager_5 : decode cX6_manager 5 = .ok (.ifCond .ne 5, 3) := by decide +kernel
theorem dX6_manager_8 : decode cX6_manager 8 = .ok (.iconst (-1), 1) := by decide +kernel
theorem dX6_manager_9 : decode cX6_manager 9 = .ok (.ireturn, 1) := by decide +kernel
theorem dX6_manager_10 : decode cX6_manager 10 = .ok (.aload_n 0, 1) := by decide +kernel
theorem dX6_manager_11 : decode cX6_manager 11 = .ok (.invokevirtual 178, 3) := by decide +kernel
theorem dX6_manager_14 : decode cX6_manager 14 = .ok (.iconst 0, 1) := by decide +kernel
theorem dX6_manager_15 : decode cX6_manager 15 = .ok (.istore_n 2, 1) := by decide +kernel
theorem dX6_manager_16 : decode cX6_manager 16 = .ok (.iconst 1, 1) := by decide +kernel
theorem dX6_manager_17 : decode cX6_manager 17 = .ok (.istore_n 3, 1) := by decide +kernel
theorem dX6_manager_18 : decode cX6_manager 18 = .ok (.iload_n 3, 1) := by decide +kernel
theorem dX6_manager_19 : decode cX6_manager 19 = .ok (.bipush 8, 2) := by decide +kernel
theorem dX6_manager_21 : decode cX6_manager 21 = .ok (.if_icmp .ge 40, 3) := by decide +kernel
theorem dX6_manager_24 : decode cX6_manager 24 = .ok (.aload_n 0, 1) := by decide +kernel
theorem dX6_manager_25 : decode cX6_manager 25 = .ok (.getfield 71, 3) := by decide +kernel
theorem dX6_manager_28 : decode cX6_manager 28 = .ok (.bipush 8, 2) := by decide +kernel
theorem dX6_manager_30 : decode cX6_manager 30 = .ok (.iload_n 1, 1) := by decide +kernel
theorem dX6_manager_31 : decode cX6_manager 31 = .ok (.imul, 1) := by decide +kernel
theorem dX6_manager_32 : decode cX6_manager 32 = .ok (.iload_n 3, 1) := by decide +kernel
theorem dX6_manager_33 : decode cX6_manager 33 = .ok (.iadd, 1) := by decide +kernel
theorem dX6_manager_34 : decode cX6_manager 34 = .ok (.iaload, 1) := by decide +kernel
theorem dX6_manager_35 : decode cX6_manager 35 = .ok (.aload_n 0, 1) := by decide +kernel
theorem dX6_manager_36 : decode cX6_manager 36 = .ok (.getfield 71, 3) := by decide +kernel
theorem dX6_manager_39 : decode cX6_manager 39 = .ok (.bipush 8, 2) := by decide +kernel
theorem dX6_manager_41 : decode cX6_manager 41 = .ok (.iload_n 1, 1) := by decide +kernel
theorem dX6_manager_42 : decode cX6_manager 42 = .ok (.imul, 1) := by decide +kernel
theorem dX6_manager_43 : decode cX6_manager 43 = .ok (.iload_n 2, 1) := by decide +kernel
theorem dX6_manager_44 : decode cX6_manager 44 = .ok (.iadd, 1) := by decide +kernel
theorem dX6_manager_45 : decode cX6_manager 45 = .ok (.iaload, 1) := by decide +kernel
theorem dX6_manager_46 : decode cX6_manager 46 = .ok (.if_icmp .le 7, 3) := by decide +kernel
theorem dX6_manager_49 : decode cX6_manager 49 = .ok (.iload_n 3, 1) := by decide +kernel
theorem dX6_manager_50 : decode cX6_manager 50 = .ok (.goto 4, 3) := by decide +kernel
theorem dX6_manager_53 : decode cX6_manager 53 = .ok (.iload_n 2, 1) := by decide +kernel
theorem dX6_manager_54 : decode cX6_manager 54 = .ok (.istore_n 2, 1) := by decide +kernel
theorem dX6_manager_55 : decode cX6_manager 55 = .ok (.iinc 3 1, 3) := by decide +kernel
theorem dX6_manager_58 : decode cX6_manager 58 = .ok (.goto (-40), 3) := by decide +kernel
theorem dX6_manager_61 : decode cX6_manager 61 = .ok (.iload_n 2, 1) := by decide +kernel
theorem dX6_manager_62 : decode cX6_manager 62 = .ok (.ireturn, 1) := by decide +kernel
theorem dX6_held_0 : decode cX6_held 0 = .ok (.aload_n 0, 1) := by decide +kernel
theorem dX6_held_1 : decode cX6_held 1 = .ok (.iload_n 1, 1) := by decide +kernel
theorem dX6_held_2 : decode cX6_held 2 = .ok (.invokevirtual 156, 3) := by decide +kernel
theorem dX6_held_5 : decode cX6_held 5 = .ok (.ifCond .eq 10, 3) := by decide +kernel
theorem dX6_held_8 : decode cX6_held 8 = .ok (.iload_n 2, 1) := by decide +kernel
theorem dX6_held_9 : decode cX6_held 9 = .ok (.invokestatic 162, 3) := by decide +kernel
theorem dX6_held_12 : decode cX6_held 12 = .ok (.ifCond .ne 5, 3) := by decide +kernel
theorem dX6_held_15 : decode cX6_held 15 = .ok (.iconst (-1), 1) := by decide +kernel
theorem dX6_held_16 : decode cX6_held 16 = .ok (.ireturn, 1) := by decide +kernel
theorem dX6_held_17 : decode cX6_held 17 = .ok (.aload_n 0, 1) := by decide +kernel
theorem dX6_held_18 : decode cX6_held 18 = .ok (.invokevirtual 178, 3) := by decide +kernel
theorem dX6_held_21 : decode cX6_held 21 = .ok (.iconst 0, 1) := by decide +kernel
theorem dX6_held_22 : decode cX6_held 22 = .ok (.istore_n 3, 1) := by decide +kernel
theorem dX6_held_23 : decode cX6_held 23 = .ok (.iconst 0, 1) := by decide +kernel
theorem dX6_held_24 : decode cX6_held 24 = .ok (.istore 4, 2) := by decide +kernel
theorem dX6_held_26 : decode cX6_held 26 = .ok (.iload 4, 2) := by decide +kernel
theorem dX6_held_28 : decode cX6_held 28 = .ok (.aload_n 0, 1) := by decide +kernel
theorem dX6_held_29 : decode cX6_held 29 = .ok (.getfield 159, 3) := by decide +kernel
theorem dX6_held_32 : decode cX6_held 32 = .ok (.if_icmp .ge 55, 3) := by decide +kernel
theorem dX6_held_35 : decode cX6_held 35 = .ok (.iload_n 3, 1) := by decide +kernel
theorem dX6_held_36 : decode cX6_held 36 = .ok (.aload_n 0, 1) := by decide +kernel
theorem dX6_held_37 : decode cX6_held 37 = .ok (.getfield 77, 3) := by decide +kernel
theorem dX6_held_40 : decode cX6_held 40 = .ok (.iload 4, 2) := by decide +kernel
theorem dX6_held_42 : decode cX6_held 42 = .ok (.baload, 1) := by decide +kernel
theorem dX6_held_43 : decode cX6_held 43 = .ok (.ifCond .eq 35, 3) := by decide +kernel
theorem dX6_held_46 : decode cX6_held 46 = .ok (.aload_n 0, 1) := by decide +kernel
theorem dX6_held_47 : decode cX6_held 47 = .ok (.getfield 37, 3) := by decide +kernel
theorem dX6_held_50 : decode cX6_held 50 = .ok (.iload 4, 2) := by decide +kernel
theorem dX6_held_52 : decode cX6_held 52 = .ok (.iaload, 1) := by decide +kernel
theorem dX6_held_53 : decode cX6_held 53 = .ok (.iload_n 1, 1) := by decide +kernel
theorem dX6_held_54 : decode cX6_held 54 = .ok (.if_icmp .ne 24, 3) := by decide +kernel
theorem dX6_held_57 : decode cX6_held 57 = .ok (.aload_n 0, 1) := by decide +kernel
theorem dX6_held_58 : decode cX6_held 58 = .ok (.getfield 43, 3) := by decide +kernel
theorem dX6_held_61 : decode cX6_held 61 = .ok (.iload 4, 2) := by decide +kernel
theorem dX6_held_63 : decode cX6_held 63 = .ok (.iaload, 1) := by decide +kernel
theorem dX6_held_64 : decode cX6_held 64 = .ok (.iload_n 2, 1) := by decide +kernel
theorem dX6_held_65 : decode cX6_held 65 = .ok (.if_icmp .ne 13, 3) := by decide +kernel
theorem dX6_held_68 : decode cX6_held 68 = .ok (.aload_n 0, 1) := by decide +kernel
theorem dX6_held_69 : decode cX6_held 69 = .ok (.getfield 46, 3) := by decide +kernel
theorem dX6_held_72 : decode cX6_held 72 = .ok (.iload 4, 2) := by decide +kernel
theorem dX6_held_74 : decode cX6_held 74 = .ok (.iaload, 1) := by decide +kernel
theorem dX6_held_75 : decode cX6_held 75 = .ok (.goto 4, 3) := by decide +kernel
theorem dX6_held_78 : decode cX6_held 78 = .ok (.iconst 0, 1) := by decide +kernel
theorem dX6_held_79 : decode cX6_held 79 = .ok (.iadd, 1) := by decide +kernel
theorem dX6_held_80 : decode cX6_held 80 = .ok (.istore_n 3, 1) := by decide +kernel
theorem dX6_held_81 : decode cX6_held 81 = .ok (.iinc 4 1, 3) := by decide +kernel
theorem dX6_held_84 : decode cX6_held 84 = .ok (.goto (-58), 3) := by decide +kernel
theorem dX6_held_87 : decode cX6_held 87 = .ok (.iload_n 3, 1) := by decide +kernel
theorem dX6_held_88 : decode cX6_held 88 = .ok (.ireturn, 1) := by decide +kernel
theorem dX6_isPaper_0 : decode cX6_isPaper 0 = .ok (.iload_n 1, 1) := by decide +kernel
theorem dX6_isPaper_1 : decode cX6_isPaper 1 = .ok (.iconst 0, 1) := by decide +kernel
theorem dX6_isPaper_2 : decode cX6_isPaper 2 = .ok (.aload_n 0, 1) := by decide +kernel
theorem dX6_isPaper_3 : decode cX6_isPaper 3 = .ok (.getfield 184, 3) := by decide +kernel
theorem dX6_isPaper_6 : decode cX6_isPaper 6 = .ok (.iconst 1, 1) := by decide +kernel
theorem dX6_isPaper_7 : decode cX6_isPaper 7 = .ok (.isub, 1) := by decide +kernel
theorem dX6_isPaper_8 : decode cX6_isPaper 8 = .ok (.invokestatic 101, 3) := by decide +kernel
theorem dX6_isPaper_11 : decode cX6_isPaper 11 = .ok (.ireturn, 1) := by decide +kernel
theorem dX6_paper_0 : decode cX6_paper 0 = .ok (.iload_n 1, 1) := by decide +kernel
theorem dX6_paper_1 : decode cX6_paper 1 = .ok (.iconst 0, 1) := by decide +kernel
theorem dX6_paper_2 : decode cX6_paper 2 = .ok (.sipush 999, 3) := by decide +kernel
theorem dX6_paper_5 : decode cX6_paper 5 = .ok (.invokestatic 101, 3) := by decide +kernel
theorem dX6_paper_8 : decode cX6_paper 8 = .ok (.ifCond .eq 46, 3) := by decide +kernel
theorem dX6_paper_11 : decode cX6_paper 11 = .ok (.iload_n 2, 1) := by decide +kernel
theorem dX6_paper_12 : decode cX6_paper 12 = .ok (.iload_n 1, 1) := by decide +kernel
theorem dX6_paper_13 : decode cX6_paper 13 = .ok (.sipush 999, 3) := by decide +kernel
theorem dX6_paper_16 : decode cX6_paper 16 = .ok (.invokestatic 101, 3) := by decide +kernel
theorem dX6_paper_19 : decode cX6_paper 19 = .ok (.ifCond .eq 35, 3) := by decide +kernel
theorem dX6_paper_22 : decode cX6_paper 22 = .ok (.iload_n 3, 1) := by decide +kernel
theorem dX6_paper_23 : decode cX6_paper 23 = .ok (.iconst 1, 1) := by decide +kernel
theorem dX6_paper_24 : decode cX6_paper 24 = .ok (.bipush 99, 2) := by decide +kernel
theorem dX6_paper_26 : decode cX6_paper 26 = .ok (.invokestatic 101, 3) := by decide +kernel
theorem dX6_paper_29 : decode cX6_paper 29 = .ok (.ifCond .eq 25, 3) := by decide +kernel
theorem dX6_paper_32 : decode cX6_paper 32 = .ok (.iload 4, 2) := by decide +kernel
theorem dX6_paper_34 : decode cX6_paper 34 = .ok (.iload_n 3, 1) := by decide +kernel
theorem dX6_paper_35 : decode cX6_paper 35 = .ok (.bipush 99, 2) := by decide +kernel
theorem dX6_paper_37 : decode cX6_paper 37 = .ok (.invokestatic 101, 3) := by decide +kernel
theorem dX6_paper_40 : decode cX6_paper 40 = .ok (.ifCond .eq 14, 3) := by decide +kernel
theorem dX6_paper_43 : decode cX6_paper 43 = .ok (.iload 5, 2) := by decide +kernel
theorem dX6_paper_45 : decode cX6_paper 45 = .ok (.iconst 0, 1) := by decide +kernel
theorem dX6_paper_46 : decode cX6_paper 46 = .ok (.bipush 9, 2) := by decide +kernel
theorem dX6_paper_48 : decode cX6_paper 48 = .ok (.invokestatic 101, 3) := by decide +kernel
theorem dX6_paper_51 : decode cX6_paper 51 = .ok (.ifCond .ne 5, 3) := by decide +kernel
theorem dX6_paper_54 : decode cX6_paper 54 = .ok (.iconst (-1), 1) := by decide +kernel
theorem dX6_paper_55 : decode cX6_paper 55 = .ok (.ireturn, 1) := by decide +kernel
theorem dX6_paper_56 : decode cX6_paper 56 = .ok (.aload_n 0, 1) := by decide +kernel
theorem dX6_paper_57 : decode cX6_paper 57 = .ok (.getfield 184, 3) := by decide +kernel
theorem dX6_paper_60 : decode cX6_paper 60 = .ok (.bipush 8, 2) := by decide +kernel
theorem dX6_paper_62 : decode cX6_paper 62 = .ok (.if_icmp .ne 6, 3) := by decide +kernel
theorem dX6_paper_65 : decode cX6_paper 65 = .ok (.bipush (-2), 2) := by decide +kernel
theorem dX6_paper_67 : decode cX6_paper 67 = .ok (.ireturn, 1) := by decide +kernel
theorem dX6_paper_68 : decode cX6_paper 68 = .ok (.iconst 5, 1) := by decide +kernel
theorem dX6_paper_69 : decode cX6_paper 69 = .ok (.aload_n 0, 1) := by decide +kernel
theorem dX6_paper_70 : decode cX6_paper 70 = .ok (.getfield 184, 3) := by decide +kernel
theorem dX6_paper_73 : decode cX6_paper 73 = .ok (.imul, 1) := by decide +kernel
theorem dX6_paper_74 : decode cX6_paper 74 = .ok (.istore 6, 2) := by decide +kernel
theorem dX6_paper_76 : decode cX6_paper 76 = .ok (.aload_n 0, 1) := by decide +kernel
theorem dX6_paper_77 : decode cX6_paper 77 = .ok (.getfield 56, 3) := by decide +kernel
theorem dX6_paper_80 : decode cX6_paper 80 = .ok (.iload 6, 2) := by decide +kernel
theorem dX6_paper_82 : decode cX6_paper 82 = .ok (.iload_n 1, 1) := by decide +kernel
theorem dX6_paper_83 : decode cX6_paper 83 = .ok (.iastore, 1) := by decide +kernel
theorem dX6_paper_84 : decode cX6_paper 84 = .ok (.aload_n 0, 1) := by decide +kernel
theorem dX6_paper_85 : decode cX6_paper 85 = .ok (.getfield 56, 3) := by decide +kernel
theorem dX6_paper_88 : decode cX6_paper 88 = .ok (.iload 6, 2) := by decide +kernel
theorem dX6_paper_90 : decode cX6_paper 90 = .ok (.iconst 1, 1) := by decide +kernel
theorem dX6_paper_91 : decode cX6_paper 91 = .ok (.iadd, 1) := by decide +kernel
theorem dX6_paper_92 : decode cX6_paper 92 = .ok (.iload_n 2, 1) := by decide +kernel
theorem dX6_paper_93 : decode cX6_paper 93 = .ok (.iastore, 1) := by decide +kernel
theorem dX6_paper_94 : decode cX6_paper 94 = .ok (.aload_n 0, 1) := by decide +kernel
theorem dX6_paper_95 : decode cX6_paper 95 = .ok (.getfield 56, 3) := by decide +kernel
theorem dX6_paper_98 : decode cX6_paper 98 = .ok (.iload 6, 2) := by decide +kernel
theorem dX6_paper_100 : decode cX6_paper 100 = .ok (.iconst 2, 1) := by decide +kernel
theorem dX6_paper_101 : decode cX6_paper 101 = .ok (.iadd, 1) := by decide +kernel
theorem dX6_paper_102 : decode cX6_paper 102 = .ok (.iload_n 3, 1) := by decide +kernel
theorem dX6_paper_103 : decode cX6_paper 103 = .ok (.iastore, 1) := by decide +kernel
theorem dX6_paper_104 : decode cX6_paper 104 = .ok (.aload_n 0, 1) := by decide +kernel
theorem dX6_paper_105 : decode cX6_paper 105 = .ok (.getfield 56, 3) := by decide +kernel
theorem dX6_paper_108 : decode cX6_paper 108 = .ok (.iload 6, 2) := by decide +kernel
theorem dX6_paper_110 : decode cX6_paper 110 = .ok (.iconst 3, 1) := by decide +kernel
theorem dX6_paper_111 : decode cX6_paper 111 = .ok (.iadd, 1) := by decide +kernel
theorem dX6_paper_112 : decode cX6_paper 112 = .ok (.iload 4, 2) := by decide +kernel
theorem dX6_paper_114 : decode cX6_paper 114 = .ok (.iastore, 1) := by decide +kernel
theorem dX6_paper_115 : decode cX6_paper 115 = .ok (.aload_n 0, 1) := by decide +kernel
theorem dX6_paper_116 : decode cX6_paper 116 = .ok (.getfield 56, 3) := by decide +kernel
theorem dX6_paper_119 : decode cX6_paper 119 = .ok (.iload 6, 2) := by decide +kernel
theorem dX6_paper_121 : decode cX6_paper 121 = .ok (.iconst 4, 1) := by decide +kernel
theorem dX6_paper_122 : decode cX6_paper 122 = .ok (.iadd, 1) := by decide +kernel
theorem dX6_paper_123 : decode cX6_paper 123 = .ok (.iload 5, 2) := by decide +kernel
theorem dX6_paper_125 : decode cX6_paper 125 = .ok (.iastore, 1) := by decide +kernel
theorem dX6_paper_126 : decode cX6_paper 126 = .ok (.aload_n 0, 1) := by decide +kernel
theorem dX6_paper_127 : decode cX6_paper 127 = .ok (.dup, 1) := by decide +kernel
theorem dX6_paper_128 : decode cX6_paper 128 = .ok (.getfield 184, 3) := by decide +kernel
theorem dX6_paper_131 : decode cX6_paper 131 = .ok (.iconst 1, 1) := by decide +kernel
theorem dX6_paper_132 : decode cX6_paper 132 = .ok (.iadd, 1) := by decide +kernel
theorem dX6_paper_133 : decode cX6_paper 133 = .ok (.putfield 184, 3) := by decide +kernel
theorem dX6_paper_136 : decode cX6_paper 136 = .ok (.aload_n 0, 1) := by decide +kernel
theorem dX6_paper_137 : decode cX6_paper 137 = .ok (.getfield 184, 3) := by decide +kernel
theorem dX6_paper_140 : decode cX6_paper 140 = .ok (.iconst 1, 1) := by decide +kernel
theorem dX6_paper_141 : decode cX6_paper 141 = .ok (.isub, 1) := by decide +kernel
theorem dX6_paper_142 : decode cX6_paper 142 = .ok (.ireturn, 1) := by decide +kernel
theorem dX6_witnessOf_0 : decode cX6_witnessOf 0 = .ok (.iconst 0, 1) := by decide +kernel
theorem dX6_witnessOf_1 : decode cX6_witnessOf 1 = .ok (.istore_n 3, 1) := by decide +kernel
theorem dX6_witnessOf_2 : decode cX6_witnessOf 2 = .ok (.iload_n 3, 1) := by decide +kernel
theorem dX6_witnessOf_3 : decode cX6_witnessOf 3 = .ok (.aload_n 0, 1) := by decide +kernel
theorem dX6_witnessOf_4 : decode cX6_witnessOf 4 = .ok (.getfield 187, 3) := by decide +kernel
theorem dX6_witnessOf_7 : decode cX6_witnessOf 7 = .ok (.if_icmp .ge 51, 3) := by decide +kernel
theorem dX6_witnessOf_10 : decode cX6_witnessOf 10 = .ok (.aload_n 0, 1) := by decide +kernel
theorem dX6_witnessOf_11 : decode cX6_witnessOf 11 = .ok (.getfield 59, 3) := by decide +kernel
theorem dX6_witnessOf_14 : decode cX6_witnessOf 14 = .ok (.iload_n 3, 1) := by decide +kernel
theorem dX6_witnessOf_15 : decode cX6_witnessOf 15 = .ok (.iaload, 1) := by decide +kernel
theorem dX6_witnessOf_16 : decode cX6_witnessOf 16 = .ok (.iload_n 1, 1) := by decide +kernel
theorem dX6_witnessOf_17 : decode cX6_witnessOf 17 = .ok (.if_icmp .ne 13, 3) := by decide +kernel
theorem dX6_witnessOf_20 : decode cX6_witnessOf 20 = .ok (.aload_n 0, 1) := by decide +kernel
theorem dX6_witnessOf_21 : decode cX6_witnessOf 21 = .ok (.getfield 62, 3) := by decide +kernel
theorem dX6_witnessOf_24 : decode cX6_witnessOf 24 = .ok (.iload_n 3, 1) := by decide +kernel
theorem dX6_witnessOf_25 : decode cX6_witnessOf 25 = .ok (.iaload, 1) := by decide +kernel
theorem dX6_witnessOf_26 : decode cX6_witnessOf 26 = .ok (.iload_n 2, 1) := by decide +kernel
theorem dX6_witnessOf_27 : decode cX6_witnessOf 27 = .ok (.if_icmp .eq 23, 3) := by decide +kernel
theorem dX6_witnessOf_30 : decode cX6_witnessOf 30 = .ok (.aload_n 0, 1) := by decide +kernel
theorem dX6_witnessOf_31 : decode cX6_witnessOf 31 = .ok (.getfield 59, 3) := by decide +kernel
theorem dX6_witnessOf_34 : decode cX6_witnessOf 34 = .ok (.iload_n 3, 1) := by decide +kernel
theorem dX6_witnessOf_35 : decode cX6_witnessOf 35 = .ok (.iaload, 1) := by decide +kernel
theorem dX6_witnessOf_36 : decode cX6_witnessOf 36 = .ok (.iload_n 2, 1) := by decide +kernel
theorem dX6_witnessOf_37 : decode cX6_witnessOf 37 = .ok (.if_icmp .ne 15, 3) := by decide +kernel
theorem dX6_witnessOf_40 : decode cX6_witnessOf 40 = .ok (.aload_n 0, 1) := by decide +kernel
theorem dX6_witnessOf_41 : decode cX6_witnessOf 41 = .ok (.getfield 62, 3) := by decide +kernel
theorem dX6_witnessOf_44 : decode cX6_witnessOf 44 = .ok (.iload_n 3, 1) := by decide +kernel
theorem dX6_witnessOf_45 : decode cX6_witnessOf 45 = .ok (.iaload, 1) := by decide +kernel
theorem dX6_witnessOf_46 : decode cX6_witnessOf 46 = .ok (.iload_n 1, 1) := by decide +kernel
theorem dX6_witnessOf_47 : decode cX6_witnessOf 47 = .ok (.if_icmp .ne 5, 3) := by decide +kernel
theorem dX6_witnessOf_50 : decode cX6_witnessOf 50 = .ok (.iload_n 3, 1) := by decide +kernel
theorem dX6_witnessOf_51 : decode cX6_witnessOf 51 = .ok (.ireturn, 1) := by decide +kernel
theorem dX6_witnessOf_52 : decode cX6_witnessOf 52 = .ok (.iinc 3 1, 3) := by decide +kernel
theorem dX6_witnessOf_55 : decode cX6_witnessOf 55 = .ok (.goto (-53), 3) := by decide +kernel
theorem dX6_witnessOf_58 : decode cX6_witnessOf 58 = .ok (.bipush (-4), 2) := by decide +kernel
theorem dX6_witnessOf_60 : decode cX6_witnessOf 60 = .ok (.ireturn, 1) := by decide +kernel
theorem dX6_witness_0 : decode cX6_witness 0 = .ok (.aload_n 0, 1) := by decide +kernel
theorem dX6_witness_1 : decode cX6_witness 1 = .ok (.iload_n 1, 1) := by decide +kernel
theorem dX6_witness_2 : decode cX6_witness 2 = .ok (.invokevirtual 190, 3) := by decide +kernel
theorem dX6_witness_5 : decode cX6_witness 5 = .ok (.ifCond .eq 16, 3) := by decide +kernel
theorem dX6_witness_8 : decode cX6_witness 8 = .ok (.aload_n 0, 1) := by decide +kernel
theorem dX6_witness_9 : decode cX6_witness 9 = .ok (.iload_n 2, 1) := by decide +kernel
theorem dX6_witness_10 : decode cX6_witness 10 = .ok (.invokevirtual 190, 3) := by decide +kernel
theorem dX6_witness_13 : decode cX6_witness 13 = .ok (.ifCond .eq 8, 3) := by decide +kernel
theorem dX6_witness_16 : decode cX6_witness 16 = .ok (.iload_n 1, 1) := by decide +kernel
theorem dX6_witness_17 : decode cX6_witness 17 = .ok (.iload_n 2, 1) := by decide +kernel
theorem dX6_witness_18 : decode cX6_witness 18 = .ok (.if_icmp .ne 5, 3) := by decide +kernel
theorem dX6_witness_21 : decode cX6_witness 21 = .ok (.iconst (-1), 1) := by decide +kernel
theorem dX6_witness_22 : decode cX6_witness 22 = .ok (.ireturn, 1) := by decide +kernel
theorem dX6_witness_23 : decode cX6_witness 23 = .ok (.aload_n 0, 1) := by decide +kernel
theorem dX6_witness_24 : decode cX6_witness 24 = .ok (.iload_n 1, 1) := by decide +kernel
theorem dX6_witness_25 : decode cX6_witness 25 = .ok (.iload_n 2, 1) := by decide +kernel
theorem dX6_witness_26 : decode cX6_witness 26 = .ok (.invokevirtual 193, 3) := by decide +kernel
theorem dX6_witness_29 : decode cX6_witness 29 = .ok (.ifCond .lt 6, 3) := by decide +kernel
theorem dX6_witness_32 : decode cX6_witness 32 = .ok (.bipush (-3), 2) := by decide +kernel
theorem dX6_witness_34 : decode cX6_witness 34 = .ok (.ireturn, 1) := by decide +kernel
theorem dX6_witness_35 : decode cX6_witness 35 = .ok (.aload_n 0, 1) := by decide +kernel
theorem dX6_witness_36 : decode cX6_witness 36 = .ok (.getfield 187, 3) := by decide +kernel
theorem dX6_witness_39 : decode cX6_witness 39 = .ok (.bipush 6, 2) := by decide +kernel
theorem dX6_witness_41 : decode cX6_witness 41 = .ok (.if_icmp .ne 6, 3) := by decide +kernel
theorem dX6_witness_44 : decode cX6_witness 44 = .ok (.bipush (-2), 2) := by decide +kernel
theorem dX6_witness_46 : decode cX6_witness 46 = .ok (.ireturn, 1) := by decide +kernel
theorem dX6_witness_47 : decode cX6_witness 47 = .ok (.aload_n 0, 1) := by decide +kernel
theorem dX6_witness_48 : decode cX6_witness 48 = .ok (.getfield 59, 3) := by decide +kernel
theorem dX6_witness_51 : decode cX6_witness 51 = .ok (.aload_n 0, 1) := by decide +kernel
theorem dX6_witness_52 : decode cX6_witness 52 = .ok (.getfield 187, 3) := by decide +kernel
theorem dX6_witness_55 : decode cX6_witness 55 = .ok (.iload_n 1, 1) := by decide +kernel
theorem dX6_witness_56 : decode cX6_witness 56 = .ok (.iastore, 1) := by decide +kernel
theorem dX6_witness_57 : decode cX6_witness 57 = .ok (.aload_n 0, 1) := by decide +kernel
theorem dX6_witness_58 : decode cX6_witness 58 = .ok (.getfield 62, 3) := by decide +kernel
theorem dX6_witness_61 : decode cX6_witness 61 = .ok (.aload_n 0, 1) := by decide +kernel
theorem dX6_witness_62 : decode cX6_witness 62 = .ok (.getfield 187, 3) := by decide +kernel
theorem dX6_witness_65 : decode cX6_witness 65 = .ok (.iload_n 2, 1) := by decide +kernel
theorem dX6_witness_66 : decode cX6_witness 66 = .ok (.iastore, 1) := by decide +kernel
theorem dX6_witness_67 : decode cX6_witness 67 = .ok (.aload_n 0, 1) := by decide +kernel
theorem dX6_witness_68 : decode cX6_witness 68 = .ok (.getfield 65, 3) := by decide +kernel
theorem dX6_witness_71 : decode cX6_witness 71 = .ok (.aload_n 0, 1) := by decide +kernel
theorem dX6_witness_72 : decode cX6_witness 72 = .ok (.getfield 187, 3) := by decide +kernel
theorem dX6_witness_75 : decode cX6_witness 75 = .ok (.iload_n 3, 1) := by decide +kernel
theorem dX6_witness_76 : decode cX6_witness 76 = .ok (.bastore, 1) := by decide +kernel
theorem dX6_witness_77 : decode cX6_witness 77 = .ok (.aload_n 0, 1) := by decide +kernel
theorem dX6_witness_78 : decode cX6_witness 78 = .ok (.dup, 1) := by decide +kernel
theorem dX6_witness_79 : decode cX6_witness 79 = .ok (.getfield 187, 3) := by decide +kernel
theorem dX6_witness_82 : decode cX6_witness 82 = .ok (.iconst 1, 1) := by decide +kernel
theorem dX6_witness_83 : decode cX6_witness 83 = .ok (.iadd, 1) := by decide +kernel
theorem dX6_witness_84 : decode cX6_witness 84 = .ok (.putfield 187, 3) := by decide +kernel
theorem dX6_witness_87 : decode cX6_witness 87 = .ok (.aload_n 0, 1) := by decide +kernel
theorem dX6_witness_88 : decode cX6_witness 88 = .ok (.getfield 187, 3) := by decide +kernel
theorem dX6_witness_91 : decode cX6_witness 91 = .ok (.ireturn, 1) := by decide +kernel
theorem dX6_areAlike_0 : decode cX6_areAlike 0 = .ok (.aload_n 0, 1) := by decide +kernel
theorem dX6_areAlike_1 : decode cX6_areAlike 1 = .ok (.iload_n 1, 1) := by decide +kernel
theorem dX6_areAlike_2 : decode cX6_areAlike 2 = .ok (.iload_n 2, 1) := by decide +kernel
theorem dX6_areAlike_3 : decode cX6_areAlike 3 = .ok (.invokevirtual 193, 3) := by decide +kernel
theorem dX6_areAlike_6 : decode cX6_areAlike 6 = .ok (.istore_n 3, 1) := by decide +kernel
theorem dX6_areAlike_7 : decode cX6_areAlike 7 = .ok (.iload_n 3, 1) := by decide +kernel
theorem dX6_areAlike_8 : decode cX6_areAlike 8 = .ok (.ifCond .lt 10, 3) := by decide +kernel
theorem dX6_areAlike_11 : decode cX6_areAlike 11 = .ok (.aload_n 0, 1) := by decide +kernel
theorem dX6_areAlike_12 : decode cX6_areAlike 12 = .ok (.getfield 65, 3) := by decide +kernel
theorem dX6_areAlike_15 : decode cX6_areAlike 15 = .ok (.iload_n 3, 1) := by decide +kernel
theorem dX6_areAlike_16 : decode cX6_areAlike 16 = .ok (.baload, 1) := by decide +kernel
theorem dX6_areAlike_17 : decode cX6_areAlike 17 = .ok (.ireturn, 1) := by decide +kernel
theorem dX6_areAlike_18 : decode cX6_areAlike 18 = .ok (.iconst 5, 1) := by decide +kernel
theorem dX6_areAlike_19 : decode cX6_areAlike 19 = .ok (.iload_n 1, 1) := by decide +kernel
theorem dX6_areAlike_20 : decode cX6_areAlike 20 = .ok (.imul, 1) := by decide +kernel
theorem dX6_areAlike_21 : decode cX6_areAlike 21 = .ok (.istore 4, 2) := by decide +kernel
theorem dX6_areAlike_23 : decode cX6_areAlike 23 = .ok (.iconst 5, 1) := by decide +kernel
theorem dX6_areAlike_24 : decode cX6_areAlike 24 = .ok (.iload_n 2, 1) := by decide +kernel
theorem dX6_areAlike_25 : decode cX6_areAlike 25 = .ok (.imul, 1) := by decide +kernel
theorem dX6_areAlike_26 : decode cX6_areAlike 26 = .ok (.istore 5, 2) := by decide +kernel
theorem dX6_areAlike_28 : decode cX6_areAlike 28 = .ok (.aload_n 0, 1) := by decide +kernel
theorem dX6_areAlike_29 : decode cX6_areAlike 29 = .ok (.getfield 56, 3) := by decide +kernel
theorem dX6_areAlike_32 : decode cX6_areAlike 32 = .ok (.iload 4, 2) := by decide +kernel
theorem dX6_areAlike_34 : decode cX6_areAlike 34 = .ok (.iaload, 1) := by decide +kernel
theorem dX6_areAlike_35 : decode cX6_areAlike 35 = .ok (.aload_n 0, 1) := by decide +kernel
theorem dX6_areAlike_36 : decode cX6_areAlike 36 = .ok (.getfield 56, 3) := by decide +kernel
theorem dX6_areAlike_39 : decode cX6_areAlike 39 = .ok (.iload 5, 2) := by decide +kernel
theorem dX6_areAlike_41 : decode cX6_areAlike 41 = .ok (.iconst 1, 1) := by decide +kernel
theorem dX6_areAlike_42 : decode cX6_areAlike 42 = .ok (.iadd, 1) := by decide +kernel
theorem dX6_areAlike_43 : decode cX6_areAlike 43 = .ok (.iaload, 1) := by decide +kernel
theorem dX6_areAlike_44 : decode cX6_areAlike 44 = .ok (.if_icmp .gt 26, 3) := by decide +kernel
theorem dX6_areAlike_47 : decode cX6_areAlike 47 = .ok (.aload_n 0, 1) := by decide +kernel
theorem dX6_areAlike_48 : decode cX6_areAlike 48 = .ok (.getfield 56, 3) := by decide +kernel
theorem dX6_areAlike_51 : decode cX6_areAlike 51 = .ok (.iload 5, 2) := by decide +kernel
theorem dX6_areAlike_53 : decode cX6_areAlike 53 = .ok (.iaload, 1) := by decide +kernel
theorem dX6_areAlike_54 : decode cX6_areAlike 54 = .ok (.aload_n 0, 1) := by decide +kernel
theorem dX6_areAlike_55 : decode cX6_areAlike 55 = .ok (.getfield 56, 3) := by decide +kernel
theorem dX6_areAlike_58 : decode cX6_areAlike 58 = .ok (.iload 4, 2) := by decide +kernel
theorem dX6_areAlike_60 : decode cX6_areAlike 60 = .ok (.iconst 1, 1) := by decide +kernel
theorem dX6_areAlike_61 : decode cX6_areAlike 61 = .ok (.iadd, 1) := by decide +kernel
theorem dX6_areAlike_62 : decode cX6_areAlike 62 = .ok (.iaload, 1) := by decide +kernel
theorem dX6_areAlike_63 : decode cX6_areAlike 63 = .ok (.if_icmp .gt 7, 3) := by decide +kernel
theorem dX6_areAlike_66 : decode cX6_areAlike 66 = .ok (.iconst 1, 1) := by decide +kernel
theorem dX6_areAlike_67 : decode cX6_areAlike 67 = .ok (.goto 4, 3) := by decide +kernel
theorem dX6_areAlike_70 : decode cX6_areAlike 70 = .ok (.iconst 0, 1) := by decide +kernel
theorem dX6_areAlike_71 : decode cX6_areAlike 71 = .ok (.istore 6, 2) := by decide +kernel
theorem dX6_areAlike_73 : decode cX6_areAlike 73 = .ok (.aload_n 0, 1) := by decide +kernel
theorem dX6_areAlike_74 : decode cX6_areAlike 74 = .ok (.getfield 56, 3) := by decide +kernel
theorem dX6_areAlike_77 : decode cX6_areAlike 77 = .ok (.iload 4, 2) := by decide +kernel
theorem dX6_areAlike_79 : decode cX6_areAlike 79 = .ok (.iconst 2, 1) := by decide +kernel
theorem dX6_areAlike_80 : decode cX6_areAlike 80 = .ok (.iadd, 1) := by decide +kernel
theorem dX6_areAlike_81 : decode cX6_areAlike 81 = .ok (.iaload, 1) := by decide +kernel
theorem dX6_areAlike_82 : decode cX6_areAlike 82 = .ok (.aload_n 0, 1) := by decide +kernel
theorem dX6_areAlike_83 : decode cX6_areAlike 83 = .ok (.getfield 56, 3) := by decide +kernel
theorem dX6_areAlike_86 : decode cX6_areAlike 86 = .ok (.iload 5, 2) := by decide +kernel
theorem dX6_areAlike_88 : decode cX6_areAlike 88 = .ok (.iconst 3, 1) := by decide +kernel
theorem dX6_areAlike_89 : decode cX6_areAlike 89 = .ok (.iadd, 1) := by decide +kernel
theorem dX6_areAlike_90 : decode cX6_areAlike 90 = .ok (.iaload, 1) := by decide +kernel
theorem dX6_areAlike_91 : decode cX6_areAlike 91 = .ok (.if_icmp .gt 28, 3) := by decide +kernel
theorem dX6_areAlike_94 : decode cX6_areAlike 94 = .ok (.aload_n 0, 1) := by decide +kernel
theorem dX6_areAlike_95 : decode cX6_areAlike 95 = .ok (.getfield 56, 3) := by decide +kernel
theorem dX6_areAlike_98 : decode cX6_areAlike 98 = .ok (.iload 5, 2) := by decide +kernel
theorem dX6_areAlike_100 : decode cX6_areAlike 100 = .ok (.iconst 2, 1) := by decide +kernel
theorem dX6_areAlike_101 : decode cX6_areAlike 101 = .ok (.iadd, 1) := by decide +kernel
theorem dX6_areAlike_102 : decode cX6_areAlike 102 = .ok (.iaload, 1) := by decide +kernel
theorem dX6_areAlike_103 : decode cX6_areAlike 103 = .ok (.aload_n 0, 1) := by decide +kernel
theorem dX6_areAlike_104 : decode cX6_areAlike 104 = .ok (.getfield 56, 3) := by decide +kernel
theorem dX6_areAlike_107 : decode cX6_areAlike 107 = .ok (.iload 4, 2) := by decide +kernel
theorem dX6_areAlike_109 : decode cX6_areAlike 109 = .ok (.iconst 3, 1) := by decide +kernel
theorem dX6_areAlike_110 : decode cX6_areAlike 110 = .ok (.iadd, 1) := by decide +kernel
theorem dX6_areAlike_111 : decode cX6_areAlike 111 = .ok (.iaload, 1) := by decide +kernel
theorem dX6_areAlike_112 : decode cX6_areAlike 112 = .ok (.if_icmp .gt 7, 3) := by decide +kernel
theorem dX6_areAlike_115 : decode cX6_areAlike 115 = .ok (.iconst 1, 1) := by decide +kernel
theorem dX6_areAlike_116 : decode cX6_areAlike 116 = .ok (.goto 4, 3) := by decide +kernel
theorem dX6_areAlike_119 : decode cX6_areAlike 119 = .ok (.iconst 0, 1) := by decide +kernel
theorem dX6_areAlike_120 : decode cX6_areAlike 120 = .ok (.istore 7, 2) := by decide +kernel
theorem dX6_areAlike_122 : decode cX6_areAlike 122 = .ok (.aload_n 0, 1) := by decide +kernel
theorem dX6_areAlike_123 : decode cX6_areAlike 123 = .ok (.getfield 56, 3) := by decide +kernel
theorem dX6_areAlike_126 : decode cX6_areAlike 126 = .ok (.iload 4, 2) := by decide +kernel
theorem dX6_areAlike_128 : decode cX6_areAlike 128 = .ok (.iconst 4, 1) := by decide +kernel
theorem dX6_areAlike_129 : decode cX6_areAlike 129 = .ok (.iadd, 1) := by decide +kernel
theorem dX6_areAlike_130 : decode cX6_areAlike 130 = .ok (.iaload, 1) := by decide +kernel
theorem dX6_areAlike_131 : decode cX6_areAlike 131 = .ok (.aload_n 0, 1) := by decide +kernel
theorem dX6_areAlike_132 : decode cX6_areAlike 132 = .ok (.getfield 56, 3) := by decide +kernel
theorem dX6_areAlike_135 : decode cX6_areAlike 135 = .ok (.iload 5, 2) := by decide +kernel
theorem dX6_areAlike_137 : decode cX6_areAlike 137 = .ok (.iconst 4, 1) := by decide +kernel
theorem dX6_areAlike_138 : decode cX6_areAlike 138 = .ok (.iadd, 1) := by decide +kernel
theorem dX6_areAlike_139 : decode cX6_areAlike 139 = .ok (.iaload, 1) := by decide +kernel
theorem dX6_areAlike_140 : decode cX6_areAlike 140 = .ok (.if_icmp .eq 27, 3) := by decide +kernel
theorem dX6_areAlike_143 : decode cX6_areAlike 143 = .ok (.aload_n 0, 1) := by decide +kernel
theorem dX6_areAlike_144 : decode cX6_areAlike 144 = .ok (.getfield 56, 3) := by decide +kernel
theorem dX6_areAlike_147 : decode cX6_areAlike 147 = .ok (.iload 4, 2) := by decide +kernel
theorem dX6_areAlike_149 : decode cX6_areAlike 149 = .ok (.iconst 4, 1) := by decide +kernel
theorem dX6_areAlike_150 : decode cX6_areAlike 150 = .ok (.iadd, 1) := by decide +kernel
theorem dX6_areAlike_151 : decode cX6_areAlike 151 = .ok (.iaload, 1) := by decide +kernel
theorem dX6_areAlike_152 : decode cX6_areAlike 152 = .ok (.ifCond .eq 15, 3) := by decide +kernel
theorem dX6_areAlike_155 : decode cX6_areAlike 155 = .ok (.aload_n 0, 1) := by decide +kernel
theorem dX6_areAlike_156 : decode cX6_areAlike 156 = .ok (.getfield 56, 3) := by decide +kernel
theorem dX6_areAlike_159 : decode cX6_areAlike 159 = .ok (.iload 5, 2) := by decide +kernel
theorem dX6_areAlike_161 : decode cX6_areAlike 161 = .ok (.iconst 4, 1) := by decide +kernel
theorem dX6_areAlike_162 : decode cX6_areAlike 162 = .ok (.iadd, 1) := by decide +kernel
theorem dX6_areAlike_163 : decode cX6_areAlike 163 = .ok (.iaload, 1) := by decide +kernel
theorem dX6_areAlike_164 : decode cX6_areAlike 164 = .ok (.ifCond .ne 7, 3) := by decide +kernel
theorem dX6_areAlike_167 : decode cX6_areAlike 167 = .ok (.iconst 1, 1) := by decide +kernel
theorem dX6_areAlike_168 : decode cX6_areAlike 168 = .ok (.goto 4, 3) := by decide +kernel
theorem dX6_areAlike_171 : decode cX6_areAlike 171 = .ok (.iconst 0, 1) := by decide +kernel
theorem dX6_areAlike_172 : decode cX6_areAlike 172 = .ok (.istore 8, 2) := by decide +kernel
theorem dX6_areAlike_174 : decode cX6_areAlike 174 = .ok (.iload 6, 2) := by decide +kernel
theorem dX6_areAlike_176 : decode cX6_areAlike 176 = .ok (.ifCond .ne 17, 3) := by decide +kernel
theorem dX6_areAlike_179 : decode cX6_areAlike 179 = .ok (.iload 7, 2) := by decide +kernel
theorem dX6_areAlike_181 : decode cX6_areAlike 181 = .ok (.ifCond .eq 12, 3) := by decide +kernel
theorem dX6_areAlike_184 : decode cX6_areAlike 184 = .ok (.iload 8, 2) := by decide +kernel
theorem dX6_areAlike_186 : decode cX6_areAlike 186 = .ok (.ifCond .eq 7, 3) := by decide +kernel
theorem dX6_areAlike_189 : decode cX6_areAlike 189 = .ok (.iconst 1, 1) := by decide +kernel
theorem dX6_areAlike_190 : decode cX6_areAlike 190 = .ok (.goto 4, 3) := by decide +kernel
theorem dX6_areAlike_193 : decode cX6_areAlike 193 = .ok (.iconst 0, 1) := by decide +kernel
theorem dX6_areAlike_194 : decode cX6_areAlike 194 = .ok (.ireturn, 1) := by decide +kernel
theorem dX6_alike_0 : decode cX6_alike 0 = .ok (.aload_n 0, 1) := by decide +kernel
theorem dX6_alike_1 : decode cX6_alike 1 = .ok (.iload_n 1, 1) := by decide +kernel
theorem dX6_alike_2 : decode cX6_alike 2 = .ok (.invokevirtual 190, 3) := by decide +kernel
theorem dX6_alike_5 : decode cX6_alike 5 = .ok (.ifCond .eq 16, 3) := by decide +kernel
theorem dX6_alike_8 : decode cX6_alike 8 = .ok (.aload_n 0, 1) := by decide +kernel
theorem dX6_alike_9 : decode cX6_alike 9 = .ok (.iload_n 2, 1) := by decide +kernel
theorem dX6_alike_10 : decode cX6_alike 10 = .ok (.invokevirtual 190, 3) := by decide +kernel
theorem dX6_alike_13 : decode cX6_alike 13 = .ok (.ifCond .eq 8, 3) := by decide +kernel
theorem dX6_alike_16 : decode cX6_alike 16 = .ok (.iload_n 1, 1) := by decide +kernel
theorem dX6_alike_17 : decode cX6_alike 17 = .ok (.iload_n 2, 1) := by decide +kernel
theorem dX6_alike_18 : decode cX6_alike 18 = .ok (.if_icmp .ne 5, 3) := by decide +kernel
theorem dX6_alike_21 : decode cX6_alike 21 = .ok (.iconst (-1), 1) := by decide +kernel
theorem dX6_alike_22 : decode cX6_alike 22 = .ok (.ireturn, 1) := by decide +kernel
theorem dX6_alike_23 : decode cX6_alike 23 = .ok (.aload_n 0, 1) := by decide +kernel
theorem dX6_alike_24 : decode cX6_alike 24 = .ok (.iload_n 1, 1) := by decide +kernel
theorem dX6_alike_25 : decode cX6_alike 25 = .ok (.iload_n 2, 1) := by decide +kernel
theorem dX6_alike_26 : decode cX6_alike 26 = .ok (.invokevirtual 197, 3) := by decide +kernel
theorem dX6_alike_29 : decode cX6_alike 29 = .ok (.ifCond .eq 7, 3) := by decide +kernel
theorem dX6_alike_32 : decode cX6_alike 32 = .ok (.iconst 1, 1) := by decide +kernel
theorem dX6_alike_33 : decode cX6_alike 33 = .ok (.goto 4, 3) := by decide +kernel
theorem dX6_alike_36 : decode cX6_alike 36 = .ok (.iconst 0, 1) := by decide +kernel
theorem dX6_alike_37 : decode cX6_alike 37 = .ok (.ireturn, 1) := by decide +kernel
theorem dX6_mayJoin_0 : decode cX6_mayJoin 0 = .ok (.iconst 0, 1) := by decide +kernel
theorem dX6_mayJoin_1 : decode cX6_mayJoin 1 = .ok (.istore_n 2, 1) := by decide +kernel
theorem dX6_mayJoin_2 : decode cX6_mayJoin 2 = .ok (.iload_n 2, 1) := by decide +kernel
theorem dX6_mayJoin_3 : decode cX6_mayJoin 3 = .ok (.iload_n 1, 1) := by decide +kernel
theorem dX6_mayJoin_4 : decode cX6_mayJoin 4 = .ok (.if_icmp .ge 35, 3) := by decide +kernel
theorem dX6_mayJoin_7 : decode cX6_mayJoin 7 = .ok (.aload_n 0, 1) := by decide +kernel
theorem dX6_mayJoin_8 : decode cX6_mayJoin 8 = .ok (.getfield 83, 3) := by decide +kernel
theorem dX6_mayJoin_11 : decode cX6_mayJoin 11 = .ok (.iload_n 2, 1) := by decide +kernel
theorem dX6_mayJoin_12 : decode cX6_mayJoin 12 = .ok (.iaload, 1) := by decide +kernel
theorem dX6_mayJoin_13 : decode cX6_mayJoin 13 = .ok (.aload_n 0, 1) := by decide +kernel
theorem dX6_mayJoin_14 : decode cX6_mayJoin 14 = .ok (.getfield 83, 3) := by decide +kernel
theorem dX6_mayJoin_17 : decode cX6_mayJoin 17 = .ok (.iload_n 1, 1) := by decide +kernel
theorem dX6_mayJoin_18 : decode cX6_mayJoin 18 = .ok (.iaload, 1) := by decide +kernel
theorem dX6_mayJoin_19 : decode cX6_mayJoin 19 = .ok (.if_icmp .ne 14, 3) := by decide +kernel
theorem dX6_mayJoin_22 : decode cX6_mayJoin 22 = .ok (.aload_n 0, 1) := by decide +kernel
theorem dX6_mayJoin_23 : decode cX6_mayJoin 23 = .ok (.iload_n 2, 1) := by decide +kernel
theorem dX6_mayJoin_24 : decode cX6_mayJoin 24 = .ok (.iload_n 1, 1) := by decide +kernel
theorem dX6_mayJoin_25 : decode cX6_mayJoin 25 = .ok (.invokevirtual 197, 3) := by decide +kernel
theorem dX6_mayJoin_28 : decode cX6_mayJoin 28 = .ok (.ifCond .ne 5, 3) := by decide +kernel
theorem dX6_mayJoin_31 : decode cX6_mayJoin 31 = .ok (.iconst 0, 1) := by decide +kernel
theorem dX6_mayJoin_32 : decode cX6_mayJoin 32 = .ok (.ireturn, 1) := by decide +kernel
theorem dX6_mayJoin_33 : decode cX6_mayJoin 33 = .ok (.iinc 2 1, 3) := by decide +kernel
theorem dX6_mayJoin_36 : decode cX6_mayJoin 36 = .ok (.goto (-34), 3) := by decide +kernel
theorem dX6_mayJoin_39 : decode cX6_mayJoin 39 = .ok (.iconst 1, 1) := by decide +kernel
theorem dX6_mayJoin_40 : decode cX6_mayJoin 40 = .ok (.ireturn, 1) := by decide +kernel
theorem dX6_findJoining_0 : decode cX6_findJoining 0 = .ok (.iconst 0, 1) := by decide +kernel
theorem dX6_findJoining_1 : decode cX6_findJoining 1 = .ok (.istore_n 2, 1) := by decide +kernel
theorem dX6_findJoining_2 : decode cX6_findJoining 2 = .ok (.aload_n 0, 1) := by decide +kernel
theorem dX6_findJoining_3 : decode cX6_findJoining 3 = .ok (.getfield 83, 3) := by decide +kernel
theorem dX6_findJoining_6 : decode cX6_findJoining 6 = .ok (.iconst 0, 1) := by decide +kernel
theorem dX6_findJoining_7 : decode cX6_findJoining 7 = .ok (.iconst 0, 1) := by decide +kernel
theorem dX6_findJoining_8 : decode cX6_findJoining 8 = .ok (.iastore, 1) := by decide +kernel
theorem dX6_findJoining_9 : decode cX6_findJoining 9 = .ok (.aload_n 0, 1) := by decide +kernel
theorem dX6_findJoining_10 : decode cX6_findJoining 10 = .ok (.getfield 86, 3) := by decide +kernel
theorem dX6_findJoining_13 : decode cX6_findJoining 13 = .ok (.iconst 0, 1) := by decide +kernel
theorem dX6_findJoining_14 : decode cX6_findJoining 14 = .ok (.iconst 0, 1) := by decide +kernel
theorem dX6_findJoining_15 : decode cX6_findJoining 15 = .ok (.iastore, 1) := by decide +kernel
theorem dX6_findJoining_16 : decode cX6_findJoining 16 = .ok (.iload_n 2, 1) := by decide +kernel
theorem dX6_findJoining_17 : decode cX6_findJoining 17 = .ok (.ifCond .lt 148, 3) := by decide +kernel
theorem dX6_findJoining_20 : decode cX6_findJoining 20 = .ok (.iload_n 2, 1) := by decide +kernel
theorem dX6_findJoining_21 : decode cX6_findJoining 21 = .ok (.aload_n 0, 1) := by decide +kernel
theorem dX6_findJoining_22 : decode cX6_findJoining 22 = .ok (.getfield 184, 3) := by decide +kernel
theorem dX6_findJoining_25 : decode cX6_findJoining 25 = .ok (.if_icmp .ge 140, 3) := by decide +kernel
theorem dX6_findJoining_28 : decode cX6_findJoining 28 = .ok (.aload_n 0, 1) := by decide +kernel
theorem dX6_findJoining_29 : decode cX6_findJoining 29 = .ok (.getfield 86, 3) := by decide +kernel
theorem dX6_findJoining_32 : decode cX6_findJoining 32 = .ok (.iload_n 2, 1) := by decide +kernel
theorem dX6_findJoining_33 : decode cX6_findJoining 33 = .ok (.iaload, 1) := by decide +kernel
theorem dX6_findJoining_34 : decode cX6_findJoining 34 = .ok (.iload_n 1, 1) := by decide +kernel
theorem dX6_findJoining_35 : decode cX6_findJoining 35 = .ok (.if_icmp .ge 12, 3) := by decide +kernel
theorem dX6_findJoining_38 : decode cX6_findJoining 38 = .ok (.aload_n 0, 1) := by decide +kernel
theorem dX6_findJoining_39 : decode cX6_findJoining 39 = .ok (.getfield 86, 3) := by decide +kernel
theorem dX6_findJoining_42 : decode cX6_findJoining 42 = .ok (.iload_n 2, 1) := by decide +kernel
theorem dX6_findJoining_43 : decode cX6_findJoining 43 = .ok (.iaload, 1) := by decide +kernel
theorem dX6_findJoining_44 : decode cX6_findJoining 44 = .ok (.goto 6, 3) := by decide +kernel
theorem dX6_findJoining_47 : decode cX6_findJoining 47 = .ok (.iload_n 1, 1) := by decide +kernel
theorem dX6_findJoining_48 : decode cX6_findJoining 48 = .ok (.iconst 1, 1) := by decide +kernel
theorem dX6_findJoining_49 : decode cX6_findJoining 49 = .ok (.isub, 1) := by decide +kernel
theorem dX6_findJoining_50 : decode cX6_findJoining 50 = .ok (.istore_n 3, 1) := by decide +kernel
theorem dX6_findJoining_51 : decode cX6_findJoining 51 = .ok (.aload_n 0, 1) := by decide +kernel
theorem dX6_findJoining_52 : decode cX6_findJoining 52 = .ok (.getfield 83, 3) := by decide +kernel
theorem dX6_findJoining_55 : decode cX6_findJoining 55 = .ok (.iload_n 2, 1) := by decide +kernel
theorem dX6_findJoining_56 : decode cX6_findJoining 56 = .ok (.iaload, 1) := by decide +kernel
theorem dX6_findJoining_57 : decode cX6_findJoining 57 = .ok (.iload_n 3, 1) := by decide +kernel
theorem dX6_findJoining_58 : decode cX6_findJoining 58 = .ok (.if_icmp .gt 24, 3) := by decide +kernel
theorem dX6_findJoining_61 : decode cX6_findJoining 61 = .ok (.aload_n 0, 1) := by decide +kernel
theorem dX6_findJoining_62 : decode cX6_findJoining 62 = .ok (.iload_n 2, 1) := by decide +kernel
theorem dX6_findJoining_63 : decode cX6_findJoining 63 = .ok (.invokevirtual 201, 3) := by decide +kernel
theorem dX6_findJoining_66 : decode cX6_findJoining 66 = .ok (.ifCond .ne 16, 3) := by decide +kernel
theorem dX6_findJoining_69 : decode cX6_findJoining 69 = .ok (.aload_n 0, 1) := by decide +kernel
theorem dX6_findJoining_70 : decode cX6_findJoining 70 = .ok (.getfield 83, 3) := by decide +kernel
theorem dX6_findJoining_73 : decode cX6_findJoining 73 = .ok (.iload_n 2, 1) := by decide +kernel
theorem dX6_findJoining_74 : decode cX6_findJoining 74 = .ok (.dup2, 1) := by decide +kernel
theorem dX6_findJoining_75 : decode cX6_findJoining 75 = .ok (.iaload, 1) := by decide +kernel
theorem dX6_findJoining_76 : decode cX6_findJoining 76 = .ok (.iconst 1, 1) := by decide +kernel
theorem dX6_findJoining_77 : decode cX6_findJoining 77 = .ok (.iadd, 1) := by decide +kernel
theorem dX6_findJoining_78 : decode cX6_findJoining 78 = .ok (.iastore, 1) := by decide +kernel
theorem dX6_findJoining_79 : decode cX6_findJoining 79 = .ok (.goto (-28), 3) := by decide +kernel
theorem dX6_findJoining_82 : decode cX6_findJoining 82 = .ok (.aload_n 0, 1) := by decide +kernel
theorem dX6_findJoining_83 : decode cX6_findJoining 83 = .ok (.getfield 83, 3) := by decide +kernel
theorem dX6_findJoining_86 : decode cX6_findJoining 86 = .ok (.iload_n 2, 1) := by decide +kernel
theorem dX6_findJoining_87 : decode cX6_findJoining 87 = .ok (.iaload, 1) := by decide +kernel
theorem dX6_findJoining_88 : decode cX6_findJoining 88 = .ok (.iload_n 3, 1) := by decide +kernel
theorem dX6_findJoining_89 : decode cX6_findJoining 89 = .ok (.if_icmp .gt 56, 3) := by decide +kernel
theorem dX6_findJoining_92 : decode cX6_findJoining 92 = .ok (.aload_n 0, 1) := by decide +kernel
theorem dX6_findJoining_93 : decode cX6_findJoining 93 = .ok (.getfield 86, 3) := by decide +kernel
theorem dX6_findJoining_96 : decode cX6_findJoining 96 = .ok (.iload_n 2, 1) := by decide +kernel
theorem dX6_findJoining_97 : decode cX6_findJoining 97 = .ok (.iconst 1, 1) := by decide +kernel
theorem dX6_findJoining_98 : decode cX6_findJoining 98 = .ok (.iadd, 1) := by decide +kernel
theorem dX6_findJoining_99 : decode cX6_findJoining 99 = .ok (.aload_n 0, 1) := by decide +kernel
theorem dX6_findJoining_100 : decode cX6_findJoining 100 = .ok (.getfield 83, 3) := by decide +kernel
theorem dX6_findJoining_103 : decode cX6_findJoining 103 = .ok (.iload_n 2, 1) := by decide +kernel
theorem dX6_findJoining_104 : decode cX6_findJoining 104 = .ok (.iaload, 1) := by decide +kernel
theorem dX6_findJoining_105 : decode cX6_findJoining 105 = .ok (.aload_n 0, 1) := by decide +kernel
theorem dX6_findJoining_106 : decode cX6_findJoining 106 = .ok (.getfield 86, 3) := by decide +kernel
theorem dX6_findJoining_109 : decode cX6_findJoining 109 = .ok (.iload_n 2, 1) := by decide +kernel
theorem dX6_findJoining_110 : decode cX6_findJoining 110 = .ok (.iaload, 1) := by decide +kernel
theorem dX6_findJoining_111 : decode cX6_findJoining 111 = .ok (.if_icmp .ne 14, 3) := by decide +kernel
theorem dX6_findJoining_114 : decode cX6_findJoining 114 = .ok (.aload_n 0, 1) := by decide +kernel
theorem dX6_findJoining_115 : decode cX6_findJoining 115 = .ok (.getfield 86, 3) := by decide +kernel
theorem dX6_findJoining_118 : decode cX6_findJoining 118 = .ok (.iload_n 2, 1) := by decide +kernel
theorem dX6_findJoining_119 : decode cX6_findJoining 119 = .ok (.iaload, 1) := by decide +kernel
theorem dX6_findJoining_120 : decode cX6_findJoining 120 = .ok (.iconst 1, 1) := by decide +kernel
theorem dX6_findJoining_121 : decode cX6_findJoining 121 = .ok (.iadd, 1) := by decide +kernel
theorem dX6_findJoining_122 : decode cX6_findJoining 122 = .ok (.goto 9, 3) := by decide +kernel
theorem dX6_findJoining_125 : decode cX6_findJoining 125 = .ok (.aload_n 0, 1) := by decide +kernel
theorem dX6_findJoining_126 : decode cX6_findJoining 126 = .ok (.getfield 86, 3) := by decide +kernel
theorem dX6_findJoining_129 : decode cX6_findJoining 129 = .ok (.iload_n 2, 1) := by decide +kernel
theorem dX6_findJoining_130 : decode cX6_findJoining 130 = .ok (.iaload, 1) := by decide +kernel
theorem dX6_findJoining_131 : decode cX6_findJoining 131 = .ok (.iastore, 1) := by decide +kernel
theorem dX6_findJoining_132 : decode cX6_findJoining 132 = .ok (.iinc 2 1, 3) := by decide +kernel
theorem dX6_findJoining_135 : decode cX6_findJoining 135 = .ok (.aload_n 0, 1) := by decide +kernel
theorem dX6_findJoining_136 : decode cX6_findJoining 136 = .ok (.getfield 83, 3) := by decide +kernel
theorem dX6_findJoining_139 : decode cX6_findJoining 139 = .ok (.iload_n 2, 1) := by decide +kernel
theorem dX6_findJoining_140 : decode cX6_findJoining 140 = .ok (.iconst 0, 1) := by decide +kernel
theorem dX6_findJoining_141 : decode cX6_findJoining 141 = .ok (.iastore, 1) := by decide +kernel
theorem dX6_findJoining_142 : decode cX6_findJoining 142 = .ok (.goto 20, 3) := by decide +kernel
theorem dX6_findJoining_145 : decode cX6_findJoining 145 = .ok (.iinc 2 (-1), 3) := by decide +kernel
theorem dX6_findJoining_148 : decode cX6_findJoining 148 = .ok (.iload_n 2, 1) := by decide +kernel
theorem dX6_findJoining_149 : decode cX6_findJoining 149 = .ok (.ifCond .lt 13, 3) := by decide +kernel
theorem dX6_findJoining_152 : decode cX6_findJoining 152 = .ok (.aload_n 0, 1) := by decide +kernel
theorem dX6_findJoining_153 : decode cX6_findJoining 153 = .ok (.getfield 83, 3) := by decide +kernel
theorem dX6_findJoining_156 : decode cX6_findJoining 156 = .ok (.iload_n 2, 1) := by decide +kernel
theorem dX6_findJoining_157 : decode cX6_findJoining 157 = .ok (.dup2, 1) := by decide +kernel
theorem dX6_findJoining_158 : decode cX6_findJoining 158 = .ok (.iaload, 1) := by decide +kernel
theorem dX6_findJoining_159 : decode cX6_findJoining 159 = .ok (.iconst 1, 1) := by decide +kernel
theorem dX6_findJoining_160 : decode cX6_findJoining 160 = .ok (.iadd, 1) := by decide +kernel
theorem dX6_findJoining_161 : decode cX6_findJoining 161 = .ok (.iastore, 1) := by decide +kernel
theorem dX6_findJoining_162 : decode cX6_findJoining 162 = .ok (.goto (-146), 3) := by decide +kernel
theorem dX6_findJoining_165 : decode cX6_findJoining 165 = .ok (.iload_n 2, 1) := by decide +kernel
theorem dX6_findJoining_166 : decode cX6_findJoining 166 = .ok (.ifCond .lt 7, 3) := by decide +kernel
theorem dX6_findJoining_169 : decode cX6_findJoining 169 = .ok (.iconst 1, 1) := by decide +kernel
theorem dX6_findJoining_170 : decode cX6_findJoining 170 = .ok (.goto 4, 3) := by decide +kernel
theorem dX6_findJoining_173 : decode cX6_findJoining 173 = .ok (.iconst 0, 1) := by decide +kernel
theorem dX6_findJoining_174 : decode cX6_findJoining 174 = .ok (.ireturn, 1) := by decide +kernel
theorem dX6_join_0 : decode cX6_join 0 = .ok (.aload_n 0, 1) := by decide +kernel
theorem dX6_join_1 : decode cX6_join 1 = .ok (.getfield 184, 3) := by decide +kernel
theorem dX6_join_4 : decode cX6_join 4 = .ok (.ifCond .ne 7, 3) := by decide +kernel
theorem dX6_join_7 : decode cX6_join 7 = .ok (.iconst 0, 1) := by decide +kernel
theorem dX6_join_8 : decode cX6_join 8 = .ok (.goto 4, 3) := by decide +kernel
theorem dX6_join_11 : decode cX6_join 11 = .ok (.iconst 1, 1) := by decide +kernel
theorem dX6_join_12 : decode cX6_join 12 = .ok (.istore_n 1, 1) := by decide +kernel
theorem dX6_join_13 : decode cX6_join 13 = .ok (.aload_n 0, 1) := by decide +kernel
theorem dX6_join_14 : decode cX6_join 14 = .ok (.getfield 184, 3) := by decide +kernel
theorem dX6_join_17 : decode cX6_join 17 = .ok (.ifCond .le 17, 3) := by decide +kernel
theorem dX6_join_20 : decode cX6_join 20 = .ok (.aload_n 0, 1) := by decide +kernel
theorem dX6_join_21 : decode cX6_join 21 = .ok (.iload_n 1, 1) := by decide +kernel
theorem dX6_join_22 : decode cX6_join 22 = .ok (.invokevirtual 204, 3) := by decide +kernel
theorem dX6_join_25 : decode cX6_join 25 = .ok (.ifCond .ne 9, 3) := by decide +kernel
theorem dX6_join_28 : decode cX6_join 28 = .ok (.iinc 1 1, 3) := by decide +kernel
theorem dX6_join_31 : decode cX6_join 31 = .ok (.goto (-18), 3) := by decide +kernel
theorem dX6_join_34 : decode cX6_join 34 = .ok (.iload_n 1, 1) := by decide +kernel
theorem dX6_join_35 : decode cX6_join 35 = .ok (.ireturn, 1) := by decide +kernel
theorem dX6_group_0 : decode cX6_group 0 = .ok (.aload_n 0, 1) := by decide +kernel
theorem dX6_group_1 : decode cX6_group 1 = .ok (.iload_n 1, 1) := by decide +kernel
theorem dX6_group_2 : decode cX6_group 2 = .ok (.invokevirtual 190, 3) := by decide +kernel
theorem dX6_group_5 : decode cX6_group 5 = .ok (.ifCond .ne 5, 3) := by decide +kernel
theorem dX6_group_8 : decode cX6_group 8 = .ok (.iconst (-1), 1) := by decide +kernel
theorem dX6_group_9 : decode cX6_group 9 = .ok (.ireturn, 1) := by decide +kernel
theorem dX6_group_10 : decode cX6_group 10 = .ok (.aload_n 0, 1) := by decide +kernel
theorem dX6_group_11 : decode cX6_group 11 = .ok (.invokevirtual 207, 3) := by decide +kernel
theorem dX6_group_14 : decode cX6_group 14 = .ok (.istore_n 2, 1) := by decide +kernel
theorem dX6_group_15 : decode cX6_group 15 = .ok (.aload_n 0, 1) := by decide +kernel
theorem dX6_group_16 : decode cX6_group 16 = .ok (.getfield 83, 3) := by decide +kernel
theorem dX6_group_19 : decode cX6_group 19 = .ok (.iload_n 1, 1) := by decide +kernel
theorem dX6_group_20 : decode cX6_group 20 = .ok (.iaload, 1) := by decide +kernel
theorem dX6_group_21 : decode cX6_group 21 = .ok (.ireturn, 1) := by decide +kernel
theorem dX6_groups_0 : decode cX6_groups 0 = .ok (.aload_n 0, 1) := by decide +kernel
theorem dX6_groups_1 : decode cX6_groups 1 = .ok (.invokevirtual 207, 3) := by decide +kernel
theorem dX6_groups_4 : decode cX6_groups 4 = .ok (.ireturn, 1) := by decide +kernel
theorem dX6_entriesThat_0 : decode cX6_entriesThat 0 = .ok (.iconst 0, 1) := by decide +kernel
theorem dX6_entriesThat_1 : decode cX6_entriesThat 1 = .ok (.istore_n 2, 1) := by decide +kernel
theorem dX6_entriesThat_2 : decode cX6_entriesThat 2 = .ok (.iconst 0, 1) := by decide +kernel
theorem dX6_entriesThat_3 : decode cX6_entriesThat 3 = .ok (.istore_n 3, 1) := by decide +kernel
theorem dX6_entriesThat_4 : decode cX6_entriesThat 4 = .ok (.iload_n 3, 1) := by decide +kernel
theorem dX6_entriesThat_5 : decode cX6_entriesThat 5 = .ok (.aload_n 0, 1) := by decide +kernel
theorem dX6_entriesThat_6 : decode cX6_entriesThat 6 = .ok (.getfield 159, 3) := by decide +kernel
theorem dX6_entriesThat_9 : decode cX6_entriesThat 9 = .ok (.if_icmp .ge 42, 3) := by decide +kernel
theorem dX6_entriesThat_12 : decode cX6_entriesThat 12 = .ok (.iload_n 2, 1) := by decide +kernel
theorem dX6_entriesThat_13 : decode cX6_entriesThat 13 = .ok (.iload_n 1, 1) := by decide +kernel
theorem dX6_entriesThat_14 : decode cX6_entriesThat 14 = .ok (.ifCond .eq 15, 3) := by decide +kernel
theorem dX6_entriesThat_17 : decode cX6_entriesThat 17 = .ok (.aload_n 0, 1) := by decide +kernel
theorem dX6_entriesThat_18 : decode cX6_entriesThat 18 = .ok (.getfield 52, 3) := by decide +kernel
theorem dX6_entriesThat_21 : decode cX6_entriesThat 21 = .ok (.iload_n 3, 1) := by decide +kernel
theorem dX6_entriesThat_22 : decode cX6_entriesThat 22 = .ok (.baload, 1) := by decide +kernel
theorem dX6_entriesThat_23 : decode cX6_entriesThat 23 = .ok (.ifCond .eq 19, 3) := by decide +kernel
theorem dX6_entriesThat_26 : decode cX6_entriesThat 26 = .ok (.goto 12, 3) := by decide +kernel
theorem dX6_entriesThat_29 : decode cX6_entriesThat 29 = .ok (.aload_n 0, 1) := by decide +kernel
theorem dX6_entriesThat_30 : decode cX6_entriesThat 30 = .ok (.getfield 80, 3) := by decide +kernel
theorem dX6_entriesThat_33 : decode cX6_entriesThat 33 = .ok (.iload_n 3, 1) := by decide +kernel
theorem dX6_entriesThat_34 : decode cX6_entriesThat 34 = .ok (.baload, 1) := by decide +kernel
theorem dX6_entriesThat_35 : decode cX6_entriesThat 35 = .ok (.ifCond .eq 7, 3) := by decide +kernel
theorem dX6_entriesThat_38 : decode cX6_entriesThat 38 = .ok (.iconst 1, 1) := by decide +kernel
theorem dX6_entriesThat_39 : decode cX6_entriesThat 39 = .ok (.goto 4, 3) := by decide +kernel
theorem dX6_entriesThat_42 : decode cX6_entriesThat 42 = .ok (.iconst 0, 1) := by decide +kernel
theorem dX6_entriesThat_43 : decode cX6_entriesThat 43 = .ok (.iadd, 1) := by decide +kernel
theorem dX6_entriesThat_44 : decode cX6_entriesThat 44 = .ok (.istore_n 2, 1) := by decide +kernel
theorem dX6_entriesThat_45 : decode cX6_entriesThat 45 = .ok (.iinc 3 1, 3) := by decide +kernel
theorem dX6_entriesThat_48 : decode cX6_entriesThat 48 = .ok (.goto (-44), 3) := by decide +kernel
theorem dX6_entriesThat_51 : decode cX6_entriesThat 51 = .ok (.iload_n 2, 1) := by decide +kernel
theorem dX6_entriesThat_52 : decode cX6_entriesThat 52 = .ok (.ireturn, 1) := by decide +kernel
theorem dX6_standing_0 : decode cX6_standing 0 = .ok (.iconst 0, 1) := by decide +kernel
theorem dX6_standing_1 : decode cX6_standing 1 = .ok (.istore_n 1, 1) := by decide +kernel
theorem dX6_standing_2 : decode cX6_standing 2 = .ok (.iconst 0, 1) := by decide +kernel
theorem dX6_standing_3 : decode cX6_standing 3 = .ok (.istore_n 2, 1) := by decide +kernel
theorem dX6_standing_4 : decode cX6_standing 4 = .ok (.iload_n 2, 1) := by decide +kernel
theorem dX6_standing_5 : decode cX6_standing 5 = .ok (.aload_n 0, 1) := by decide +kernel
theorem dX6_standing_6 : decode cX6_standing 6 = .ok (.getfield 159, 3) := by decide +kernel
theorem dX6_standing_9 : decode cX6_standing 9 = .ok (.if_icmp .ge 26, 3) := by decide +kernel
theorem dX6_standing_12 : decode cX6_standing 12 = .ok (.iload_n 1, 1) := by decide +kernel
theorem dX6_standing_13 : decode cX6_standing 13 = .ok (.aload_n 0, 1) := by decide +kernel
theorem dX6_standing_14 : decode cX6_standing 14 = .ok (.getfield 77, 3) := by decide +kernel
theorem dX6_standing_17 : decode cX6_standing 17 = .ok (.iload_n 2, 1) := by decide +kernel
theorem dX6_standing_18 : decode cX6_standing 18 = .ok (.baload, 1) := by decide +kernel
theorem dX6_standing_19 : decode cX6_standing 19 = .ok (.ifCond .eq 7, 3) := by decide +kernel
theorem dX6_standing_22 : decode cX6_standing 22 = .ok (.iconst 1, 1) := by decide +kernel
theorem dX6_standing_23 : decode cX6_standing 23 = .ok (.goto 4, 3) := by decide +kernel
theorem dX6_standing_26 : decode cX6_standing 26 = .ok (.iconst 0, 1) := by decide +kernel
theorem dX6_standing_27 : decode cX6_standing 27 = .ok (.iadd, 1) := by decide +kernel
theorem dX6_standing_28 : decode cX6_standing 28 = .ok (.istore_n 1, 1) := by decide +kernel
theorem dX6_standing_29 : decode cX6_standing 29 = .ok (.iinc 2 1, 3) := by decide +kernel
theorem dX6_standing_32 : decode cX6_standing 32 = .ok (.goto (-28), 3) := by decide +kernel
theorem dX6_standing_35 : decode cX6_standing 35 = .ok (.iload_n 1, 1) := by decide +kernel
theorem dX6_standing_36 : decode cX6_standing 36 = .ok (.ireturn, 1) := by decide +kernel
theorem dX6_many_0 : decode cX6_many 0 = .ok (.aload_n 0, 1) := by decide +kernel
theorem dX6_many_1 : decode cX6_many 1 = .ok (.invokevirtual 178, 3) := by decide +kernel
theorem dX6_many_4 : decode cX6_many 4 = .ok (.iload_n 1, 1) := by decide +kernel
theorem dX6_many_5 : decode cX6_many 5 = .ok (.tableswitch 98 0 8 #[51, 56, 61, 66, 72, 78, 83, 88, 93], 51) := by decide +kernel
theorem dX6_many_56 : decode cX6_many 56 = .ok (.aload_n 0, 1) := by decide +kernel
theorem dX6_many_57 : decode cX6_many 57 = .ok (.getfield 105, 3) := by decide +kernel
theorem dX6_many_60 : decode cX6_many 60 = .ok (.ireturn, 1) := by decide +kernel
theorem dX6_many_61 : decode cX6_many 61 = .ok (.aload_n 0, 1) := by decide +kernel
theorem dX6_many_62 : decode cX6_many 62 = .ok (.getfield 149, 3) := by decide +kernel
theorem dX6_many_65 : decode cX6_many 65 = .ok (.ireturn, 1) := by decide +kernel
theorem dX6_many_66 : decode cX6_many 66 = .ok (.aload_n 0, 1) := by decide +kernel
theorem dX6_many_67 : decode cX6_many 67 = .ok (.getfield 159, 3) := by decide +kernel
theorem dX6_many_70 : decode cX6_many 70 = .ok (.ireturn, 1) := by decide +kernel
theorem dX6_many_71 : decode cX6_many 71 = .ok (.aload_n 0, 1) := by decide +kernel
theorem dX6_many_72 : decode cX6_many 72 = .ok (.iconst 1, 1) := by decide +kernel
theorem dX6_many_73 : decode cX6_many 73 = .ok (.invokevirtual 211, 3) := by decide +kernel
theorem dX6_many_76 : decode cX6_many 76 = .ok (.ireturn, 1) := by decide +kernel
theorem dX6_many_77 : decode cX6_many 77 = .ok (.aload_n 0, 1) := by decide +kernel
theorem dX6_many_78 : decode cX6_many 78 = .ok (.iconst 0, 1) := by decide +kernel
theorem dX6_many_79 : decode cX6_many 79 = .ok (.invokevirtual 211, 3) := by decide +kernel
theorem dX6_many_82 : decode cX6_many 82 = .ok (.ireturn, 1) := by decide +kernel
theorem dX6_many_83 : decode cX6_many 83 = .ok (.aload_n 0, 1) := by decide +kernel
theorem dX6_many_84 : decode cX6_many 84 = .ok (.invokevirtual 215, 3) := by decide +kernel
theorem dX6_many_87 : decode cX6_many 87 = .ok (.ireturn, 1) := by decide +kernel
theorem dX6_many_88 : decode cX6_many 88 = .ok (.aload_n 0, 1) := by decide +kernel
theorem dX6_many_89 : decode cX6_many 89 = .ok (.getfield 184, 3) := by decide +kernel
theorem dX6_many_92 : decode cX6_many 92 = .ok (.ireturn, 1) := by decide +kernel
theorem dX6_many_93 : decode cX6_many 93 = .ok (.aload_n 0, 1) := by decide +kernel
theorem dX6_many_94 : decode cX6_many 94 = .ok (.getfield 187, 3) := by decide +kernel
theorem dX6_many_97 : decode cX6_many 97 = .ok (.ireturn, 1) := by decide +kernel
theorem dX6_many_98 : decode cX6_many 98 = .ok (.aload_n 0, 1) := by decide +kernel
theorem dX6_many_99 : decode cX6_many 99 = .ok (.getfield 89, 3) := by decide +kernel
theorem dX6_many_102 : decode cX6_many 102 = .ok (.ireturn, 1) := by decide +kernel
theorem dX6_many_103 : decode cX6_many 103 = .ok (.iconst (-1), 1) := by decide +kernel
theorem dX6_many_104 : decode cX6_many 104 = .ok (.ireturn, 1) := by decide +kernel
end
section
theorem dL_law_0 : decode cL_law 0 = .ok (.new 7, 3) := by decide +kernel
theorem dL_law_3 : decode cL_law 3 = .ok (.dup, 1) := by decide +kernel
theorem dL_law_4 : decode cL_law 4 = .ok (.invokespecial 9, 3) := by decide +kernel
theorem dL_law_7 : decode cL_law 7 = .ok (.astore_n 1, 1) := by decide +kernel
theorem dL_law_8 : decode cL_law 8 = .ok (.new 10, 3) := by decide +kernel
theorem dL_law_11 : decode cL_law 11 = .ok (.dup, 1) := by decide +kernel
theorem dL_law_12 : decode cL_law 12 = .ok (.invokespecial 12, 3) := by decide +kernel
theorem dL_law_15 : decode cL_law 15 = .ok (.astore_n 2, 1) := by decide +kernel
theorem dL_law_16 : decode cL_law 16 = .ok (.iconst 0, 1) := by decide +kernel
theorem dL_law_17 : decode cL_law 17 = .ok (.istore_n 3, 1) := by decide +kernel
theorem dL_law_18 : decode cL_law 18 = .ok (.iload_n 3, 1) := by decide +kernel
theorem dL_law_19 : decode cL_law 19 = .ok (.aload_n 0, 1) := by decide +kernel
theorem dL_law_20 : decode cL_law 20 = .ok (.arraylength, 1) := by decide +kernel
theorem dL_law_21 : decode cL_law 21 = .ok (.bipush 6, 2) := by decide +kernel
theorem dL_law_23 : decode cL_law 23 = .ok (.isub, 1) := by decide +kernel
theorem dL_law_24 : decode cL_law 24 = .ok (.if_icmp .gt 1010, 3) := by decide +kernel
theorem dL_law_27 : decode cL_law 27 = .ok (.aload_n 0, 1) := by decide +kernel
theorem dL_law_28 : decode cL_law 28 = .ok (.iload_n 3, 1) := by decide +kernel
theorem dL_law_29 : decode cL_law 29 = .ok (.iaload, 1) := by decide +kernel
theorem dL_law_30 : decode cL_law 30 = .ok (.bipush 31, 2) := by decide +kernel
theorem dL_law_32 : decode cL_law 32 = .ok (.iand, 1) := by decide +kernel
theorem dL_law_33 : decode cL_law 33 = .ok (.tableswitch 995 0 23 #[111, 134, 147, 170, 193, 256, 299, 352, 415, 448, 481, 534, 587, 610, 633, 666, 725, 748, 781, 844, 903, 936, 959, 972], 111) := by decide +kernel
theorem dL_law_144 : decode cL_law 144 = .ok (.aload_n 1, 1) := by decide +kernel
theorem dL_law_145 : decode cL_law 145 = .ok (.aload_n 0, 1) := by decide +kernel
theorem dL_law_146 : decode cL_law 146 = .ok (.iload_n 3, 1) := by decide +kernel
theorem dL_law_147 : decode cL_law 147 = .ok (.iconst 1, 1) := by decide +kernel
theorem dL_law_148 : decode cL_law 148 = .ok (.iadd, 1) := by decide +kernel
theorem dL_law_149 : decode cL_law 149 = .ok (.iaload, 1) := by decide +kernel
theorem dL_law_150 : decode cL_law 150 = .ok (.invokevirtual 13, 3) := by decide +kernel
theorem dL_law_153 : decode cL_law 153 = .ok (.aload_n 2, 1) := by decide +kernel
theorem dL_law_154 : decode cL_law 154 = .ok (.aload_n 0, 1) := by decide +kernel
theorem dL_law_155 : decode cL_law 155 = .ok (.iload_n 3, 1) := by decide +kernel
theorem dL_law_156 : decode cL_law 156 = .ok (.iconst 1, 1) := by decide +kernel
theorem dL_law_157 : decode cL_law 157 = .ok (.iadd, 1) := by decide +kernel
theorem dL_law_158 : decode cL_law 158 = .ok (.iaload, 1) := by decide +kernel
theorem dL_law_159 : decode cL_law 159 = .ok (.invokevirtual 17, 3) := by decide +kernel
theorem dL_law_162 : decode cL_law 162 = .ok (.if_icmp .eq 866, 3) := by decide +kernel
theorem dL_law_165 : decode cL_law 165 = .ok (.iconst 0, 1) := by decide +kernel
theorem dL_law_166 : decode cL_law 166 = .ok (.ireturn, 1) := by decide +kernel
theorem dL_law_167 : decode cL_law 167 = .ok (.aload_n 1, 1) := by decide +kernel
theorem dL_law_168 : decode cL_law 168 = .ok (.invokevirtual 18, 3) := by decide +kernel
theorem dL_law_171 : decode cL_law 171 = .ok (.aload_n 2, 1) := by decide +kernel
theorem dL_law_172 : decode cL_law 172 = .ok (.invokevirtual 22, 3) := by decide +kernel
theorem dL_law_175 : decode cL_law 175 = .ok (.if_icmp .eq 853, 3) := by decide +kernel
theorem dL_law_178 : decode cL_law 178 = .ok (.iconst 0, 1) := by decide +kernel
theorem dL_law_179 : decode cL_law 179 = .ok (.ireturn, 1) := by decide +kernel
theorem dL_law_180 : decode cL_law 180 = .ok (.aload_n 1, 1) := by decide +kernel
theorem dL_law_181 : decode cL_law 181 = .ok (.aload_n 0, 1) := by decide +kernel
theorem dL_law_182 : decode cL_law 182 = .ok (.iload_n 3, 1) := by decide +kernel
theorem dL_law_183 : decode cL_law 183 = .ok (.iconst 1, 1) := by decide +kernel
theorem dL_law_184 : decode cL_law 184 = .ok (.iadd, 1) := by decide +kernel
theorem dL_law_185 : decode cL_law 185 = .ok (.iaload, 1) := by decide +kernel
theorem dL_law_186 : decode cL_law 186 = .ok (.invokevirtual 23, 3) := by decide +kernel
theorem dL_law_189 : decode cL_law 189 = .ok (.aload_n 2, 1) := by decide +kernel
theorem dL_law_190 : decode cL_law 190 = .ok (.aload_n 0, 1) := by decide +kernel
theorem dL_law_191 : decode cL_law 191 = .ok (.iload_n 3, 1) := by decide +kernel
theorem dL_law_192 : decode cL_law 192 = .ok (.iconst 1, 1) := by decide +kernel
theorem dL_law_193 : decode cL_law 193 = .ok (.iadd, 1) := by decide +kernel
theorem dL_law_194 : decode cL_law 194 = .ok (.iaload, 1) := by decide +kernel
theorem dL_law_195 : decode cL_law 195 = .ok (.invokevirtual 26, 3) := by decide +kernel
theorem dL_law_198 : decode cL_law 198 = .ok (.if_icmp .eq 830, 3) := by decide +kernel
theorem dL_law_201 : decode cL_law 201 = .ok (.iconst 0, 1) := by decide +kernel
theorem dL_law_202 : decode cL_law 202 = .ok (.ireturn, 1) := by decide +kernel
theorem dL_law_203 : decode cL_law 203 = .ok (.aload_n 1, 1) := by decide +kernel
theorem dL_law_204 : decode cL_law 204 = .ok (.aload_n 0, 1) := by decide +kernel
theorem dL_law_205 : decode cL_law 205 = .ok (.iload_n 3, 1) := by decide +kernel
theorem dL_law_206 : decode cL_law 206 = .ok (.iconst 1, 1) := by decide +kernel
theorem dL_law_207 : decode cL_law 207 = .ok (.iadd, 1) := by decide +kernel
theorem dL_law_208 : decode cL_law 208 = .ok (.iaload, 1) := by decide +kernel
theorem dL_law_209 : decode cL_law 209 = .ok (.invokevirtual 27, 3) := by decide +kernel
theorem dL_law_212 : decode cL_law 212 = .ok (.aload_n 2, 1) := by decide +kernel
theorem dL_law_213 : decode cL_law 213 = .ok (.aload_n 0, 1) := by decide +kernel
theorem dL_law_214 : decode cL_law 214 = .ok (.iload_n 3, 1) := by decide +kernel
theorem dL_law_215 : decode cL_law 215 = .ok (.iconst 1, 1) := by decide +kernel
theorem dL_law_216 : decode cL_law 216 = .ok (.iadd, 1) := by decide +kernel
theorem dL_law_217 : decode cL_law 217 = .ok (.iaload, 1) := by decide +kernel
theorem dL_law_218 : decode cL_law 218 = .ok (.invokevirtual 30, 3) := by decide +kernel
theorem dL_law_221 : decode cL_law 221 = .ok (.if_icmp .eq 807, 3) := by decide +kernel
theorem dL_law_224 : decode cL_law 224 = .ok (.iconst 0, 1) := by decide +kernel
theorem dL_law_225 : decode cL_law 225 = .ok (.ireturn, 1) := by decide +kernel
theorem dL_law_226 : decode cL_law 226 = .ok (.aload_n 1, 1) := by decide +kernel
theorem dL_law_227 : decode cL_law 227 = .ok (.aload_n 0, 1) := by decide +kernel
theorem dL_law_228 : decode cL_law 228 = .ok (.iload_n 3, 1) := by decide +kernel
theorem dL_law_229 : decode cL_law 229 = .ok (.iconst 1, 1) := by decide +kernel
theorem dL_law_230 : decode cL_law 230 = .ok (.iadd, 1) := by decide +kernel
theorem dL_law_231 : decode cL_law 231 = .ok (.iaload, 1) := by decide +kernel
theorem dL_law_232 : decode cL_law 232 = .ok (.aload_n 0, 1) := by decide +kernel
theorem dL_law_233 : decode cL_law 233 = .ok (.iload_n 3, 1) := by decide +kernel
theorem dL_law_234 : decode cL_law 234 = .ok (.iconst 2, 1) := by decide +kernel
theorem dL_law_235 : decode cL_law 235 = .ok (.iadd, 1) := by decide +kernel
theorem dL_law_236 : decode cL_law 236 = .ok (.iaload, 1) := by decide +kernel
theorem dL_law_237 : decode cL_law 237 = .ok (.aload_n 0, 1) := by decide +kernel
theorem dL_law_238 : decode cL_law 238 = .ok (.iload_n 3, 1) := by decide +kernel
theorem dL_law_239 : decode cL_law 239 = .ok (.iconst 3, 1) := by decide +kernel
theorem dL_law_240 : decode cL_law 240 = .ok (.iadd, 1) := by decide +kernel
theorem dL_law_241 : decode cL_law 241 = .ok (.iaload, 1) := by decide +kernel
theorem dL_law_242 : decode cL_law 242 = .ok (.aload_n 0, 1) := by decide +kernel
theorem dL_law_243 : decode cL_law 243 = .ok (.iload_n 3, 1) := by decide +kernel
theorem dL_law_244 : decode cL_law 244 = .ok (.iconst 4, 1) := by decide +kernel
theorem dL_law_245 : decode cL_law 245 = .ok (.iadd, 1) := by decide +kernel
theorem dL_law_246 : decode cL_law 246 = .ok (.iaload, 1) := by decide +kernel
theorem dL_law_247 : decode cL_law 247 = .ok (.aload_n 0, 1) := by decide +kernel
theorem dL_law_248 : decode cL_law 248 = .ok (.iload_n 3, 1) := by decide +kernel
theorem dL_law_249 : decode cL_law 249 = .ok (.iconst 5, 1) := by decide +kernel
theorem dL_law_250 : decode cL_law 250 = .ok (.iadd, 1) := by decide +kernel
theorem dL_law_251 : decode cL_law 251 = .ok (.iaload, 1) := by decide +kernel
theorem dL_law_252 : decode cL_law 252 = .ok (.invokevirtual 31, 3) := by decide +kernel
theorem dL_law_255 : decode cL_law 255 = .ok (.aload_n 2, 1) := by decide +kernel
theorem dL_law_256 : decode cL_law 256 = .ok (.aload_n 0, 1) := by decide +kernel
theorem dL_law_257 : decode cL_law 257 = .ok (.iload_n 3, 1) := by decide +kernel
theorem dL_law_258 : decode cL_law 258 = .ok (.iconst 1, 1) := by decide +kernel
theorem dL_law_259 : decode cL_law 259 = .ok (.iadd, 1) := by decide +kernel
theorem dL_law_260 : decode cL_law 260 = .ok (.iaload, 1) := by decide +kernel
theorem dL_law_261 : decode cL_law 261 = .ok (.aload_n 0, 1) := by decide +kernel
theorem dL_law_262 : decode cL_law 262 = .ok (.iload_n 3, 1) := by decide +kernel
theorem dL_law_263 : decode cL_law 263 = .ok (.iconst 2, 1) := by decide +kernel
theorem dL_law_264 : decode cL_law 264 = .ok (.iadd, 1) := by decide +kernel
theorem dL_law_265 : decode cL_law 265 = .ok (.iaload, 1) := by decide +kernel
theorem dL_law_266 : decode cL_law 266 = .ok (.aload_n 0, 1) := by decide +kernel
theorem dL_law_267 : decode cL_law 267 = .ok (.iload_n 3, 1) := by decide +kernel
theorem dL_law_268 : decode cL_law 268 = .ok (.iconst 3, 1) := by decide +kernel
theorem dL_law_269 : decode cL_law 269 = .ok (.iadd, 1) := by decide +kernel
theorem dL_law_270 : decode cL_law 270 = .ok (.iaload, 1) := by decide +kernel
theorem dL_law_271 : decode cL_law 271 = .ok (.aload_n 0, 1) := by decide +kernel
theorem dL_law_272 : decode cL_law 272 = .ok (.iload_n 3, 1) := by decide +kernel
theorem dL_law_273 : decode cL_law 273 = .ok (.iconst 4, 1) := by decide +kernel
theorem dL_law_274 : decode cL_law 274 = .ok (.iadd, 1) := by decide +kernel
theorem dL_law_275 : decode cL_law 275 = .ok (.iaload, 1) := by decide +kernel
theorem dL_law_276 : decode cL_law 276 = .ok (.aload_n 0, 1) := by decide +kernel
theorem dL_law_277 : decode cL_law 277 = .ok (.iload_n 3, 1) := by decide +kernel
theorem dL_law_278 : decode cL_law 278 = .ok (.iconst 5, 1) := by decide +kernel
theorem dL_law_279 : decode cL_law 279 = .ok (.iadd, 1) := by decide +kernel
theorem dL_law_280 : decode cL_law 280 = .ok (.iaload, 1) := by decide +kernel
theorem dL_law_281 : decode cL_law 281 = .ok (.invokevirtual 35, 3) := by decide +kernel
theorem dL_law_284 : decode cL_law 284 = .ok (.if_icmp .eq 744, 3) := by decide +kernel
theorem dL_law_287 : decode cL_law 287 = .ok (.iconst 0, 1) := by decide +kernel
theorem dL_law_288 : decode cL_law 288 = .ok (.ireturn, 1) := by decide +kernel
theorem dL_law_289 : decode cL_law 289 = .ok (.aload_n 1, 1) := by decide +kernel
theorem dL_law_290 : decode cL_law 290 = .ok (.aload_n 0, 1) := by decide +kernel
theorem dL_law_291 : decode cL_law 291 = .ok (.iload_n 3, 1) := by decide +kernel
theorem dL_law_292 : decode cL_law 292 = .ok (.iconst 1, 1) := by decide +kernel
theorem dL_law_293 : decode cL_law 293 = .ok (.iadd, 1) := by decide +kernel
theorem dL_law_294 : decode cL_law 294 = .ok (.iaload, 1) := by decide +kernel
theorem dL_law_295 : decode cL_law 295 = .ok (.aload_n 0, 1) := by decide +kernel
theorem dL_law_296 : decode cL_law 296 = .ok (.iload_n 3, 1) := by decide +kernel
theorem dL_law_297 : decode cL_law 297 = .ok (.iconst 2, 1) := by decide +kernel
theorem dL_law_298 : decode cL_law 298 = .ok (.iadd, 1) := by decide +kernel
theorem dL_law_299 : decode cL_law 299 = .ok (.iaload, 1) := by decide +kernel
theorem dL_law_300 : decode cL_law 300 = .ok (.aload_n 0, 1) := by decide +kernel
theorem dL_law_301 : decode cL_law 301 = .ok (.iload_n 3, 1) := by decide +kernel
theorem dL_law_302 : decode cL_law 302 = .ok (.iconst 3, 1) := by decide +kernel
theorem dL_law_303 : decode cL_law 303 = .ok (.iadd, 1) := by decide +kernel
theorem dL_law_304 : decode cL_law 304 = .ok (.iaload, 1) := by decide +kernel
theorem dL_law_305 : decode cL_law 305 = .ok (.invokevirtual 36, 3) := by decide +kernel
theorem dL_law_308 : decode cL_law 308 = .ok (.aload_n 2, 1) := by decide +kernel
theorem dL_law_309 : decode cL_law 309 = .ok (.aload_n 0, 1) := by decide +kernel
theorem dL_law_310 : decode cL_law 310 = .ok (.iload_n 3, 1) := by decide +kernel
theorem dL_law_311 : decode cL_law 311 = .ok (.iconst 1, 1) := by decide +kernel
theorem dL_law_312 : decode cL_law 312 = .ok (.iadd, 1) := by decide +kernel
theorem dL_law_313 : decode cL_law 313 = .ok (.iaload, 1) := by decide +kernel
theorem dL_law_314 : decode cL_law 314 = .ok (.aload_n 0, 1) := by decide +kernel
theorem dL_law_315 : decode cL_law 315 = .ok (.iload_n 3, 1) := by decide +kernel
theorem dL_law_316 : decode cL_law 316 = .ok (.iconst 2, 1) := by decide +kernel
theorem dL_law_317 : decode cL_law 317 = .ok (.iadd, 1) := by decide +kernel
theorem dL_law_318 : decode cL_law 318 = .ok (.iaload, 1) := by decide +kernel
theorem dL_law_319 : decode cL_law 319 = .ok (.aload_n 0, 1) := by decide +kernel
theorem dL_law_320 : decode cL_law 320 = .ok (.iload_n 3, 1) := by decide +kernel
theorem dL_law_321 : decode cL_law 321 = .ok (.iconst 3, 1) := by decide +kernel
theorem dL_law_322 : decode cL_law 322 = .ok (.iadd, 1) := by decide +kernel
theorem dL_law_323 : decode cL_law 323 = .ok (.iaload, 1) := by decide +kernel
theorem dL_law_324 : decode cL_law 324 = .ok (.invokevirtual 40, 3) := by decide +kernel
theorem dL_law_327 : decode cL_law 327 = .ok (.if_icmp .eq 701, 3) := by decide +kernel
theorem dL_law_330 : decode cL_law 330 = .ok (.iconst 0, 1) := by decide +kernel
theorem dL_law_331 : decode cL_law 331 = .ok (.ireturn, 1) := by decide +kernel
theorem dL_law_332 : decode cL_law 332 = .ok (.aload_n 1, 1) := by decide +kernel
theorem dL_law_333 : decode cL_law 333 = .ok (.aload_n 0, 1) := by decide +kernel
theorem dL_law_334 : decode cL_law 334 = .ok (.iload_n 3, 1) := by decide +kernel
theorem dL_law_335 : decode cL_law 335 = .ok (.iconst 1, 1) := by decide +kernel
theorem dL_law_336 : decode cL_law 336 = .ok (.iadd, 1) := by decide +kernel
theorem dL_law_337 : decode cL_law 337 = .ok (.iaload, 1) := by decide +kernel
theorem dL_law_338 : decode cL_law 338 = .ok (.aload_n 0, 1) := by decide +kernel
theorem dL_law_339 : decode cL_law 339 = .ok (.iload_n 3, 1) := by decide +kernel
theorem dL_law_340 : decode cL_law 340 = .ok (.iconst 2, 1) := by decide +kernel
theorem dL_law_341 : decode cL_law 341 = .ok (.iadd, 1) := by decide +kernel
theorem dL_law_342 : decode cL_law 342 = .ok (.iaload, 1) := by decide +kernel
theorem dL_law_343 : decode cL_law 343 = .ok (.aload_n 0, 1) := by decide +kernel
theorem dL_law_344 : decode cL_law 344 = .ok (.iload_n 3, 1) := by decide +kernel
theorem dL_law_345 : decode cL_law 345 = .ok (.iconst 3, 1) := by decide +kernel
theorem dL_law_346 : decode cL_law 346 = .ok (.iadd, 1) := by decide +kernel
theorem dL_law_347 : decode cL_law 347 = .ok (.iaload, 1) := by decide +kernel
theorem dL_law_348 : decode cL_law 348 = .ok (.aload_n 0, 1) := by decide +kernel
theorem dL_law_349 : decode cL_law 349 = .ok (.iload_n 3, 1) := by decide +kernel
theorem dL_law_350 : decode cL_law 350 = .ok (.iconst 4, 1) := by decide +kernel
theorem dL_law_351 : decode cL_law 351 = .ok (.iadd, 1) := by decide +kernel
theorem dL_law_352 : decode cL_law 352 = .ok (.iaload, 1) := by decide +kernel
theorem dL_law_353 : decode cL_law 353 = .ok (.invokevirtual 41, 3) := by decide +kernel
theorem dL_law_356 : decode cL_law 356 = .ok (.aload_n 2, 1) := by decide +kernel
theorem dL_law_357 : decode cL_law 357 = .ok (.aload_n 0, 1) := by decide +kernel
theorem dL_law_358 : decode cL_law 358 = .ok (.iload_n 3, 1) := by decide +kernel
theorem dL_law_359 : decode cL_law 359 = .ok (.iconst 1, 1) := by decide +kernel
theorem dL_law_360 : decode cL_law 360 = .ok (.iadd, 1) := by decide +kernel
theorem dL_law_361 : decode cL_law 361 = .ok (.iaload, 1) := by decide +kernel
theorem dL_law_362 : decode cL_law 362 = .ok (.aload_n 0, 1) := by decide +kernel
theorem dL_law_363 : decode cL_law 363 = .ok (.iload_n 3, 1) := by decide +kernel
theorem dL_law_364 : decode cL_law 364 = .ok (.iconst 2, 1) := by decide +kernel
theorem dL_law_365 : decode cL_law 365 = .ok (.iadd, 1) := by decide +kernel
theorem dL_law_366 : decode cL_law 366 = .ok (.iaload, 1) := by decide +kernel
theorem dL_law_367 : decode cL_law 367 = .ok (.aload_n 0, 1) := by decide +kernel
theorem dL_law_368 : decode cL_law 368 = .ok (.iload_n 3, 1) := by decide +kernel
theorem dL_law_369 : decode cL_law 369 = .ok (.iconst 3, 1) := by decide +kernel
theorem dL_law_370 : decode cL_law 370 = .ok (.iadd, 1) := by decide +kernel
theorem dL_law_371 : decode cL_law 371 = .ok (.iaload, 1) := by decide +kernel
theorem dL_law_372 : decode cL_law 372 = .ok (.aload_n 0, 1) := by decide +kernel
theorem dL_law_373 : decode cL_law 373 = .ok (.iload_n 3, 1) := by decide +kernel
theorem dL_law_374 : decode cL_law 374 = .ok (.iconst 4, 1) := by decide +kernel
theorem dL_law_375 : decode cL_law 375 = .ok (.iadd, 1) := by decide +kernel
theorem dL_law_376 : decode cL_law 376 = .ok (.iaload, 1) := by decide +kernel
theorem dL_law_377 : decode cL_law 377 = .ok (.invokevirtual 45, 3) := by decide +kernel
theorem dL_law_380 : decode cL_law 380 = .ok (.if_icmp .eq 648, 3) := by decide +kernel
theorem dL_law_383 : decode cL_law 383 = .ok (.iconst 0, 1) := by decide +kernel
theorem dL_law_384 : decode cL_law 384 = .ok (.ireturn, 1) := by decide +kernel
theorem dL_law_385 : decode cL_law 385 = .ok (.aload_n 1, 1) := by decide +kernel
theorem dL_law_386 : decode cL_law 386 = .ok (.aload_n 0, 1) := by decide +kernel
theorem dL_law_387 : decode cL_law 387 = .ok (.iload_n 3, 1) := by decide +kernel
theorem dL_law_388 : decode cL_law 388 = .ok (.iconst 1, 1) := by decide +kernel
theorem dL_law_389 : decode cL_law 389 = .ok (.iadd, 1) := by decide +kernel
theorem dL_law_390 : decode cL_law 390 = .ok (.iaload, 1) := by decide +kernel
theorem dL_law_391 : decode cL_law 391 = .ok (.aload_n 0, 1) := by decide +kernel
theorem dL_law_392 : decode cL_law 392 = .ok (.iload_n 3, 1) := by decide +kernel
theorem dL_law_393 : decode cL_law 393 = .ok (.iconst 2, 1) := by decide +kernel
theorem dL_law_394 : decode cL_law 394 = .ok (.iadd, 1) := by decide +kernel
theorem dL_law_395 : decode cL_law 395 = .ok (.iaload, 1) := by decide +kernel
theorem dL_law_396 : decode cL_law 396 = .ok (.aload_n 0, 1) := by decide +kernel
theorem dL_law_397 : decode cL_law 397 = .ok (.iload_n 3, 1) := by decide +kernel
theorem dL_law_398 : decode cL_law 398 = .ok (.iconst 3, 1) := by decide +kernel
theorem dL_law_399 : decode cL_law 399 = .ok (.iadd, 1) := by decide +kernel
theorem dL_law_400 : decode cL_law 400 = .ok (.iaload, 1) := by decide +kernel
theorem dL_law_401 : decode cL_law 401 = .ok (.aload_n 0, 1) := by decide +kernel
theorem dL_law_402 : decode cL_law 402 = .ok (.iload_n 3, 1) := by decide +kernel
theorem dL_law_403 : decode cL_law 403 = .ok (.iconst 4, 1) := by decide +kernel
theorem dL_law_404 : decode cL_law 404 = .ok (.iadd, 1) := by decide +kernel
theorem dL_law_405 : decode cL_law 405 = .ok (.iaload, 1) := by decide +kernel
theorem dL_law_406 : decode cL_law 406 = .ok (.aload_n 0, 1) := by decide +kernel
theorem dL_law_407 : decode cL_law 407 = .ok (.iload_n 3, 1) := by decide +kernel
theorem dL_law_408 : decode cL_law 408 = .ok (.iconst 5, 1) := by decide +kernel
theorem dL_law_409 : decode cL_law 409 = .ok (.iadd, 1) := by decide +kernel
theorem dL_law_410 : decode cL_law 410 = .ok (.iaload, 1) := by decide +kernel
theorem dL_law_411 : decode cL_law 411 = .ok (.invokevirtual 46, 3) := by decide +kernel
theorem dL_law_414 : decode cL_law 414 = .ok (.aload_n 2, 1) := by decide +kernel
theorem dL_law_415 : decode cL_law 415 = .ok (.aload_n 0, 1) := by decide +kernel
theorem dL_law_416 : decode cL_law 416 = .ok (.iload_n 3, 1) := by decide +kernel
theorem dL_law_417 : decode cL_law 417 = .ok (.iconst 1, 1) := by decide +kernel
theorem dL_law_418 : decode cL_law 418 = .ok (.iadd, 1) := by decide +kernel
theorem dL_law_419 : decode cL_law 419 = .ok (.iaload, 1) := by decide +kernel
theorem dL_law_420 : decode cL_law 420 = .ok (.aload_n 0, 1) := by decide +kernel
theorem dL_law_421 : decode cL_law 421 = .ok (.iload_n 3, 1) := by decide +kernel
theorem dL_law_422 : decode cL_law 422 = .ok (.iconst 2, 1) := by decide +kernel
theorem dL_law_423 : decode cL_law 423 = .ok (.iadd, 1) := by decide +kernel
theorem dL_law_424 : decode cL_law 424 = .ok (.iaload, 1) := by decide +kernel
theorem dL_law_425 : decode cL_law 425 = .ok (.aload_n 0, 1) := by decide +kernel
theorem dL_law_426 : decode cL_law 426 = .ok (.iload_n 3, 1) := by decide +kernel
theorem dL_law_427 : decode cL_law 427 = .ok (.iconst 3, 1) := by decide +kernel
theorem dL_law_428 : decode cL_law 428 = .ok (.iadd, 1) := by decide +kernel
theorem dL_law_429 : decode cL_law 429 = .ok (.iaload, 1) := by decide +kernel
theorem dL_law_430 : decode cL_law 430 = .ok (.aload_n 0, 1) := by decide +kernel
theorem dL_law_431 : decode cL_law 431 = .ok (.iload_n 3, 1) := by decide +kernel
theorem dL_law_432 : decode cL_law 432 = .ok (.iconst 4, 1) := by decide +kernel
theorem dL_law_433 : decode cL_law 433 = .ok (.iadd, 1) := by decide +kernel
theorem dL_law_434 : decode cL_law 434 = .ok (.iaload, 1) := by decide +kernel
theorem dL_law_435 : decode cL_law 435 = .ok (.aload_n 0, 1) := by decide +kernel
theorem dL_law_436 : decode cL_law 436 = .ok (.iload_n 3, 1) := by decide +kernel
theorem dL_law_437 : decode cL_law 437 = .ok (.iconst 5, 1) := by decide +kernel
theorem dL_law_438 : decode cL_law 438 = .ok (.iadd, 1) := by decide +kernel
theorem dL_law_439 : decode cL_law 439 = .ok (.iaload, 1) := by decide +kernel
theorem dL_law_440 : decode cL_law 440 = .ok (.invokevirtual 49, 3) := by decide +kernel
theorem dL_law_443 : decode cL_law 443 = .ok (.if_icmp .eq 585, 3) := by decide +kernel
theorem dL_law_446 : decode cL_law 446 = .ok (.iconst 0, 1) := by decide +kernel
theorem dL_law_447 : decode cL_law 447 = .ok (.ireturn, 1) := by decide +kernel
theorem dL_law_448 : decode cL_law 448 = .ok (.aload_n 1, 1) := by decide +kernel
theorem dL_law_449 : decode cL_law 449 = .ok (.aload_n 0, 1) := by decide +kernel
theorem dL_law_450 : decode cL_law 450 = .ok (.iload_n 3, 1) := by decide +kernel
theorem dL_law_451 : decode cL_law 451 = .ok (.iconst 1, 1) := by decide +kernel
theorem dL_law_452 : decode cL_law 452 = .ok (.iadd, 1) := by decide +kernel
theorem dL_law_453 : decode cL_law 453 = .ok (.iaload, 1) := by decide +kernel
theorem dL_law_454 : decode cL_law 454 = .ok (.aload_n 0, 1) := by decide +kernel
theorem dL_law_455 : decode cL_law 455 = .ok (.iload_n 3, 1) := by decide +kernel
theorem dL_law_456 : decode cL_law 456 = .ok (.iconst 2, 1) := by decide +kernel
theorem dL_law_457 : decode cL_law 457 = .ok (.iadd, 1) := by decide +kernel
theorem dL_law_458 : decode cL_law 458 = .ok (.iaload, 1) := by decide +kernel
theorem dL_law_459 : decode cL_law 459 = .ok (.invokevirtual 50, 3) := by decide +kernel
theorem dL_law_462 : decode cL_law 462 = .ok (.aload_n 2, 1) := by decide +kernel
theorem dL_law_463 : decode cL_law 463 = .ok (.aload_n 0, 1) := by decide +kernel
theorem dL_law_464 : decode cL_law 464 = .ok (.iload_n 3, 1) := by decide +kernel
theorem dL_law_465 : decode cL_law 465 = .ok (.iconst 1, 1) := by decide +kernel
theorem dL_law_466 : decode cL_law 466 = .ok (.iadd, 1) := by decide +kernel
theorem dL_law_467 : decode cL_law 467 = .ok (.iaload, 1) := by decide +kernel
theorem dL_law_468 : decode cL_law 468 = .ok (.aload_n 0, 1) := by decide +kernel
theorem dL_law_469 : decode cL_law 469 = .ok (.iload_n 3, 1) := by decide +kernel
theorem dL_law_470 : decode cL_law 470 = .ok (.iconst 2, 1) := by decide +kernel
theorem dL_law_471 : decode cL_law 471 = .ok (.iadd, 1) := by decide +kernel
theorem dL_law_472 : decode cL_law 472 = .ok (.iaload, 1) := by decide +kernel
theorem dL_law_473 : decode cL_law 473 = .ok (.invokevirtual 54, 3) := by decide +kernel
theorem dL_law_476 : decode cL_law 476 = .ok (.if_icmp .eq 552, 3) := by decide +kernel
theorem dL_law_479 : decode cL_law 479 = .ok (.iconst 0, 1) := by decide +kernel
theorem dL_law_480 : decode cL_law 480 = .ok (.ireturn, 1) := by decide +kernel
theorem dL_law_481 : decode cL_law 481 = .ok (.aload_n 1, 1) := by decide +kernel
theorem dL_law_482 : decode cL_law 482 = .ok (.aload_n 0, 1) := by decide +kernel
theorem dL_law_483 : decode cL_law 483 = .ok (.iload_n 3, 1) := by decide +kernel
theorem dL_law_484 : decode cL_law 484 = .ok (.iconst 1, 1) := by decide +kernel
theorem dL_law_485 : decode cL_law 485 = .ok (.iadd, 1) := by decide +kernel
theorem dL_law_486 : decode cL_law 486 = .ok (.iaload, 1) := by decide +kernel
theorem dL_law_487 : decode cL_law 487 = .ok (.aload_n 0, 1) := by decide +kernel
theorem dL_law_488 : decode cL_law 488 = .ok (.iload_n 3, 1) := by decide +kernel
theorem dL_law_489 : decode cL_law 489 = .ok (.iconst 2, 1) := by decide +kernel
theorem dL_law_490 : decode cL_law 490 = .ok (.iadd, 1) := by decide +kernel
theorem dL_law_491 : decode cL_law 491 = .ok (.iaload, 1) := by decide +kernel
theorem dL_law_492 : decode cL_law 492 = .ok (.invokevirtual 55, 3) := by decide +kernel
theorem dL_law_495 : decode cL_law 495 = .ok (.aload_n 2, 1) := by decide +kernel
theorem dL_law_496 : decode cL_law 496 = .ok (.aload_n 0, 1) := by decide +kernel
theorem dL_law_497 : decode cL_law 497 = .ok (.iload_n 3, 1) := by decide +kernel
theorem dL_law_498 : decode cL_law 498 = .ok (.iconst 1, 1) := by decide +kernel
theorem dL_law_499 : decode cL_law 499 = .ok (.iadd, 1) := by decide +kernel
theorem dL_law_500 : decode cL_law 500 = .ok (.iaload, 1) := by decide +kernel
theorem dL_law_501 : decode cL_law 501 = .ok (.aload_n 0, 1) := by decide +kernel
theorem dL_law_502 : decode cL_law 502 = .ok (.iload_n 3, 1) := by decide +kernel
theorem dL_law_503 : decode cL_law 503 = .ok (.iconst 2, 1) := by decide +kernel
theorem dL_law_504 : decode cL_law 504 = .ok (.iadd, 1) := by decide +kernel
theorem dL_law_505 : decode cL_law 505 = .ok (.iaload, 1) := by decide +kernel
theorem dL_law_506 : decode cL_law 506 = .ok (.invokevirtual 58, 3) := by decide +kernel
theorem dL_law_509 : decode cL_law 509 = .ok (.if_icmp .eq 519, 3) := by decide +kernel
theorem dL_law_512 : decode cL_law 512 = .ok (.iconst 0, 1) := by decide +kernel
theorem dL_law_513 : decode cL_law 513 = .ok (.ireturn, 1) := by decide +kernel
theorem dL_law_514 : decode cL_law 514 = .ok (.aload_n 1, 1) := by decide +kernel
theorem dL_law_515 : decode cL_law 515 = .ok (.aload_n 0, 1) := by decide +kernel
theorem dL_law_516 : decode cL_law 516 = .ok (.iload_n 3, 1) := by decide +kernel
theorem dL_law_517 : decode cL_law 517 = .ok (.iconst 1, 1) := by decide +kernel
theorem dL_law_518 : decode cL_law 518 = .ok (.iadd, 1) := by decide +kernel
theorem dL_law_519 : decode cL_law 519 = .ok (.iaload, 1) := by decide +kernel
theorem dL_law_520 : decode cL_law 520 = .ok (.aload_n 0, 1) := by decide +kernel
theorem dL_law_521 : decode cL_law 521 = .ok (.iload_n 3, 1) := by decide +kernel
theorem dL_law_522 : decode cL_law 522 = .ok (.iconst 2, 1) := by decide +kernel
theorem dL_law_523 : decode cL_law 523 = .ok (.iadd, 1) := by decide +kernel
theorem dL_law_524 : decode cL_law 524 = .ok (.iaload, 1) := by decide +kernel
theorem dL_law_525 : decode cL_law 525 = .ok (.aload_n 0, 1) := by decide +kernel
theorem dL_law_526 : decode cL_law 526 = .ok (.iload_n 3, 1) := by decide +kernel
theorem dL_law_527 : decode cL_law 527 = .ok (.iconst 3, 1) := by decide +kernel
theorem dL_law_528 : decode cL_law 528 = .ok (.iadd, 1) := by decide +kernel
theorem dL_law_529 : decode cL_law 529 = .ok (.iaload, 1) := by decide +kernel
theorem dL_law_530 : decode cL_law 530 = .ok (.aload_n 0, 1) := by decide +kernel
theorem dL_law_531 : decode cL_law 531 = .ok (.iload_n 3, 1) := by decide +kernel
theorem dL_law_532 : decode cL_law 532 = .ok (.iconst 4, 1) := by decide +kernel
theorem dL_law_533 : decode cL_law 533 = .ok (.iadd, 1) := by decide +kernel
theorem dL_law_534 : decode cL_law 534 = .ok (.iaload, 1) := by decide +kernel
theorem dL_law_535 : decode cL_law 535 = .ok (.invokevirtual 59, 3) := by decide +kernel
theorem dL_law_538 : decode cL_law 538 = .ok (.aload_n 2, 1) := by decide +kernel
theorem dL_law_539 : decode cL_law 539 = .ok (.aload_n 0, 1) := by decide +kernel
theorem dL_law_540 : decode cL_law 540 = .ok (.iload_n 3, 1) := by decide +kernel
theorem dL_law_541 : decode cL_law 541 = .ok (.iconst 1, 1) := by decide +kernel
theorem dL_law_542 : decode cL_law 542 = .ok (.iadd, 1) := by decide +kernel
theorem dL_law_543 : decode cL_law 543 = .ok (.iaload, 1) := by decide +kernel
theorem dL_law_544 : decode cL_law 544 = .ok (.aload_n 0, 1) := by decide +kernel
theorem dL_law_545 : decode cL_law 545 = .ok (.iload_n 3, 1) := by decide +kernel
theorem dL_law_546 : decode cL_law 546 = .ok (.iconst 2, 1) := by decide +kernel
theorem dL_law_547 : decode cL_law 547 = .ok (.iadd, 1) := by decide +kernel
theorem dL_law_548 : decode cL_law 548 = .ok (.iaload, 1) := by decide +kernel
theorem dL_law_549 : decode cL_law 549 = .ok (.aload_n 0, 1) := by decide +kernel
theorem dL_law_550 : decode cL_law 550 = .ok (.iload_n 3, 1) := by decide +kernel
theorem dL_law_551 : decode cL_law 551 = .ok (.iconst 3, 1) := by decide +kernel
theorem dL_law_552 : decode cL_law 552 = .ok (.iadd, 1) := by decide +kernel
theorem dL_law_553 : decode cL_law 553 = .ok (.iaload, 1) := by decide +kernel
theorem dL_law_554 : decode cL_law 554 = .ok (.aload_n 0, 1) := by decide +kernel
theorem dL_law_555 : decode cL_law 555 = .ok (.iload_n 3, 1) := by decide +kernel
theorem dL_law_556 : decode cL_law 556 = .ok (.iconst 4, 1) := by decide +kernel
theorem dL_law_557 : decode cL_law 557 = .ok (.iadd, 1) := by decide +kernel
theorem dL_law_558 : decode cL_law 558 = .ok (.iaload, 1) := by decide +kernel
theorem dL_law_559 : decode cL_law 559 = .ok (.invokevirtual 62, 3) := by decide +kernel
theorem dL_law_562 : decode cL_law 562 = .ok (.if_icmp .eq 466, 3) := by decide +kernel
theorem dL_law_565 : decode cL_law 565 = .ok (.iconst 0, 1) := by decide +kernel
theorem dL_law_566 : decode cL_law 566 = .ok (.ireturn, 1) := by decide +kernel
theorem dL_law_567 : decode cL_law 567 = .ok (.aload_n 1, 1) := by decide +kernel
theorem dL_law_568 : decode cL_law 568 = .ok (.aload_n 0, 1) := by decide +kernel
theorem dL_law_569 : decode cL_law 569 = .ok (.iload_n 3, 1) := by decide +kernel
theorem dL_law_570 : decode cL_law 570 = .ok (.iconst 1, 1) := by decide +kernel
theorem dL_law_571 : decode cL_law 571 = .ok (.iadd, 1) := by decide +kernel
theorem dL_law_572 : decode cL_law 572 = .ok (.iaload, 1) := by decide +kernel
theorem dL_law_573 : decode cL_law 573 = .ok (.aload_n 0, 1) := by decide +kernel
theorem dL_law_574 : decode cL_law 574 = .ok (.iload_n 3, 1) := by decide +kernel
theorem dL_law_575 : decode cL_law 575 = .ok (.iconst 2, 1) := by decide +kernel
theorem dL_law_576 : decode cL_law 576 = .ok (.iadd, 1) := by decide +kernel
theorem dL_law_577 : decode cL_law 577 = .ok (.iaload, 1) := by decide +kernel
theorem dL_law_578 : decode cL_law 578 = .ok (.aload_n 0, 1) := by decide +kernel
theorem dL_law_579 : decode cL_law 579 = .ok (.iload_n 3, 1) := by decide +kernel
theorem dL_law_580 : decode cL_law 580 = .ok (.iconst 3, 1) := by decide +kernel
theorem dL_law_581 : decode cL_law 581 = .ok (.iadd, 1) := by decide +kernel
theorem dL_law_582 : decode cL_law 582 = .ok (.iaload, 1) := by decide +kernel
theorem dL_law_583 : decode cL_law 583 = .ok (.aload_n 0, 1) := by decide +kernel
theorem dL_law_584 : decode cL_law 584 = .ok (.iload_n 3, 1) := by decide +kernel
theorem dL_law_585 : decode cL_law 585 = .ok (.iconst 4, 1) := by decide +kernel
theorem dL_law_586 : decode cL_law 586 = .ok (.iadd, 1) := by decide +kernel
theorem dL_law_587 : decode cL_law 587 = .ok (.iaload, 1) := by decide +kernel
theorem dL_law_588 : decode cL_law 588 = .ok (.invokevirtual 63, 3) := by decide +kernel
theorem dL_law_591 : decode cL_law 591 = .ok (.aload_n 2, 1) := by decide +kernel
theorem dL_law_592 : decode cL_law 592 = .ok (.aload_n 0, 1) := by decide +kernel
theorem dL_law_593 : decode cL_law 593 = .ok (.iload_n 3, 1) := by decide +kernel
theorem dL_law_594 : decode cL_law 594 = .ok (.iconst 1, 1) := by decide +kernel
theorem dL_law_595 : decode cL_law 595 = .ok (.iadd, 1) := by decide +kernel
theorem dL_law_596 : decode cL_law 596 = .ok (.iaload, 1) := by decide +kernel
theorem dL_law_597 : decode cL_law 597 = .ok (.aload_n 0, 1) := by decide +kernel
theorem dL_law_598 : decode cL_law 598 = .ok (.iload_n 3, 1) := by decide +kernel
theorem dL_law_599 : decode cL_law 599 = .ok (.iconst 2, 1) := by decide +kernel
theorem dL_law_600 : decode cL_law 600 = .ok (.iadd, 1) := by decide +kernel
theorem dL_law_601 : decode cL_law 601 = .ok (.iaload, 1) := by decide +kernel
theorem dL_law_602 : decode cL_law 602 = .ok (.aload_n 0, 1) := by decide +kernel
theorem dL_law_603 : decode cL_law 603 = .ok (.iload_n 3, 1) := by decide +kernel
theorem dL_law_604 : decode cL_law 604 = .ok (.iconst 3, 1) := by decide +kernel
theorem dL_law_605 : decode cL_law 605 = .ok (.iadd, 1) := by decide +kernel
theorem dL_law_606 : decode cL_law 606 = .ok (.iaload, 1) := by decide +kernel
theorem dL_law_607 : decode cL_law 607 = .ok (.aload_n 0, 1) := by decide +kernel
theorem dL_law_608 : decode cL_law 608 = .ok (.iload_n 3, 1) := by decide +kernel
theorem dL_law_609 : decode cL_law 609 = .ok (.iconst 4, 1) := by decide +kernel
theorem dL_law_610 : decode cL_law 610 = .ok (.iadd, 1) := by decide +kernel
theorem dL_law_611 : decode cL_law 611 = .ok (.iaload, 1) := by decide +kernel
theorem dL_law_612 : decode cL_law 612 = .ok (.invokevirtual 66, 3) := by decide +kernel
theorem dL_law_615 : decode cL_law 615 = .ok (.if_icmp .eq 413, 3) := by decide +kernel
theorem dL_law_618 : decode cL_law 618 = .ok (.iconst 0, 1) := by decide +kernel
theorem dL_law_619 : decode cL_law 619 = .ok (.ireturn, 1) := by decide +kernel
theorem dL_law_620 : decode cL_law 620 = .ok (.aload_n 1, 1) := by decide +kernel
theorem dL_law_621 : decode cL_law 621 = .ok (.aload_n 0, 1) := by decide +kernel
theorem dL_law_622 : decode cL_law 622 = .ok (.iload_n 3, 1) := by decide +kernel
theorem dL_law_623 : decode cL_law 623 = .ok (.iconst 1, 1) := by decide +kernel
theorem dL_law_624 : decode cL_law 624 = .ok (.iadd, 1) := by decide +kernel
theorem dL_law_625 : decode cL_law 625 = .ok (.iaload, 1) := by decide +kernel
theorem dL_law_626 : decode cL_law 626 = .ok (.invokevirtual 67, 3) := by decide +kernel
theorem dL_law_629 : decode cL_law 629 = .ok (.aload_n 2, 1) := by decide +kernel
theorem dL_law_630 : decode cL_law 630 = .ok (.aload_n 0, 1) := by decide +kernel
theorem dL_law_631 : decode cL_law 631 = .ok (.iload_n 3, 1) := by decide +kernel
theorem dL_law_632 : decode cL_law 632 = .ok (.iconst 1, 1) := by decide +kernel
theorem dL_law_633 : decode cL_law 633 = .ok (.iadd, 1) := by decide +kernel
theorem dL_law_634 : decode cL_law 634 = .ok (.iaload, 1) := by decide +kernel
theorem dL_law_635 : decode cL_law 635 = .ok (.invokevirtual 70, 3) := by decide +kernel
theorem dL_law_638 : decode cL_law 638 = .ok (.if_icmp .eq 390, 3) := by decide +kernel
theorem dL_law_641 : decode cL_law 641 = .ok (.iconst 0, 1) := by decide +kernel
theorem dL_law_642 : decode cL_law 642 = .ok (.ireturn, 1) := by decide +kernel
theorem dL_law_643 : decode cL_law 643 = .ok (.aload_n 1, 1) := by decide +kernel
theorem dL_law_644 : decode cL_law 644 = .ok (.aload_n 0, 1) := by decide +kernel
theorem dL_law_645 : decode cL_law 645 = .ok (.iload_n 3, 1) := by decide +kernel
theorem dL_law_646 : decode cL_law 646 = .ok (.iconst 1, 1) := by decide +kernel
theorem dL_law_647 : decode cL_law 647 = .ok (.iadd, 1) := by decide +kernel
theorem dL_law_648 : decode cL_law 648 = .ok (.iaload, 1) := by decide +kernel
theorem dL_law_649 : decode cL_law 649 = .ok (.invokevirtual 71, 3) := by decide +kernel
theorem dL_law_652 : decode cL_law 652 = .ok (.aload_n 2, 1) := by decide +kernel
theorem dL_law_653 : decode cL_law 653 = .ok (.aload_n 0, 1) := by decide +kernel
theorem dL_law_654 : decode cL_law 654 = .ok (.iload_n 3, 1) := by decide +kernel
theorem dL_law_655 : decode cL_law 655 = .ok (.iconst 1, 1) := by decide +kernel
theorem dL_law_656 : decode cL_law 656 = .ok (.iadd, 1) := by decide +kernel
theorem dL_law_657 : decode cL_law 657 = .ok (.iaload, 1) := by decide +kernel
theorem dL_law_658 : decode cL_law 658 = .ok (.invokevirtual 74, 3) := by decide +kernel
theorem dL_law_661 : decode cL_law 661 = .ok (.if_icmp .eq 367, 3) := by decide +kernel
theorem dL_law_664 : decode cL_law 664 = .ok (.iconst 0, 1) := by decide +kernel
theorem dL_law_665 : decode cL_law 665 = .ok (.ireturn, 1) := by decide +kernel
theorem dL_law_666 : decode cL_law 666 = .ok (.aload_n 1, 1) := by decide +kernel
theorem dL_law_667 : decode cL_law 667 = .ok (.aload_n 0, 1) := by decide +kernel
theorem dL_law_668 : decode cL_law 668 = .ok (.iload_n 3, 1) := by decide +kernel
theorem dL_law_669 : decode cL_law 669 = .ok (.iconst 1, 1) := by decide +kernel
theorem dL_law_670 : decode cL_law 670 = .ok (.iadd, 1) := by decide +kernel
theorem dL_law_671 : decode cL_law 671 = .ok (.iaload, 1) := by decide +kernel
theorem dL_law_672 : decode cL_law 672 = .ok (.aload_n 0, 1) := by decide +kernel
theorem dL_law_673 : decode cL_law 673 = .ok (.iload_n 3, 1) := by decide +kernel
theorem dL_law_674 : decode cL_law 674 = .ok (.iconst 2, 1) := by decide +kernel
theorem dL_law_675 : decode cL_law 675 = .ok (.iadd, 1) := by decide +kernel
theorem dL_law_676 : decode cL_law 676 = .ok (.iaload, 1) := by decide +kernel
theorem dL_law_677 : decode cL_law 677 = .ok (.invokevirtual 75, 3) := by decide +kernel
theorem dL_law_680 : decode cL_law 680 = .ok (.aload_n 2, 1) := by decide +kernel
theorem dL_law_681 : decode cL_law 681 = .ok (.aload_n 0, 1) := by decide +kernel
theorem dL_law_682 : decode cL_law 682 = .ok (.iload_n 3, 1) := by decide +kernel
theorem dL_law_683 : decode cL_law 683 = .ok (.iconst 1, 1) := by decide +kernel
theorem dL_law_684 : decode cL_law 684 = .ok (.iadd, 1) := by decide +kernel
theorem dL_law_685 : decode cL_law 685 = .ok (.iaload, 1) := by decide +kernel
theorem dL_law_686 : decode cL_law 686 = .ok (.aload_n 0, 1) := by decide +kernel
theorem dL_law_687 : decode cL_law 687 = .ok (.iload_n 3, 1) := by decide +kernel
theorem dL_law_688 : decode cL_law 688 = .ok (.iconst 2, 1) := by decide +kernel
theorem dL_law_689 : decode cL_law 689 = .ok (.iadd, 1) := by decide +kernel
theorem dL_law_690 : decode cL_law 690 = .ok (.iaload, 1) := by decide +kernel
theorem dL_law_691 : decode cL_law 691 = .ok (.invokevirtual 78, 3) := by decide +kernel
theorem dL_law_694 : decode cL_law 694 = .ok (.if_icmp .eq 334, 3) := by decide +kernel
theorem dL_law_697 : decode cL_law 697 = .ok (.iconst 0, 1) := by decide +kernel
theorem dL_law_698 : decode cL_law 698 = .ok (.ireturn, 1) := by decide +kernel
theorem dL_law_699 : decode cL_law 699 = .ok (.aload_n 1, 1) := by decide +kernel
theorem dL_law_700 : decode cL_law 700 = .ok (.aload_n 0, 1) := by decide +kernel
theorem dL_law_701 : decode cL_law 701 = .ok (.iload_n 3, 1) := by decide +kernel
theorem dL_law_702 : decode cL_law 702 = .ok (.iconst 1, 1) := by decide +kernel
theorem dL_law_703 : decode cL_law 703 = .ok (.iadd, 1) := by decide +kernel
theorem dL_law_704 : decode cL_law 704 = .ok (.iaload, 1) := by decide +kernel
theorem dL_law_705 : decode cL_law 705 = .ok (.aload_n 0, 1) := by decide +kernel
theorem dL_law_706 : decode cL_law 706 = .ok (.iload_n 3, 1) := by decide +kernel
theorem dL_law_707 : decode cL_law 707 = .ok (.iconst 2, 1) := by decide +kernel
theorem dL_law_708 : decode cL_law 708 = .ok (.iadd, 1) := by decide +kernel
theorem dL_law_709 : decode cL_law 709 = .ok (.iaload, 1) := by decide +kernel
theorem dL_law_710 : decode cL_law 710 = .ok (.aload_n 0, 1) := by decide +kernel
theorem dL_law_711 : decode cL_law 711 = .ok (.iload_n 3, 1) := by decide +kernel
theorem dL_law_712 : decode cL_law 712 = .ok (.iconst 3, 1) := by decide +kernel
theorem dL_law_713 : decode cL_law 713 = .ok (.iadd, 1) := by decide +kernel
theorem dL_law_714 : decode cL_law 714 = .ok (.iaload, 1) := by decide +kernel
theorem dL_law_715 : decode cL_law 715 = .ok (.ifCond .eq 7, 3) := by decide +kernel
theorem dL_law_718 : decode cL_law 718 = .ok (.iconst 1, 1) := by decide +kernel
theorem dL_law_719 : decode cL_law 719 = .ok (.goto 4, 3) := by decide +kernel
theorem dL_law_722 : decode cL_law 722 = .ok (.iconst 0, 1) := by decide +kernel
theorem dL_law_723 : decode cL_law 723 = .ok (.invokevirtual 79, 3) := by decide +kernel
theorem dL_law_726 : decode cL_law 726 = .ok (.aload_n 2, 1) := by decide +kernel
theorem dL_law_727 : decode cL_law 727 = .ok (.aload_n 0, 1) := by decide +kernel
theorem dL_law_728 : decode cL_law 728 = .ok (.iload_n 3, 1) := by decide +kernel
theorem dL_law_729 : decode cL_law 729 = .ok (.iconst 1, 1) := by decide +kernel
theorem dL_law_730 : decode cL_law 730 = .ok (.iadd, 1) := by decide +kernel
theorem dL_law_731 : decode cL_law 731 = .ok (.iaload, 1) := by decide +kernel
theorem dL_law_732 : decode cL_law 732 = .ok (.aload_n 0, 1) := by decide +kernel
theorem dL_law_733 : decode cL_law 733 = .ok (.iload_n 3, 1) := by decide +kernel
theorem dL_law_734 : decode cL_law 734 = .ok (.iconst 2, 1) := by decide +kernel
theorem dL_law_735 : decode cL_law 735 = .ok (.iadd, 1) := by decide +kernel
theorem dL_law_736 : decode cL_law 736 = .ok (.iaload, 1) := by decide +kernel
theorem dL_law_737 : decode cL_law 737 = .ok (.aload_n 0, 1) := by decide +kernel
theorem dL_law_738 : decode cL_law 738 = .ok (.iload_n 3, 1) := by decide +kernel
theorem dL_law_739 : decode cL_law 739 = .ok (.iconst 3, 1) := by decide +kernel
theorem dL_law_740 : decode cL_law 740 = .ok (.iadd, 1) := by decide +kernel
theorem dL_law_741 : decode cL_law 741 = .ok (.iaload, 1) := by decide +kernel
theorem dL_law_742 : decode cL_law 742 = .ok (.ifCond .eq 7, 3) := by decide +kernel
theorem dL_law_745 : decode cL_law 745 = .ok (.iconst 1, 1) := by decide +kernel
theorem dL_law_746 : decode cL_law 746 = .ok (.goto 4, 3) := by decide +kernel
theorem dL_law_749 : decode cL_law 749 = .ok (.iconst 0, 1) := by decide +kernel
theorem dL_law_750 : decode cL_law 750 = .ok (.invokevirtual 83, 3) := by decide +kernel
theorem dL_law_753 : decode cL_law 753 = .ok (.if_icmp .eq 275, 3) := by decide +kernel
theorem dL_law_756 : decode cL_law 756 = .ok (.iconst 0, 1) := by decide +kernel
theorem dL_law_757 : decode cL_law 757 = .ok (.ireturn, 1) := by decide +kernel
theorem dL_law_758 : decode cL_law 758 = .ok (.aload_n 1, 1) := by decide +kernel
theorem dL_law_759 : decode cL_law 759 = .ok (.aload_n 0, 1) := by decide +kernel
theorem dL_law_760 : decode cL_law 760 = .ok (.iload_n 3, 1) := by decide +kernel
theorem dL_law_761 : decode cL_law 761 = .ok (.iconst 1, 1) := by decide +kernel
theorem dL_law_762 : decode cL_law 762 = .ok (.iadd, 1) := by decide +kernel
theorem dL_law_763 : decode cL_law 763 = .ok (.iaload, 1) := by decide +kernel
theorem dL_law_764 : decode cL_law 764 = .ok (.invokevirtual 84, 3) := by decide +kernel
theorem dL_law_767 : decode cL_law 767 = .ok (.aload_n 2, 1) := by decide +kernel
theorem dL_law_768 : decode cL_law 768 = .ok (.aload_n 0, 1) := by decide +kernel
theorem dL_law_769 : decode cL_law 769 = .ok (.iload_n 3, 1) := by decide +kernel
theorem dL_law_770 : decode cL_law 770 = .ok (.iconst 1, 1) := by decide +kernel
theorem dL_law_771 : decode cL_law 771 = .ok (.iadd, 1) := by decide +kernel
theorem dL_law_772 : decode cL_law 772 = .ok (.iaload, 1) := by decide +kernel
theorem dL_law_773 : decode cL_law 773 = .ok (.invokevirtual 87, 3) := by decide +kernel
theorem dL_law_776 : decode cL_law 776 = .ok (.if_icmp .eq 252, 3) := by decide +kernel
theorem dL_law_779 : decode cL_law 779 = .ok (.iconst 0, 1) := by decide +kernel
theorem dL_law_780 : decode cL_law 780 = .ok (.ireturn, 1) := by decide +kernel
theorem dL_law_781 : decode cL_law 781 = .ok (.aload_n 1, 1) := by decide +kernel
theorem dL_law_782 : decode cL_law 782 = .ok (.aload_n 0, 1) := by decide +kernel
theorem dL_law_783 : decode cL_law 783 = .ok (.iload_n 3, 1) := by decide +kernel
theorem dL_law_784 : decode cL_law 784 = .ok (.iconst 1, 1) := by decide +kernel
theorem dL_law_785 : decode cL_law 785 = .ok (.iadd, 1) := by decide +kernel
theorem dL_law_786 : decode cL_law 786 = .ok (.iaload, 1) := by decide +kernel
theorem dL_law_787 : decode cL_law 787 = .ok (.aload_n 0, 1) := by decide +kernel
theorem dL_law_788 : decode cL_law 788 = .ok (.iload_n 3, 1) := by decide +kernel
theorem dL_law_789 : decode cL_law 789 = .ok (.iconst 2, 1) := by decide +kernel
theorem dL_law_790 : decode cL_law 790 = .ok (.iadd, 1) := by decide +kernel
theorem dL_law_791 : decode cL_law 791 = .ok (.iaload, 1) := by decide +kernel
theorem dL_law_792 : decode cL_law 792 = .ok (.invokevirtual 88, 3) := by decide +kernel
theorem dL_law_795 : decode cL_law 795 = .ok (.aload_n 2, 1) := by decide +kernel
theorem dL_law_796 : decode cL_law 796 = .ok (.aload_n 0, 1) := by decide +kernel
theorem dL_law_797 : decode cL_law 797 = .ok (.iload_n 3, 1) := by decide +kernel
theorem dL_law_798 : decode cL_law 798 = .ok (.iconst 1, 1) := by decide +kernel
theorem dL_law_799 : decode cL_law 799 = .ok (.iadd, 1) := by decide +kernel
theorem dL_law_800 : decode cL_law 800 = .ok (.iaload, 1) := by decide +kernel
theorem dL_law_801 : decode cL_law 801 = .ok (.aload_n 0, 1) := by decide +kernel
theorem dL_law_802 : decode cL_law 802 = .ok (.iload_n 3, 1) := by decide +kernel
theorem dL_law_803 : decode cL_law 803 = .ok (.iconst 2, 1) := by decide +kernel
theorem dL_law_804 : decode cL_law 804 = .ok (.iadd, 1) := by decide +kernel
theorem dL_law_805 : decode cL_law 805 = .ok (.iaload, 1) := by decide +kernel
theorem dL_law_806 : decode cL_law 806 = .ok (.invokevirtual 91, 3) := by decide +kernel
theorem dL_law_809 : decode cL_law 809 = .ok (.if_icmp .eq 219, 3) := by decide +kernel
theorem dL_law_812 : decode cL_law 812 = .ok (.iconst 0, 1) := by decide +kernel
theorem dL_law_813 : decode cL_law 813 = .ok (.ireturn, 1) := by decide +kernel
theorem dL_law_814 : decode cL_law 814 = .ok (.aload_n 1, 1) := by decide +kernel
theorem dL_law_815 : decode cL_law 815 = .ok (.aload_n 0, 1) := by decide +kernel
theorem dL_law_816 : decode cL_law 816 = .ok (.iload_n 3, 1) := by decide +kernel
theorem dL_law_817 : decode cL_law 817 = .ok (.iconst 1, 1) := by decide +kernel
theorem dL_law_818 : decode cL_law 818 = .ok (.iadd, 1) := by decide +kernel
theorem dL_law_819 : decode cL_law 819 = .ok (.iaload, 1) := by decide +kernel
theorem dL_law_820 : decode cL_law 820 = .ok (.aload_n 0, 1) := by decide +kernel
theorem dL_law_821 : decode cL_law 821 = .ok (.iload_n 3, 1) := by decide +kernel
theorem dL_law_822 : decode cL_law 822 = .ok (.iconst 2, 1) := by decide +kernel
theorem dL_law_823 : decode cL_law 823 = .ok (.iadd, 1) := by decide +kernel
theorem dL_law_824 : decode cL_law 824 = .ok (.iaload, 1) := by decide +kernel
theorem dL_law_825 : decode cL_law 825 = .ok (.aload_n 0, 1) := by decide +kernel
theorem dL_law_826 : decode cL_law 826 = .ok (.iload_n 3, 1) := by decide +kernel
theorem dL_law_827 : decode cL_law 827 = .ok (.iconst 3, 1) := by decide +kernel
theorem dL_law_828 : decode cL_law 828 = .ok (.iadd, 1) := by decide +kernel
theorem dL_law_829 : decode cL_law 829 = .ok (.iaload, 1) := by decide +kernel
theorem dL_law_830 : decode cL_law 830 = .ok (.aload_n 0, 1) := by decide +kernel
theorem dL_law_831 : decode cL_law 831 = .ok (.iload_n 3, 1) := by decide +kernel
theorem dL_law_832 : decode cL_law 832 = .ok (.iconst 4, 1) := by decide +kernel
theorem dL_law_833 : decode cL_law 833 = .ok (.iadd, 1) := by decide +kernel
theorem dL_law_834 : decode cL_law 834 = .ok (.iaload, 1) := by decide +kernel
theorem dL_law_835 : decode cL_law 835 = .ok (.aload_n 0, 1) := by decide +kernel
theorem dL_law_836 : decode cL_law 836 = .ok (.iload_n 3, 1) := by decide +kernel
theorem dL_law_837 : decode cL_law 837 = .ok (.iconst 5, 1) := by decide +kernel
theorem dL_law_838 : decode cL_law 838 = .ok (.iadd, 1) := by decide +kernel
theorem dL_law_839 : decode cL_law 839 = .ok (.iaload, 1) := by decide +kernel
theorem dL_law_840 : decode cL_law 840 = .ok (.invokevirtual 92, 3) := by decide +kernel
theorem dL_law_843 : decode cL_law 843 = .ok (.aload_n 2, 1) := by decide +kernel
theorem dL_law_844 : decode cL_law 844 = .ok (.aload_n 0, 1) := by decide +kernel
theorem dL_law_845 : decode cL_law 845 = .ok (.iload_n 3, 1) := by decide +kernel
theorem dL_law_846 : decode cL_law 846 = .ok (.iconst 1, 1) := by decide +kernel
theorem dL_law_847 : decode cL_law 847 = .ok (.iadd, 1) := by decide +kernel
theorem dL_law_848 : decode cL_law 848 = .ok (.iaload, 1) := by decide +kernel
theorem dL_law_849 : decode cL_law 849 = .ok (.aload_n 0, 1) := by decide +kernel
theorem dL_law_850 : decode cL_law 850 = .ok (.iload_n 3, 1) := by decide +kernel
theorem dL_law_851 : decode cL_law 851 = .ok (.iconst 2, 1) := by decide +kernel
theorem dL_law_852 : decode cL_law 852 = .ok (.iadd, 1) := by decide +kernel
theorem dL_law_853 : decode cL_law 853 = .ok (.iaload, 1) := by decide +kernel
theorem dL_law_854 : decode cL_law 854 = .ok (.aload_n 0, 1) := by decide +kernel
theorem dL_law_855 : decode cL_law 855 = .ok (.iload_n 3, 1) := by decide +kernel
theorem dL_law_856 : decode cL_law 856 = .ok (.iconst 3, 1) := by decide +kernel
theorem dL_law_857 : decode cL_law 857 = .ok (.iadd, 1) := by decide +kernel
theorem dL_law_858 : decode cL_law 858 = .ok (.iaload, 1) := by decide +kernel
theorem dL_law_859 : decode cL_law 859 = .ok (.aload_n 0, 1) := by decide +kernel
theorem dL_law_860 : decode cL_law 860 = .ok (.iload_n 3, 1) := by decide +kernel
theorem dL_law_861 : decode cL_law 861 = .ok (.iconst 4, 1) := by decide +kernel
theorem dL_law_862 : decode cL_law 862 = .ok (.iadd, 1) := by decide +kernel
theorem dL_law_863 : decode cL_law 863 = .ok (.iaload, 1) := by decide +kernel
theorem dL_law_864 : decode cL_law 864 = .ok (.aload_n 0, 1) := by decide +kernel
theorem dL_law_865 : decode cL_law 865 = .ok (.iload_n 3, 1) := by decide +kernel
theorem dL_law_866 : decode cL_law 866 = .ok (.iconst 5, 1) := by decide +kernel
theorem dL_law_867 : decode cL_law 867 = .ok (.iadd, 1) := by decide +kernel
theorem dL_law_868 : decode cL_law 868 = .ok (.iaload, 1) := by decide +kernel
theorem dL_law_869 : decode cL_law 869 = .ok (.invokevirtual 95, 3) := by decide +kernel
theorem dL_law_872 : decode cL_law 872 = .ok (.if_icmp .eq 156, 3) := by decide +kernel
theorem dL_law_875 : decode cL_law 875 = .ok (.iconst 0, 1) := by decide +kernel
theorem dL_law_876 : decode cL_law 876 = .ok (.ireturn, 1) := by decide +kernel
theorem dL_law_877 : decode cL_law 877 = .ok (.aload_n 1, 1) := by decide +kernel
theorem dL_law_878 : decode cL_law 878 = .ok (.aload_n 0, 1) := by decide +kernel
theorem dL_law_879 : decode cL_law 879 = .ok (.iload_n 3, 1) := by decide +kernel
theorem dL_law_880 : decode cL_law 880 = .ok (.iconst 1, 1) := by decide +kernel
theorem dL_law_881 : decode cL_law 881 = .ok (.iadd, 1) := by decide +kernel
theorem dL_law_882 : decode cL_law 882 = .ok (.iaload, 1) := by decide +kernel
theorem dL_law_883 : decode cL_law 883 = .ok (.aload_n 0, 1) := by decide +kernel
theorem dL_law_884 : decode cL_law 884 = .ok (.iload_n 3, 1) := by decide +kernel
theorem dL_law_885 : decode cL_law 885 = .ok (.iconst 2, 1) := by decide +kernel
theorem dL_law_886 : decode cL_law 886 = .ok (.iadd, 1) := by decide +kernel
theorem dL_law_887 : decode cL_law 887 = .ok (.iaload, 1) := by decide +kernel
theorem dL_law_888 : decode cL_law 888 = .ok (.aload_n 0, 1) := by decide +kernel
theorem dL_law_889 : decode cL_law 889 = .ok (.iload_n 3, 1) := by decide +kernel
theorem dL_law_890 : decode cL_law 890 = .ok (.iconst 3, 1) := by decide +kernel
theorem dL_law_891 : decode cL_law 891 = .ok (.iadd, 1) := by decide +kernel
theorem dL_law_892 : decode cL_law 892 = .ok (.iaload, 1) := by decide +kernel
theorem dL_law_893 : decode cL_law 893 = .ok (.ifCond .eq 7, 3) := by decide +kernel
theorem dL_law_896 : decode cL_law 896 = .ok (.iconst 1, 1) := by decide +kernel
theorem dL_law_897 : decode cL_law 897 = .ok (.goto 4, 3) := by decide +kernel
theorem dL_law_900 : decode cL_law 900 = .ok (.iconst 0, 1) := by decide +kernel
theorem dL_law_901 : decode cL_law 901 = .ok (.invokevirtual 96, 3) := by decide +kernel
theorem dL_law_904 : decode cL_law 904 = .ok (.aload_n 2, 1) := by decide +kernel
theorem dL_law_905 : decode cL_law 905 = .ok (.aload_n 0, 1) := by decide +kernel
theorem dL_law_906 : decode cL_law 906 = .ok (.iload_n 3, 1) := by decide +kernel
theorem dL_law_907 : decode cL_law 907 = .ok (.iconst 1, 1) := by decide +kernel
theorem dL_law_908 : decode cL_law 908 = .ok (.iadd, 1) := by decide +kernel
theorem dL_law_909 : decode cL_law 909 = .ok (.iaload, 1) := by decide +kernel
theorem dL_law_910 : decode cL_law 910 = .ok (.aload_n 0, 1) := by decide +kernel
theorem dL_law_911 : decode cL_law 911 = .ok (.iload_n 3, 1) := by decide +kernel
theorem dL_law_912 : decode cL_law 912 = .ok (.iconst 2, 1) := by decide +kernel
theorem dL_law_913 : decode cL_law 913 = .ok (.iadd, 1) := by decide +kernel
theorem dL_law_914 : decode cL_law 914 = .ok (.iaload, 1) := by decide +kernel
theorem dL_law_915 : decode cL_law 915 = .ok (.aload_n 0, 1) := by decide +kernel
theorem dL_law_916 : decode cL_law 916 = .ok (.iload_n 3, 1) := by decide +kernel
theorem dL_law_917 : decode cL_law 917 = .ok (.iconst 3, 1) := by decide +kernel
theorem dL_law_918 : decode cL_law 918 = .ok (.iadd, 1) := by decide +kernel
theorem dL_law_919 : decode cL_law 919 = .ok (.iaload, 1) := by decide +kernel
theorem dL_law_920 : decode cL_law 920 = .ok (.ifCond .eq 7, 3) := by decide +kernel
theorem dL_law_923 : decode cL_law 923 = .ok (.iconst 1, 1) := by decide +kernel
theorem dL_law_924 : decode cL_law 924 = .ok (.goto 4, 3) := by decide +kernel
theorem dL_law_927 : decode cL_law 927 = .ok (.iconst 0, 1) := by decide +kernel
theorem dL_law_928 : decode cL_law 928 = .ok (.invokevirtual 99, 3) := by decide +kernel
theorem dL_law_931 : decode cL_law 931 = .ok (.if_icmp .eq 97, 3) := by decide +kernel
theorem dL_law_934 : decode cL_law 934 = .ok (.iconst 0, 1) := by decide +kernel
theorem dL_law_935 : decode cL_law 935 = .ok (.ireturn, 1) := by decide +kernel
theorem dL_law_936 : decode cL_law 936 = .ok (.aload_n 1, 1) := by decide +kernel
theorem dL_law_937 : decode cL_law 937 = .ok (.aload_n 0, 1) := by decide +kernel
theorem dL_law_938 : decode cL_law 938 = .ok (.iload_n 3, 1) := by decide +kernel
theorem dL_law_939 : decode cL_law 939 = .ok (.iconst 1, 1) := by decide +kernel
theorem dL_law_940 : decode cL_law 940 = .ok (.iadd, 1) := by decide +kernel
theorem dL_law_941 : decode cL_law 941 = .ok (.iaload, 1) := by decide +kernel
theorem dL_law_942 : decode cL_law 942 = .ok (.aload_n 0, 1) := by decide +kernel
theorem dL_law_943 : decode cL_law 943 = .ok (.iload_n 3, 1) := by decide +kernel
theorem dL_law_944 : decode cL_law 944 = .ok (.iconst 2, 1) := by decide +kernel
theorem dL_law_945 : decode cL_law 945 = .ok (.iadd, 1) := by decide +kernel
theorem dL_law_946 : decode cL_law 946 = .ok (.iaload, 1) := by decide +kernel
theorem dL_law_947 : decode cL_law 947 = .ok (.invokevirtual 100, 3) := by decide +kernel
theorem dL_law_950 : decode cL_law 950 = .ok (.aload_n 2, 1) := by decide +kernel
theorem dL_law_951 : decode cL_law 951 = .ok (.aload_n 0, 1) := by decide +kernel
theorem dL_law_952 : decode cL_law 952 = .ok (.iload_n 3, 1) := by decide +kernel
theorem dL_law_953 : decode cL_law 953 = .ok (.iconst 1, 1) := by decide +kernel
theorem dL_law_954 : decode cL_law 954 = .ok (.iadd, 1) := by decide +kernel
theorem dL_law_955 : decode cL_law 955 = .ok (.iaload, 1) := by decide +kernel
theorem dL_law_956 : decode cL_law 956 = .ok (.aload_n 0, 1) := by decide +kernel
theorem dL_law_957 : decode cL_law 957 = .ok (.iload_n 3, 1) := by decide +kernel
theorem dL_law_958 : decode cL_law 958 = .ok (.iconst 2, 1) := by decide +kernel
theorem dL_law_959 : decode cL_law 959 = .ok (.iadd, 1) := by decide +kernel
theorem dL_law_960 : decode cL_law 960 = .ok (.iaload, 1) := by decide +kernel
theorem dL_law_961 : decode cL_law 961 = .ok (.invokevirtual 103, 3) := by decide +kernel
theorem dL_law_964 : decode cL_law 964 = .ok (.if_icmp .eq 64, 3) := by decide +kernel
theorem dL_law_967 : decode cL_law 967 = .ok (.iconst 0, 1) := by decide +kernel
theorem dL_law_968 : decode cL_law 968 = .ok (.ireturn, 1) := by decide +kernel
theorem dL_law_969 : decode cL_law 969 = .ok (.aload_n 1, 1) := by decide +kernel
theorem dL_law_970 : decode cL_law 970 = .ok (.aload_n 0, 1) := by decide +kernel
theorem dL_law_971 : decode cL_law 971 = .ok (.iload_n 3, 1) := by decide +kernel
theorem dL_law_972 : decode cL_law 972 = .ok (.iconst 1, 1) := by decide +kernel
theorem dL_law_973 : decode cL_law 973 = .ok (.iadd, 1) := by decide +kernel
theorem dL_law_974 : decode cL_law 974 = .ok (.iaload, 1) := by decide +kernel
theorem dL_law_975 : decode cL_law 975 = .ok (.invokevirtual 104, 3) := by decide +kernel
theorem dL_law_978 : decode cL_law 978 = .ok (.aload_n 2, 1) := by decide +kernel
theorem dL_law_979 : decode cL_law 979 = .ok (.aload_n 0, 1) := by decide +kernel
theorem dL_law_980 : decode cL_law 980 = .ok (.iload_n 3, 1) := by decide +kernel
theorem dL_law_981 : decode cL_law 981 = .ok (.iconst 1, 1) := by decide +kernel
theorem dL_law_982 : decode cL_law 982 = .ok (.iadd, 1) := by decide +kernel
theorem dL_law_983 : decode cL_law 983 = .ok (.iaload, 1) := by decide +kernel
theorem dL_law_984 : decode cL_law 984 = .ok (.invokevirtual 107, 3) := by decide +kernel
theorem dL_law_987 : decode cL_law 987 = .ok (.if_icmp .eq 41, 3) := by decide +kernel
theorem dL_law_990 : decode cL_law 990 = .ok (.iconst 0, 1) := by decide +kernel
theorem dL_law_991 : decode cL_law 991 = .ok (.ireturn, 1) := by decide +kernel
theorem dL_law_992 : decode cL_law 992 = .ok (.aload_n 1, 1) := by decide +kernel
theorem dL_law_993 : decode cL_law 993 = .ok (.invokevirtual 108, 3) := by decide +kernel
theorem dL_law_996 : decode cL_law 996 = .ok (.aload_n 2, 1) := by decide +kernel
theorem dL_law_997 : decode cL_law 997 = .ok (.invokevirtual 111, 3) := by decide +kernel
theorem dL_law_1000 : decode cL_law 1000 = .ok (.if_icmp .eq 28, 3) := by decide +kernel
theorem dL_law_1003 : decode cL_law 1003 = .ok (.iconst 0, 1) := by decide +kernel
theorem dL_law_1004 : decode cL_law 1004 = .ok (.ireturn, 1) := by decide +kernel
theorem dL_law_1005 : decode cL_law 1005 = .ok (.aload_n 1, 1) := by decide +kernel
theorem dL_law_1006 : decode cL_law 1006 = .ok (.aload_n 0, 1) := by decide +kernel
theorem dL_law_1007 : decode cL_law 1007 = .ok (.iload_n 3, 1) := by decide +kernel
theorem dL_law_1008 : decode cL_law 1008 = .ok (.iconst 1, 1) := by decide +kernel
theorem dL_law_1009 : decode cL_law 1009 = .ok (.iadd, 1) := by decide +kernel
theorem dL_law_1010 : decode cL_law 1010 = .ok (.iaload, 1) := by decide +kernel
theorem dL_law_1011 : decode cL_law 1011 = .ok (.invokevirtual 112, 3) := by decide +kernel
theorem dL_law_1014 : decode cL_law 1014 = .ok (.aload_n 2, 1) := by decide +kernel
theorem dL_law_1015 : decode cL_law 1015 = .ok (.aload_n 0, 1) := by decide +kernel
theorem dL_law_1016 : decode cL_law 1016 = .ok (.iload_n 3, 1) := by decide +kernel
theorem dL_law_1017 : decode cL_law 1017 = .ok (.iconst 1, 1) := by decide +kernel
theorem dL_law_1018 : decode cL_law 1018 = .ok (.iadd, 1) := by decide +kernel
theorem dL_law_1019 : decode cL_law 1019 = .ok (.iaload, 1) := by decide +kernel
theorem dL_law_1020 : decode cL_law 1020 = .ok (.invokevirtual 115, 3) := by decide +kernel
theorem dL_law_1023 : decode cL_law 1023 = .ok (.if_icmp .eq 5, 3) := by decide +kernel
theorem dL_law_1026 : decode cL_law 1026 = .ok (.iconst 0, 1) := by decide +kernel
theorem dL_law_1027 : decode cL_law 1027 = .ok (.ireturn, 1) := by decide +kernel
theorem dL_law_1028 : decode cL_law 1028 = .ok (.iinc 3 6, 3) := by decide +kernel
theorem dL_law_1031 : decode cL_law 1031 = .ok (.goto (-1013), 3) := by decide +kernel
theorem dL_law_1034 : decode cL_law 1034 = .ok (.iconst 1, 1) := by decide +kernel
theorem dL_law_1035 : decode cL_law 1035 = .ok (.ireturn, 1) := by decide +kernel
end
section
/-! THE ABSTRACT MACHINE: one table of all cells (7 objects, 2 arrays of arrays, int and boolean arrays), abstract references are places in it -/
def vV (ad : Nat → Nat) (v : Value) : Value := match v with
  | .ref k => .ref (ad k)
  | v => v
theorem vV_cat (ad : Nat → Nat) (v : Value) : (vV ad v).category = v.category := by cases v <;> rfl
abbrev vFt : Type := Nat → Int32
abbrev vAt : Type := Nat → Nat → Int32
abbrev vXt : Type := Nat × (Nat → Nat)
def vLens : List Nat := [0, 0, 0, 0, 0, 0, 0, 0, 0, 40, 40, 40, 40, 40, 40, 5, 0, 0, 0, 0, 0, 40, 35, 540, 60, 60, 60, 40, 40, 40, 40, 8, 8, 8, 8, 8, 8, 8, 8, 8, 40, 5, 5, 200, 20, 5, 5, 5, 60, 60, 60, 60, 60, 60, 60, 40, 6, 6, 6, 41, 40, 40, 60, 60, 9, 10]
def vLen (i : Nat) : Nat := if i < 66 then vLens.getD i 0 else 1728
def vTyA (i : Nat) : Nat := if i = 24 ∨ i = 54 ∨ i = 58 ∨ i = 62 ∨ i = 63 then 1 else 0
def vRfs : List (List Nat) := [[1, 3, 4, 5], [9, 0, 7, 15, 0, 8, 2], [21, 0, 0, 0, 0, 0, 0], [22, 0], [23, 24, 0, 25, 26, 27, 28, 29, 30], [31, 32, 33, 34, 35, 0, 36, 37, 0, 38, 39, 0], [0, 40, 0, 41, 42, 43, 0, 44, 45, 46, 47, 0, 48, 49, 50, 51, 52, 53, 54, 0, 55, 0, 56, 57, 58, 59, 0, 60, 61, 62, 63, 64, 65]]
def vRf (o j : Nat) : Nat := (vRfs.getD o []).getD j 0
def vNf : Nat → Nat := fun o => match o with
  | 0 => 4
  | 1 => 7
  | 2 => 7
  | 3 => 2
  | 4 => 9
  | 5 => 12
  | _ => 33
def vT : Nat → u_T := fun o => match o with
  | 0 => TX5
  | 1 => TX0
  | 2 => TX4
  | 3 => TX1
  | 4 => TX2
  | 5 => TX3
  | _ => TX6
def vTy : Nat → Nat → FieldType := fun o => match o with
  | 0 => tyX5
  | 1 => tyX0
  | 2 => tyX4
  | 3 => tyX1
  | 4 => tyX2
  | 5 => tyX3
  | _ => tyX6
def vR : Nat → String := fun o => match o with
  | 0 => RX5
  | 1 => RX0
  | 2 => RX4
  | 3 => RX1
  | 4 => RX2
  | 5 => RX3
  | _ => RX6
abbrev vCl : List vw_C := [(RX5, TX5, 4), (RX0, TX0, 7), (RX4, TX4, 7), (RX1, TX1, 2), (RX2, TX2, 9), (RX3, TX3, 12), (RX6, TX6, 33)]
theorem v_seven {P : Nat → Prop} (h0 : P 0) (h1 : P 1) (h2 : P 2) (h3 : P 3) (h4 : P 4) (h5 : P 5) (h6 : P 6) : ∀ o, o < 7 → P o := by
  intro o h
  match o, h with
  | 0, _ => exact h0
  | 1, _ => exact h1
  | 2, _ => exact h2
  | 3, _ => exact h3
  | 4, _ => exact h4
  | 5, _ => exact h5
  | 6, _ => exact h6
theorem vCl_at : ∀ o, o < 7 → vCl[o]? = some (vR o, vT o, vNf o) := v_seven rfl rfl rfl rfl rfl rfl rfl
/-- the tables' words that any callee keeps -/
def lw_good : List Cond := lw_tbl.filter goodWord
theorem lw_good_ok : GoodIn lw_good lw_good := fun w hw => ⟨hw, good_of_word (List.mem_filter.mp hw).2⟩
theorem u_ws_good {C : String} {T : u_T} {N : Nat} : ∀ w ∈ u_ws C T N, goodWord w = true := by
  intro w hw
  obtain ⟨k, -, rfl⟩ := List.mem_map.mp hw
  unfold u_lay
  split <;> rfl
theorem vCl_in : ∀ o, o < 7 → ∀ w ∈ u_ws (vR o) (vT o) (vNf o), w ∈ lw_good := fun o ho w hw => List.mem_filter.mpr ⟨(v_seven (P := fun o => ∀ w ∈ u_ws (vR o) (vT o) (vNf o), w ∈ lw_tbl) innX5 innX0 innX4 innX1 innX2 innX3 innX6) o ho w hw, u_ws_good w hw⟩
/-- the links among nest mates, and the class of arrays of int arrays: of the state, not of the words -/
def vNl : List (String × Nat × MethodName) := [(RX5, 9, yX0_init), (RX0, 28, yX4_init), (RX5, 18, yX1_init), (RX2, 46, yX5_isWithin), (RX5, 32, yX3_init), (RX0, 58, yX5_isDay), (RX4, 39, yX5_isWithin), (RX0, 37, yX5_isWithin), (RX1, 19, yX5_isWithin), (RX3, 46, yX5_isWithin)]
def vNs (U : State) : Prop := (∀ q ∈ vNl, va_Nw (.methodLinkNest q.1 q.2.1 q.2.2 RX5) U) ∧ (Cond.arrayOver (.array .int)).before #[] U = true
theorem vNs_warm {s U : State} (hW : s.WarmedH U.vm) (h : vNs s) : vNs U := by
  refine ⟨fun q hq => va_Nw.warmM hW (h.1 q hq), ?_⟩
  have h2 := Cond.arrayOver_setVmC (args := #[]) (s := s) (vm' := U.vm) hW.alike (.array .int)
  rw [h.2] at h2
  exact h2
theorem vNs_same {u U : State} (hv : u.vm = U.vm) (h : vNs u) : vNs U := by
  refine ⟨fun q hq => va_Nw.same rfl hv (h.1 q hq), ?_⟩
  have h2 := Cond.arrayOver_setVmC (args := #[]) (s := u) (vm' := U.vm) (hv ▸ Vm.Alike.refl u.vm) (.array .int)
  rw [h.2] at h2
  exact h2
theorem vCl_ty : ∀ o, o < 7 → ∀ k, k < vNf o → parseFieldDescriptor (vT o k).2.2.1 = some (vTy o k) := v_seven tyX5_ok tyX0_ok tyX4_ok tyX1_ok tyX2_ok tyX3_ok tyX6_ok
theorem vCl_nm : ∀ o, o < 7 → ∀ a, a < vNf o → ∀ b, b < vNf o → a ≠ b → (vT o a).2.1 ≠ (vT o b).2.1 := v_seven nmX5 nmX0 nmX4 nmX1 nmX2 nmX3 nmX6
theorem vNf_le : ∀ o, o < 7 → vNf o ≤ 33 := v_seven (by decide) (by decide) (by decide) (by decide) (by decide) (by decide) (by decide)
/-- an int field that isn't a reference is no final one, and an int -/
theorem vCl_int : ∀ o, o < 7 → ∀ k, k < vNf o → vRf o k = 0 → (vT o k).2.2.2 = false ∧ parseFieldDescriptor (vT o k).2.2.1 = some .int := by
  apply v_seven <;> decide +kernel
def vTys (cA : Nat → ClassId) : List (ClassId × FieldType) := [(cA 0, .int), (cA 1, .boolean), (cA 2, .array .int)]
def vFl (ad : Nat → Nat) (F : vFt) (o j : Nat) : Value := if vRf o j = 0 then .int (F (64 * o + j)) else .ref (ad (vRf o j))
def vCell (ad : Nat → Nat) (cA : Nat → ClassId) (F : vFt) (Ar : vAt) (sh : Nat → Nat) (i : Nat) : va_E :=
  if i < 7 then .inr (i, (List.range (vNf i)).map (vFl ad F i))
  else if i = 7 then .inl (cA 2, 5, .inr (.inr (.inr (.inr (fun j => some (ad (10 + j)))))))
  else if i = 8 then .inl (cA 2, 5, .inr (.inr (.inr (.inr (fun j => some (ad (sh j)))))))
  else .inl (cA (vTyA i), vLen i, .inl (Ar i))
def vW (ad : Nat → Nat) (cA : Nat → ClassId) (F : vFt) (Ar : vAt) (x : vXt) : va_W := (List.range (66 + x.1)).map (fun i => (ad i, vCell ad cA F Ar x.2 i))
def vS (Ar : vAt) (i : Nat) (f : Nat → Int32) : vAt := fun b => if b = i then f else Ar b
section
variable {ad : Nat → Nat} {cA : Nat → ClassId} {F : vFt} {Ar : vAt} {x : vXt}
theorem vW_at {i : Nat} (h : i < 66 + x.1) : (vW ad cA F Ar x)[i]? = some (ad i, vCell ad cA F Ar x.2 i) := by
  simp [vW, h]
theorem vW_obj {o : Nat} (h : o < 7) : (vW ad cA F Ar x)[o]? = some (ad o, .inr (o, (List.range (vNf o)).map (vFl ad F o))) := by
  rw [vW_at (by omega)]
  simp [vCell, h]
theorem vW_arr {i : Nat} (h9 : 9 ≤ i) (h : i < 66 + x.1) : (vW ad cA F Ar x)[i]? = some (ad i, .inl (cA (vTyA i), vLen i, .inl (Ar i))) := by
  rw [vW_at h]
  unfold vCell
  rw [if_neg (by omega), if_neg (by omega), if_neg (by omega)]
theorem vW_set {i : Nat} {e : va_E} {F' : vFt} {Ar' : vAt} {sh' : Nat → Nat} (h : i < 66 + x.1) (h1 : vCell ad cA F' Ar' sh' i = e) (h2 : ∀ k, k ≠ i → k < 66 + x.1 → vCell ad cA F' Ar' sh' k = vCell ad cA F Ar x.2 k) : (vW ad cA F Ar x).set i (ad i, e) = vW ad cA F' Ar' (x.1, sh') := by
  apply List.ext_getElem?
  intro k
  rw [List.getElem?_set]
  by_cases hk : i = k
  · subst hk
    rw [if_pos rfl, if_pos (by simp [vW, h]), vW_at (x := (x.1, sh')) h, h1]
  · rw [if_neg hk]
    by_cases hl : k < 66 + x.1
    · rw [vW_at hl, vW_at (x := (x.1, sh')) hl, h2 k (fun q => hk q.symm) hl]
    · rw [List.getElem?_eq_none (by simp [vW]; omega), List.getElem?_eq_none (by simp [vW]; omega)]
theorem vW_setA {i : Nat} {f : Nat → Int32} (h9 : 9 ≤ i) (h : i < 66 + x.1) : (vW ad cA F Ar x).set i (ad i, .inl (cA (vTyA i), vLen i, .inl f)) = vW ad cA F (vS Ar i f) x := by
  refine (vW_set (F' := F) (Ar' := vS Ar i f) (sh' := x.2) h ?_ ?_).trans rfl
  · unfold vCell
    rw [if_neg (by omega), if_neg (by omega), if_neg (by omega)]
    simp [vS]
  · intro k hk _
    simp [vCell, vS, hk]
theorem vFl_upd {o j v : _} {i k : Nat} (hk : k < 64) (hj : j < 64) (hr : vRf o j = 0) : vFl ad (upd F (64 * o + j) v) i k = if i = o ∧ k = j then .int v else vFl ad F i k := by
  unfold vFl upd
  by_cases h : i = o ∧ k = j
  · obtain ⟨rfl, rfl⟩ := h
    simp [hr]
  · rw [if_neg h]
    have : ¬ (64 * i + k = 64 * o + j) := by
      intro q
      apply h
      omega
    simp [this]
theorem vW_setF {o j : Nat} {v : Int32} (ho : o < 7) (hj : j < vNf o) (hr : vRf o j = 0) : (vW ad cA F Ar x).set o (ad o, .inr (o, ((List.range (vNf o)).map (vFl ad F o)).set j (.int v))) = vW ad cA (upd F (64 * o + j) v) Ar x := by
  have h33 := vNf_le o ho
  refine (vW_set (F' := upd F (64 * o + j) v) (Ar' := Ar) (sh' := x.2) (by omega) ?_ ?_).trans rfl
  · unfold vCell
    rw [if_pos ho]
    congr 2
    apply List.ext_getElem?
    intro k
    rw [List.getElem?_set]
    by_cases hk : k < vNf o
    · by_cases hkj : j = k
      · subst hkj
        simp [hk, vFl_upd (by omega : j < 64) (by omega : j < 64) hr]
      · rw [if_neg hkj]
        simp [hk, vFl_upd (by omega : k < 64) (by omega : j < 64) hr]
        exact fun q => absurd q.symm hkj
    · have hkj : ¬ j = k := by omega
      rw [if_neg hkj]
      simp [hk]
  · intro k hk _
    unfold vCell
    by_cases h7 : k < 7
    · rw [if_pos h7, if_pos h7]
      congr 2
      apply List.map_congr_left
      intro a ha
      have := vNf_le k h7
      have ha' : a < vNf k := List.mem_range.mp ha
      rw [vFl_upd (by omega) (by omega) hr, if_neg (fun q => hk q.1)]
    · rw [if_neg h7, if_neg h7]
end
/-- locals: a place each, .null where nothing is known -/
def vLs (ad : Nat → Nat) (ls : List Value) : List (Nat × Value) := (List.range ls.length).filterMap (fun i => match (ls[i]? : Option Value) with
  | some Value.null => none
  | some v => some (i, vV ad v)
  | none => none)
theorem vLs_mem {ad : Nat → Nat} {ls : List Value} {i : Nat} {v : Value} (h : ls[i]? = some v) (hn : v ≠ .null) : (i, vV ad v) ∈ vLs ad ls := by
  refine List.mem_filterMap.mpr ⟨i, List.mem_range.mpr (List.getElem?_eq_some_iff.mp h).1, ?_⟩
  rw [h]
  cases v <;> first | rfl | exact absurd rfl hn
theorem vLs_of {ad : Nat → Nat} {ls : List Value} {q : Nat × Value} (h : q ∈ vLs ad ls) : ∃ v, ls[q.1]? = some v ∧ v ≠ .null ∧ q.2 = vV ad v := by
  obtain ⟨i, -, hi⟩ := List.mem_filterMap.mp h
  cases hv : ls[i]? with
  | none => rw [hv] at hi; cases hi
  | some v =>
    rw [hv] at hi
    cases v <;> first | (cases hi; exact ⟨_, hv, by simp, rfl⟩) | cases hi
/-- no two-place number stands just ahead of place i -/
def vOkS (ls : List Value) (i : Nat) : Bool := match i with
  | 0 => true
  | j + 1 => match (ls[j]? : Option Value) with
    | some (Value.long _) => false
    | some (Value.double _) => false
    | _ => true
theorem vLs_set {la : Array Slot} {n : Nat} {ad : Nat → Nat} {ls : List Value} {i : Nat} {v : Value} (ho : vOkS ls i = true) (h : lv_has la n ((i, vV ad v) :: (vLs ad ls).filter (fun q => !(q.1 == i) && !(q.1 + 1 == i && q.2.category == 2)))) : lv_has la n (vLs ad (ls.set i v)) := by
  refine ⟨h.1, h.2.1, fun q hq => ?_⟩
  obtain ⟨w, h1, h2, h3⟩ := vLs_of hq
  by_cases hi : i = q.1
  · rw [List.getElem?_set, if_pos hi] at h1
    split at h1
    · cases h1
      have := h.2.2 _ List.mem_cons_self
      rw [h3, ← hi]
      exact this
    · cases h1
  · rw [List.getElem?_set, if_neg hi] at h1
    refine h.2.2 q (List.mem_cons_of_mem _ (List.mem_filter.mpr ⟨?_, ?_⟩))
    · have := vLs_mem (ad := ad) h1 h2
      rw [← h3] at this
      exact this
    · have hc : ¬ (q.1 + 1 = i ∧ q.2.category = 2) := by
        rintro ⟨e, hcat⟩
        subst e
        rw [h3, vV_cat] at hcat
        unfold vOkS at ho
        simp only [h1] at ho
        cases w <;> simp [Value.category] at hcat ho
      have h1' : ¬ q.1 = i := fun e => hi e.symm
      simp only [Bool.and_eq_true, Bool.not_eq_true', beq_eq_false_iff_ne, ne_eq, Bool.and_eq_false_iff]
      refine ⟨h1', ?_⟩
      by_cases e : q.1 + 1 = i
      · right
        simpa using fun hcat => hc ⟨e, hcat⟩
      · left
        exact e
theorem vLs_set2 {la : Array Slot} {n : Nat} {ad : Nat → Nat} {ls : List Value} {i : Nat} {v : Value} (ho : vOkS ls i = true) (h : lv_has la n ((i, vV ad v) :: (vLs ad ls).filter (fun q => !(q.1 == i) && (!(q.1 == i + 1) && !(q.1 + 1 == i && q.2.category == 2))))) : lv_has la n (vLs ad ((ls.set i v).set (i + 1) .null)) := by
  refine ⟨h.1, h.2.1, fun q hq => ?_⟩
  obtain ⟨w, h1, h2, h3⟩ := vLs_of hq
  by_cases hj : i + 1 = q.1
  · rw [List.getElem?_set, if_pos hj] at h1
    split at h1
    · cases h1
      exact absurd rfl h2
    · cases h1
  · rw [List.getElem?_set, if_neg hj] at h1
    by_cases hi : i = q.1
    · rw [List.getElem?_set, if_pos hi] at h1
      split at h1
      · cases h1
        have := h.2.2 _ List.mem_cons_self
        rw [h3, ← hi]
        exact this
      · cases h1
    · rw [List.getElem?_set, if_neg hi] at h1
      refine h.2.2 q (List.mem_cons_of_mem _ (List.mem_filter.mpr ⟨?_, ?_⟩))
      · have := vLs_mem (ad := ad) h1 h2
        rw [← h3] at this
        exact this
      · have hc : ¬ (q.1 + 1 = i ∧ q.2.category = 2) := by
          rintro ⟨e, hcat⟩
          subst e
          rw [h3, vV_cat] at hcat
          unfold vOkS at ho
          simp only [h1] at ho
          cases w <;> simp [Value.category] at hcat ho
        have h1' : ¬ q.1 = i := fun e => hi e.symm
        have h2' : ¬ q.1 = i + 1 := fun e => hj e.symm
        simp only [Bool.and_eq_true, Bool.not_eq_true', beq_eq_false_iff_ne, ne_eq, Bool.and_eq_false_iff]
        refine ⟨h1', h2', ?_⟩
        by_cases e : q.1 + 1 = i
        · right
          simpa using fun hcat => hc ⟨e, hcat⟩
        · left
          exact e
/-- a method: its name, its bytes, its locals, its answer's type -/
abbrev vMx : Type := MethodName × ByteArray × Nat × Option FieldType
/-- the machine's side of a walk -/
abbrev vK : Type := Program × Launch × Env × Room × State × MethodId × Array Value × List Frame × Method × Code × va_G × (Nat → ClassId) × (Nat → Nat) × (Nat → Prop) × Heap × Nat × Nat × (State → Prop)
def vOK (κ : vK) (M : vMx) : Prop := match κ with
  | (p, _, _, R, s, m, args, _, meth, c, D, cA, _, A, H0, cells, slots, _) => p.tables.exec = Jvm.exec ∧ c.code = M.2.1 ∧ c.maxLocals = M.2.2.1 ∧ s.vm.findClass M.1.cls = some m.cls ∧ (∀ w ∈ lw_good, w.before args s = true) ∧ va_K D vCl (vTys cA) s ∧ (∀ q, H0.size ≤ q → A q) ∧ meth.sig.returnType = M.2.2.2 ∧ meth.locks = false ∧ cells ≤ R.cells ∧ slots ≤ R.slots ∧ vNs s
def V (κ : vK) (M : vMx) (pc : Nat) (ls st : List Value) (F : vFt) (Ar : vAt) (x : vXt) : Prop := match κ with
  | (p, l, e, R, s, m, args, below, meth, c, D, cA, ad, A, H0, cells, slots, QW) => ∀ (H : Heap) (locs : List Loc) (la : Array Slot), vOK (p, l, e, R, s, m, args, below, meth, c, D, cA, ad, A, H0, cells, slots, QW) M → va_P D vCl (vW ad cA F Ar x) H → va_D A (vW ad cA F Ar x) → va_S A H0 H locs → lv_has la M.2.2.1 (vLs ad ls) → W p l e R s m args below meth c H locs cells slots QW (F0 m pc la (st.map (vV ad)))
end
section
theorem V_iconst {κ : vK} {M : vMx} {pc q : Nat} {ls st : List Value} {F : vFt} {Ar : vAt} {x : vXt} {n : Int} {v : Int32} (d : decode M.2.1 pc = .ok (.iconst n, 1)) (hv : Int32.ofInt n = v) (hq : pc + 1 = q) (k : V κ M q ls (.int v :: st) F Ar x) : V κ M pc ls ( st) F Ar x := by
  subst hq
  obtain ⟨p, l, e, R, s, m, args, below, meth, c, D, cA, ad, A, H0, cells, slots, QW⟩ := κ
  intro H locs la C hP hD hS hl
  exact lv_iconst C.1 C.2.1 d hv (k H locs la C hP hD hS hl)
theorem V_bipush {κ : vK} {M : vMx} {pc q : Nat} {ls st : List Value} {F : vFt} {Ar : vAt} {x : vXt} {n : Int} {v : Int32} (d : decode M.2.1 pc = .ok (.bipush n, 2)) (hv : (Int8.ofInt n).toInt32 = v) (hq : pc + 2 = q) (k : V κ M q ls (.int v :: st) F Ar x) : V κ M pc ls ( st) F Ar x := by
  subst hq
  obtain ⟨p, l, e, R, s, m, args, below, meth, c, D, cA, ad, A, H0, cells, slots, QW⟩ := κ
  intro H locs la C hP hD hS hl
  exact lv_bipush C.1 C.2.1 d hv (k H locs la C hP hD hS hl)
theorem V_sipush {κ : vK} {M : vMx} {pc q : Nat} {ls st : List Value} {F : vFt} {Ar : vAt} {x : vXt} {n : Int} {v : Int32} (d : decode M.2.1 pc = .ok (.sipush n, 3)) (hv : (Int16.ofInt n).toInt32 = v) (hq : pc + 3 = q) (k : V κ M q ls (.int v :: st) F Ar x) : V κ M pc ls ( st) F Ar x := by
  subst hq
  obtain ⟨p, l, e, R, s, m, args, below, meth, c, D, cA, ad, A, H0, cells, slots, QW⟩ := κ
  intro H locs la C hP hD hS hl
  exact lv_sipush C.1 C.2.1 d hv (k H locs la C hP hD hS hl)
theorem V_lconst {κ : vK} {M : vMx} {pc q : Nat} {ls st : List Value} {F : vFt} {Ar : vAt} {x : vXt} {n : Fin 2} {v : Int64} (d : decode M.2.1 pc = .ok (.lconst n, 1)) (hv : Int64.ofNat (n : Nat) = v) (hq : pc + 1 = q) (k : V κ M q ls (.long v :: st) F Ar x) : V κ M pc ls ( st) F Ar x := by
  subst hq
  obtain ⟨p, l, e, R, s, m, args, below, meth, c, D, cA, ad, A, H0, cells, slots, QW⟩ := κ
  intro H locs la C hP hD hS hl
  exact lv_lconst C.1 C.2.1 d hv (k H locs la C hP hD hS hl)
theorem V_ldc {κ : vK} {M : vMx} {pc q : Nat} {ls st : List Value} {F : vFt} {Ar : vAt} {x : vXt} {index : Nat} {v : Int32} (d : decode M.2.1 pc = .ok (.ldc index, 2)) (hc : Cond.constant M.1.cls index v ∈ lw_good) (hq : pc + 2 = q) (k : V κ M q ls (.int v :: st) F Ar x) : V κ M pc ls ( st) F Ar x := by
  subst hq
  obtain ⟨p, l, e, R, s, m, args, below, meth, c, D, cA, ad, A, H0, cells, slots, QW⟩ := κ
  intro H locs la C hP hD hS hl
  exact lv_ldc C.1 C.2.1 C.2.2.2.1 (C.2.2.2.2.1 _ hc) d (k H locs la C hP hD hS hl)
theorem V_ldc2 {κ : vK} {M : vMx} {pc q : Nat} {ls st : List Value} {F : vFt} {Ar : vAt} {x : vXt} {index : Nat} {v : Int64} (d : decode M.2.1 pc = .ok (.ldc2_w index, 3)) (hc : Cond.constantLong M.1.cls index v ∈ lw_good) (hq : pc + 3 = q) (k : V κ M q ls (.long v :: st) F Ar x) : V κ M pc ls ( st) F Ar x := by
  subst hq
  obtain ⟨p, l, e, R, s, m, args, below, meth, c, D, cA, ad, A, H0, cells, slots, QW⟩ := κ
  intro H locs la C hP hD hS hl
  exact lv_ldc2 C.1 C.2.1 C.2.2.2.1 (C.2.2.2.2.1 _ hc) d (k H locs la C hP hD hS hl)
theorem V_iload_n {κ : vK} {M : vMx} {pc q : Nat} {ls st : List Value} {F : vFt} {Ar : vAt} {x : vXt} {n : Fin 4} {v : Int32} (d : decode M.2.1 pc = .ok (.iload_n n, 1)) (hl0 : ls[(n : Nat)]? = some (.int v)) (hq : pc + 1 = q) (k : V κ M q ls (.int v :: st) F Ar x) : V κ M pc ls ( st) F Ar x := by
  subst hq
  obtain ⟨p, l, e, R, s, m, args, below, meth, c, D, cA, ad, A, H0, cells, slots, QW⟩ := κ
  intro H locs la C hP hD hS hl
  exact lv_iload_n C.1 C.2.1 d rfl (hl.2.2 (_, vV ad (.int v)) (vLs_mem hl0 (fun h => by cases h))) (k H locs la C hP hD hS hl)
theorem V_iload {κ : vK} {M : vMx} {pc q : Nat} {ls st : List Value} {F : vFt} {Ar : vAt} {x : vXt} {n : Nat} {v : Int32} (d : decode M.2.1 pc = .ok (.iload n, 2)) (hl0 : ls[n]? = some (.int v)) (hq : pc + 2 = q) (k : V κ M q ls (.int v :: st) F Ar x) : V κ M pc ls ( st) F Ar x := by
  subst hq
  obtain ⟨p, l, e, R, s, m, args, below, meth, c, D, cA, ad, A, H0, cells, slots, QW⟩ := κ
  intro H locs la C hP hD hS hl
  exact lv_iload C.1 C.2.1 d (hl.2.2 (_, vV ad (.int v)) (vLs_mem hl0 (fun h => by cases h))) (k H locs la C hP hD hS hl)
theorem V_lload_n {κ : vK} {M : vMx} {pc q : Nat} {ls st : List Value} {F : vFt} {Ar : vAt} {x : vXt} {n : Fin 4} {v : Int64} (d : decode M.2.1 pc = .ok (.lload_n n, 1)) (hl0 : ls[(n : Nat)]? = some (.long v)) (hq : pc + 1 = q) (k : V κ M q ls (.long v :: st) F Ar x) : V κ M pc ls ( st) F Ar x := by
  subst hq
  obtain ⟨p, l, e, R, s, m, args, below, meth, c, D, cA, ad, A, H0, cells, slots, QW⟩ := κ
  intro H locs la C hP hD hS hl
  exact lv_lload_n C.1 C.2.1 d rfl (hl.2.2 (_, vV ad (.long v)) (vLs_mem hl0 (fun h => by cases h))) (k H locs la C hP hD hS hl)
theorem V_lload {κ : vK} {M : vMx} {pc q : Nat} {ls st : List Value} {F : vFt} {Ar : vAt} {x : vXt} {n : Nat} {v : Int64} (d : decode M.2.1 pc = .ok (.lload n, 2)) (hl0 : ls[n]? = some (.long v)) (hq : pc + 2 = q) (k : V κ M q ls (.long v :: st) F Ar x) : V κ M pc ls ( st) F Ar x := by
  subst hq
  obtain ⟨p, l, e, R, s, m, args, below, meth, c, D, cA, ad, A, H0, cells, slots, QW⟩ := κ
  intro H locs la C hP hD hS hl
  exact lv_lload C.1 C.2.1 d (hl.2.2 (_, vV ad (.long v)) (vLs_mem hl0 (fun h => by cases h))) (k H locs la C hP hD hS hl)
theorem V_aload_n {κ : vK} {M : vMx} {pc q : Nat} {ls st : List Value} {F : vFt} {Ar : vAt} {x : vXt} {n : Fin 4} {v : Nat} (d : decode M.2.1 pc = .ok (.aload_n n, 1)) (hl0 : ls[(n : Nat)]? = some (.ref v)) (hq : pc + 1 = q) (k : V κ M q ls (.ref v :: st) F Ar x) : V κ M pc ls ( st) F Ar x := by
  subst hq
  obtain ⟨p, l, e, R, s, m, args, below, meth, c, D, cA, ad, A, H0, cells, slots, QW⟩ := κ
  intro H locs la C hP hD hS hl
  exact lv_aload_n C.1 C.2.1 d rfl (hl.2.2 (_, vV ad (.ref v)) (vLs_mem hl0 (fun h => by cases h))) (k H locs la C hP hD hS hl)
theorem V_aload {κ : vK} {M : vMx} {pc q : Nat} {ls st : List Value} {F : vFt} {Ar : vAt} {x : vXt} {n : Nat} {v : Nat} (d : decode M.2.1 pc = .ok (.aload n, 2)) (hl0 : ls[n]? = some (.ref v)) (hq : pc + 2 = q) (k : V κ M q ls (.ref v :: st) F Ar x) : V κ M pc ls ( st) F Ar x := by
  subst hq
  obtain ⟨p, l, e, R, s, m, args, below, meth, c, D, cA, ad, A, H0, cells, slots, QW⟩ := κ
  intro H locs la C hP hD hS hl
  exact lv_aload C.1 C.2.1 d (hl.2.2 (_, vV ad (.ref v)) (vLs_mem hl0 (fun h => by cases h))) (k H locs la C hP hD hS hl)
theorem V_istore_n {κ : vK} {M : vMx} {pc q : Nat} {ls st : List Value} {F : vFt} {Ar : vAt} {x : vXt} {n : Fin 4} {v : Int32} (d : decode M.2.1 pc = .ok (.istore_n n, 1)) (hn : (n : Nat) < M.2.2.1) (ho : vOkS ls (n : Nat) = true) (hq : pc + 1 = q) (k : V κ M q (ls.set (n : Nat) (.int v)) st F Ar x) : V κ M pc ls (.int v :: st) F Ar x := by
  subst hq
  obtain ⟨p, l, e, R, s, m, args, below, meth, c, D, cA, ad, A, H0, cells, slots, QW⟩ := κ
  intro H locs la C hP hD hS hl
  exact lv_istore_n C.1 C.2.1 d rfl hl hn rfl (fun la' h' => k H locs la' C hP hD hS (vLs_set (v := .int v) ho h'))
theorem V_istore {κ : vK} {M : vMx} {pc q : Nat} {ls st : List Value} {F : vFt} {Ar : vAt} {x : vXt} {n : Nat} {v : Int32} (d : decode M.2.1 pc = .ok (.istore n, 2)) (hn : n < M.2.2.1) (ho : vOkS ls n = true) (hq : pc + 2 = q) (k : V κ M q (ls.set n (.int v)) st F Ar x) : V κ M pc ls (.int v :: st) F Ar x := by
  subst hq
  obtain ⟨p, l, e, R, s, m, args, below, meth, c, D, cA, ad, A, H0, cells, slots, QW⟩ := κ
  intro H locs la C hP hD hS hl
  exact lv_istore C.1 C.2.1 d hl hn rfl (fun la' h' => k H locs la' C hP hD hS (vLs_set (v := .int v) ho h'))
theorem V_astore_n {κ : vK} {M : vMx} {pc q : Nat} {ls st : List Value} {F : vFt} {Ar : vAt} {x : vXt} {n : Fin 4} {v : Nat} (d : decode M.2.1 pc = .ok (.astore_n n, 1)) (hn : (n : Nat) < M.2.2.1) (ho : vOkS ls (n : Nat) = true) (hq : pc + 1 = q) (k : V κ M q (ls.set (n : Nat) (.ref v)) st F Ar x) : V κ M pc ls (.ref v :: st) F Ar x := by
  subst hq
  obtain ⟨p, l, e, R, s, m, args, below, meth, c, D, cA, ad, A, H0, cells, slots, QW⟩ := κ
  intro H locs la C hP hD hS hl
  exact lv_astore_n C.1 C.2.1 d rfl hl hn rfl (fun la' h' => k H locs la' C hP hD hS (vLs_set (v := .ref v) ho h'))
theorem V_astore {κ : vK} {M : vMx} {pc q : Nat} {ls st : List Value} {F : vFt} {Ar : vAt} {x : vXt} {n : Nat} {v : Nat} (d : decode M.2.1 pc = .ok (.astore n, 2)) (hn : n < M.2.2.1) (ho : vOkS ls n = true) (hq : pc + 2 = q) (k : V κ M q (ls.set n (.ref v)) st F Ar x) : V κ M pc ls (.ref v :: st) F Ar x := by
  subst hq
  obtain ⟨p, l, e, R, s, m, args, below, meth, c, D, cA, ad, A, H0, cells, slots, QW⟩ := κ
  intro H locs la C hP hD hS hl
  exact lv_astore C.1 C.2.1 d hl hn rfl (fun la' h' => k H locs la' C hP hD hS (vLs_set (v := .ref v) ho h'))
theorem V_lstore_n {κ : vK} {M : vMx} {pc q : Nat} {ls st : List Value} {F : vFt} {Ar : vAt} {x : vXt} {n : Fin 4} {v : Int64} (d : decode M.2.1 pc = .ok (.lstore_n n, 1)) (hn : (n : Nat) + 1 < M.2.2.1) (ho : vOkS ls (n : Nat) = true) (hq : pc + 1 = q) (k : V κ M q ((ls.set (n : Nat) (.long v)).set ((n : Nat) + 1) .null) st F Ar x) : V κ M pc ls (.long v :: st) F Ar x := by
  subst hq
  obtain ⟨p, l, e, R, s, m, args, below, meth, c, D, cA, ad, A, H0, cells, slots, QW⟩ := κ
  intro H locs la C hP hD hS hl
  exact lv_lstore_n C.1 C.2.1 d rfl hl hn rfl (fun la' h' => k H locs la' C hP hD hS (vLs_set2 (v := .long v) ho h'))
theorem V_lstore {κ : vK} {M : vMx} {pc q : Nat} {ls st : List Value} {F : vFt} {Ar : vAt} {x : vXt} {n : Nat} {v : Int64} (d : decode M.2.1 pc = .ok (.lstore n, 2)) (hn : n + 1 < M.2.2.1) (ho : vOkS ls n = true) (hq : pc + 2 = q) (k : V κ M q ((ls.set n (.long v)).set (n + 1) .null) st F Ar x) : V κ M pc ls (.long v :: st) F Ar x := by
  subst hq
  obtain ⟨p, l, e, R, s, m, args, below, meth, c, D, cA, ad, A, H0, cells, slots, QW⟩ := κ
  intro H locs la C hP hD hS hl
  exact lv_lstore C.1 C.2.1 d hl hn rfl (fun la' h' => k H locs la' C hP hD hS (vLs_set2 (v := .long v) ho h'))
theorem V_iinc {κ : vK} {M : vMx} {pc q : Nat} {ls st : List Value} {F : vFt} {Ar : vAt} {x : vXt} {i : Nat} {n : Int} {v w : Int32} (d : decode M.2.1 pc = .ok (.iinc i n, 3)) (hl0 : ls[i]? = some (.int v)) (hw : Int32.ofInt n = w) (hn : i < M.2.2.1) (ho : vOkS ls i = true) (hq : pc + 3 = q) (k : V κ M q (ls.set i (.int (v + w))) st F Ar x) : V κ M pc ls st F Ar x := by
  subst hq
  subst hw
  obtain ⟨p, l, e, R, s, m, args, below, meth, c, D, cA, ad, A, H0, cells, slots, QW⟩ := κ
  intro H locs la C hP hD hS hl
  obtain ⟨k9, hk9⟩ := List.getElem?_of_mem (vLs_mem (ad := ad) hl0 (fun h => by cases h))
  exact lv_iinc C.1 C.2.1 d hl hk9 rfl hn rfl (fun la' h' => k H locs la' C hP hD hS (vLs_set (v := .int _) ho h'))
theorem V_iadd {κ : vK} {M : vMx} {pc q : Nat} {ls st : List Value} {F : vFt} {Ar : vAt} {x : vXt} {a b : Int32} (d : decode M.2.1 pc = .ok (.iadd, 1))  (hq : pc + 1 = q) (k : V κ M q ls (.int (a + b) :: st) F Ar x) : V κ M pc ls (.int b :: .int a :: st) F Ar x := by
  subst hq
  obtain ⟨p, l, e, R, s, m, args, below, meth, c, D, cA, ad, A, H0, cells, slots, QW⟩ := κ
  intro H locs la C hP hD hS hl
  exact lv_iadd C.1 C.2.1 d (k H locs la C hP hD hS hl)
theorem V_isub {κ : vK} {M : vMx} {pc q : Nat} {ls st : List Value} {F : vFt} {Ar : vAt} {x : vXt} {a b : Int32} (d : decode M.2.1 pc = .ok (.isub, 1))  (hq : pc + 1 = q) (k : V κ M q ls (.int (a - b) :: st) F Ar x) : V κ M pc ls (.int b :: .int a :: st) F Ar x := by
  subst hq
  obtain ⟨p, l, e, R, s, m, args, below, meth, c, D, cA, ad, A, H0, cells, slots, QW⟩ := κ
  intro H locs la C hP hD hS hl
  exact lv_isub C.1 C.2.1 d (k H locs la C hP hD hS hl)
theorem V_imul {κ : vK} {M : vMx} {pc q : Nat} {ls st : List Value} {F : vFt} {Ar : vAt} {x : vXt} {a b : Int32} (d : decode M.2.1 pc = .ok (.imul, 1))  (hq : pc + 1 = q) (k : V κ M q ls (.int (a * b) :: st) F Ar x) : V κ M pc ls (.int b :: .int a :: st) F Ar x := by
  subst hq
  obtain ⟨p, l, e, R, s, m, args, below, meth, c, D, cA, ad, A, H0, cells, slots, QW⟩ := κ
  intro H locs la C hP hD hS hl
  exact lv_imul C.1 C.2.1 d (k H locs la C hP hD hS hl)
theorem V_iand {κ : vK} {M : vMx} {pc q : Nat} {ls st : List Value} {F : vFt} {Ar : vAt} {x : vXt} {a b : Int32} (d : decode M.2.1 pc = .ok (.iand, 1))  (hq : pc + 1 = q) (k : V κ M q ls (.int (a &&& b) :: st) F Ar x) : V κ M pc ls (.int b :: .int a :: st) F Ar x := by
  subst hq
  obtain ⟨p, l, e, R, s, m, args, below, meth, c, D, cA, ad, A, H0, cells, slots, QW⟩ := κ
  intro H locs la C hP hD hS hl
  exact lv_iand C.1 C.2.1 d (k H locs la C hP hD hS hl)
theorem V_ior {κ : vK} {M : vMx} {pc q : Nat} {ls st : List Value} {F : vFt} {Ar : vAt} {x : vXt} {a b : Int32} (d : decode M.2.1 pc = .ok (.ior, 1))  (hq : pc + 1 = q) (k : V κ M q ls (.int (a ||| b) :: st) F Ar x) : V κ M pc ls (.int b :: .int a :: st) F Ar x := by
  subst hq
  obtain ⟨p, l, e, R, s, m, args, below, meth, c, D, cA, ad, A, H0, cells, slots, QW⟩ := κ
  intro H locs la C hP hD hS hl
  exact lv_ior C.1 C.2.1 d (k H locs la C hP hD hS hl)
theorem V_ixor {κ : vK} {M : vMx} {pc q : Nat} {ls st : List Value} {F : vFt} {Ar : vAt} {x : vXt} {a b : Int32} (d : decode M.2.1 pc = .ok (.ixor, 1))  (hq : pc + 1 = q) (k : V κ M q ls (.int (a ^^^ b) :: st) F Ar x) : V κ M pc ls (.int b :: .int a :: st) F Ar x := by
  subst hq
  obtain ⟨p, l, e, R, s, m, args, below, meth, c, D, cA, ad, A, H0, cells, slots, QW⟩ := κ
  intro H locs la C hP hD hS hl
  exact lv_ixor C.1 C.2.1 d (k H locs la C hP hD hS hl)
theorem V_idiv {κ : vK} {M : vMx} {pc q : Nat} {ls st : List Value} {F : vFt} {Ar : vAt} {x : vXt} {a b : Int32} (d : decode M.2.1 pc = .ok (.idiv, 1)) (hne : ¬ b = 0) (hq : pc + 1 = q) (k : V κ M q ls (.int (a / b) :: st) F Ar x) : V κ M pc ls (.int b :: .int a :: st) F Ar x := by
  subst hq
  obtain ⟨p, l, e, R, s, m, args, below, meth, c, D, cA, ad, A, H0, cells, slots, QW⟩ := κ
  intro H locs la C hP hD hS hl
  exact lv_idiv C.1 C.2.1 d hne (k H locs la C hP hD hS hl)
theorem V_irem {κ : vK} {M : vMx} {pc q : Nat} {ls st : List Value} {F : vFt} {Ar : vAt} {x : vXt} {a b : Int32} (d : decode M.2.1 pc = .ok (.irem, 1)) (hne : ¬ b = 0) (hq : pc + 1 = q) (k : V κ M q ls (.int (a - a / b * b) :: st) F Ar x) : V κ M pc ls (.int b :: .int a :: st) F Ar x := by
  subst hq
  obtain ⟨p, l, e, R, s, m, args, below, meth, c, D, cA, ad, A, H0, cells, slots, QW⟩ := κ
  intro H locs la C hP hD hS hl
  exact lv_irem C.1 C.2.1 d hne (k H locs la C hP hD hS hl)
theorem V_ineg {κ : vK} {M : vMx} {pc q : Nat} {ls st : List Value} {F : vFt} {Ar : vAt} {x : vXt} {a : Int32} (d : decode M.2.1 pc = .ok (.ineg, 1))  (hq : pc + 1 = q) (k : V κ M q ls (.int (-a) :: st) F Ar x) : V κ M pc ls (.int a :: st) F Ar x := by
  subst hq
  obtain ⟨p, l, e, R, s, m, args, below, meth, c, D, cA, ad, A, H0, cells, slots, QW⟩ := κ
  intro H locs la C hP hD hS hl
  exact lv_ineg C.1 C.2.1 d (k H locs la C hP hD hS hl)
theorem V_ladd {κ : vK} {M : vMx} {pc q : Nat} {ls st : List Value} {F : vFt} {Ar : vAt} {x : vXt} {a b : Int64} (d : decode M.2.1 pc = .ok (.ladd, 1))  (hq : pc + 1 = q) (k : V κ M q ls (.long (a + b) :: st) F Ar x) : V κ M pc ls (.long b :: .long a :: st) F Ar x := by
  subst hq
  obtain ⟨p, l, e, R, s, m, args, below, meth, c, D, cA, ad, A, H0, cells, slots, QW⟩ := κ
  intro H locs la C hP hD hS hl
  exact lv_ladd C.1 C.2.1 d (k H locs la C hP hD hS hl)
theorem V_lsub {κ : vK} {M : vMx} {pc q : Nat} {ls st : List Value} {F : vFt} {Ar : vAt} {x : vXt} {a b : Int64} (d : decode M.2.1 pc = .ok (.lsub, 1))  (hq : pc + 1 = q) (k : V κ M q ls (.long (a - b) :: st) F Ar x) : V κ M pc ls (.long b :: .long a :: st) F Ar x := by
  subst hq
  obtain ⟨p, l, e, R, s, m, args, below, meth, c, D, cA, ad, A, H0, cells, slots, QW⟩ := κ
  intro H locs la C hP hD hS hl
  exact lv_lsub C.1 C.2.1 d (k H locs la C hP hD hS hl)
theorem V_lmul {κ : vK} {M : vMx} {pc q : Nat} {ls st : List Value} {F : vFt} {Ar : vAt} {x : vXt} {a b : Int64} (d : decode M.2.1 pc = .ok (.lmul, 1))  (hq : pc + 1 = q) (k : V κ M q ls (.long (a * b) :: st) F Ar x) : V κ M pc ls (.long b :: .long a :: st) F Ar x := by
  subst hq
  obtain ⟨p, l, e, R, s, m, args, below, meth, c, D, cA, ad, A, H0, cells, slots, QW⟩ := κ
  intro H locs la C hP hD hS hl
  exact lv_lmul C.1 C.2.1 d (k H locs la C hP hD hS hl)
theorem V_ldiv {κ : vK} {M : vMx} {pc q : Nat} {ls st : List Value} {F : vFt} {Ar : vAt} {x : vXt} {a b : Int64} (d : decode M.2.1 pc = .ok (.ldiv, 1)) (hne : ¬ b = 0) (hq : pc + 1 = q) (k : V κ M q ls (.long (a / b) :: st) F Ar x) : V κ M pc ls (.long b :: .long a :: st) F Ar x := by
  subst hq
  obtain ⟨p, l, e, R, s, m, args, below, meth, c, D, cA, ad, A, H0, cells, slots, QW⟩ := κ
  intro H locs la C hP hD hS hl
  exact lv_ldiv C.1 C.2.1 d hne (k H locs la C hP hD hS hl)
theorem V_lcmp {κ : vK} {M : vMx} {pc q : Nat} {ls st : List Value} {F : vFt} {Ar : vAt} {x : vXt} {a b : Int64} (d : decode M.2.1 pc = .ok (.lcmp, 1))  (hq : pc + 1 = q) (k : V κ M q ls (.int (lg_cmp a b) :: st) F Ar x) : V κ M pc ls (.long b :: .long a :: st) F Ar x := by
  subst hq
  obtain ⟨p, l, e, R, s, m, args, below, meth, c, D, cA, ad, A, H0, cells, slots, QW⟩ := κ
  intro H locs la C hP hD hS hl
  exact W.lcmp C.1 C.2.1 d (k H locs la C hP hD hS hl)
theorem V_ishl {κ : vK} {M : vMx} {pc q : Nat} {ls st : List Value} {F : vFt} {Ar : vAt} {x : vXt} {a b : Int32} (d : decode M.2.1 pc = .ok (.ishl, 1))  (hq : pc + 1 = q) (k : V κ M q ls (.int (a <<< (b &&& 31)) :: st) F Ar x) : V κ M pc ls (.int b :: .int a :: st) F Ar x := by
  subst hq
  obtain ⟨p, l, e, R, s, m, args, below, meth, c, D, cA, ad, A, H0, cells, slots, QW⟩ := κ
  intro H locs la C hP hD hS hl
  exact lv_ishl C.1 C.2.1 d (k H locs la C hP hD hS hl)
theorem V_ishr {κ : vK} {M : vMx} {pc q : Nat} {ls st : List Value} {F : vFt} {Ar : vAt} {x : vXt} {a b : Int32} (d : decode M.2.1 pc = .ok (.ishr, 1))  (hq : pc + 1 = q) (k : V κ M q ls (.int (a >>> (b &&& 31)) :: st) F Ar x) : V κ M pc ls (.int b :: .int a :: st) F Ar x := by
  subst hq
  obtain ⟨p, l, e, R, s, m, args, below, meth, c, D, cA, ad, A, H0, cells, slots, QW⟩ := κ
  intro H locs la C hP hD hS hl
  exact lv_ishr C.1 C.2.1 d (k H locs la C hP hD hS hl)
theorem V_iushr {κ : vK} {M : vMx} {pc q : Nat} {ls st : List Value} {F : vFt} {Ar : vAt} {x : vXt} {a b : Int32} (d : decode M.2.1 pc = .ok (.iushr, 1))  (hq : pc + 1 = q) (k : V κ M q ls (.int ((a.toUInt32 >>> (b.toUInt32 &&& Int32.toUInt32 31)).toInt32) :: st) F Ar x) : V κ M pc ls (.int b :: .int a :: st) F Ar x := by
  subst hq
  obtain ⟨p, l, e, R, s, m, args, below, meth, c, D, cA, ad, A, H0, cells, slots, QW⟩ := κ
  intro H locs la C hP hD hS hl
  exact lv_iushr C.1 C.2.1 d rfl (k H locs la C hP hD hS hl)
theorem V_i2l {κ : vK} {M : vMx} {pc q : Nat} {ls st : List Value} {F : vFt} {Ar : vAt} {x : vXt} {a : Int32} (d : decode M.2.1 pc = .ok (.i2l, 1))  (hq : pc + 1 = q) (k : V κ M q ls (.long a.toInt64 :: st) F Ar x) : V κ M pc ls (.int a :: st) F Ar x := by
  subst hq
  obtain ⟨p, l, e, R, s, m, args, below, meth, c, D, cA, ad, A, H0, cells, slots, QW⟩ := κ
  intro H locs la C hP hD hS hl
  exact lv_i2l C.1 C.2.1 d rfl (k H locs la C hP hD hS hl)
theorem V_l2i {κ : vK} {M : vMx} {pc q : Nat} {ls st : List Value} {F : vFt} {Ar : vAt} {x : vXt} {a : Int64} (d : decode M.2.1 pc = .ok (.l2i, 1))  (hq : pc + 1 = q) (k : V κ M q ls (.int a.toInt32 :: st) F Ar x) : V κ M pc ls (.long a :: st) F Ar x := by
  subst hq
  obtain ⟨p, l, e, R, s, m, args, below, meth, c, D, cA, ad, A, H0, cells, slots, QW⟩ := κ
  intro H locs la C hP hD hS hl
  exact lv_l2i C.1 C.2.1 d rfl (k H locs la C hP hD hS hl)
theorem V_dup {κ : vK} {M : vMx} {pc q : Nat} {ls st : List Value} {F : vFt} {Ar : vAt} {x : vXt} {v : Value} (d : decode M.2.1 pc = .ok (.dup, 1)) (hv : v.category = 1) (hq : pc + 1 = q) (k : V κ M q ls (v :: v :: st) F Ar x) : V κ M pc ls (v :: st) F Ar x := by
  subst hq
  obtain ⟨p, l, e, R, s, m, args, below, meth, c, D, cA, ad, A, H0, cells, slots, QW⟩ := κ
  intro H locs la C hP hD hS hl
  exact lv_dup C.1 C.2.1 d ((vV_cat ad v).trans hv) (k H locs la C hP hD hS hl)
theorem V_pop {κ : vK} {M : vMx} {pc q : Nat} {ls st : List Value} {F : vFt} {Ar : vAt} {x : vXt} {v : Value} (d : decode M.2.1 pc = .ok (.pop, 1)) (hv : v.category = 1) (hq : pc + 1 = q) (k : V κ M q ls ( st) F Ar x) : V κ M pc ls (v :: st) F Ar x := by
  subst hq
  obtain ⟨p, l, e, R, s, m, args, below, meth, c, D, cA, ad, A, H0, cells, slots, QW⟩ := κ
  intro H locs la C hP hD hS hl
  exact lv_pop C.1 C.2.1 d ((vV_cat ad v).trans hv) (k H locs la C hP hD hS hl)
theorem V_dup2 {κ : vK} {M : vMx} {pc q : Nat} {ls st : List Value} {F : vFt} {Ar : vAt} {x : vXt} {v w : Value} (d : decode M.2.1 pc = .ok (.dup2, 1)) (hv : v.category = 1) (hw : w.category = 1) (hq : pc + 1 = q) (k : V κ M q ls (v :: w :: v :: w :: st) F Ar x) : V κ M pc ls (v :: w :: st) F Ar x := by
  subst hq
  obtain ⟨p, l, e, R, s, m, args, below, meth, c, D, cA, ad, A, H0, cells, slots, QW⟩ := κ
  intro H locs la C hP hD hS hl
  exact lv_dup2_11 C.1 C.2.1 d ((vV_cat ad v).trans hv) ((vV_cat ad w).trans hw) (k H locs la C hP hD hS hl)
theorem V_if_eq {κ : vK} {M : vMx} {pc q : Nat} {ls st : List Value} {F : vFt} {Ar : vAt} {x : vXt} {a : Int32} {off : Int} {tgt : Nat} (d : decode M.2.1 pc = .ok (.ifCond .eq off, 3)) (ht : (pc : Int) + off = (tgt : Int)) (hq : pc + 3 = q) (kt : a = 0 → V κ M tgt ls st F Ar x) (kf : ¬ (a = 0) → V κ M q ls st F Ar x) : V κ M pc ls (.int a :: st) F Ar x := by
  subst hq
  obtain ⟨p, l, e, R, s, m, args, below, meth, c, D, cA, ad, A, H0, cells, slots, QW⟩ := κ
  intro H locs la C hP hD hS hl
  exact lv_if_eq C.1 C.2.1 d ht (fun h => kt h H locs la C hP hD hS hl) (fun h => kf h H locs la C hP hD hS hl)
theorem V_icmp_eq {κ : vK} {M : vMx} {pc q : Nat} {ls st : List Value} {F : vFt} {Ar : vAt} {x : vXt} {a b : Int32} {off : Int} {tgt : Nat} (d : decode M.2.1 pc = .ok (.if_icmp .eq off, 3)) (ht : (pc : Int) + off = (tgt : Int)) (hq : pc + 3 = q) (kt : a = b → V κ M tgt ls st F Ar x) (kf : ¬ (a = b) → V κ M q ls st F Ar x) : V κ M pc ls (.int b :: .int a :: st) F Ar x := by
  subst hq
  obtain ⟨p, l, e, R, s, m, args, below, meth, c, D, cA, ad, A, H0, cells, slots, QW⟩ := κ
  intro H locs la C hP hD hS hl
  exact lv_icmp_eq C.1 C.2.1 d ht (fun h => kt h H locs la C hP hD hS hl) (fun h => kf h H locs la C hP hD hS hl)
theorem V_if_ne {κ : vK} {M : vMx} {pc q : Nat} {ls st : List Value} {F : vFt} {Ar : vAt} {x : vXt} {a : Int32} {off : Int} {tgt : Nat} (d : decode M.2.1 pc = .ok (.ifCond .ne off, 3)) (ht : (pc : Int) + off = (tgt : Int)) (hq : pc + 3 = q) (kt : ¬ a = 0 → V κ M tgt ls st F Ar x) (kf : a = 0 → V κ M q ls st F Ar x) : V κ M pc ls (.int a :: st) F Ar x := by
  subst hq
  obtain ⟨p, l, e, R, s, m, args, below, meth, c, D, cA, ad, A, H0, cells, slots, QW⟩ := κ
  intro H locs la C hP hD hS hl
  exact lv_if_ne C.1 C.2.1 d ht (fun h => kt h H locs la C hP hD hS hl) (fun h => kf h H locs la C hP hD hS hl)
theorem V_icmp_ne {κ : vK} {M : vMx} {pc q : Nat} {ls st : List Value} {F : vFt} {Ar : vAt} {x : vXt} {a b : Int32} {off : Int} {tgt : Nat} (d : decode M.2.1 pc = .ok (.if_icmp .ne off, 3)) (ht : (pc : Int) + off = (tgt : Int)) (hq : pc + 3 = q) (kt : ¬ a = b → V κ M tgt ls st F Ar x) (kf : a = b → V κ M q ls st F Ar x) : V κ M pc ls (.int b :: .int a :: st) F Ar x := by
  subst hq
  obtain ⟨p, l, e, R, s, m, args, below, meth, c, D, cA, ad, A, H0, cells, slots, QW⟩ := κ
  intro H locs la C hP hD hS hl
  exact lv_icmp_ne C.1 C.2.1 d ht (fun h => kt h H locs la C hP hD hS hl) (fun h => kf h H locs la C hP hD hS hl)
theorem V_if_lt {κ : vK} {M : vMx} {pc q : Nat} {ls st : List Value} {F : vFt} {Ar : vAt} {x : vXt} {a : Int32} {off : Int} {tgt : Nat} (d : decode M.2.1 pc = .ok (.ifCond .lt off, 3)) (ht : (pc : Int) + off = (tgt : Int)) (hq : pc + 3 = q) (kt : a < 0 → V κ M tgt ls st F Ar x) (kf : ¬ (a < 0) → V κ M q ls st F Ar x) : V κ M pc ls (.int a :: st) F Ar x := by
  subst hq
  obtain ⟨p, l, e, R, s, m, args, below, meth, c, D, cA, ad, A, H0, cells, slots, QW⟩ := κ
  intro H locs la C hP hD hS hl
  exact lv_if_lt C.1 C.2.1 d ht (fun h => kt h H locs la C hP hD hS hl) (fun h => kf h H locs la C hP hD hS hl)
theorem V_icmp_lt {κ : vK} {M : vMx} {pc q : Nat} {ls st : List Value} {F : vFt} {Ar : vAt} {x : vXt} {a b : Int32} {off : Int} {tgt : Nat} (d : decode M.2.1 pc = .ok (.if_icmp .lt off, 3)) (ht : (pc : Int) + off = (tgt : Int)) (hq : pc + 3 = q) (kt : a < b → V κ M tgt ls st F Ar x) (kf : ¬ (a < b) → V κ M q ls st F Ar x) : V κ M pc ls (.int b :: .int a :: st) F Ar x := by
  subst hq
  obtain ⟨p, l, e, R, s, m, args, below, meth, c, D, cA, ad, A, H0, cells, slots, QW⟩ := κ
  intro H locs la C hP hD hS hl
  exact lv_icmp_lt C.1 C.2.1 d ht (fun h => kt h H locs la C hP hD hS hl) (fun h => kf h H locs la C hP hD hS hl)
theorem V_if_ge {κ : vK} {M : vMx} {pc q : Nat} {ls st : List Value} {F : vFt} {Ar : vAt} {x : vXt} {a : Int32} {off : Int} {tgt : Nat} (d : decode M.2.1 pc = .ok (.ifCond .ge off, 3)) (ht : (pc : Int) + off = (tgt : Int)) (hq : pc + 3 = q) (kt : 0 ≤ a → V κ M tgt ls st F Ar x) (kf : ¬ (0 ≤ a) → V κ M q ls st F Ar x) : V κ M pc ls (.int a :: st) F Ar x := by
  subst hq
  obtain ⟨p, l, e, R, s, m, args, below, meth, c, D, cA, ad, A, H0, cells, slots, QW⟩ := κ
  intro H locs la C hP hD hS hl
  exact lv_if_ge C.1 C.2.1 d ht (fun h => kt h H locs la C hP hD hS hl) (fun h => kf h H locs la C hP hD hS hl)
theorem V_icmp_ge {κ : vK} {M : vMx} {pc q : Nat} {ls st : List Value} {F : vFt} {Ar : vAt} {x : vXt} {a b : Int32} {off : Int} {tgt : Nat} (d : decode M.2.1 pc = .ok (.if_icmp .ge off, 3)) (ht : (pc : Int) + off = (tgt : Int)) (hq : pc + 3 = q) (kt : b ≤ a → V κ M tgt ls st F Ar x) (kf : ¬ (b ≤ a) → V κ M q ls st F Ar x) : V κ M pc ls (.int b :: .int a :: st) F Ar x := by
  subst hq
  obtain ⟨p, l, e, R, s, m, args, below, meth, c, D, cA, ad, A, H0, cells, slots, QW⟩ := κ
  intro H locs la C hP hD hS hl
  exact lv_icmp_ge C.1 C.2.1 d ht (fun h => kt h H locs la C hP hD hS hl) (fun h => kf h H locs la C hP hD hS hl)
theorem V_if_gt {κ : vK} {M : vMx} {pc q : Nat} {ls st : List Value} {F : vFt} {Ar : vAt} {x : vXt} {a : Int32} {off : Int} {tgt : Nat} (d : decode M.2.1 pc = .ok (.ifCond .gt off, 3)) (ht : (pc : Int) + off = (tgt : Int)) (hq : pc + 3 = q) (kt : 0 < a → V κ M tgt ls st F Ar x) (kf : ¬ (0 < a) → V κ M q ls st F Ar x) : V κ M pc ls (.int a :: st) F Ar x := by
  subst hq
  obtain ⟨p, l, e, R, s, m, args, below, meth, c, D, cA, ad, A, H0, cells, slots, QW⟩ := κ
  intro H locs la C hP hD hS hl
  exact lv_if_gt C.1 C.2.1 d ht (fun h => kt h H locs la C hP hD hS hl) (fun h => kf h H locs la C hP hD hS hl)
theorem V_icmp_gt {κ : vK} {M : vMx} {pc q : Nat} {ls st : List Value} {F : vFt} {Ar : vAt} {x : vXt} {a b : Int32} {off : Int} {tgt : Nat} (d : decode M.2.1 pc = .ok (.if_icmp .gt off, 3)) (ht : (pc : Int) + off = (tgt : Int)) (hq : pc + 3 = q) (kt : b < a → V κ M tgt ls st F Ar x) (kf : ¬ (b < a) → V κ M q ls st F Ar x) : V κ M pc ls (.int b :: .int a :: st) F Ar x := by
  subst hq
  obtain ⟨p, l, e, R, s, m, args, below, meth, c, D, cA, ad, A, H0, cells, slots, QW⟩ := κ
  intro H locs la C hP hD hS hl
  exact lv_icmp_gt C.1 C.2.1 d ht (fun h => kt h H locs la C hP hD hS hl) (fun h => kf h H locs la C hP hD hS hl)
theorem V_if_le {κ : vK} {M : vMx} {pc q : Nat} {ls st : List Value} {F : vFt} {Ar : vAt} {x : vXt} {a : Int32} {off : Int} {tgt : Nat} (d : decode M.2.1 pc = .ok (.ifCond .le off, 3)) (ht : (pc : Int) + off = (tgt : Int)) (hq : pc + 3 = q) (kt : a ≤ 0 → V κ M tgt ls st F Ar x) (kf : ¬ (a ≤ 0) → V κ M q ls st F Ar x) : V κ M pc ls (.int a :: st) F Ar x := by
  subst hq
  obtain ⟨p, l, e, R, s, m, args, below, meth, c, D, cA, ad, A, H0, cells, slots, QW⟩ := κ
  intro H locs la C hP hD hS hl
  exact lv_if_le C.1 C.2.1 d ht (fun h => kt h H locs la C hP hD hS hl) (fun h => kf h H locs la C hP hD hS hl)
theorem V_icmp_le {κ : vK} {M : vMx} {pc q : Nat} {ls st : List Value} {F : vFt} {Ar : vAt} {x : vXt} {a b : Int32} {off : Int} {tgt : Nat} (d : decode M.2.1 pc = .ok (.if_icmp .le off, 3)) (ht : (pc : Int) + off = (tgt : Int)) (hq : pc + 3 = q) (kt : a ≤ b → V κ M tgt ls st F Ar x) (kf : ¬ (a ≤ b) → V κ M q ls st F Ar x) : V κ M pc ls (.int b :: .int a :: st) F Ar x := by
  subst hq
  obtain ⟨p, l, e, R, s, m, args, below, meth, c, D, cA, ad, A, H0, cells, slots, QW⟩ := κ
  intro H locs la C hP hD hS hl
  exact lv_icmp_le C.1 C.2.1 d ht (fun h => kt h H locs la C hP hD hS hl) (fun h => kf h H locs la C hP hD hS hl)
theorem V_goto {κ : vK} {M : vMx} {pc q : Nat} {ls st : List Value} {F : vFt} {Ar : vAt} {x : vXt} {off : Int} (d : decode M.2.1 pc = .ok (.goto off, 3)) (hq : (pc : Int) + off = (q : Int)) (k : V κ M q ls st F Ar x) : V κ M pc ls st F Ar x := by
  obtain ⟨p, l, e, R, s, m, args, below, meth, c, D, cA, ad, A, H0, cells, slots, QW⟩ := κ
  intro H locs la C hP hD hS hl
  exact lv_goto C.1 C.2.1 d hq (k H locs la C hP hD hS hl)
theorem V_lookup {κ : vK} {M : vMx} {pc q : Nat} {ls st : List Value} {F : vFt} {Ar : vAt} {x : vXt} {dflt : Int} {ps : Array (Int × Int)} {len : Nat} {a : Int32} {off : Int} (d : decode M.2.1 pc = .ok (.lookupswitch dflt ps, len)) (hp : (ps.toList.zip (ps.toList.drop 1)).all (fun (a, next) => a.1 < next.1) = true) (ho : Op.lookupswitch.offset ps.toList dflt a.toInt = off) (hq : (pc : Int) + off = (q : Int)) (k : V κ M q ls st F Ar x) : V κ M pc ls (.int a :: st) F Ar x := by
  obtain ⟨p, l, e, R, s, m, args, below, meth, c, D, cA, ad, A, H0, cells, slots, QW⟩ := κ
  intro H locs la C hP hD hS hl
  exact lv_lookup C.1 C.2.1 d hp ho hq (k H locs la C hP hD hS hl)
theorem V_tableOut {κ : vK} {M : vMx} {pc q : Nat} {ls st : List Value} {F : vFt} {Ar : vAt} {x : vXt} {dflt lo hi : Int} {offs : Array Int} {len : Nat} {a : Int32} (d : decode M.2.1 pc = .ok (.tableswitch dflt lo hi offs, len)) (h : a.toInt < lo ∨ hi < a.toInt) (hq : (pc : Int) + dflt = (q : Int)) (k : V κ M q ls st F Ar x) : V κ M pc ls (.int a :: st) F Ar x := by
  obtain ⟨p, l, e, R, s, m, args, below, meth, c, D, cA, ad, A, H0, cells, slots, QW⟩ := κ
  intro H locs la C hP hD hS hl
  exact lv_tableOut C.1 C.2.1 d h hq (k H locs la C hP hD hS hl)
theorem V_tableIn {κ : vK} {M : vMx} {pc q : Nat} {ls st : List Value} {F : vFt} {Ar : vAt} {x : vXt} {dflt lo hi : Int} {offs : Array Int} {len : Nat} {a : Int32} {off : Int} (d : decode M.2.1 pc = .ok (.tableswitch dflt lo hi offs, len)) (h1 : ¬ a.toInt < lo) (h2 : ¬ hi < a.toInt) (ho : offs[(a.toInt - lo).toNat]? = some off) (hq : (pc : Int) + off = (q : Int)) (k : V κ M q ls st F Ar x) : V κ M pc ls (.int a :: st) F Ar x := by
  obtain ⟨p, l, e, R, s, m, args, below, meth, c, D, cA, ad, A, H0, cells, slots, QW⟩ := κ
  intro H locs la C hP hD hS hl
  exact lv_tableIn C.1 C.2.1 d h1 h2 ho hq (k H locs la C hP hD hS hl)
theorem V_getI {κ : vK} {M : vMx} {pc q : Nat} {ls st : List Value} {F : vFt} {Ar : vAt} {x : vXt} {index : Nat} (o j : Nat) {n : Nat} (hf : Cond.fieldLink M.1.cls index (vT o j).1 (vT o j).2.1 (vT o j).2.2.1 ∈ lw_good) (ho : o < 7) (hj : j < vNf o) (hr : vRf o j = 0) (hn : 64 * o + j = n) (d : decode M.2.1 pc = .ok (.getfield index, 3)) (hq : pc + 3 = q) (k : V κ M q ls (.int (F n) :: st) F Ar x) : V κ M pc ls (.ref o :: st) F Ar x := by
  subst hq
  subst hn
  obtain ⟨p, l, e, R, s, m, args, below, meth, c, D, cA, ad, A, H0, cells, slots, QW⟩ := κ
  intro H locs la C hP hD hS hl
  exact va_get (D := D) (ci := o) (v := .int (F (64 * o + j))) C.1 C.2.1 C.2.2.2.2.1 (vCl_in o ho) C.2.2.2.1 C.2.2.2.2.2.1 hP o (vW_obj ho) (vCl_at o ho) j hj (C.2.2.2.2.1 _ hf) (fun _ h9 => h9) (by simp [hj, vFl, hr]) d (k H locs la C hP hD hS hl)
theorem V_getR {κ : vK} {M : vMx} {pc q : Nat} {ls st : List Value} {F : vFt} {Ar : vAt} {x : vXt} {index : Nat} (o j : Nat) {n : Nat} (hf : Cond.fieldLink M.1.cls index (vT o j).1 (vT o j).2.1 (vT o j).2.2.1 ∈ lw_good) (ho : o < 7) (hj : j < vNf o) (hr : vRf o j = n) (hn : n ≠ 0) (d : decode M.2.1 pc = .ok (.getfield index, 3)) (hq : pc + 3 = q) (k : V κ M q ls (.ref n :: st) F Ar x) : V κ M pc ls (.ref o :: st) F Ar x := by
  subst hq
  subst hr
  obtain ⟨p, l, e, R, s, m, args, below, meth, c, D, cA, ad, A, H0, cells, slots, QW⟩ := κ
  intro H locs la C hP hD hS hl
  exact va_get (D := D) (ci := o) (v := .ref (ad (vRf o j))) C.1 C.2.1 C.2.2.2.2.1 (vCl_in o ho) C.2.2.2.1 C.2.2.2.2.2.1 hP o (vW_obj ho) (vCl_at o ho) j hj (C.2.2.2.2.1 _ hf) (fun _ h9 => h9) (by simp [hj, vFl, hn]) d (k H locs la C hP hD hS hl)
theorem V_putI {κ : vK} {M : vMx} {pc q : Nat} {ls st : List Value} {F : vFt} {Ar : vAt} {x : vXt} {index : Nat} (o j : Nat) {n : Nat} {v : Int32} (hf : Cond.fieldLink M.1.cls index (vT o j).1 (vT o j).2.1 (vT o j).2.2.1 ∈ lw_good) (ho : o < 7) (hj : j < vNf o) (hr : vRf o j = 0) (hn : 64 * o + j = n) (d : decode M.2.1 pc = .ok (.putfield index, 3)) (hq : pc + 3 = q) (k : V κ M q ls st (upd F n v) Ar x) : V κ M pc ls (.int v :: .ref o :: st) F Ar x := by
  subst hq
  subst hn
  obtain ⟨p, l, e, R, s, m, args, below, meth, c, D, cA, ad, A, H0, cells, slots, QW⟩ := κ
  intro H locs la C hP hD hS hl
  refine va_put (D := D) (ci := o) (v := .int v) (ty := .int) C.1 C.2.1 C.2.2.2.2.1 (vCl_in o ho) (vTy o) (vCl_ty o ho) (vCl_nm o ho) C.2.2.2.1 C.2.2.2.2.2.1 hP hD hS o (vW_obj ho) (vCl_at o ho) j hj (C.2.2.2.2.1 _ hf) (fun _ h9 => h9) (vCl_int o ho j hj hr).1 (vCl_int o ho j hj hr).2 rfl rfl (by simp [hj]) d (fun H1 locs1 hP1 hD1 hS1 => ?_)
  rw [vW_setF ho hj hr] at hP1 hD1
  exact k H1 locs1 la C hP1 hD1 hS1 hl
theorem V_iald {κ : vK} {M : vMx} {pc q : Nat} {ls st : List Value} {F : vFt} {Ar : vAt} {x : vXt} {a : Nat} {i : Int32} (h9 : 9 ≤ a) (ha : a < 66 + x.1) (ht : vTyA a = 0) (hin : vp_in i (vLen a)) (d : decode M.2.1 pc = .ok (.iaload, 1)) (hq : pc + 1 = q) (k : V κ M q ls (.int (Ar a i.toNatClampNeg) :: st) F Ar x) : V κ M pc ls (.int i :: .ref a :: st) F Ar x := by
  subst hq
  obtain ⟨p, l, e, R, s, m, args, below, meth, c, D, cA, ad, A, H0, cells, slots, QW⟩ := κ
  intro H locs la C hP hD hS hl
  exact va_iald C.1 C.2.1 C.2.2.2.2.2.1 hP a 0 (vW_arr h9 ha) (by rw [ht]; rfl) hin d (k H locs la C hP hD hS hl)
theorem V_zald {κ : vK} {M : vMx} {pc q : Nat} {ls st : List Value} {F : vFt} {Ar : vAt} {x : vXt} {a : Nat} {i : Int32} (h9 : 9 ≤ a) (ha : a < 66 + x.1) (ht : vTyA a = 1) (hin : vp_in i (vLen a)) (d : decode M.2.1 pc = .ok (.baload, 1)) (hq : pc + 1 = q) (k : V κ M q ls (.int (Ar a i.toNatClampNeg) :: st) F Ar x) : V κ M pc ls (.int i :: .ref a :: st) F Ar x := by
  subst hq
  obtain ⟨p, l, e, R, s, m, args, below, meth, c, D, cA, ad, A, H0, cells, slots, QW⟩ := κ
  intro H locs la C hP hD hS hl
  exact va_zald C.1 C.2.1 C.2.2.2.2.2.1 hP a 1 (vW_arr h9 ha) (by rw [ht]; rfl) hin d (k H locs la C hP hD hS hl)
theorem V_iast {κ : vK} {M : vMx} {pc q : Nat} {ls st : List Value} {F : vFt} {Ar : vAt} {x : vXt} {a : Nat} {i v : Int32} (h9 : 9 ≤ a) (ha : a < 66 + x.1) (ht : vTyA a = 0) (hin : vp_in i (vLen a)) (d : decode M.2.1 pc = .ok (.iastore, 1)) (hq : pc + 1 = q) (k : V κ M q ls st F (vS Ar a (upd (Ar a) i.toNatClampNeg v)) x) : V κ M pc ls (.int v :: .int i :: .ref a :: st) F Ar x := by
  subst hq
  obtain ⟨p, l, e, R, s, m, args, below, meth, c, D, cA, ad, A, H0, cells, slots, QW⟩ := κ
  intro H locs la C hP hD hS hl
  refine va_iast C.1 C.2.1 C.2.2.2.2.2.1 hP hD hS a 0 (vW_arr h9 ha) (by rw [ht]; rfl) hin d (fun H1 locs1 hP1 hD1 hS1 => ?_)
  rw [vW_setA h9 ha] at hP1 hD1
  exact k H1 locs1 la C hP1 hD1 hS1 hl
theorem V_zast {κ : vK} {M : vMx} {pc q : Nat} {ls st : List Value} {F : vFt} {Ar : vAt} {x : vXt} {a : Nat} {i v : Int32} (h9 : 9 ≤ a) (ha : a < 66 + x.1) (ht : vTyA a = 1) (hin : vp_in i (vLen a)) (d : decode M.2.1 pc = .ok (.bastore, 1)) (hq : pc + 1 = q) (k : V κ M q ls st F (vS Ar a (upd (Ar a) i.toNatClampNeg (vp_nar .boolean v))) x) : V κ M pc ls (.int v :: .int i :: .ref a :: st) F Ar x := by
  subst hq
  obtain ⟨p, l, e, R, s, m, args, below, meth, c, D, cA, ad, A, H0, cells, slots, QW⟩ := κ
  intro H locs la C hP hD hS hl
  refine va_zast C.1 C.2.1 C.2.2.2.2.2.1 hP hD hS a 1 (vW_arr h9 ha) (by rw [ht]; rfl) hin d (fun H1 locs1 hP1 hD1 hS1 => ?_)
  rw [vW_setA h9 ha] at hP1 hD1
  exact k H1 locs1 la C hP1 hD1 hS1 hl
theorem V_alen {κ : vK} {M : vMx} {pc q : Nat} {ls st : List Value} {F : vFt} {Ar : vAt} {x : vXt} {a n : Nat} (h9 : 9 ≤ a) (ha : a < 66 + x.1) (hn : vLen a = n) (d : decode M.2.1 pc = .ok (.arraylength, 1)) (hq : pc + 1 = q) (k : V κ M q ls (.int (nI n) :: st) F Ar x) : V κ M pc ls (.ref a :: st) F Ar x := by
  subst hq
  subst hn
  obtain ⟨p, l, e, R, s, m, args, below, meth, c, D, cA, ad, A, H0, cells, slots, QW⟩ := κ
  intro H locs la C hP hD hS hl
  exact va_alen (ty := if vTyA a = 0 then .int else .boolean) C.1 C.2.1 C.2.2.2.2.2.1 hP a (vTyA a) (vW_arr h9 ha) (by unfold vTyA; split <;> rfl) rfl d (k H locs la C hP hD hS hl)
end
section
/-! contracts over the abstract machine; answers; calls -/
def vQ (D : va_G) (cA : Nat → ClassId) (ad : Nat → Nat) (A : Nat → Prop) (x : vXt) (Q : Option Value → vFt → vAt → Prop) : Array Value → State → Outcome → State → Prop := fun _ st oc t =>
  (∃ (r : Option Value) (F' : vFt) (Ar' : vAt), oc = .returned (r.map (vV ad)) ∧ Q r F' Ar' ∧ va_P D vCl (vW ad cA F' Ar' x) t.heap ∧ va_K D vCl (vTys cA) t ∧ va_D A (vW ad cA F' Ar' x)) ∧ va_F A st t
def vRm (d : Nat) : Room := { frames := d, cells := 0, slots := 0, locals := 60 * d }
def vStd (κ : vK) (d : Nat) (x : vXt) (Q : Option Value → vFt → vAt → Prop) : Prop := match κ with
  | (_, _, _, R, s, _, args, below, _, _, D, cA, ad, A, H0, cells, slots, QW) => R = vRm d ∧ cells = 0 ∧ slots = 0 ∧ H0 = s.heap ∧ QW = MQ below (vQ D cA ad A x Q) args s 0 0 A
def vBig (κ : vK) (d : Nat) : Prop := match κ with
  | (_, _, _, R, _, _, _, _, _, _, _, _, _, _, _, _, _, _) => d ≤ R.frames ∧ 60 * d ≤ R.locals
theorem vStd.big {κ : vK} {d : Nat} {x : vXt} {Q : Option Value → vFt → vAt → Prop} (h : vStd κ d x Q) : vBig κ d := by
  obtain ⟨p, l, e, R, s, m, args, below, meth, c, D, cA, ad, A, H0, cells, slots, QW⟩ := κ
  obtain ⟨rfl, -⟩ := h
  exact ⟨Nat.le_refl _, Nat.le_refl _⟩
def vPc (D : va_G) (cA : Nat → ClassId) (ad : Nat → Nat) (as : List Value) (F : vFt) (Ar : vAt) (x : vXt) (sz : Nat) : Array Value → State → Prop :=
  va_Pc (as.map (vV ad)) (fun U => U.heap.size = sz ∧ va_P D vCl (vW ad cA F Ar x) U.heap ∧ va_K D vCl (vTys cA) U ∧ va_D (fun _ => True) (vW ad cA F Ar x) ∧ vNs U)
/-- the contract of a method that makes nothing -/
def C0 (N : vMx) (d : Nat) (as : List Value) (F : vFt) (Ar : vAt) (x : vXt) (Q : Option Value → vFt → vAt → Prop) : Prop := ∀ (l : Launch) (D : va_G) (cA : Nat → ClassId) (ad : Nat → Nat) (sz : Nat),
  Met l N.1 (.code N.1 N.2.1 N.2.2.1 N.2.2.2 :: lw_good) (vRm d) (vPc D cA ad as F Ar x sz) (vQ D cA ad (va_A (vW ad cA F Ar x) sz) x Q) 0 0 (va_A (vW ad cA F Ar x) sz)
def vEnt (n : Nat) (as : List Value) : List Value := (List.range n).map (fun i => ((lv_args 0 as).lookup i).getD .null)
theorem lg_sl_len (ad : Nat → Nat) (as : List Value) : (lg_sl (as.map (vV ad))).length = (lg_sl as).length := by
  induction as with
  | nil => rfl
  | cons v t ih =>
    unfold lg_sl at ih ⊢
    simp only [List.map_cons, List.flatMap_cons, List.length_append, ih, vV_cat]
    split <;> rfl
theorem lv_args_map (ad : Nat → Nat) (as : List Value) : ∀ i, lv_args i (as.map (vV ad)) = (lv_args i as).map (fun q => (q.1, vV ad q.2)) := by
  induction as with
  | nil => intro i; rfl
  | cons v t ih =>
    intro i
    simp only [List.map_cons, lv_args, ih, vV_cat]
theorem lookup_mem {β : Type} {l : List (Nat × β)} {i : Nat} {v : β} (h : l.lookup i = some v) : (i, v) ∈ l := by
  induction l with
  | nil => cases h
  | cons q t ih =>
    obtain ⟨j, w⟩ := q
    simp only [List.lookup_cons] at h
    by_cases e : i = j
    · subst e
      simp at h
      subst h
      exact List.mem_cons_self
    · have : (i == j) = false := by simpa using e
      rw [this] at h
      exact List.mem_cons_of_mem _ (ih h)
theorem vEnt_has {ad : Nat → Nat} {as : List Value} {n : Nat} {la : Array Slot} (h : lv_has la n (lv_args 0 (as.map (vV ad)))) : lv_has la n (vLs ad (vEnt n as)) := by
  refine ⟨h.1, h.2.1, fun q hq => ?_⟩
  obtain ⟨v, h1, h2, h3⟩ := vLs_of hq
  unfold vEnt at h1
  rw [List.getElem?_map] at h1
  cases hr : (List.range n)[q.1]? with
  | none => rw [hr] at h1; cases h1
  | some j =>
    rw [hr] at h1
    have hj : j = q.1 := by
      have := List.getElem?_eq_some_iff.mp hr
      obtain ⟨hlt, e⟩ := this
      rw [List.getElem_range] at e
      exact e.symm
    subst hj
    simp only [Option.map_some, Option.some.injEq] at h1
    cases hk : (lv_args 0 as).lookup q.1 with
    | none => rw [hk] at h1; exact absurd h1.symm h2
    | some w =>
      rw [hk] at h1
      have hm := lookup_mem hk
      simp only [Option.getD_some] at h1
      subst h1
      have hm2 : (q.1, vV ad w) ∈ lv_args 0 (as.map (vV ad)) := by
        rw [lv_args_map]
        exact List.mem_map.mpr ⟨_, hm, rfl⟩
      have := h.2.2 _ hm2
      rw [h3]
      exact this
set_option maxHeartbeats 4000000 in
theorem C0_of {N : vMx} {d : Nat} {as : List Value} {F : vFt} {Ar : vAt} {x : vXt} {Q : Option Value → vFt → vAt → Prop} (hy : plainName N.1.cls = true) (hlen : (lg_sl as).length ≤ N.2.2.1) (h : ∀ κ : vK, vStd κ d x Q → V κ N 0 (vEnt N.2.2.1 as) [] F Ar x) : C0 N d as F Ar x Q := by
  intro l D cA ad sz
  refine Met.ofW (cc := N.2.1) (maxL := N.2.2.1) (ret := N.2.2.2) hy rfl ?_
  intro p e s m args below meth c s₁ B hml hv
  obtain ⟨rfl, hsz, hP, hK, hD0, hN⟩ := hv
  have hts := atoms_spec (ws := .code N.1 N.2.1 N.2.2.1 N.2.2.2 :: lw_good) B.pre
  subst hsz
  have hl := lv_entry (as.map (vV ad)) (n := N.2.2.1) (by rw [lg_sl_len]; exact hlen)
  rw [lg_entry_eq]
  exact h (p, l, e, vRm d, s, m, (as.map (vV ad)).toArray, below, meth, c, D, cA, ad, va_A (vW ad cA F Ar x) s.heap.size, s.heap, 0, 0, MQ below (vQ D cA ad (va_A (vW ad cA F Ar x) s.heap.size) x Q) (as.map (vV ad)).toArray s 0 0 (va_A (vW ad cA F Ar x) s.heap.size)) ⟨rfl, rfl, rfl, rfl, rfl⟩ s.heap [] _
    ⟨B.exec, B.bytes, hml, findClass_of_methodNamed B.named, fun w hw => hts w (List.mem_cons_of_mem _ hw), hK, fun q hq => Or.inr hq, B.returns, B.notSynchronized, Nat.zero_le _, Nat.zero_le _, hN⟩ hP hD0.self va_S.rf (vEnt_has hl)
section
variable {κ : vK} {M : vMx} {pc q : Nat} {ls st : List Value} {F : vFt} {Ar : vAt} {x : vXt} {Q : Option Value → vFt → vAt → Prop} {dd : Nat}
theorem V_iret {v : Int32} {ty : FieldType} (hκ : vStd κ dd x Q) (hr : M.2.2.2 = some ty) (hn : narrow ty (.int v) = .int v) (d : decode M.2.1 pc = .ok (.ireturn, 1)) (hq : Q (some (.int v)) F Ar) : V κ M pc ls [.int v] F Ar x := by
  obtain ⟨p, l, e, R, s, m, args, below, meth, c, D, cA, ad, A, H0, cells, slots, QW⟩ := κ
  intro H locs la C hP hD hS hl
  obtain ⟨rfl, rfl, rfl, rfl, rfl⟩ := hκ
  exact W.zret C.1 C.2.1 (C.2.2.2.2.2.2.2.1.trans hr) hn (fun t ht hW => ⟨⟨some (.int v), F, Ar, rfl, hq, by rw [ht]; exact hP, va_K.moved hW.alike C.2.2.2.2.2.1, hD⟩, hS.F ht⟩) hS.2.2 d C.2.2.2.2.2.2.2.2.1
theorem V_lret {v : Int64} (hκ : vStd κ dd x Q) (hr : M.2.2.2 = some .long) (d : decode M.2.1 pc = .ok (.lreturn, 1)) (hq : Q (some (.long v)) F Ar) : V κ M pc ls [.long v] F Ar x := by
  obtain ⟨p, l, e, R, s, m, args, below, meth, c, D, cA, ad, A, H0, cells, slots, QW⟩ := κ
  intro H locs la C hP hD hS hl
  obtain ⟨rfl, rfl, rfl, rfl, rfl⟩ := hκ
  exact W.lret C.1 C.2.1 (C.2.2.2.2.2.2.2.1.trans hr) (fun t ht hW => ⟨⟨some (.long v), F, Ar, rfl, hq, by rw [ht]; exact hP, va_K.moved hW.alike C.2.2.2.2.2.1, hD⟩, hS.F ht⟩) hS.2.2 d C.2.2.2.2.2.2.2.2.1
theorem V_vret (hκ : vStd κ dd x Q) (hr : M.2.2.2 = none) (d : decode M.2.1 pc = .ok (.return_, 1)) (hq : Q none F Ar) : V κ M pc ls [] F Ar x := by
  obtain ⟨p, l, e, R, s, m, args, below, meth, c, D, cA, ad, A, H0, cells, slots, QW⟩ := κ
  intro H locs la C hP hD hS hl
  obtain ⟨rfl, rfl, rfl, rfl, rfl⟩ := hκ
  exact W.vret C.1 C.2.1 (C.2.2.2.2.2.2.2.1.trans hr) (fun t ht hW => ⟨⟨none, F, Ar, rfl, hq, by rw [ht]; exact hP, va_K.moved hW.alike C.2.2.2.2.2.1, hD⟩, hS.F ht⟩) hS.2.2 d C.2.2.2.2.2.2.2.2.1
end
section
variable {p : Program} {l : Launch} {e : Env} {R : Room} {s : State} {m : MethodId} {args : Array Value} {below : List Frame} {meth : Method} {c : Code} {H : Heap} {locs : List Loc} {cells slots : Nat} {QW : State → Prop}
variable {pc : Nat} {la : Array Slot} {rest st0 : List Value} {a : Array Value} {A0 A1 : Nat → Prop} {H0 : Heap} {free : Addr → Prop} {D : va_G} {cA : Nat → ClassId} {ad : Nat → Nat} {x : vXt} {Q : Option Value → vFt → vAt → Prop}
theorem v_cont (hr : va_Run p l e R s m args below meth c H locs cells slots 0 0 (F0 m pc la st0) rest (vQ D cA ad A1 x Q a) free) (hS : va_S A0 H0 H locs) (hA : ∀ q, q < H.size → A1 q → A0 q) (hf : ∀ q, free q → A0 q)
    (kk : ∀ (r : Option Value) (F' : vFt) (Ar' : vAt) (H1 : Heap) (locs1 : List Loc), Q r F' Ar' → va_P D vCl (vW ad cA F' Ar' x) H1 → va_D A1 (vW ad cA F' Ar' x) → va_S A0 H0 H1 locs1 → W p l e R s m args below meth c H1 locs1 cells slots QW (F0 m (pc + 3) la ((r.map (vV ad)).toList ++ rest))) : W p l e R s m args below meth c H locs cells slots QW (F0 m pc la st0) := by
  intro T hT X
  obtain ⟨v, st₀, t, T', L, h0, X', hL, e1, e2, ⟨⟨r, F', Ar', hv, hq, hb, -, hd⟩, hz, hk⟩, st⟩ := hr T hT X
  cases hv
  rw [h0] at hz hk
  obtain ⟨t2, a1, b1⟩ := kk r F' Ar' T'.heap (locs ++ L) hq (by rw [e1]; exact hb) hd
    ⟨Nat.le_trans hS.1 (by rw [e1]; exact hz), fun q h1 h2 => by rw [e1, hk q (Nat.lt_of_lt_of_le h1 hS.1) (fun z => h2 (hA q (Nat.lt_of_lt_of_le h1 hS.1) z))]; exact hS.2.1 q h1 h2, fun q hq => by
      rcases List.mem_append.mp hq with h | h
      · exact hS.2.2 q h
      · exact hf _ (hL q h)⟩ T' rfl X'
  exact ⟨t2, st t2 a1, b1⟩
theorem vW_free {F : vFt} {Ar : vAt} (hD : va_D A0 (vW ad cA F Ar x)) (hS : va_S A0 H0 H locs) (hA : ∀ q, H0.size ≤ q → A0 q) : ∀ q, va_A (vW ad cA F Ar x) H.size q → A0 q := by
  intro q h
  rcases h with ⟨k, e, h⟩ | h
  · exact hD.2 k _ h
  · exact hA q (Nat.le_trans hS.1 h)
end
def vGood (N : vMx) (n : Nat) : Prop := Cond.code N.1 N.2.1 N.2.2.1 N.2.2.2 ∈ lw_good ∧ Cond.initialized N.1.cls ∈ lw_good ∧ (N.1.cls ≠ "java/lang/invoke/MethodHandle" ∧ N.1.cls ≠ "java/lang/invoke/VarHandle" ∧ (parseMethodDescriptor N.1.desc).map (fun d => d.parameters.length) = some n) ∧ N.2.2.1 ≤ 40
theorem vGood.words {N : vMx} {n : Nat} (h : vGood N n) : GoodIn lw_good (.code N.1 N.2.1 N.2.2.1 N.2.2.2 :: lw_good) := fun w hw => by
  rcases List.mem_cons.mp hw with rfl | hw
  · exact lw_good_ok _ h.1
  · exact lw_good_ok w hw
theorem vPc_blind {D : va_G} {cA : Nat → ClassId} {ad : Nat → Nat} {as : List Value} {F : vFt} {Ar : vAt} {x : vXt} {sz : Nat} : FrameBlind (vPc D cA ad as F Ar x sz) := fun a U g mk q => by
  obtain ⟨q0, q1, qP, qK, qD, qN⟩ := q
  exact ⟨q0, q1, qP, va_K.moved (u := U) (U := U.calling g mk a) (Vm.Alike.refl U.vm) qK, qD, vNs_same (u := U) (U := U.calling g mk a) rfl qN⟩
theorem vRm_fit {d d' maxL : Nat} {R : Room} (h : d ≤ R.frames ∧ 60 * d ≤ R.locals) (hd : d' < d) (hm : maxL ≤ 40) : (vRm d').frames + 1 ≤ R.frames ∧ 8 + (maxL + 11) + (vRm d').locals ≤ R.locals := by
  constructor
  · show d' + 1 ≤ R.frames
    omega
  · show 8 + (maxL + 11) + 60 * d' ≤ R.locals
    omega
section
variable {κ : vK} {M N : vMx} {pc q : Nat} {ls rest As : List Value} {F : vFt} {Ar : vAt} {x : vXt} {Q : Option Value → vFt → vAt → Prop} {dd d' o n index : Nat}
theorem vCat (ad : Nat → Nat) (l : List Value) : ((l.map (vV ad)).map fun v => v.category).sum = (l.map fun v => v.category).sum := by
  rw [List.map_map]
  congr 1
  apply List.map_congr_left
  intro v _
  exact vV_cat ad v
set_option maxHeartbeats 4000000 in
theorem V_callV (hC : C0 N d' (.ref o :: As) F Ar x Q) (hB : vBig κ dd) (hd : d' < dd) (hG : vGood N n) (hl : Cond.methodLink M.1.cls index N.1 ∈ lw_good) (hi : Cond.instanceMethod N.1 ∈ lw_good) (hs : Cond.selects N.1.cls N.1 N.1 ∈ lw_good) (ho : o < 7) (hcls : vR o = N.1.cls) (hn : As.length = n) (hW : (rest.map fun v => v.category).sum ≤ 8) (d : decode M.2.1 pc = .ok (.invokevirtual index, 3)) (hq : pc + 3 = q)
    (k : ∀ r F' Ar', Q r F' Ar' → V κ M q ls (r.toList ++ rest) F' Ar' x) : V κ M pc ls (As.reverse ++ .ref o :: rest) F Ar x := by
  subst hq
  obtain ⟨p, l, e, R, s, m, args, below, meth, c, D, cA, ad, A, H0, cells, slots, QW⟩ := κ
  intro H locs la C hP hD hS hl0
  have hts := C.2.2.2.2.1
  have hK := C.2.2.2.2.2.1
  have hFc := vW_free hD hS C.2.2.2.2.2.2.1
  have cw : CallW R s args M.1.cls N.1.cls index N.1 N.2.1 N.2.2.1 N.2.2.2 (.code N.1 N.2.1 N.2.2.1 N.2.2.2 :: lw_good) (vRm d') 0 0 n := ⟨callB_of n hts hG.words rfl rfl rfl (hts _ hG.2.1) (hts _ hl) hG.2.2.1 (vRm_fit hB hd hG.2.2.2), hts _ hi, hts _ hs⟩
  refine v_cont (va_runV (As := As.map (vV ad)) (rest := rest.map (vV ad)) ⟨C.1, C.2.1, C.2.2.1, C.2.2.2.1, hts⟩ (hC l D cA ad H.size) cw ⟨vPc_blind, ?_, fun U hU hW => ⟨rfl, by rw [hU], by rw [hU]; exact hP, va_K.moved hW.alike hK, hD.weaken (fun _ _ _ _ => trivial), vNs_warm hW C.2.2.2.2.2.2.2.2.2.2.2⟩⟩ rfl (by rw [List.length_map]; exact hn) hl0.1 (by simp [vV]) (lv_room (by rw [vCat]; exact hW)) d ⟨C.2.2.2.2.2.2.2.2.2.1, C.2.2.2.2.2.2.2.2.2.2.1⟩) hS (fun q _ h => hFc q h) hFc (fun r F' Ar' H1 locs1 hq hP1 hD1 hS1 => ?_)
  · rw [← hcls]
    exact va_recv hK hP (vCl_at o ho) (vW_obj ho)
  · have h9 := k r F' Ar' hq H1 locs1 la C hP1 (hD1.weaken (fun _ _ _ h => hFc _ h)) hS1 hl0
    rw [List.map_append] at h9
    cases r with
    | none => exact h9
    | some v => exact h9
set_option maxHeartbeats 4000000 in
theorem V_callS (hC : C0 N d' As F Ar x Q) (hB : vBig κ dd) (hd : d' < dd) (hG : vGood N n) (hl : Cond.methodLink M.1.cls index N.1 ∈ lw_good) (hi : Cond.static N.1 ∈ lw_good) (hn : As.length = n) (hW : (rest.map fun v => v.category).sum ≤ 8) (d : decode M.2.1 pc = .ok (.invokestatic index, 3)) (hq : pc + 3 = q)
    (k : ∀ r F' Ar', Q r F' Ar' → V κ M q ls (r.toList ++ rest) F' Ar' x) : V κ M pc ls (As.reverse ++ rest) F Ar x := by
  subst hq
  obtain ⟨p, l, e, R, s, m, args, below, meth, c, D, cA, ad, A, H0, cells, slots, QW⟩ := κ
  intro H locs la C hP hD hS hl0
  have hts := C.2.2.2.2.1
  have hK := C.2.2.2.2.2.1
  have hFc := vW_free hD hS C.2.2.2.2.2.2.1
  refine v_cont (va_runS (As := As.map (vV ad)) (rest := rest.map (vV ad)) ⟨C.1, C.2.1, C.2.2.1, C.2.2.2.1, hts⟩ (hC l D cA ad H.size) ⟨callB_of n hts hG.words rfl rfl rfl (hts _ hG.2.1) (hts _ hl) hG.2.2.1 (vRm_fit hB hd hG.2.2.2), hts _ hi⟩ ⟨vPc_blind, fun U hU hW => ⟨rfl, by rw [hU], by rw [hU]; exact hP, va_K.moved hW.alike hK, hD.weaken (fun _ _ _ _ => trivial), vNs_warm hW C.2.2.2.2.2.2.2.2.2.2.2⟩⟩ rfl (by rw [List.length_map]; exact hn) hl0.1 (by simp [vV]) (lv_room (by rw [vCat]; exact hW)) d ⟨C.2.2.2.2.2.2.2.2.2.1, C.2.2.2.2.2.2.2.2.2.2.1⟩) hS (fun q _ h => hFc q h) hFc (fun r F' Ar' H1 locs1 hq hP1 hD1 hS1 => ?_)
  have h9 := k r F' Ar' hq H1 locs1 la C hP1 (hD1.weaken (fun _ _ _ h => hFc _ h)) hS1 hl0
  rw [List.map_append] at h9
  cases r with
  | none => exact h9
  | some v => exact h9
set_option maxHeartbeats 4000000 in
theorem V_callSN (hC : C0 N d' As F Ar x Q) (hB : vBig κ dd) (hd : d' < dd) (hG : vGood N n) (hl : (M.1.cls, index, N.1) ∈ vNl) (hi : Cond.static N.1 ∈ lw_good) (hn : As.length = n) (hW : (rest.map fun v => v.category).sum ≤ 8) (d : decode M.2.1 pc = .ok (.invokestatic index, 3)) (hq : pc + 3 = q)
    (k : ∀ r F' Ar', Q r F' Ar' → V κ M q ls (r.toList ++ rest) F' Ar' x) : V κ M pc ls (As.reverse ++ rest) F Ar x := by
  subst hq
  obtain ⟨p, l, e, R, s, m, args, below, meth, c, D, cA, ad, A, H0, cells, slots, QW⟩ := κ
  intro H locs la C hP hD hS hl0
  have hts := C.2.2.2.2.1
  have hK := C.2.2.2.2.2.1
  have hFc := vW_free hD hS C.2.2.2.2.2.2.1
  refine v_cont (va_runSN (host := RX5) (As := As.map (vV ad)) (rest := rest.map (vV ad)) ⟨C.1, C.2.1, C.2.2.1, C.2.2.2.1, hts⟩ (hC l D cA ad H.size) ⟨va_cnB n hts hG.words rfl rfl rfl (C.2.2.2.2.2.2.2.2.2.2.2.1 _ hl) (hts _ hG.2.1) hG.2.2.1 (vRm_fit hB hd hG.2.2.2), hts _ hi, trivial⟩ ⟨vPc_blind, fun U hU hW => ⟨rfl, by rw [hU], by rw [hU]; exact hP, va_K.moved hW.alike hK, hD.weaken (fun _ _ _ _ => trivial), vNs_warm hW C.2.2.2.2.2.2.2.2.2.2.2⟩⟩ rfl (by rw [List.length_map]; exact hn) hl0.1 (by simp [vV]) (lv_room (by rw [vCat]; exact hW)) d ⟨C.2.2.2.2.2.2.2.2.2.1, C.2.2.2.2.2.2.2.2.2.2.1⟩) hS (fun q _ h => hFc q h) hFc (fun r F' Ar' H1 locs1 hq hP1 hD1 hS1 => ?_)
  have h9 := k r F' Ar' hq H1 locs1 la C hP1 (hD1.weaken (fun _ _ _ h => hFc _ h)) hS1 hl0
  rw [List.map_append] at h9
  cases r with
  | none => exact h9
  | some v => exact h9
end
end
section
theorem kf_X4_11 : Cond.fieldLink RX4 11 "HullRegister$Reckoner" "pile" "[I" ∈ lw_good := List.mem_filter.mpr ⟨List.mem_append_right _ (List.mem_of_getElem? (i := 33) (by decide +kernel)), rfl⟩
theorem kf_X4_28 : Cond.fieldLink RX4 28 "HullRegister$Reckoner" "height" "I" ∈ lw_good := List.mem_filter.mpr ⟨List.mem_append_right _ (List.mem_of_getElem? (i := 34) (by decide +kernel)), rfl⟩
theorem kf_X4_31 : Cond.fieldLink RX4 31 "HullRegister$Reckoner" "figures" "I" ∈ lw_good := List.mem_filter.mpr ⟨List.mem_append_right _ (List.mem_of_getElem? (i := 35) (by decide +kernel)), rfl⟩
theorem kf_X4_15 : Cond.fieldLink RX4 15 "HullRegister$Reckoner" "length" "I" ∈ lw_good := List.mem_filter.mpr ⟨List.mem_append_right _ (List.mem_of_getElem? (i := 36) (by decide +kernel)), rfl⟩
theorem kf_X4_19 : Cond.fieldLink RX4 19 "HullRegister$Reckoner" "breadth" "I" ∈ lw_good := List.mem_filter.mpr ⟨List.mem_append_right _ (List.mem_of_getElem? (i := 37) (by decide +kernel)), rfl⟩
theorem kf_X4_22 : Cond.fieldLink RX4 22 "HullRegister$Reckoner" "depth" "I" ∈ lw_good := List.mem_filter.mpr ⟨List.mem_append_right _ (List.mem_of_getElem? (i := 38) (by decide +kernel)), rfl⟩
theorem kf_X4_25 : Cond.fieldLink RX4 25 "HullRegister$Reckoner" "rooms" "I" ∈ lw_good := List.mem_filter.mpr ⟨List.mem_append_right _ (List.mem_of_getElem? (i := 39) (by decide +kernel)), rfl⟩
theorem kf_X0_13 : Cond.fieldLink RX0 13 "HullRegister$Acts" "fed" "[I" ∈ lw_good := List.mem_filter.mpr ⟨List.mem_append_right _ (List.mem_of_getElem? (i := 56) (by decide +kernel)), rfl⟩
theorem kf_X0_41 : Cond.fieldLink RX0 41 "HullRegister$Acts" "fedCount" "I" ∈ lw_good := List.mem_filter.mpr ⟨List.mem_append_right _ (List.mem_of_getElem? (i := 57) (by decide +kernel)), rfl⟩
theorem kf_X0_19 : Cond.fieldLink RX0 19 "HullRegister$Acts" "texts" "[[I" ∈ lw_good := List.mem_filter.mpr ⟨List.mem_append_right _ (List.mem_of_getElem? (i := 58) (by decide +kernel)), rfl⟩
theorem kf_X0_22 : Cond.fieldLink RX0 22 "HullRegister$Acts" "days" "[I" ∈ lw_good := List.mem_filter.mpr ⟨List.mem_append_right _ (List.mem_of_getElem? (i := 59) (by decide +kernel)), rfl⟩
theorem kf_X0_33 : Cond.fieldLink RX0 33 "HullRegister$Acts" "count" "I" ∈ lw_good := List.mem_filter.mpr ⟨List.mem_append_right _ (List.mem_of_getElem? (i := 60) (by decide +kernel)), rfl⟩
theorem kf_X0_25 : Cond.fieldLink RX0 25 "HullRegister$Acts" "shapeTons" "[[I" ∈ lw_good := List.mem_filter.mpr ⟨List.mem_append_right _ (List.mem_of_getElem? (i := 61) (by decide +kernel)), rfl⟩
theorem kf_X0_29 : Cond.fieldLink RX0 29 "HullRegister$Acts" "reckoner" "LHullRegister$Reckoner;" ∈ lw_good := List.mem_filter.mpr ⟨List.mem_append_right _ (List.mem_of_getElem? (i := 62) (by decide +kernel)), rfl⟩
theorem kf_X1_11 : Cond.fieldLink RX1 11 "HullRegister$Hulls" "table" "[I" ∈ lw_good := List.mem_filter.mpr ⟨List.mem_append_right _ (List.mem_of_getElem? (i := 84) (by decide +kernel)), rfl⟩
theorem kf_X1_15 : Cond.fieldLink RX1 15 "HullRegister$Hulls" "count" "I" ∈ lw_good := List.mem_filter.mpr ⟨List.mem_append_right _ (List.mem_of_getElem? (i := 85) (by decide +kernel)), rfl⟩
theorem kf_X2_13 : Cond.fieldLink RX2 13 "HullRegister$Ledger" "table" "[I" ∈ lw_good := List.mem_filter.mpr ⟨List.mem_append_right _ (List.mem_of_getElem? (i := 158) (by decide +kernel)), rfl⟩
theorem kf_X2_17 : Cond.fieldLink RX2 17 "HullRegister$Ledger" "stands" "[Z" ∈ lw_good := List.mem_filter.mpr ⟨List.mem_append_right _ (List.mem_of_getElem? (i := 159) (by decide +kernel)), rfl⟩
theorem kf_X2_42 : Cond.fieldLink RX2 42 "HullRegister$Ledger" "count" "I" ∈ lw_good := List.mem_filter.mpr ⟨List.mem_append_right _ (List.mem_of_getElem? (i := 160) (by decide +kernel)), rfl⟩
theorem kf_X2_21 : Cond.fieldLink RX2 21 "HullRegister$Ledger" "firstAccounts" "[I" ∈ lw_good := List.mem_filter.mpr ⟨List.mem_append_right _ (List.mem_of_getElem? (i := 161) (by decide +kernel)), rfl⟩
theorem kf_X2_24 : Cond.fieldLink RX2 24 "HullRegister$Ledger" "otherAccounts" "[I" ∈ lw_good := List.mem_filter.mpr ⟨List.mem_append_right _ (List.mem_of_getElem? (i := 162) (by decide +kernel)), rfl⟩
theorem kf_X2_27 : Cond.fieldLink RX2 27 "HullRegister$Ledger" "owned" "[I" ∈ lw_good := List.mem_filter.mpr ⟨List.mem_append_right _ (List.mem_of_getElem? (i := 163) (by decide +kernel)), rfl⟩
theorem kf_X2_30 : Cond.fieldLink RX2 30 "HullRegister$Ledger" "pledged" "[I" ∈ lw_good := List.mem_filter.mpr ⟨List.mem_append_right _ (List.mem_of_getElem? (i := 164) (by decide +kernel)), rfl⟩
theorem kf_X2_33 : Cond.fieldLink RX2 33 "HullRegister$Ledger" "heldInPledge" "[I" ∈ lw_good := List.mem_filter.mpr ⟨List.mem_append_right _ (List.mem_of_getElem? (i := 165) (by decide +kernel)), rfl⟩
theorem kf_X2_36 : Cond.fieldLink RX2 36 "HullRegister$Ledger" "pledges" "[I" ∈ lw_good := List.mem_filter.mpr ⟨List.mem_append_right _ (List.mem_of_getElem? (i := 166) (by decide +kernel)), rfl⟩
theorem kf_X3_11 : Cond.fieldLink RX3 11 "HullRegister$Papers" "firstDays" "[I" ∈ lw_good := List.mem_filter.mpr ⟨List.mem_append_right _ (List.mem_of_getElem? (i := 193) (by decide +kernel)), rfl⟩
theorem kf_X3_15 : Cond.fieldLink RX3 15 "HullRegister$Papers" "lastDays" "[I" ∈ lw_good := List.mem_filter.mpr ⟨List.mem_append_right _ (List.mem_of_getElem? (i := 194) (by decide +kernel)), rfl⟩
theorem kf_X3_18 : Cond.fieldLink RX3 18 "HullRegister$Papers" "leastLengths" "[I" ∈ lw_good := List.mem_filter.mpr ⟨List.mem_append_right _ (List.mem_of_getElem? (i := 195) (by decide +kernel)), rfl⟩
theorem kf_X3_21 : Cond.fieldLink RX3 21 "HullRegister$Papers" "mostLengths" "[I" ∈ lw_good := List.mem_filter.mpr ⟨List.mem_append_right _ (List.mem_of_getElem? (i := 196) (by decide +kernel)), rfl⟩
theorem kf_X3_24 : Cond.fieldLink RX3 24 "HullRegister$Papers" "marks" "[I" ∈ lw_good := List.mem_filter.mpr ⟨List.mem_append_right _ (List.mem_of_getElem? (i := 197) (by decide +kernel)), rfl⟩
theorem kf_X3_39 : Cond.fieldLink RX3 39 "HullRegister$Papers" "count" "I" ∈ lw_good := List.mem_filter.mpr ⟨List.mem_append_right _ (List.mem_of_getElem? (i := 198) (by decide +kernel)), rfl⟩
theorem kf_X3_27 : Cond.fieldLink RX3 27 "HullRegister$Papers" "likes" "[I" ∈ lw_good := List.mem_filter.mpr ⟨List.mem_append_right _ (List.mem_of_getElem? (i := 199) (by decide +kernel)), rfl⟩
theorem kf_X3_30 : Cond.fieldLink RX3 30 "HullRegister$Papers" "witnessed" "[I" ∈ lw_good := List.mem_filter.mpr ⟨List.mem_append_right _ (List.mem_of_getElem? (i := 200) (by decide +kernel)), rfl⟩
theorem kf_X3_43 : Cond.fieldLink RX3 43 "HullRegister$Papers" "witnessCount" "I" ∈ lw_good := List.mem_filter.mpr ⟨List.mem_append_right _ (List.mem_of_getElem? (i := 201) (by decide +kernel)), rfl⟩
theorem kf_X3_33 : Cond.fieldLink RX3 33 "HullRegister$Papers" "groupOf" "[I" ∈ lw_good := List.mem_filter.mpr ⟨List.mem_append_right _ (List.mem_of_getElem? (i := 202) (by decide +kernel)), rfl⟩
theorem kf_X3_36 : Cond.fieldLink RX3 36 "HullRegister$Papers" "members" "[I" ∈ lw_good := List.mem_filter.mpr ⟨List.mem_append_right _ (List.mem_of_getElem? (i := 203) (by decide +kernel)), rfl⟩
theorem kf_X3_58 : Cond.fieldLink RX3 58 "HullRegister$Papers" "groupCount" "I" ∈ lw_good := List.mem_filter.mpr ⟨List.mem_append_right _ (List.mem_of_getElem? (i := 204) (by decide +kernel)), rfl⟩
theorem kf_X5_10 : Cond.fieldLink RX5 10 "HullRegister" "acts" "LHullRegister$Acts;" ∈ lw_good := List.mem_filter.mpr ⟨List.mem_append_right _ (List.mem_of_getElem? (i := 230) (by decide +kernel)), rfl⟩
theorem kf_X5_19 : Cond.fieldLink RX5 19 "HullRegister" "hulls" "LHullRegister$Hulls;" ∈ lw_good := List.mem_filter.mpr ⟨List.mem_append_right _ (List.mem_of_getElem? (i := 231) (by decide +kernel)), rfl⟩
theorem kf_X5_26 : Cond.fieldLink RX5 26 "HullRegister" "ledger" "LHullRegister$Ledger;" ∈ lw_good := List.mem_filter.mpr ⟨List.mem_append_right _ (List.mem_of_getElem? (i := 232) (by decide +kernel)), rfl⟩
theorem kf_X5_33 : Cond.fieldLink RX5 33 "HullRegister" "papers" "LHullRegister$Papers;" ∈ lw_good := List.mem_filter.mpr ⟨List.mem_append_right _ (List.mem_of_getElem? (i := 233) (by decide +kernel)), rfl⟩
theorem kf_X6_89 : Cond.fieldLink RX6 89 "HullRegisterModel" "fed" "I" ∈ lw_good := List.mem_filter.mpr ⟨List.mem_append_right _ (List.mem_of_getElem? (i := 619) (by decide +kernel)), rfl⟩
theorem kf_X6_7 : Cond.fieldLink RX6 7 "HullRegisterModel" "letters" "[I" ∈ lw_good := List.mem_filter.mpr ⟨List.mem_append_right _ (List.mem_of_getElem? (i := 620) (by decide +kernel)), rfl⟩
theorem kf_X6_105 : Cond.fieldLink RX6 105 "HullRegisterModel" "acts" "I" ∈ lw_good := List.mem_filter.mpr ⟨List.mem_append_right _ (List.mem_of_getElem? (i := 621) (by decide +kernel)), rfl⟩
theorem kf_X6_13 : Cond.fieldLink RX6 13 "HullRegisterModel" "actDay" "[I" ∈ lw_good := List.mem_filter.mpr ⟨List.mem_append_right _ (List.mem_of_getElem? (i := 622) (by decide +kernel)), rfl⟩
theorem kf_X6_16 : Cond.fieldLink RX6 16 "HullRegisterModel" "actLength" "[I" ∈ lw_good := List.mem_filter.mpr ⟨List.mem_append_right _ (List.mem_of_getElem? (i := 623) (by decide +kernel)), rfl⟩
theorem kf_X6_19 : Cond.fieldLink RX6 19 "HullRegisterModel" "text" "[I" ∈ lw_good := List.mem_filter.mpr ⟨List.mem_append_right _ (List.mem_of_getElem? (i := 624) (by decide +kernel)), rfl⟩
theorem kf_X6_149 : Cond.fieldLink RX6 149 "HullRegisterModel" "hulls" "I" ∈ lw_good := List.mem_filter.mpr ⟨List.mem_append_right _ (List.mem_of_getElem? (i := 625) (by decide +kernel)), rfl⟩
theorem kf_X6_22 : Cond.fieldLink RX6 22 "HullRegisterModel" "sizes" "[I" ∈ lw_good := List.mem_filter.mpr ⟨List.mem_append_right _ (List.mem_of_getElem? (i := 626) (by decide +kernel)), rfl⟩
theorem kf_X6_25 : Cond.fieldLink RX6 25 "HullRegisterModel" "tonsOf" "[I" ∈ lw_good := List.mem_filter.mpr ⟨List.mem_append_right _ (List.mem_of_getElem? (i := 627) (by decide +kernel)), rfl⟩
theorem kf_X6_28 : Cond.fieldLink RX6 28 "HullRegisterModel" "measuredOn" "[I" ∈ lw_good := List.mem_filter.mpr ⟨List.mem_append_right _ (List.mem_of_getElem? (i := 628) (by decide +kernel)), rfl⟩
theorem kf_X6_31 : Cond.fieldLink RX6 31 "HullRegisterModel" "measuredBy" "[I" ∈ lw_good := List.mem_filter.mpr ⟨List.mem_append_right _ (List.mem_of_getElem? (i := 629) (by decide +kernel)), rfl⟩
theorem kf_X6_159 : Cond.fieldLink RX6 159 "HullRegisterModel" "entries" "I" ∈ lw_good := List.mem_filter.mpr ⟨List.mem_append_right _ (List.mem_of_getElem? (i := 630) (by decide +kernel)), rfl⟩
theorem kf_X6_34 : Cond.fieldLink RX6 34 "HullRegisterModel" "kindOf" "[I" ∈ lw_good := List.mem_filter.mpr ⟨List.mem_append_right _ (List.mem_of_getElem? (i := 631) (by decide +kernel)), rfl⟩
theorem kf_X6_37 : Cond.fieldLink RX6 37 "HullRegisterModel" "hullOf" "[I" ∈ lw_good := List.mem_filter.mpr ⟨List.mem_append_right _ (List.mem_of_getElem? (i := 632) (by decide +kernel)), rfl⟩
theorem kf_X6_40 : Cond.fieldLink RX6 40 "HullRegisterModel" "oneOf" "[I" ∈ lw_good := List.mem_filter.mpr ⟨List.mem_append_right _ (List.mem_of_getElem? (i := 633) (by decide +kernel)), rfl⟩
theorem kf_X6_43 : Cond.fieldLink RX6 43 "HullRegisterModel" "otherOf" "[I" ∈ lw_good := List.mem_filter.mpr ⟨List.mem_append_right _ (List.mem_of_getElem? (i := 634) (by decide +kernel)), rfl⟩
theorem kf_X6_46 : Cond.fieldLink RX6 46 "HullRegisterModel" "manyOf" "[I" ∈ lw_good := List.mem_filter.mpr ⟨List.mem_append_right _ (List.mem_of_getElem? (i := 635) (by decide +kernel)), rfl⟩
theorem kf_X6_49 : Cond.fieldLink RX6 49 "HullRegisterModel" "pledgeOf" "[I" ∈ lw_good := List.mem_filter.mpr ⟨List.mem_append_right _ (List.mem_of_getElem? (i := 636) (by decide +kernel)), rfl⟩
theorem kf_X6_52 : Cond.fieldLink RX6 52 "HullRegisterModel" "isForged" "[Z" ∈ lw_good := List.mem_filter.mpr ⟨List.mem_append_right _ (List.mem_of_getElem? (i := 637) (by decide +kernel)), rfl⟩
theorem kf_X6_184 : Cond.fieldLink RX6 184 "HullRegisterModel" "papers" "I" ∈ lw_good := List.mem_filter.mpr ⟨List.mem_append_right _ (List.mem_of_getElem? (i := 638) (by decide +kernel)), rfl⟩
theorem kf_X6_56 : Cond.fieldLink RX6 56 "HullRegisterModel" "paper" "[I" ∈ lw_good := List.mem_filter.mpr ⟨List.mem_append_right _ (List.mem_of_getElem? (i := 639) (by decide +kernel)), rfl⟩
theorem kf_X6_187 : Cond.fieldLink RX6 187 "HullRegisterModel" "witnesses" "I" ∈ lw_good := List.mem_filter.mpr ⟨List.mem_append_right _ (List.mem_of_getElem? (i := 640) (by decide +kernel)), rfl⟩
theorem kf_X6_59 : Cond.fieldLink RX6 59 "HullRegisterModel" "witnessA" "[I" ∈ lw_good := List.mem_filter.mpr ⟨List.mem_append_right _ (List.mem_of_getElem? (i := 641) (by decide +kernel)), rfl⟩
theorem kf_X6_62 : Cond.fieldLink RX6 62 "HullRegisterModel" "witnessB" "[I" ∈ lw_good := List.mem_filter.mpr ⟨List.mem_append_right _ (List.mem_of_getElem? (i := 642) (by decide +kernel)), rfl⟩
theorem kf_X6_65 : Cond.fieldLink RX6 65 "HullRegisterModel" "saysYes" "[Z" ∈ lw_good := List.mem_filter.mpr ⟨List.mem_append_right _ (List.mem_of_getElem? (i := 643) (by decide +kernel)), rfl⟩
theorem kf_X6_68 : Cond.fieldLink RX6 68 "HullRegisterModel" "pile" "[I" ∈ lw_good := List.mem_filter.mpr ⟨List.mem_append_right _ (List.mem_of_getElem? (i := 644) (by decide +kernel)), rfl⟩
theorem kf_X6_115 : Cond.fieldLink RX6 115 "HullRegisterModel" "deep" "I" ∈ lw_good := List.mem_filter.mpr ⟨List.mem_append_right _ (List.mem_of_getElem? (i := 645) (by decide +kernel)), rfl⟩
theorem kf_X6_71 : Cond.fieldLink RX6 71 "HullRegisterModel" "has" "[I" ∈ lw_good := List.mem_filter.mpr ⟨List.mem_append_right _ (List.mem_of_getElem? (i := 646) (by decide +kernel)), rfl⟩
theorem kf_X6_74 : Cond.fieldLink RX6 74 "HullRegisterModel" "bound" "[I" ∈ lw_good := List.mem_filter.mpr ⟨List.mem_append_right _ (List.mem_of_getElem? (i := 647) (by decide +kernel)), rfl⟩
theorem kf_X6_77 : Cond.fieldLink RX6 77 "HullRegisterModel" "stands" "[Z" ∈ lw_good := List.mem_filter.mpr ⟨List.mem_append_right _ (List.mem_of_getElem? (i := 648) (by decide +kernel)), rfl⟩
theorem kf_X6_80 : Cond.fieldLink RX6 80 "HullRegisterModel" "isVoid" "[Z" ∈ lw_good := List.mem_filter.mpr ⟨List.mem_append_right _ (List.mem_of_getElem? (i := 649) (by decide +kernel)), rfl⟩
theorem kf_X6_83 : Cond.fieldLink RX6 83 "HullRegisterModel" "groupOf" "[I" ∈ lw_good := List.mem_filter.mpr ⟨List.mem_append_right _ (List.mem_of_getElem? (i := 650) (by decide +kernel)), rfl⟩
theorem kf_X6_86 : Cond.fieldLink RX6 86 "HullRegisterModel" "used" "[I" ∈ lw_good := List.mem_filter.mpr ⟨List.mem_append_right _ (List.mem_of_getElem? (i := 651) (by decide +kernel)), rfl⟩
theorem kl_L_9 : Cond.methodLink RL 9 yX5_init ∈ lw_good := List.mem_filter.mpr ⟨List.mem_append_right _ (List.mem_of_getElem? (i := 13) (by decide +kernel)), rfl⟩
theorem kl_X5_25 : Cond.methodLink RX5 25 yX2_init ∈ lw_good := List.mem_filter.mpr ⟨List.mem_append_right _ (List.mem_of_getElem? (i := 93) (by decide +kernel)), rfl⟩
theorem kl_X2_39 : Cond.methodLink RX2 39 yX2_goThrough ∈ lw_good := List.mem_filter.mpr ⟨List.mem_append_right _ (List.mem_of_getElem? (i := 97) (by decide +kernel)), rfl⟩
theorem kl_X2_79 : Cond.methodLink RX2 79 yX2_beginAnew ∈ lw_good := List.mem_filter.mpr ⟨List.mem_append_right _ (List.mem_of_getElem? (i := 101) (by decide +kernel)), rfl⟩
theorem kl_X2_88 : Cond.methodLink RX2 88 yJ7_fill_53178 ∈ lw_good := List.mem_filter.mpr ⟨List.mem_append_right _ (List.mem_of_getElem? (i := 105) (by decide +kernel)), rfl⟩
theorem kl_X2_58 : Cond.methodLink RX2 58 yX2_account ∈ lw_good := List.mem_filter.mpr ⟨List.mem_append_right _ (List.mem_of_getElem? (i := 108) (by decide +kernel)), rfl⟩
theorem kl_X2_65 : Cond.methodLink RX2 65 yX2_isForged ∈ lw_good := List.mem_filter.mpr ⟨List.mem_append_right _ (List.mem_of_getElem? (i := 111) (by decide +kernel)), rfl⟩
theorem kl_X2_50 : Cond.methodLink RX2 50 yX2_told ∈ lw_good := List.mem_filter.mpr ⟨List.mem_append_right _ (List.mem_of_getElem? (i := 115) (by decide +kernel)), rfl⟩
theorem kl_X2_82 : Cond.methodLink RX2 82 yX2_takesEffect ∈ lw_good := List.mem_filter.mpr ⟨List.mem_append_right _ (List.mem_of_getElem? (i := 119) (by decide +kernel)), rfl⟩
theorem kl_X2_94 : Cond.methodLink RX2 94 yX2_bringParts ∈ lw_good := List.mem_filter.mpr ⟨List.mem_append_right _ (List.mem_of_getElem? (i := 123) (by decide +kernel)), rfl⟩
theorem kl_X2_69 : Cond.methodLink RX2 69 yX2_freeOf ∈ lw_good := List.mem_filter.mpr ⟨List.mem_append_right _ (List.mem_of_getElem? (i := 127) (by decide +kernel)), rfl⟩
theorem kl_X2_97 : Cond.methodLink RX2 97 yX2_beginPledge ∈ lw_good := List.mem_filter.mpr ⟨List.mem_append_right _ (List.mem_of_getElem? (i := 131) (by decide +kernel)), rfl⟩
theorem kl_X2_103 : Cond.methodLink RX2 103 yX2_setStanding ∈ lw_good := List.mem_filter.mpr ⟨List.mem_append_right _ (List.mem_of_getElem? (i := 135) (by decide +kernel)), rfl⟩
theorem kl_X2_100 : Cond.methodLink RX2 100 yX2_endPledge ∈ lw_good := List.mem_filter.mpr ⟨List.mem_append_right _ (List.mem_of_getElem? (i := 139) (by decide +kernel)), rfl⟩
theorem kl_X2_107 : Cond.methodLink RX2 107 yX2_has ∈ lw_good := List.mem_filter.mpr ⟨List.mem_append_right _ (List.mem_of_getElem? (i := 143) (by decide +kernel)), rfl⟩
theorem kl_X2_61 : Cond.methodLink RX2 61 yX2_put ∈ lw_good := List.mem_filter.mpr ⟨List.mem_append_right _ (List.mem_of_getElem? (i := 150) (by decide +kernel)), rfl⟩
theorem kl_X2_85 : Cond.methodLink RX2 85 yX2_rankPledges ∈ lw_good := List.mem_filter.mpr ⟨List.mem_append_right _ (List.mem_of_getElem? (i := 154) (by decide +kernel)), rfl⟩
theorem kl_L_13 : Cond.methodLink RL 13 yX5_feed ∈ lw_good := List.mem_filter.mpr ⟨List.mem_append_right _ (List.mem_of_getElem? (i := 243) (by decide +kernel)), rfl⟩
theorem kl_X5_37 : Cond.methodLink RX5 37 yX0_takeLetters ∈ lw_good := List.mem_filter.mpr ⟨List.mem_append_right _ (List.mem_of_getElem? (i := 247) (by decide +kernel)), rfl⟩
theorem kl_X0_44 : Cond.methodLink RX0 44 yX0_lettersIn ∈ lw_good := List.mem_filter.mpr ⟨List.mem_append_right _ (List.mem_of_getElem? (i := 251) (by decide +kernel)), rfl⟩
theorem kl_X0_48 : Cond.methodLink RX0 48 yX0_letterAt ∈ lw_good := List.mem_filter.mpr ⟨List.mem_append_right _ (List.mem_of_getElem? (i := 254) (by decide +kernel)), rfl⟩
theorem kl_L_18 : Cond.methodLink RL 18 yX5_scrap ∈ lw_good := List.mem_filter.mpr ⟨List.mem_append_right _ (List.mem_of_getElem? (i := 257) (by decide +kernel)), rfl⟩
theorem kl_X5_41 : Cond.methodLink RX5 41 yX0_dropLetters ∈ lw_good := List.mem_filter.mpr ⟨List.mem_append_right _ (List.mem_of_getElem? (i := 261) (by decide +kernel)), rfl⟩
theorem kl_X0_52 : Cond.methodLink RX0 52 yJ7_fill_53178 ∈ lw_good := List.mem_filter.mpr ⟨List.mem_append_right _ (List.mem_of_getElem? (i := 265) (by decide +kernel)), rfl⟩
theorem kl_L_23 : Cond.methodLink RL 23 yX5_act ∈ lw_good := List.mem_filter.mpr ⟨List.mem_append_right _ (List.mem_of_getElem? (i := 266) (by decide +kernel)), rfl⟩
theorem kl_X5_45 : Cond.methodLink RX5 45 yX0_enact ∈ lw_good := List.mem_filter.mpr ⟨List.mem_append_right _ (List.mem_of_getElem? (i := 270) (by decide +kernel)), rfl⟩
theorem kl_X5_67 : Cond.methodLink RX5 67 yX5_isWithin ∈ lw_good := List.mem_filter.mpr ⟨List.mem_append_right _ (List.mem_of_getElem? (i := 277) (by decide +kernel)), rfl⟩
theorem kl_X0_62 : Cond.methodLink RX0 62 yX4_reckon ∈ lw_good := List.mem_filter.mpr ⟨List.mem_append_right _ (List.mem_of_getElem? (i := 278) (by decide +kernel)), rfl⟩
theorem kl_X4_34 : Cond.methodLink RX4 34 yX4_read ∈ lw_good := List.mem_filter.mpr ⟨List.mem_append_right _ (List.mem_of_getElem? (i := 282) (by decide +kernel)), rfl⟩
theorem kl_X4_43 : Cond.methodLink RX4 43 yX4_readFigure ∈ lw_good := List.mem_filter.mpr ⟨List.mem_append_right _ (List.mem_of_getElem? (i := 287) (by decide +kernel)), rfl⟩
theorem kl_X4_46 : Cond.methodLink RX4 46 yX4_push ∈ lw_good := List.mem_filter.mpr ⟨List.mem_append_right _ (List.mem_of_getElem? (i := 291) (by decide +kernel)), rfl⟩
theorem kl_X4_49 : Cond.methodLink RX4 49 yX4_liftToZero ∈ lw_good := List.mem_filter.mpr ⟨List.mem_append_right _ (List.mem_of_getElem? (i := 295) (by decide +kernel)), rfl⟩
theorem kl_X4_56 : Cond.methodLink RX4 56 yJ9_max_7cf53 ∈ lw_good := List.mem_filter.mpr ⟨List.mem_append_right _ (List.mem_of_getElem? (i := 299) (by decide +kernel)), rfl⟩
theorem kl_X4_53 : Cond.methodLink RX4 53 yX4_joinTwo ∈ lw_good := List.mem_filter.mpr ⟨List.mem_append_right _ (List.mem_of_getElem? (i := 302) (by decide +kernel)), rfl⟩
theorem kl_X4_62 : Cond.methodLink RX4 62 yX4_joined ∈ lw_good := List.mem_filter.mpr ⟨List.mem_append_right _ (List.mem_of_getElem? (i := 306) (by decide +kernel)), rfl⟩
theorem kl_X4_66 : Cond.methodLink RX4 66 yX4_bounded ∈ lw_good := List.mem_filter.mpr ⟨List.mem_append_right _ (List.mem_of_getElem? (i := 309) (by decide +kernel)), rfl⟩
theorem kl_X0_67 : Cond.methodLink RX0 67 ⟨"java/lang/System", "arraycopy", "(Ljava/lang/Object;ILjava/lang/Object;II)V"⟩ ∈ lw_good := List.mem_filter.mpr ⟨List.mem_append_right _ (List.mem_of_getElem? (i := 318) (by decide +kernel)), rfl⟩
theorem kl_X0_73 : Cond.methodLink RX0 73 yX0_dropLetters ∈ lw_good := List.mem_filter.mpr ⟨List.mem_append_right _ (List.mem_of_getElem? (i := 321) (by decide +kernel)), rfl⟩
theorem kl_L_27 : Cond.methodLink RL 27 yX5_inForce ∈ lw_good := List.mem_filter.mpr ⟨List.mem_append_right _ (List.mem_of_getElem? (i := 322) (by decide +kernel)), rfl⟩
theorem kl_X5_48 : Cond.methodLink RX5 48 yX5_isDay ∈ lw_good := List.mem_filter.mpr ⟨List.mem_append_right _ (List.mem_of_getElem? (i := 326) (by decide +kernel)), rfl⟩
theorem kl_X5_52 : Cond.methodLink RX5 52 yX0_onDay ∈ lw_good := List.mem_filter.mpr ⟨List.mem_append_right _ (List.mem_of_getElem? (i := 327) (by decide +kernel)), rfl⟩
theorem kl_L_31 : Cond.methodLink RL 31 yX5_tons ∈ lw_good := List.mem_filter.mpr ⟨List.mem_append_right _ (List.mem_of_getElem? (i := 331) (by decide +kernel)), rfl⟩
theorem kl_X5_55 : Cond.methodLink RX5 55 yX0_has ∈ lw_good := List.mem_filter.mpr ⟨List.mem_append_right _ (List.mem_of_getElem? (i := 335) (by decide +kernel)), rfl⟩
theorem kl_X5_58 : Cond.methodLink RX5 58 yX5_areSizes ∈ lw_good := List.mem_filter.mpr ⟨List.mem_append_right _ (List.mem_of_getElem? (i := 340) (by decide +kernel)), rfl⟩
theorem kl_X5_118 : Cond.methodLink RX5 118 yX5_isMeasure ∈ lw_good := List.mem_filter.mpr ⟨List.mem_append_right _ (List.mem_of_getElem? (i := 343) (by decide +kernel)), rfl⟩
theorem kl_X5_63 : Cond.methodLink RX5 63 yX0_tonsBy ∈ lw_good := List.mem_filter.mpr ⟨List.mem_append_right _ (List.mem_of_getElem? (i := 347) (by decide +kernel)), rfl⟩
theorem kl_X0_77 : Cond.methodLink RX0 77 yX4_setSizes ∈ lw_good := List.mem_filter.mpr ⟨List.mem_append_right _ (List.mem_of_getElem? (i := 351) (by decide +kernel)), rfl⟩
theorem kl_L_36 : Cond.methodLink RL 36 yX5_shape ∈ lw_good := List.mem_filter.mpr ⟨List.mem_append_right _ (List.mem_of_getElem? (i := 355) (by decide +kernel)), rfl⟩
theorem kl_X5_71 : Cond.methodLink RX5 71 yX0_ofLeastShape ∈ lw_good := List.mem_filter.mpr ⟨List.mem_append_right _ (List.mem_of_getElem? (i := 359) (by decide +kernel)), rfl⟩
theorem kl_X0_81 : Cond.methodLink RX0 81 yX0_tonsOfShapes ∈ lw_good := List.mem_filter.mpr ⟨List.mem_append_right _ (List.mem_of_getElem? (i := 363) (by decide +kernel)), rfl⟩
theorem kl_X0_89 : Cond.methodLink RX0 89 yX0_lengthOf ∈ lw_good := List.mem_filter.mpr ⟨List.mem_append_right _ (List.mem_of_getElem? (i := 367) (by decide +kernel)), rfl⟩
theorem kl_X0_92 : Cond.methodLink RX0 92 yX0_breadthOf ∈ lw_good := List.mem_filter.mpr ⟨List.mem_append_right _ (List.mem_of_getElem? (i := 370) (by decide +kernel)), rfl⟩
theorem kl_X0_95 : Cond.methodLink RX0 95 yX0_depthOf ∈ lw_good := List.mem_filter.mpr ⟨List.mem_append_right _ (List.mem_of_getElem? (i := 373) (by decide +kernel)), rfl⟩
theorem kl_X0_98 : Cond.methodLink RX0 98 yX0_tonsBy ∈ lw_good := List.mem_filter.mpr ⟨List.mem_append_right _ (List.mem_of_getElem? (i := 376) (by decide +kernel)), rfl⟩
theorem kl_X0_85 : Cond.methodLink RX0 85 yX0_leastShape ∈ lw_good := List.mem_filter.mpr ⟨List.mem_append_right _ (List.mem_of_getElem? (i := 377) (by decide +kernel)), rfl⟩
theorem kl_L_41 : Cond.methodLink RL 41 yX5_hull ∈ lw_good := List.mem_filter.mpr ⟨List.mem_append_right _ (List.mem_of_getElem? (i := 380) (by decide +kernel)), rfl⟩
theorem kl_X5_75 : Cond.methodLink RX5 75 yX1_add ∈ lw_good := List.mem_filter.mpr ⟨List.mem_append_right _ (List.mem_of_getElem? (i := 384) (by decide +kernel)), rfl⟩
theorem kl_X1_23 : Cond.methodLink RX1 23 yX1_setSizes ∈ lw_good := List.mem_filter.mpr ⟨List.mem_append_right _ (List.mem_of_getElem? (i := 388) (by decide +kernel)), rfl⟩
theorem kl_X1_28 : Cond.methodLink RX1 28 yX1_setMeasuring ∈ lw_good := List.mem_filter.mpr ⟨List.mem_append_right _ (List.mem_of_getElem? (i := 393) (by decide +kernel)), rfl⟩
theorem kl_L_46 : Cond.methodLink RL 46 yX5_alter ∈ lw_good := List.mem_filter.mpr ⟨List.mem_append_right _ (List.mem_of_getElem? (i := 397) (by decide +kernel)), rfl⟩
theorem kl_X5_79 : Cond.methodLink RX5 79 yX1_has ∈ lw_good := List.mem_filter.mpr ⟨List.mem_append_right _ (List.mem_of_getElem? (i := 401) (by decide +kernel)), rfl⟩
theorem kl_X5_80 : Cond.methodLink RX5 80 yX1_setSizes ∈ lw_good := List.mem_filter.mpr ⟨List.mem_append_right _ (List.mem_of_getElem? (i := 406) (by decide +kernel)), rfl⟩
theorem kl_L_50 : Cond.methodLink RL 50 yX5_measure ∈ lw_good := List.mem_filter.mpr ⟨List.mem_append_right _ (List.mem_of_getElem? (i := 407) (by decide +kernel)), rfl⟩
theorem kl_X5_84 : Cond.methodLink RX5 84 yX1_told ∈ lw_good := List.mem_filter.mpr ⟨List.mem_append_right _ (List.mem_of_getElem? (i := 411) (by decide +kernel)), rfl⟩
theorem kl_X5_88 : Cond.methodLink RX5 88 yX1_setMeasuring ∈ lw_good := List.mem_filter.mpr ⟨List.mem_append_right _ (List.mem_of_getElem? (i := 415) (by decide +kernel)), rfl⟩
theorem kl_L_55 : Cond.methodLink RL 55 yX5_of ∈ lw_good := List.mem_filter.mpr ⟨List.mem_append_right _ (List.mem_of_getElem? (i := 416) (by decide +kernel)), rfl⟩
theorem kl_L_59 : Cond.methodLink RL 59 yX5_sell ∈ lw_good := List.mem_filter.mpr ⟨List.mem_append_right _ (List.mem_of_getElem? (i := 420) (by decide +kernel)), rfl⟩
theorem kl_X5_92 : Cond.methodLink RX5 92 yX5_enter ∈ lw_good := List.mem_filter.mpr ⟨List.mem_append_right _ (List.mem_of_getElem? (i := 424) (by decide +kernel)), rfl⟩
theorem kl_X5_103 : Cond.methodLink RX5 103 yX5_isPerson ∈ lw_good := List.mem_filter.mpr ⟨List.mem_append_right _ (List.mem_of_getElem? (i := 428) (by decide +kernel)), rfl⟩
theorem kl_X5_162 : Cond.methodLink RX5 162 yX2_add ∈ lw_good := List.mem_filter.mpr ⟨List.mem_append_right _ (List.mem_of_getElem? (i := 431) (by decide +kernel)), rfl⟩
theorem kl_L_63 : Cond.methodLink RL 63 yX5_pledge ∈ lw_good := List.mem_filter.mpr ⟨List.mem_append_right _ (List.mem_of_getElem? (i := 435) (by decide +kernel)), rfl⟩
theorem kl_L_67 : Cond.methodLink RL 67 yX5_redeem ∈ lw_good := List.mem_filter.mpr ⟨List.mem_append_right _ (List.mem_of_getElem? (i := 439) (by decide +kernel)), rfl⟩
theorem kl_X5_95 : Cond.methodLink RX5 95 yX2_has ∈ lw_good := List.mem_filter.mpr ⟨List.mem_append_right _ (List.mem_of_getElem? (i := 443) (by decide +kernel)), rfl⟩
theorem kl_X5_96 : Cond.methodLink RX5 96 yX2_addRedeem ∈ lw_good := List.mem_filter.mpr ⟨List.mem_append_right _ (List.mem_of_getElem? (i := 444) (by decide +kernel)), rfl⟩
theorem kl_X2_54 : Cond.methodLink RX2 54 yX2_add ∈ lw_good := List.mem_filter.mpr ⟨List.mem_append_right _ (List.mem_of_getElem? (i := 448) (by decide +kernel)), rfl⟩
theorem kl_L_71 : Cond.methodLink RL 71 yX5_forge ∈ lw_good := List.mem_filter.mpr ⟨List.mem_append_right _ (List.mem_of_getElem? (i := 449) (by decide +kernel)), rfl⟩
theorem kl_X5_99 : Cond.methodLink RX5 99 yX2_markForged ∈ lw_good := List.mem_filter.mpr ⟨List.mem_append_right _ (List.mem_of_getElem? (i := 453) (by decide +kernel)), rfl⟩
theorem kl_L_75 : Cond.methodLink RL 75 yX5_entry ∈ lw_good := List.mem_filter.mpr ⟨List.mem_append_right _ (List.mem_of_getElem? (i := 457) (by decide +kernel)), rfl⟩
theorem kl_X5_102 : Cond.methodLink RX5 102 yX2_told ∈ lw_good := List.mem_filter.mpr ⟨List.mem_append_right _ (List.mem_of_getElem? (i := 461) (by decide +kernel)), rfl⟩
theorem kl_L_79 : Cond.methodLink RL 79 yX5_parts ∈ lw_good := List.mem_filter.mpr ⟨List.mem_append_right _ (List.mem_of_getElem? (i := 462) (by decide +kernel)), rfl⟩
theorem kl_X5_106 : Cond.methodLink RX5 106 yX2_freeParts ∈ lw_good := List.mem_filter.mpr ⟨List.mem_append_right _ (List.mem_of_getElem? (i := 466) (by decide +kernel)), rfl⟩
theorem kl_X5_109 : Cond.methodLink RX5 109 yX2_allParts ∈ lw_good := List.mem_filter.mpr ⟨List.mem_append_right _ (List.mem_of_getElem? (i := 470) (by decide +kernel)), rfl⟩
theorem kl_L_84 : Cond.methodLink RL 84 yX5_manager ∈ lw_good := List.mem_filter.mpr ⟨List.mem_append_right _ (List.mem_of_getElem? (i := 474) (by decide +kernel)), rfl⟩
theorem kl_X5_112 : Cond.methodLink RX5 112 yX2_greatestOwner ∈ lw_good := List.mem_filter.mpr ⟨List.mem_append_right _ (List.mem_of_getElem? (i := 478) (by decide +kernel)), rfl⟩
theorem kl_X2_73 : Cond.methodLink RX2 73 yX2_allParts ∈ lw_good := List.mem_filter.mpr ⟨List.mem_append_right _ (List.mem_of_getElem? (i := 482) (by decide +kernel)), rfl⟩
theorem kl_L_88 : Cond.methodLink RL 88 yX5_held ∈ lw_good := List.mem_filter.mpr ⟨List.mem_append_right _ (List.mem_of_getElem? (i := 483) (by decide +kernel)), rfl⟩
theorem kl_X5_115 : Cond.methodLink RX5 115 yX2_partsHeld ∈ lw_good := List.mem_filter.mpr ⟨List.mem_append_right _ (List.mem_of_getElem? (i := 487) (by decide +kernel)), rfl⟩
theorem kl_L_92 : Cond.methodLink RL 92 yX5_paper ∈ lw_good := List.mem_filter.mpr ⟨List.mem_append_right _ (List.mem_of_getElem? (i := 491) (by decide +kernel)), rfl⟩
theorem kl_X5_121 : Cond.methodLink RX5 121 yX3_add ∈ lw_good := List.mem_filter.mpr ⟨List.mem_append_right _ (List.mem_of_getElem? (i := 495) (by decide +kernel)), rfl⟩
theorem kl_X3_61 : Cond.methodLink RX3 61 yX3_seemAlike ∈ lw_good := List.mem_filter.mpr ⟨List.mem_append_right _ (List.mem_of_getElem? (i := 499) (by decide +kernel)), rfl⟩
theorem kl_X3_64 : Cond.methodLink RX3 64 yX3_setLike ∈ lw_good := List.mem_filter.mpr ⟨List.mem_append_right _ (List.mem_of_getElem? (i := 503) (by decide +kernel)), rfl⟩
theorem kl_X3_68 : Cond.methodLink RX3 68 yX3_joinAnew ∈ lw_good := List.mem_filter.mpr ⟨List.mem_append_right _ (List.mem_of_getElem? (i := 507) (by decide +kernel)), rfl⟩
theorem kl_X3_71 : Cond.methodLink RX3 71 yJ7_fill_53178 ∈ lw_good := List.mem_filter.mpr ⟨List.mem_append_right _ (List.mem_of_getElem? (i := 511) (by decide +kernel)), rfl⟩
theorem kl_X3_77 : Cond.methodLink RX3 77 yX3_placeFrom ∈ lw_good := List.mem_filter.mpr ⟨List.mem_append_right _ (List.mem_of_getElem? (i := 512) (by decide +kernel)), rfl⟩
theorem kl_X3_80 : Cond.methodLink RX3 80 yJ9_min_7cf53 ∈ lw_good := List.mem_filter.mpr ⟨List.mem_append_right _ (List.mem_of_getElem? (i := 516) (by decide +kernel)), rfl⟩
theorem kl_X3_86 : Cond.methodLink RX3 86 yX3_placeInto ∈ lw_good := List.mem_filter.mpr ⟨List.mem_append_right _ (List.mem_of_getElem? (i := 519) (by decide +kernel)), rfl⟩
theorem kl_X3_90 : Cond.methodLink RX3 90 yJ9_max_7cf53 ∈ lw_good := List.mem_filter.mpr ⟨List.mem_append_right _ (List.mem_of_getElem? (i := 523) (by decide +kernel)), rfl⟩
theorem kl_L_96 : Cond.methodLink RL 96 yX5_witness ∈ lw_good := List.mem_filter.mpr ⟨List.mem_append_right _ (List.mem_of_getElem? (i := 524) (by decide +kernel)), rfl⟩
theorem kl_X5_123 : Cond.methodLink RX5 123 yX3_areTwo ∈ lw_good := List.mem_filter.mpr ⟨List.mem_append_right _ (List.mem_of_getElem? (i := 528) (by decide +kernel)), rfl⟩
theorem kl_X3_50 : Cond.methodLink RX3 50 yX3_has ∈ lw_good := List.mem_filter.mpr ⟨List.mem_append_right _ (List.mem_of_getElem? (i := 532) (by decide +kernel)), rfl⟩
theorem kl_X5_127 : Cond.methodLink RX5 127 yX3_hear ∈ lw_good := List.mem_filter.mpr ⟨List.mem_append_right _ (List.mem_of_getElem? (i := 537) (by decide +kernel)), rfl⟩
theorem kl_X3_54 : Cond.methodLink RX3 54 yX3_isIn ∈ lw_good := List.mem_filter.mpr ⟨List.mem_append_right _ (List.mem_of_getElem? (i := 541) (by decide +kernel)), rfl⟩
theorem kl_L_100 : Cond.methodLink RL 100 yX5_alike ∈ lw_good := List.mem_filter.mpr ⟨List.mem_append_right _ (List.mem_of_getElem? (i := 544) (by decide +kernel)), rfl⟩
theorem kl_X5_131 : Cond.methodLink RX5 131 yX3_mayBeOne ∈ lw_good := List.mem_filter.mpr ⟨List.mem_append_right _ (List.mem_of_getElem? (i := 548) (by decide +kernel)), rfl⟩
theorem kl_L_104 : Cond.methodLink RL 104 yX5_group ∈ lw_good := List.mem_filter.mpr ⟨List.mem_append_right _ (List.mem_of_getElem? (i := 552) (by decide +kernel)), rfl⟩
theorem kl_X5_134 : Cond.methodLink RX5 134 yX3_has ∈ lw_good := List.mem_filter.mpr ⟨List.mem_append_right _ (List.mem_of_getElem? (i := 556) (by decide +kernel)), rfl⟩
theorem kl_X5_135 : Cond.methodLink RX5 135 yX3_joinedGroup ∈ lw_good := List.mem_filter.mpr ⟨List.mem_append_right _ (List.mem_of_getElem? (i := 557) (by decide +kernel)), rfl⟩
theorem kl_L_108 : Cond.methodLink RL 108 yX5_groups ∈ lw_good := List.mem_filter.mpr ⟨List.mem_append_right _ (List.mem_of_getElem? (i := 561) (by decide +kernel)), rfl⟩
theorem kl_X5_138 : Cond.methodLink RX5 138 yX3_joinedGroups ∈ lw_good := List.mem_filter.mpr ⟨List.mem_append_right _ (List.mem_of_getElem? (i := 565) (by decide +kernel)), rfl⟩
theorem kl_L_112 : Cond.methodLink RL 112 yX5_many ∈ lw_good := List.mem_filter.mpr ⟨List.mem_append_right _ (List.mem_of_getElem? (i := 569) (by decide +kernel)), rfl⟩
theorem kl_X5_141 : Cond.methodLink RX5 141 yX0_size ∈ lw_good := List.mem_filter.mpr ⟨List.mem_append_right _ (List.mem_of_getElem? (i := 573) (by decide +kernel)), rfl⟩
theorem kl_X5_144 : Cond.methodLink RX5 144 yX1_size ∈ lw_good := List.mem_filter.mpr ⟨List.mem_append_right _ (List.mem_of_getElem? (i := 577) (by decide +kernel)), rfl⟩
theorem kl_X5_145 : Cond.methodLink RX5 145 yX2_size ∈ lw_good := List.mem_filter.mpr ⟨List.mem_append_right _ (List.mem_of_getElem? (i := 581) (by decide +kernel)), rfl⟩
theorem kl_X5_146 : Cond.methodLink RX5 146 yX2_forgedEntries ∈ lw_good := List.mem_filter.mpr ⟨List.mem_append_right _ (List.mem_of_getElem? (i := 585) (by decide +kernel)), rfl⟩
theorem kl_X2_76 : Cond.methodLink RX2 76 yX2_sumOf ∈ lw_good := List.mem_filter.mpr ⟨List.mem_append_right _ (List.mem_of_getElem? (i := 589) (by decide +kernel)), rfl⟩
theorem kl_X5_149 : Cond.methodLink RX5 149 yX2_voidEntries ∈ lw_good := List.mem_filter.mpr ⟨List.mem_append_right _ (List.mem_of_getElem? (i := 593) (by decide +kernel)), rfl⟩
theorem kl_X5_152 : Cond.methodLink RX5 152 yX2_standingPledges ∈ lw_good := List.mem_filter.mpr ⟨List.mem_append_right _ (List.mem_of_getElem? (i := 597) (by decide +kernel)), rfl⟩
theorem kl_X5_155 : Cond.methodLink RX5 155 yX3_size ∈ lw_good := List.mem_filter.mpr ⟨List.mem_append_right _ (List.mem_of_getElem? (i := 601) (by decide +kernel)), rfl⟩
theorem kl_X5_156 : Cond.methodLink RX5 156 yX3_witnesses ∈ lw_good := List.mem_filter.mpr ⟨List.mem_append_right _ (List.mem_of_getElem? (i := 605) (by decide +kernel)), rfl⟩
theorem kl_X5_159 : Cond.methodLink RX5 159 yX0_lettersFed ∈ lw_good := List.mem_filter.mpr ⟨List.mem_append_right _ (List.mem_of_getElem? (i := 609) (by decide +kernel)), rfl⟩
theorem kl_L_12 : Cond.methodLink RL 12 yX6_init ∈ lw_good := List.mem_filter.mpr ⟨List.mem_append_right _ (List.mem_of_getElem? (i := 615) (by decide +kernel)), rfl⟩
theorem kl_L_17 : Cond.methodLink RL 17 yX6_feed ∈ lw_good := List.mem_filter.mpr ⟨List.mem_append_right _ (List.mem_of_getElem? (i := 719) (by decide +kernel)), rfl⟩
theorem kl_L_22 : Cond.methodLink RL 22 yX6_scrap ∈ lw_good := List.mem_filter.mpr ⟨List.mem_append_right _ (List.mem_of_getElem? (i := 723) (by decide +kernel)), rfl⟩
theorem kl_L_26 : Cond.methodLink RL 26 yX6_act ∈ lw_good := List.mem_filter.mpr ⟨List.mem_append_right _ (List.mem_of_getElem? (i := 727) (by decide +kernel)), rfl⟩
theorem kl_X6_101 : Cond.methodLink RX6 101 yX6_in ∈ lw_good := List.mem_filter.mpr ⟨List.mem_append_right _ (List.mem_of_getElem? (i := 731) (by decide +kernel)), rfl⟩
theorem kl_X6_108 : Cond.methodLink RX6 108 yX6_isGood ∈ lw_good := List.mem_filter.mpr ⟨List.mem_append_right _ (List.mem_of_getElem? (i := 734) (by decide +kernel)), rfl⟩
theorem kl_X6_97 : Cond.methodLink RX6 97 yX6_takes ∈ lw_good := List.mem_filter.mpr ⟨List.mem_append_right _ (List.mem_of_getElem? (i := 738) (by decide +kernel)), rfl⟩
theorem kl_X6_93 : Cond.methodLink RX6 93 yX6_isFigure ∈ lw_good := List.mem_filter.mpr ⟨List.mem_append_right _ (List.mem_of_getElem? (i := 741) (by decide +kernel)), rfl⟩
theorem kl_L_30 : Cond.methodLink RL 30 yX6_inForce ∈ lw_good := List.mem_filter.mpr ⟨List.mem_append_right _ (List.mem_of_getElem? (i := 744) (by decide +kernel)), rfl⟩
theorem kl_X6_112 : Cond.methodLink RX6 112 yX6_forceOn ∈ lw_good := List.mem_filter.mpr ⟨List.mem_append_right _ (List.mem_of_getElem? (i := 748) (by decide +kernel)), rfl⟩
theorem kl_L_35 : Cond.methodLink RL 35 yX6_tons ∈ lw_good := List.mem_filter.mpr ⟨List.mem_append_right _ (List.mem_of_getElem? (i := 752) (by decide +kernel)), rfl⟩
theorem kl_X6_136 : Cond.methodLink RX6 136 yX6_isAct ∈ lw_good := List.mem_filter.mpr ⟨List.mem_append_right _ (List.mem_of_getElem? (i := 756) (by decide +kernel)), rfl⟩
theorem kl_X6_139 : Cond.methodLink RX6 139 yX6_areSizes ∈ lw_good := List.mem_filter.mpr ⟨List.mem_append_right _ (List.mem_of_getElem? (i := 760) (by decide +kernel)), rfl⟩
theorem kl_X6_143 : Cond.methodLink RX6 143 yX6_tonsBy ∈ lw_good := List.mem_filter.mpr ⟨List.mem_append_right _ (List.mem_of_getElem? (i := 763) (by decide +kernel)), rfl⟩
theorem kl_X6_124 : Cond.methodLink RX6 124 yX6_push ∈ lw_good := List.mem_filter.mpr ⟨List.mem_append_right _ (List.mem_of_getElem? (i := 769) (by decide +kernel)), rfl⟩
theorem kl_X6_132 : Cond.methodLink RX6 132 yX6_combine ∈ lw_good := List.mem_filter.mpr ⟨List.mem_append_right _ (List.mem_of_getElem? (i := 777) (by decide +kernel)), rfl⟩
theorem kl_L_40 : Cond.methodLink RL 40 yX6_shape ∈ lw_good := List.mem_filter.mpr ⟨List.mem_append_right _ (List.mem_of_getElem? (i := 782) (by decide +kernel)), rfl⟩
theorem kl_L_45 : Cond.methodLink RL 45 yX6_hull ∈ lw_good := List.mem_filter.mpr ⟨List.mem_append_right _ (List.mem_of_getElem? (i := 787) (by decide +kernel)), rfl⟩
theorem kl_X6_152 : Cond.methodLink RX6 152 yX6_put ∈ lw_good := List.mem_filter.mpr ⟨List.mem_append_right _ (List.mem_of_getElem? (i := 791) (by decide +kernel)), rfl⟩
theorem kl_L_49 : Cond.methodLink RL 49 yX6_alter ∈ lw_good := List.mem_filter.mpr ⟨List.mem_append_right _ (List.mem_of_getElem? (i := 795) (by decide +kernel)), rfl⟩
theorem kl_X6_156 : Cond.methodLink RX6 156 yX6_isHull ∈ lw_good := List.mem_filter.mpr ⟨List.mem_append_right _ (List.mem_of_getElem? (i := 799) (by decide +kernel)), rfl⟩
theorem kl_L_54 : Cond.methodLink RL 54 yX6_measure ∈ lw_good := List.mem_filter.mpr ⟨List.mem_append_right _ (List.mem_of_getElem? (i := 803) (by decide +kernel)), rfl⟩
theorem kl_L_58 : Cond.methodLink RL 58 yX6_of ∈ lw_good := List.mem_filter.mpr ⟨List.mem_append_right _ (List.mem_of_getElem? (i := 807) (by decide +kernel)), rfl⟩
theorem kl_L_62 : Cond.methodLink RL 62 yX6_sell ∈ lw_good := List.mem_filter.mpr ⟨List.mem_append_right _ (List.mem_of_getElem? (i := 811) (by decide +kernel)), rfl⟩
theorem kl_X6_169 : Cond.methodLink RX6 169 yX6_deal ∈ lw_good := List.mem_filter.mpr ⟨List.mem_append_right _ (List.mem_of_getElem? (i := 815) (by decide +kernel)), rfl⟩
theorem kl_X6_162 : Cond.methodLink RX6 162 yX6_isPerson ∈ lw_good := List.mem_filter.mpr ⟨List.mem_append_right _ (List.mem_of_getElem? (i := 819) (by decide +kernel)), rfl⟩
theorem kl_X6_165 : Cond.methodLink RX6 165 yX6_enter ∈ lw_good := List.mem_filter.mpr ⟨List.mem_append_right _ (List.mem_of_getElem? (i := 822) (by decide +kernel)), rfl⟩
theorem kl_L_66 : Cond.methodLink RL 66 yX6_pledge ∈ lw_good := List.mem_filter.mpr ⟨List.mem_append_right _ (List.mem_of_getElem? (i := 826) (by decide +kernel)), rfl⟩
theorem kl_L_70 : Cond.methodLink RL 70 yX6_redeem ∈ lw_good := List.mem_filter.mpr ⟨List.mem_append_right _ (List.mem_of_getElem? (i := 830) (by decide +kernel)), rfl⟩
theorem kl_X6_172 : Cond.methodLink RX6 172 yX6_isEntry ∈ lw_good := List.mem_filter.mpr ⟨List.mem_append_right _ (List.mem_of_getElem? (i := 834) (by decide +kernel)), rfl⟩
theorem kl_L_74 : Cond.methodLink RL 74 yX6_forge ∈ lw_good := List.mem_filter.mpr ⟨List.mem_append_right _ (List.mem_of_getElem? (i := 838) (by decide +kernel)), rfl⟩
theorem kl_L_78 : Cond.methodLink RL 78 yX6_entry ∈ lw_good := List.mem_filter.mpr ⟨List.mem_append_right _ (List.mem_of_getElem? (i := 842) (by decide +kernel)), rfl⟩
theorem kl_X6_178 : Cond.methodLink RX6 178 yX6_goThrough ∈ lw_good := List.mem_filter.mpr ⟨List.mem_append_right _ (List.mem_of_getElem? (i := 846) (by decide +kernel)), rfl⟩
theorem kl_X6_175 : Cond.methodLink RX6 175 yX6_does ∈ lw_good := List.mem_filter.mpr ⟨List.mem_append_right _ (List.mem_of_getElem? (i := 850) (by decide +kernel)), rfl⟩
theorem kl_X6_181 : Cond.methodLink RX6 181 yX6_rankOf ∈ lw_good := List.mem_filter.mpr ⟨List.mem_append_right _ (List.mem_of_getElem? (i := 854) (by decide +kernel)), rfl⟩
theorem kl_L_83 : Cond.methodLink RL 83 yX6_parts ∈ lw_good := List.mem_filter.mpr ⟨List.mem_append_right _ (List.mem_of_getElem? (i := 858) (by decide +kernel)), rfl⟩
theorem kl_L_87 : Cond.methodLink RL 87 yX6_manager ∈ lw_good := List.mem_filter.mpr ⟨List.mem_append_right _ (List.mem_of_getElem? (i := 862) (by decide +kernel)), rfl⟩
theorem kl_L_91 : Cond.methodLink RL 91 yX6_held ∈ lw_good := List.mem_filter.mpr ⟨List.mem_append_right _ (List.mem_of_getElem? (i := 866) (by decide +kernel)), rfl⟩
theorem kl_L_95 : Cond.methodLink RL 95 yX6_paper ∈ lw_good := List.mem_filter.mpr ⟨List.mem_append_right _ (List.mem_of_getElem? (i := 870) (by decide +kernel)), rfl⟩
theorem kl_L_99 : Cond.methodLink RL 99 yX6_witness ∈ lw_good := List.mem_filter.mpr ⟨List.mem_append_right _ (List.mem_of_getElem? (i := 874) (by decide +kernel)), rfl⟩
theorem kl_X6_190 : Cond.methodLink RX6 190 yX6_isPaper ∈ lw_good := List.mem_filter.mpr ⟨List.mem_append_right _ (List.mem_of_getElem? (i := 878) (by decide +kernel)), rfl⟩
theorem kl_X6_193 : Cond.methodLink RX6 193 yX6_witnessOf ∈ lw_good := List.mem_filter.mpr ⟨List.mem_append_right _ (List.mem_of_getElem? (i := 882) (by decide +kernel)), rfl⟩
theorem kl_L_103 : Cond.methodLink RL 103 yX6_alike ∈ lw_good := List.mem_filter.mpr ⟨List.mem_append_right _ (List.mem_of_getElem? (i := 886) (by decide +kernel)), rfl⟩
theorem kl_X6_197 : Cond.methodLink RX6 197 yX6_areAlike ∈ lw_good := List.mem_filter.mpr ⟨List.mem_append_right _ (List.mem_of_getElem? (i := 890) (by decide +kernel)), rfl⟩
theorem kl_L_107 : Cond.methodLink RL 107 yX6_group ∈ lw_good := List.mem_filter.mpr ⟨List.mem_append_right _ (List.mem_of_getElem? (i := 894) (by decide +kernel)), rfl⟩
theorem kl_X6_207 : Cond.methodLink RX6 207 yX6_join ∈ lw_good := List.mem_filter.mpr ⟨List.mem_append_right _ (List.mem_of_getElem? (i := 898) (by decide +kernel)), rfl⟩
theorem kl_X6_204 : Cond.methodLink RX6 204 yX6_findJoining ∈ lw_good := List.mem_filter.mpr ⟨List.mem_append_right _ (List.mem_of_getElem? (i := 902) (by decide +kernel)), rfl⟩
theorem kl_X6_201 : Cond.methodLink RX6 201 yX6_mayJoin ∈ lw_good := List.mem_filter.mpr ⟨List.mem_append_right _ (List.mem_of_getElem? (i := 906) (by decide +kernel)), rfl⟩
theorem kl_L_111 : Cond.methodLink RL 111 yX6_groups ∈ lw_good := List.mem_filter.mpr ⟨List.mem_append_right _ (List.mem_of_getElem? (i := 910) (by decide +kernel)), rfl⟩
theorem kl_L_115 : Cond.methodLink RL 115 yX6_many ∈ lw_good := List.mem_filter.mpr ⟨List.mem_append_right _ (List.mem_of_getElem? (i := 914) (by decide +kernel)), rfl⟩
theorem kl_X6_211 : Cond.methodLink RX6 211 yX6_entriesThat ∈ lw_good := List.mem_filter.mpr ⟨List.mem_append_right _ (List.mem_of_getElem? (i := 918) (by decide +kernel)), rfl⟩
theorem kl_X6_215 : Cond.methodLink RX6 215 yX6_standing ∈ lw_good := List.mem_filter.mpr ⟨List.mem_append_right _ (List.mem_of_getElem? (i := 922) (by decide +kernel)), rfl⟩
theorem ki_X5_init : Cond.instanceMethod yX5_init ∈ lw_good := List.mem_filter.mpr ⟨List.mem_append_right _ (List.mem_of_getElem? (i := 14) (by decide +kernel)), rfl⟩
theorem ki_X0_init : Cond.instanceMethod yX0_init ∈ lw_good := List.mem_filter.mpr ⟨List.mem_append_right _ (List.mem_of_getElem? (i := 22) (by decide +kernel)), rfl⟩
theorem ki_X4_init : Cond.instanceMethod yX4_init ∈ lw_good := List.mem_filter.mpr ⟨List.mem_append_right _ (List.mem_of_getElem? (i := 30) (by decide +kernel)), rfl⟩
theorem ki_X1_init : Cond.instanceMethod yX1_init ∈ lw_good := List.mem_filter.mpr ⟨List.mem_append_right _ (List.mem_of_getElem? (i := 81) (by decide +kernel)), rfl⟩
theorem ki_X2_init : Cond.instanceMethod yX2_init ∈ lw_good := List.mem_filter.mpr ⟨List.mem_append_right _ (List.mem_of_getElem? (i := 94) (by decide +kernel)), rfl⟩
theorem ki_X2_goThrough : Cond.instanceMethod yX2_goThrough ∈ lw_good := List.mem_filter.mpr ⟨List.mem_append_right _ (List.mem_of_getElem? (i := 99) (by decide +kernel)), rfl⟩
theorem ki_X2_beginAnew : Cond.instanceMethod yX2_beginAnew ∈ lw_good := List.mem_filter.mpr ⟨List.mem_append_right _ (List.mem_of_getElem? (i := 103) (by decide +kernel)), rfl⟩
theorem ki_X2_isForged : Cond.instanceMethod yX2_isForged ∈ lw_good := List.mem_filter.mpr ⟨List.mem_append_right _ (List.mem_of_getElem? (i := 113) (by decide +kernel)), rfl⟩
theorem ki_X2_told : Cond.instanceMethod yX2_told ∈ lw_good := List.mem_filter.mpr ⟨List.mem_append_right _ (List.mem_of_getElem? (i := 116) (by decide +kernel)), rfl⟩
theorem ki_X2_takesEffect : Cond.instanceMethod yX2_takesEffect ∈ lw_good := List.mem_filter.mpr ⟨List.mem_append_right _ (List.mem_of_getElem? (i := 121) (by decide +kernel)), rfl⟩
theorem ki_X2_bringParts : Cond.instanceMethod yX2_bringParts ∈ lw_good := List.mem_filter.mpr ⟨List.mem_append_right _ (List.mem_of_getElem? (i := 125) (by decide +kernel)), rfl⟩
theorem ki_X2_freeOf : Cond.instanceMethod yX2_freeOf ∈ lw_good := List.mem_filter.mpr ⟨List.mem_append_right _ (List.mem_of_getElem? (i := 129) (by decide +kernel)), rfl⟩
theorem ki_X2_beginPledge : Cond.instanceMethod yX2_beginPledge ∈ lw_good := List.mem_filter.mpr ⟨List.mem_append_right _ (List.mem_of_getElem? (i := 133) (by decide +kernel)), rfl⟩
theorem ki_X2_setStanding : Cond.instanceMethod yX2_setStanding ∈ lw_good := List.mem_filter.mpr ⟨List.mem_append_right _ (List.mem_of_getElem? (i := 137) (by decide +kernel)), rfl⟩
theorem ki_X2_endPledge : Cond.instanceMethod yX2_endPledge ∈ lw_good := List.mem_filter.mpr ⟨List.mem_append_right _ (List.mem_of_getElem? (i := 141) (by decide +kernel)), rfl⟩
theorem ki_X2_has : Cond.instanceMethod yX2_has ∈ lw_good := List.mem_filter.mpr ⟨List.mem_append_right _ (List.mem_of_getElem? (i := 144) (by decide +kernel)), rfl⟩
theorem ki_X2_put : Cond.instanceMethod yX2_put ∈ lw_good := List.mem_filter.mpr ⟨List.mem_append_right _ (List.mem_of_getElem? (i := 152) (by decide +kernel)), rfl⟩
theorem ki_X2_rankPledges : Cond.instanceMethod yX2_rankPledges ∈ lw_good := List.mem_filter.mpr ⟨List.mem_append_right _ (List.mem_of_getElem? (i := 156) (by decide +kernel)), rfl⟩
theorem ki_X3_init : Cond.instanceMethod yX3_init ∈ lw_good := List.mem_filter.mpr ⟨List.mem_append_right _ (List.mem_of_getElem? (i := 190) (by decide +kernel)), rfl⟩
theorem ki_X5_feed : Cond.instanceMethod yX5_feed ∈ lw_good := List.mem_filter.mpr ⟨List.mem_append_right _ (List.mem_of_getElem? (i := 244) (by decide +kernel)), rfl⟩
theorem ki_X0_takeLetters : Cond.instanceMethod yX0_takeLetters ∈ lw_good := List.mem_filter.mpr ⟨List.mem_append_right _ (List.mem_of_getElem? (i := 248) (by decide +kernel)), rfl⟩
theorem ki_X5_scrap : Cond.instanceMethod yX5_scrap ∈ lw_good := List.mem_filter.mpr ⟨List.mem_append_right _ (List.mem_of_getElem? (i := 258) (by decide +kernel)), rfl⟩
theorem ki_X0_dropLetters : Cond.instanceMethod yX0_dropLetters ∈ lw_good := List.mem_filter.mpr ⟨List.mem_append_right _ (List.mem_of_getElem? (i := 262) (by decide +kernel)), rfl⟩
theorem ki_X5_act : Cond.instanceMethod yX5_act ∈ lw_good := List.mem_filter.mpr ⟨List.mem_append_right _ (List.mem_of_getElem? (i := 267) (by decide +kernel)), rfl⟩
theorem ki_X0_enact : Cond.instanceMethod yX0_enact ∈ lw_good := List.mem_filter.mpr ⟨List.mem_append_right _ (List.mem_of_getElem? (i := 271) (by decide +kernel)), rfl⟩
theorem ki_X4_reckon : Cond.instanceMethod yX4_reckon ∈ lw_good := List.mem_filter.mpr ⟨List.mem_append_right _ (List.mem_of_getElem? (i := 279) (by decide +kernel)), rfl⟩
theorem ki_X4_read : Cond.instanceMethod yX4_read ∈ lw_good := List.mem_filter.mpr ⟨List.mem_append_right _ (List.mem_of_getElem? (i := 284) (by decide +kernel)), rfl⟩
theorem ki_X4_readFigure : Cond.instanceMethod yX4_readFigure ∈ lw_good := List.mem_filter.mpr ⟨List.mem_append_right _ (List.mem_of_getElem? (i := 289) (by decide +kernel)), rfl⟩
theorem ki_X4_push : Cond.instanceMethod yX4_push ∈ lw_good := List.mem_filter.mpr ⟨List.mem_append_right _ (List.mem_of_getElem? (i := 293) (by decide +kernel)), rfl⟩
theorem ki_X4_liftToZero : Cond.instanceMethod yX4_liftToZero ∈ lw_good := List.mem_filter.mpr ⟨List.mem_append_right _ (List.mem_of_getElem? (i := 297) (by decide +kernel)), rfl⟩
theorem ki_X4_joinTwo : Cond.instanceMethod yX4_joinTwo ∈ lw_good := List.mem_filter.mpr ⟨List.mem_append_right _ (List.mem_of_getElem? (i := 304) (by decide +kernel)), rfl⟩
theorem ki_X5_inForce : Cond.instanceMethod yX5_inForce ∈ lw_good := List.mem_filter.mpr ⟨List.mem_append_right _ (List.mem_of_getElem? (i := 323) (by decide +kernel)), rfl⟩
theorem ki_X0_onDay : Cond.instanceMethod yX0_onDay ∈ lw_good := List.mem_filter.mpr ⟨List.mem_append_right _ (List.mem_of_getElem? (i := 328) (by decide +kernel)), rfl⟩
theorem ki_X5_tons : Cond.instanceMethod yX5_tons ∈ lw_good := List.mem_filter.mpr ⟨List.mem_append_right _ (List.mem_of_getElem? (i := 332) (by decide +kernel)), rfl⟩
theorem ki_X0_has : Cond.instanceMethod yX0_has ∈ lw_good := List.mem_filter.mpr ⟨List.mem_append_right _ (List.mem_of_getElem? (i := 336) (by decide +kernel)), rfl⟩
theorem ki_X0_tonsBy : Cond.instanceMethod yX0_tonsBy ∈ lw_good := List.mem_filter.mpr ⟨List.mem_append_right _ (List.mem_of_getElem? (i := 348) (by decide +kernel)), rfl⟩
theorem ki_X4_setSizes : Cond.instanceMethod yX4_setSizes ∈ lw_good := List.mem_filter.mpr ⟨List.mem_append_right _ (List.mem_of_getElem? (i := 352) (by decide +kernel)), rfl⟩
theorem ki_X5_shape : Cond.instanceMethod yX5_shape ∈ lw_good := List.mem_filter.mpr ⟨List.mem_append_right _ (List.mem_of_getElem? (i := 356) (by decide +kernel)), rfl⟩
theorem ki_X0_ofLeastShape : Cond.instanceMethod yX0_ofLeastShape ∈ lw_good := List.mem_filter.mpr ⟨List.mem_append_right _ (List.mem_of_getElem? (i := 360) (by decide +kernel)), rfl⟩
theorem ki_X0_tonsOfShapes : Cond.instanceMethod yX0_tonsOfShapes ∈ lw_good := List.mem_filter.mpr ⟨List.mem_append_right _ (List.mem_of_getElem? (i := 365) (by decide +kernel)), rfl⟩
theorem ki_X5_hull : Cond.instanceMethod yX5_hull ∈ lw_good := List.mem_filter.mpr ⟨List.mem_append_right _ (List.mem_of_getElem? (i := 381) (by decide +kernel)), rfl⟩
theorem ki_X1_add : Cond.instanceMethod yX1_add ∈ lw_good := List.mem_filter.mpr ⟨List.mem_append_right _ (List.mem_of_getElem? (i := 385) (by decide +kernel)), rfl⟩
theorem ki_X1_setSizes : Cond.instanceMethod yX1_setSizes ∈ lw_good := List.mem_filter.mpr ⟨List.mem_append_right _ (List.mem_of_getElem? (i := 389) (by decide +kernel)), rfl⟩
theorem ki_X1_setMeasuring : Cond.instanceMethod yX1_setMeasuring ∈ lw_good := List.mem_filter.mpr ⟨List.mem_append_right _ (List.mem_of_getElem? (i := 394) (by decide +kernel)), rfl⟩
theorem ki_X5_alter : Cond.instanceMethod yX5_alter ∈ lw_good := List.mem_filter.mpr ⟨List.mem_append_right _ (List.mem_of_getElem? (i := 398) (by decide +kernel)), rfl⟩
theorem ki_X1_has : Cond.instanceMethod yX1_has ∈ lw_good := List.mem_filter.mpr ⟨List.mem_append_right _ (List.mem_of_getElem? (i := 402) (by decide +kernel)), rfl⟩
theorem ki_X5_measure : Cond.instanceMethod yX5_measure ∈ lw_good := List.mem_filter.mpr ⟨List.mem_append_right _ (List.mem_of_getElem? (i := 408) (by decide +kernel)), rfl⟩
theorem ki_X1_told : Cond.instanceMethod yX1_told ∈ lw_good := List.mem_filter.mpr ⟨List.mem_append_right _ (List.mem_of_getElem? (i := 412) (by decide +kernel)), rfl⟩
theorem ki_X5_of : Cond.instanceMethod yX5_of ∈ lw_good := List.mem_filter.mpr ⟨List.mem_append_right _ (List.mem_of_getElem? (i := 417) (by decide +kernel)), rfl⟩
theorem ki_X5_sell : Cond.instanceMethod yX5_sell ∈ lw_good := List.mem_filter.mpr ⟨List.mem_append_right _ (List.mem_of_getElem? (i := 421) (by decide +kernel)), rfl⟩
theorem ki_X5_enter : Cond.instanceMethod yX5_enter ∈ lw_good := List.mem_filter.mpr ⟨List.mem_append_right _ (List.mem_of_getElem? (i := 426) (by decide +kernel)), rfl⟩
theorem ki_X2_add : Cond.instanceMethod yX2_add ∈ lw_good := List.mem_filter.mpr ⟨List.mem_append_right _ (List.mem_of_getElem? (i := 432) (by decide +kernel)), rfl⟩
theorem ki_X5_pledge : Cond.instanceMethod yX5_pledge ∈ lw_good := List.mem_filter.mpr ⟨List.mem_append_right _ (List.mem_of_getElem? (i := 436) (by decide +kernel)), rfl⟩
theorem ki_X5_redeem : Cond.instanceMethod yX5_redeem ∈ lw_good := List.mem_filter.mpr ⟨List.mem_append_right _ (List.mem_of_getElem? (i := 440) (by decide +kernel)), rfl⟩
theorem ki_X2_addRedeem : Cond.instanceMethod yX2_addRedeem ∈ lw_good := List.mem_filter.mpr ⟨List.mem_append_right _ (List.mem_of_getElem? (i := 445) (by decide +kernel)), rfl⟩
theorem ki_X5_forge : Cond.instanceMethod yX5_forge ∈ lw_good := List.mem_filter.mpr ⟨List.mem_append_right _ (List.mem_of_getElem? (i := 450) (by decide +kernel)), rfl⟩
theorem ki_X2_markForged : Cond.instanceMethod yX2_markForged ∈ lw_good := List.mem_filter.mpr ⟨List.mem_append_right _ (List.mem_of_getElem? (i := 454) (by decide +kernel)), rfl⟩
theorem ki_X5_entry : Cond.instanceMethod yX5_entry ∈ lw_good := List.mem_filter.mpr ⟨List.mem_append_right _ (List.mem_of_getElem? (i := 458) (by decide +kernel)), rfl⟩
theorem ki_X5_parts : Cond.instanceMethod yX5_parts ∈ lw_good := List.mem_filter.mpr ⟨List.mem_append_right _ (List.mem_of_getElem? (i := 463) (by decide +kernel)), rfl⟩
theorem ki_X2_freeParts : Cond.instanceMethod yX2_freeParts ∈ lw_good := List.mem_filter.mpr ⟨List.mem_append_right _ (List.mem_of_getElem? (i := 467) (by decide +kernel)), rfl⟩
theorem ki_X2_allParts : Cond.instanceMethod yX2_allParts ∈ lw_good := List.mem_filter.mpr ⟨List.mem_append_right _ (List.mem_of_getElem? (i := 471) (by decide +kernel)), rfl⟩
theorem ki_X5_manager : Cond.instanceMethod yX5_manager ∈ lw_good := List.mem_filter.mpr ⟨List.mem_append_right _ (List.mem_of_getElem? (i := 475) (by decide +kernel)), rfl⟩
theorem ki_X2_greatestOwner : Cond.instanceMethod yX2_greatestOwner ∈ lw_good := List.mem_filter.mpr ⟨List.mem_append_right _ (List.mem_of_getElem? (i := 479) (by decide +kernel)), rfl⟩
theorem ki_X5_held : Cond.instanceMethod yX5_held ∈ lw_good := List.mem_filter.mpr ⟨List.mem_append_right _ (List.mem_of_getElem? (i := 484) (by decide +kernel)), rfl⟩
theorem ki_X2_partsHeld : Cond.instanceMethod yX2_partsHeld ∈ lw_good := List.mem_filter.mpr ⟨List.mem_append_right _ (List.mem_of_getElem? (i := 488) (by decide +kernel)), rfl⟩
theorem ki_X5_paper : Cond.instanceMethod yX5_paper ∈ lw_good := List.mem_filter.mpr ⟨List.mem_append_right _ (List.mem_of_getElem? (i := 492) (by decide +kernel)), rfl⟩
theorem ki_X3_add : Cond.instanceMethod yX3_add ∈ lw_good := List.mem_filter.mpr ⟨List.mem_append_right _ (List.mem_of_getElem? (i := 496) (by decide +kernel)), rfl⟩
theorem ki_X3_seemAlike : Cond.instanceMethod yX3_seemAlike ∈ lw_good := List.mem_filter.mpr ⟨List.mem_append_right _ (List.mem_of_getElem? (i := 501) (by decide +kernel)), rfl⟩
theorem ki_X3_setLike : Cond.instanceMethod yX3_setLike ∈ lw_good := List.mem_filter.mpr ⟨List.mem_append_right _ (List.mem_of_getElem? (i := 505) (by decide +kernel)), rfl⟩
theorem ki_X3_joinAnew : Cond.instanceMethod yX3_joinAnew ∈ lw_good := List.mem_filter.mpr ⟨List.mem_append_right _ (List.mem_of_getElem? (i := 509) (by decide +kernel)), rfl⟩
theorem ki_X3_placeFrom : Cond.instanceMethod yX3_placeFrom ∈ lw_good := List.mem_filter.mpr ⟨List.mem_append_right _ (List.mem_of_getElem? (i := 514) (by decide +kernel)), rfl⟩
theorem ki_X3_placeInto : Cond.instanceMethod yX3_placeInto ∈ lw_good := List.mem_filter.mpr ⟨List.mem_append_right _ (List.mem_of_getElem? (i := 521) (by decide +kernel)), rfl⟩
theorem ki_X5_witness : Cond.instanceMethod yX5_witness ∈ lw_good := List.mem_filter.mpr ⟨List.mem_append_right _ (List.mem_of_getElem? (i := 525) (by decide +kernel)), rfl⟩
theorem ki_X3_areTwo : Cond.instanceMethod yX3_areTwo ∈ lw_good := List.mem_filter.mpr ⟨List.mem_append_right _ (List.mem_of_getElem? (i := 529) (by decide +kernel)), rfl⟩
theorem ki_X3_has : Cond.instanceMethod yX3_has ∈ lw_good := List.mem_filter.mpr ⟨List.mem_append_right _ (List.mem_of_getElem? (i := 533) (by decide +kernel)), rfl⟩
theorem ki_X3_hear : Cond.instanceMethod yX3_hear ∈ lw_good := List.mem_filter.mpr ⟨List.mem_append_right _ (List.mem_of_getElem? (i := 538) (by decide +kernel)), rfl⟩
theorem ki_X5_alike : Cond.instanceMethod yX5_alike ∈ lw_good := List.mem_filter.mpr ⟨List.mem_append_right _ (List.mem_of_getElem? (i := 545) (by decide +kernel)), rfl⟩
theorem ki_X3_mayBeOne : Cond.instanceMethod yX3_mayBeOne ∈ lw_good := List.mem_filter.mpr ⟨List.mem_append_right _ (List.mem_of_getElem? (i := 549) (by decide +kernel)), rfl⟩
theorem ki_X5_group : Cond.instanceMethod yX5_group ∈ lw_good := List.mem_filter.mpr ⟨List.mem_append_right _ (List.mem_of_getElem? (i := 553) (by decide +kernel)), rfl⟩
theorem ki_X3_joinedGroup : Cond.instanceMethod yX3_joinedGroup ∈ lw_good := List.mem_filter.mpr ⟨List.mem_append_right _ (List.mem_of_getElem? (i := 558) (by decide +kernel)), rfl⟩
theorem ki_X5_groups : Cond.instanceMethod yX5_groups ∈ lw_good := List.mem_filter.mpr ⟨List.mem_append_right _ (List.mem_of_getElem? (i := 562) (by decide +kernel)), rfl⟩
theorem ki_X3_joinedGroups : Cond.instanceMethod yX3_joinedGroups ∈ lw_good := List.mem_filter.mpr ⟨List.mem_append_right _ (List.mem_of_getElem? (i := 566) (by decide +kernel)), rfl⟩
theorem ki_X5_many : Cond.instanceMethod yX5_many ∈ lw_good := List.mem_filter.mpr ⟨List.mem_append_right _ (List.mem_of_getElem? (i := 570) (by decide +kernel)), rfl⟩
theorem ki_X0_size : Cond.instanceMethod yX0_size ∈ lw_good := List.mem_filter.mpr ⟨List.mem_append_right _ (List.mem_of_getElem? (i := 574) (by decide +kernel)), rfl⟩
theorem ki_X1_size : Cond.instanceMethod yX1_size ∈ lw_good := List.mem_filter.mpr ⟨List.mem_append_right _ (List.mem_of_getElem? (i := 578) (by decide +kernel)), rfl⟩
theorem ki_X2_size : Cond.instanceMethod yX2_size ∈ lw_good := List.mem_filter.mpr ⟨List.mem_append_right _ (List.mem_of_getElem? (i := 582) (by decide +kernel)), rfl⟩
theorem ki_X2_forgedEntries : Cond.instanceMethod yX2_forgedEntries ∈ lw_good := List.mem_filter.mpr ⟨List.mem_append_right _ (List.mem_of_getElem? (i := 586) (by decide +kernel)), rfl⟩
theorem ki_X2_sumOf : Cond.instanceMethod yX2_sumOf ∈ lw_good := List.mem_filter.mpr ⟨List.mem_append_right _ (List.mem_of_getElem? (i := 591) (by decide +kernel)), rfl⟩
theorem ki_X2_voidEntries : Cond.instanceMethod yX2_voidEntries ∈ lw_good := List.mem_filter.mpr ⟨List.mem_append_right _ (List.mem_of_getElem? (i := 594) (by decide +kernel)), rfl⟩
theorem ki_X2_standingPledges : Cond.instanceMethod yX2_standingPledges ∈ lw_good := List.mem_filter.mpr ⟨List.mem_append_right _ (List.mem_of_getElem? (i := 598) (by decide +kernel)), rfl⟩
theorem ki_X3_size : Cond.instanceMethod yX3_size ∈ lw_good := List.mem_filter.mpr ⟨List.mem_append_right _ (List.mem_of_getElem? (i := 602) (by decide +kernel)), rfl⟩
theorem ki_X3_witnesses : Cond.instanceMethod yX3_witnesses ∈ lw_good := List.mem_filter.mpr ⟨List.mem_append_right _ (List.mem_of_getElem? (i := 606) (by decide +kernel)), rfl⟩
theorem ki_X0_lettersFed : Cond.instanceMethod yX0_lettersFed ∈ lw_good := List.mem_filter.mpr ⟨List.mem_append_right _ (List.mem_of_getElem? (i := 610) (by decide +kernel)), rfl⟩
theorem ki_X6_init : Cond.instanceMethod yX6_init ∈ lw_good := List.mem_filter.mpr ⟨List.mem_append_right _ (List.mem_of_getElem? (i := 616) (by decide +kernel)), rfl⟩
theorem ki_X6_feed : Cond.instanceMethod yX6_feed ∈ lw_good := List.mem_filter.mpr ⟨List.mem_append_right _ (List.mem_of_getElem? (i := 720) (by decide +kernel)), rfl⟩
theorem ki_X6_scrap : Cond.instanceMethod yX6_scrap ∈ lw_good := List.mem_filter.mpr ⟨List.mem_append_right _ (List.mem_of_getElem? (i := 724) (by decide +kernel)), rfl⟩
theorem ki_X6_act : Cond.instanceMethod yX6_act ∈ lw_good := List.mem_filter.mpr ⟨List.mem_append_right _ (List.mem_of_getElem? (i := 728) (by decide +kernel)), rfl⟩
theorem ki_X6_isGood : Cond.instanceMethod yX6_isGood ∈ lw_good := List.mem_filter.mpr ⟨List.mem_append_right _ (List.mem_of_getElem? (i := 736) (by decide +kernel)), rfl⟩
theorem ki_X6_inForce : Cond.instanceMethod yX6_inForce ∈ lw_good := List.mem_filter.mpr ⟨List.mem_append_right _ (List.mem_of_getElem? (i := 745) (by decide +kernel)), rfl⟩
theorem ki_X6_forceOn : Cond.instanceMethod yX6_forceOn ∈ lw_good := List.mem_filter.mpr ⟨List.mem_append_right _ (List.mem_of_getElem? (i := 750) (by decide +kernel)), rfl⟩
theorem ki_X6_tons : Cond.instanceMethod yX6_tons ∈ lw_good := List.mem_filter.mpr ⟨List.mem_append_right _ (List.mem_of_getElem? (i := 753) (by decide +kernel)), rfl⟩
theorem ki_X6_isAct : Cond.instanceMethod yX6_isAct ∈ lw_good := List.mem_filter.mpr ⟨List.mem_append_right _ (List.mem_of_getElem? (i := 758) (by decide +kernel)), rfl⟩
theorem ki_X6_tonsBy : Cond.instanceMethod yX6_tonsBy ∈ lw_good := List.mem_filter.mpr ⟨List.mem_append_right _ (List.mem_of_getElem? (i := 765) (by decide +kernel)), rfl⟩
theorem ki_X6_push : Cond.instanceMethod yX6_push ∈ lw_good := List.mem_filter.mpr ⟨List.mem_append_right _ (List.mem_of_getElem? (i := 771) (by decide +kernel)), rfl⟩
theorem ki_X6_combine : Cond.instanceMethod yX6_combine ∈ lw_good := List.mem_filter.mpr ⟨List.mem_append_right _ (List.mem_of_getElem? (i := 779) (by decide +kernel)), rfl⟩
theorem ki_X6_shape : Cond.instanceMethod yX6_shape ∈ lw_good := List.mem_filter.mpr ⟨List.mem_append_right _ (List.mem_of_getElem? (i := 783) (by decide +kernel)), rfl⟩
theorem ki_X6_hull : Cond.instanceMethod yX6_hull ∈ lw_good := List.mem_filter.mpr ⟨List.mem_append_right _ (List.mem_of_getElem? (i := 788) (by decide +kernel)), rfl⟩
theorem ki_X6_put : Cond.instanceMethod yX6_put ∈ lw_good := List.mem_filter.mpr ⟨List.mem_append_right _ (List.mem_of_getElem? (i := 793) (by decide +kernel)), rfl⟩
theorem ki_X6_alter : Cond.instanceMethod yX6_alter ∈ lw_good := List.mem_filter.mpr ⟨List.mem_append_right _ (List.mem_of_getElem? (i := 796) (by decide +kernel)), rfl⟩
theorem ki_X6_isHull : Cond.instanceMethod yX6_isHull ∈ lw_good := List.mem_filter.mpr ⟨List.mem_append_right _ (List.mem_of_getElem? (i := 801) (by decide +kernel)), rfl⟩
theorem ki_X6_measure : Cond.instanceMethod yX6_measure ∈ lw_good := List.mem_filter.mpr ⟨List.mem_append_right _ (List.mem_of_getElem? (i := 804) (by decide +kernel)), rfl⟩
theorem ki_X6_of : Cond.instanceMethod yX6_of ∈ lw_good := List.mem_filter.mpr ⟨List.mem_append_right _ (List.mem_of_getElem? (i := 808) (by decide +kernel)), rfl⟩
theorem ki_X6_sell : Cond.instanceMethod yX6_sell ∈ lw_good := List.mem_filter.mpr ⟨List.mem_append_right _ (List.mem_of_getElem? (i := 812) (by decide +kernel)), rfl⟩
theorem ki_X6_deal : Cond.instanceMethod yX6_deal ∈ lw_good := List.mem_filter.mpr ⟨List.mem_append_right _ (List.mem_of_getElem? (i := 817) (by decide +kernel)), rfl⟩
theorem ki_X6_enter : Cond.instanceMethod yX6_enter ∈ lw_good := List.mem_filter.mpr ⟨List.mem_append_right _ (List.mem_of_getElem? (i := 824) (by decide +kernel)), rfl⟩
theorem ki_X6_pledge : Cond.instanceMethod yX6_pledge ∈ lw_good := List.mem_filter.mpr ⟨List.mem_append_right _ (List.mem_of_getElem? (i := 827) (by decide +kernel)), rfl⟩
theorem ki_X6_redeem : Cond.instanceMethod yX6_redeem ∈ lw_good := List.mem_filter.mpr ⟨List.mem_append_right _ (List.mem_of_getElem? (i := 831) (by decide +kernel)), rfl⟩
theorem ki_X6_isEntry : Cond.instanceMethod yX6_isEntry ∈ lw_good := List.mem_filter.mpr ⟨List.mem_append_right _ (List.mem_of_getElem? (i := 836) (by decide +kernel)), rfl⟩
theorem ki_X6_forge : Cond.instanceMethod yX6_forge ∈ lw_good := List.mem_filter.mpr ⟨List.mem_append_right _ (List.mem_of_getElem? (i := 839) (by decide +kernel)), rfl⟩
theorem ki_X6_entry : Cond.instanceMethod yX6_entry ∈ lw_good := List.mem_filter.mpr ⟨List.mem_append_right _ (List.mem_of_getElem? (i := 843) (by decide +kernel)), rfl⟩
theorem ki_X6_goThrough : Cond.instanceMethod yX6_goThrough ∈ lw_good := List.mem_filter.mpr ⟨List.mem_append_right _ (List.mem_of_getElem? (i := 848) (by decide +kernel)), rfl⟩
theorem ki_X6_does : Cond.instanceMethod yX6_does ∈ lw_good := List.mem_filter.mpr ⟨List.mem_append_right _ (List.mem_of_getElem? (i := 852) (by decide +kernel)), rfl⟩
theorem ki_X6_rankOf : Cond.instanceMethod yX6_rankOf ∈ lw_good := List.mem_filter.mpr ⟨List.mem_append_right _ (List.mem_of_getElem? (i := 856) (by decide +kernel)), rfl⟩
theorem ki_X6_parts : Cond.instanceMethod yX6_parts ∈ lw_good := List.mem_filter.mpr ⟨List.mem_append_right _ (List.mem_of_getElem? (i := 859) (by decide +kernel)), rfl⟩
theorem ki_X6_manager : Cond.instanceMethod yX6_manager ∈ lw_good := List.mem_filter.mpr ⟨List.mem_append_right _ (List.mem_of_getElem? (i := 863) (by decide +kernel)), rfl⟩
theorem ki_X6_held : Cond.instanceMethod yX6_held ∈ lw_good := List.mem_filter.mpr ⟨List.mem_append_right _ (List.mem_of_getElem? (i := 867) (by decide +kernel)), rfl⟩
theorem ki_X6_paper : Cond.instanceMethod yX6_paper ∈ lw_good := List.mem_filter.mpr ⟨List.mem_append_right _ (List.mem_of_getElem? (i := 871) (by decide +kernel)), rfl⟩
theorem ki_X6_witness : Cond.instanceMethod yX6_witness ∈ lw_good := List.mem_filter.mpr ⟨List.mem_append_right _ (List.mem_of_getElem? (i := 875) (by decide +kernel)), rfl⟩
theorem ki_X6_isPaper : Cond.instanceMethod yX6_isPaper ∈ lw_good := List.mem_filter.mpr ⟨List.mem_append_right _ (List.mem_of_getElem? (i := 880) (by decide +kernel)), rfl⟩
theorem ki_X6_witnessOf : Cond.instanceMethod yX6_witnessOf ∈ lw_good := List.mem_filter.mpr ⟨List.mem_append_right _ (List.mem_of_getElem? (i := 884) (by decide +kernel)), rfl⟩
theorem ki_X6_alike : Cond.instanceMethod yX6_alike ∈ lw_good := List.mem_filter.mpr ⟨List.mem_append_right _ (List.mem_of_getElem? (i := 887) (by decide +kernel)), rfl⟩
theorem ki_X6_areAlike : Cond.instanceMethod yX6_areAlike ∈ lw_good := List.mem_filter.mpr ⟨List.mem_append_right _ (List.mem_of_getElem? (i := 892) (by decide +kernel)), rfl⟩
theorem ki_X6_group : Cond.instanceMethod yX6_group ∈ lw_good := List.mem_filter.mpr ⟨List.mem_append_right _ (List.mem_of_getElem? (i := 895) (by decide +kernel)), rfl⟩
theorem ki_X6_join : Cond.instanceMethod yX6_join ∈ lw_good := List.mem_filter.mpr ⟨List.mem_append_right _ (List.mem_of_getElem? (i := 900) (by decide +kernel)), rfl⟩
theorem ki_X6_findJoining : Cond.instanceMethod yX6_findJoining ∈ lw_good := List.mem_filter.mpr ⟨List.mem_append_right _ (List.mem_of_getElem? (i := 904) (by decide +kernel)), rfl⟩
theorem ki_X6_mayJoin : Cond.instanceMethod yX6_mayJoin ∈ lw_good := List.mem_filter.mpr ⟨List.mem_append_right _ (List.mem_of_getElem? (i := 908) (by decide +kernel)), rfl⟩
theorem ki_X6_groups : Cond.instanceMethod yX6_groups ∈ lw_good := List.mem_filter.mpr ⟨List.mem_append_right _ (List.mem_of_getElem? (i := 911) (by decide +kernel)), rfl⟩
theorem ki_X6_many : Cond.instanceMethod yX6_many ∈ lw_good := List.mem_filter.mpr ⟨List.mem_append_right _ (List.mem_of_getElem? (i := 915) (by decide +kernel)), rfl⟩
theorem ki_X6_entriesThat : Cond.instanceMethod yX6_entriesThat ∈ lw_good := List.mem_filter.mpr ⟨List.mem_append_right _ (List.mem_of_getElem? (i := 920) (by decide +kernel)), rfl⟩
theorem ki_X6_standing : Cond.instanceMethod yX6_standing ∈ lw_good := List.mem_filter.mpr ⟨List.mem_append_right _ (List.mem_of_getElem? (i := 924) (by decide +kernel)), rfl⟩
theorem kt_J7_fill_53178 : Cond.static yJ7_fill_53178 ∈ lw_good := List.mem_filter.mpr ⟨List.mem_append_right _ (List.mem_of_getElem? (i := 106) (by decide +kernel)), rfl⟩
theorem kt_X2_account : Cond.static yX2_account ∈ lw_good := List.mem_filter.mpr ⟨List.mem_append_right _ (List.mem_of_getElem? (i := 109) (by decide +kernel)), rfl⟩
theorem kt_X5_isWithin : Cond.static yX5_isWithin ∈ lw_good := List.mem_filter.mpr ⟨List.mem_append_right _ (List.mem_of_getElem? (i := 148) (by decide +kernel)), rfl⟩
theorem kt_X0_lettersIn : Cond.static yX0_lettersIn ∈ lw_good := List.mem_filter.mpr ⟨List.mem_append_right _ (List.mem_of_getElem? (i := 252) (by decide +kernel)), rfl⟩
theorem kt_X0_letterAt : Cond.static yX0_letterAt ∈ lw_good := List.mem_filter.mpr ⟨List.mem_append_right _ (List.mem_of_getElem? (i := 255) (by decide +kernel)), rfl⟩
theorem kt_X5_isDay : Cond.static yX5_isDay ∈ lw_good := List.mem_filter.mpr ⟨List.mem_append_right _ (List.mem_of_getElem? (i := 275) (by decide +kernel)), rfl⟩
theorem kt_J9_max_7cf53 : Cond.static yJ9_max_7cf53 ∈ lw_good := List.mem_filter.mpr ⟨List.mem_append_right _ (List.mem_of_getElem? (i := 300) (by decide +kernel)), rfl⟩
theorem kt_X4_joined : Cond.static yX4_joined ∈ lw_good := List.mem_filter.mpr ⟨List.mem_append_right _ (List.mem_of_getElem? (i := 307) (by decide +kernel)), rfl⟩
theorem kt_X4_bounded : Cond.static yX4_bounded ∈ lw_good := List.mem_filter.mpr ⟨List.mem_append_right _ (List.mem_of_getElem? (i := 310) (by decide +kernel)), rfl⟩
theorem kt_X5_areSizes : Cond.static yX5_areSizes ∈ lw_good := List.mem_filter.mpr ⟨List.mem_append_right _ (List.mem_of_getElem? (i := 341) (by decide +kernel)), rfl⟩
theorem kt_X5_isMeasure : Cond.static yX5_isMeasure ∈ lw_good := List.mem_filter.mpr ⟨List.mem_append_right _ (List.mem_of_getElem? (i := 344) (by decide +kernel)), rfl⟩
theorem kt_X0_lengthOf : Cond.static yX0_lengthOf ∈ lw_good := List.mem_filter.mpr ⟨List.mem_append_right _ (List.mem_of_getElem? (i := 368) (by decide +kernel)), rfl⟩
theorem kt_X0_breadthOf : Cond.static yX0_breadthOf ∈ lw_good := List.mem_filter.mpr ⟨List.mem_append_right _ (List.mem_of_getElem? (i := 371) (by decide +kernel)), rfl⟩
theorem kt_X0_depthOf : Cond.static yX0_depthOf ∈ lw_good := List.mem_filter.mpr ⟨List.mem_append_right _ (List.mem_of_getElem? (i := 374) (by decide +kernel)), rfl⟩
theorem kt_X0_leastShape : Cond.static yX0_leastShape ∈ lw_good := List.mem_filter.mpr ⟨List.mem_append_right _ (List.mem_of_getElem? (i := 378) (by decide +kernel)), rfl⟩
theorem kt_X5_isPerson : Cond.static yX5_isPerson ∈ lw_good := List.mem_filter.mpr ⟨List.mem_append_right _ (List.mem_of_getElem? (i := 429) (by decide +kernel)), rfl⟩
theorem kt_J9_min_7cf53 : Cond.static yJ9_min_7cf53 ∈ lw_good := List.mem_filter.mpr ⟨List.mem_append_right _ (List.mem_of_getElem? (i := 517) (by decide +kernel)), rfl⟩
theorem kt_X3_isIn : Cond.static yX3_isIn ∈ lw_good := List.mem_filter.mpr ⟨List.mem_append_right _ (List.mem_of_getElem? (i := 542) (by decide +kernel)), rfl⟩
theorem kt_X6_in : Cond.static yX6_in ∈ lw_good := List.mem_filter.mpr ⟨List.mem_append_right _ (List.mem_of_getElem? (i := 732) (by decide +kernel)), rfl⟩
theorem kt_X6_takes : Cond.static yX6_takes ∈ lw_good := List.mem_filter.mpr ⟨List.mem_append_right _ (List.mem_of_getElem? (i := 739) (by decide +kernel)), rfl⟩
theorem kt_X6_isFigure : Cond.static yX6_isFigure ∈ lw_good := List.mem_filter.mpr ⟨List.mem_append_right _ (List.mem_of_getElem? (i := 742) (by decide +kernel)), rfl⟩
theorem kt_X6_areSizes : Cond.static yX6_areSizes ∈ lw_good := List.mem_filter.mpr ⟨List.mem_append_right _ (List.mem_of_getElem? (i := 761) (by decide +kernel)), rfl⟩
theorem kt_X6_isPerson : Cond.static yX6_isPerson ∈ lw_good := List.mem_filter.mpr ⟨List.mem_append_right _ (List.mem_of_getElem? (i := 820) (by decide +kernel)), rfl⟩
theorem ks_X2_told : Cond.selects yX2_told.cls yX2_told yX2_told ∈ lw_good := List.mem_filter.mpr ⟨List.mem_append_right _ (List.mem_of_getElem? (i := 117) (by decide +kernel)), rfl⟩
theorem ks_X2_has : Cond.selects yX2_has.cls yX2_has yX2_has ∈ lw_good := List.mem_filter.mpr ⟨List.mem_append_right _ (List.mem_of_getElem? (i := 145) (by decide +kernel)), rfl⟩
theorem ks_X5_feed : Cond.selects yX5_feed.cls yX5_feed yX5_feed ∈ lw_good := List.mem_filter.mpr ⟨List.mem_append_right _ (List.mem_of_getElem? (i := 245) (by decide +kernel)), rfl⟩
theorem ks_X0_takeLetters : Cond.selects yX0_takeLetters.cls yX0_takeLetters yX0_takeLetters ∈ lw_good := List.mem_filter.mpr ⟨List.mem_append_right _ (List.mem_of_getElem? (i := 249) (by decide +kernel)), rfl⟩
theorem ks_X5_scrap : Cond.selects yX5_scrap.cls yX5_scrap yX5_scrap ∈ lw_good := List.mem_filter.mpr ⟨List.mem_append_right _ (List.mem_of_getElem? (i := 259) (by decide +kernel)), rfl⟩
theorem ks_X0_dropLetters : Cond.selects yX0_dropLetters.cls yX0_dropLetters yX0_dropLetters ∈ lw_good := List.mem_filter.mpr ⟨List.mem_append_right _ (List.mem_of_getElem? (i := 263) (by decide +kernel)), rfl⟩
theorem ks_X5_act : Cond.selects yX5_act.cls yX5_act yX5_act ∈ lw_good := List.mem_filter.mpr ⟨List.mem_append_right _ (List.mem_of_getElem? (i := 268) (by decide +kernel)), rfl⟩
theorem ks_X0_enact : Cond.selects yX0_enact.cls yX0_enact yX0_enact ∈ lw_good := List.mem_filter.mpr ⟨List.mem_append_right _ (List.mem_of_getElem? (i := 272) (by decide +kernel)), rfl⟩
theorem ks_X4_reckon : Cond.selects yX4_reckon.cls yX4_reckon yX4_reckon ∈ lw_good := List.mem_filter.mpr ⟨List.mem_append_right _ (List.mem_of_getElem? (i := 280) (by decide +kernel)), rfl⟩
theorem ks_X5_inForce : Cond.selects yX5_inForce.cls yX5_inForce yX5_inForce ∈ lw_good := List.mem_filter.mpr ⟨List.mem_append_right _ (List.mem_of_getElem? (i := 324) (by decide +kernel)), rfl⟩
theorem ks_X0_onDay : Cond.selects yX0_onDay.cls yX0_onDay yX0_onDay ∈ lw_good := List.mem_filter.mpr ⟨List.mem_append_right _ (List.mem_of_getElem? (i := 329) (by decide +kernel)), rfl⟩
theorem ks_X5_tons : Cond.selects yX5_tons.cls yX5_tons yX5_tons ∈ lw_good := List.mem_filter.mpr ⟨List.mem_append_right _ (List.mem_of_getElem? (i := 333) (by decide +kernel)), rfl⟩
theorem ks_X0_has : Cond.selects yX0_has.cls yX0_has yX0_has ∈ lw_good := List.mem_filter.mpr ⟨List.mem_append_right _ (List.mem_of_getElem? (i := 337) (by decide +kernel)), rfl⟩
theorem ks_X0_tonsBy : Cond.selects yX0_tonsBy.cls yX0_tonsBy yX0_tonsBy ∈ lw_good := List.mem_filter.mpr ⟨List.mem_append_right _ (List.mem_of_getElem? (i := 349) (by decide +kernel)), rfl⟩
theorem ks_X4_setSizes : Cond.selects yX4_setSizes.cls yX4_setSizes yX4_setSizes ∈ lw_good := List.mem_filter.mpr ⟨List.mem_append_right _ (List.mem_of_getElem? (i := 353) (by decide +kernel)), rfl⟩
theorem ks_X5_shape : Cond.selects yX5_shape.cls yX5_shape yX5_shape ∈ lw_good := List.mem_filter.mpr ⟨List.mem_append_right _ (List.mem_of_getElem? (i := 357) (by decide +kernel)), rfl⟩
theorem ks_X0_ofLeastShape : Cond.selects yX0_ofLeastShape.cls yX0_ofLeastShape yX0_ofLeastShape ∈ lw_good := List.mem_filter.mpr ⟨List.mem_append_right _ (List.mem_of_getElem? (i := 361) (by decide +kernel)), rfl⟩
theorem ks_X5_hull : Cond.selects yX5_hull.cls yX5_hull yX5_hull ∈ lw_good := List.mem_filter.mpr ⟨List.mem_append_right _ (List.mem_of_getElem? (i := 382) (by decide +kernel)), rfl⟩
theorem ks_X1_add : Cond.selects yX1_add.cls yX1_add yX1_add ∈ lw_good := List.mem_filter.mpr ⟨List.mem_append_right _ (List.mem_of_getElem? (i := 386) (by decide +kernel)), rfl⟩
theorem ks_X1_setSizes : Cond.selects yX1_setSizes.cls yX1_setSizes yX1_setSizes ∈ lw_good := List.mem_filter.mpr ⟨List.mem_append_right _ (List.mem_of_getElem? (i := 390) (by decide +kernel)), rfl⟩
theorem ks_X1_setMeasuring : Cond.selects yX1_setMeasuring.cls yX1_setMeasuring yX1_setMeasuring ∈ lw_good := List.mem_filter.mpr ⟨List.mem_append_right _ (List.mem_of_getElem? (i := 395) (by decide +kernel)), rfl⟩
theorem ks_X5_alter : Cond.selects yX5_alter.cls yX5_alter yX5_alter ∈ lw_good := List.mem_filter.mpr ⟨List.mem_append_right _ (List.mem_of_getElem? (i := 399) (by decide +kernel)), rfl⟩
theorem ks_X1_has : Cond.selects yX1_has.cls yX1_has yX1_has ∈ lw_good := List.mem_filter.mpr ⟨List.mem_append_right _ (List.mem_of_getElem? (i := 403) (by decide +kernel)), rfl⟩
theorem ks_X5_measure : Cond.selects yX5_measure.cls yX5_measure yX5_measure ∈ lw_good := List.mem_filter.mpr ⟨List.mem_append_right _ (List.mem_of_getElem? (i := 409) (by decide +kernel)), rfl⟩
theorem ks_X1_told : Cond.selects yX1_told.cls yX1_told yX1_told ∈ lw_good := List.mem_filter.mpr ⟨List.mem_append_right _ (List.mem_of_getElem? (i := 413) (by decide +kernel)), rfl⟩
theorem ks_X5_of : Cond.selects yX5_of.cls yX5_of yX5_of ∈ lw_good := List.mem_filter.mpr ⟨List.mem_append_right _ (List.mem_of_getElem? (i := 418) (by decide +kernel)), rfl⟩
theorem ks_X5_sell : Cond.selects yX5_sell.cls yX5_sell yX5_sell ∈ lw_good := List.mem_filter.mpr ⟨List.mem_append_right _ (List.mem_of_getElem? (i := 422) (by decide +kernel)), rfl⟩
theorem ks_X2_add : Cond.selects yX2_add.cls yX2_add yX2_add ∈ lw_good := List.mem_filter.mpr ⟨List.mem_append_right _ (List.mem_of_getElem? (i := 433) (by decide +kernel)), rfl⟩
theorem ks_X5_pledge : Cond.selects yX5_pledge.cls yX5_pledge yX5_pledge ∈ lw_good := List.mem_filter.mpr ⟨List.mem_append_right _ (List.mem_of_getElem? (i := 437) (by decide +kernel)), rfl⟩
theorem ks_X5_redeem : Cond.selects yX5_redeem.cls yX5_redeem yX5_redeem ∈ lw_good := List.mem_filter.mpr ⟨List.mem_append_right _ (List.mem_of_getElem? (i := 441) (by decide +kernel)), rfl⟩
theorem ks_X2_addRedeem : Cond.selects yX2_addRedeem.cls yX2_addRedeem yX2_addRedeem ∈ lw_good := List.mem_filter.mpr ⟨List.mem_append_right _ (List.mem_of_getElem? (i := 446) (by decide +kernel)), rfl⟩
theorem ks_X5_forge : Cond.selects yX5_forge.cls yX5_forge yX5_forge ∈ lw_good := List.mem_filter.mpr ⟨List.mem_append_right _ (List.mem_of_getElem? (i := 451) (by decide +kernel)), rfl⟩
theorem ks_X2_markForged : Cond.selects yX2_markForged.cls yX2_markForged yX2_markForged ∈ lw_good := List.mem_filter.mpr ⟨List.mem_append_right _ (List.mem_of_getElem? (i := 455) (by decide +kernel)), rfl⟩
theorem ks_X5_entry : Cond.selects yX5_entry.cls yX5_entry yX5_entry ∈ lw_good := List.mem_filter.mpr ⟨List.mem_append_right _ (List.mem_of_getElem? (i := 459) (by decide +kernel)), rfl⟩
theorem ks_X5_parts : Cond.selects yX5_parts.cls yX5_parts yX5_parts ∈ lw_good := List.mem_filter.mpr ⟨List.mem_append_right _ (List.mem_of_getElem? (i := 464) (by decide +kernel)), rfl⟩
theorem ks_X2_freeParts : Cond.selects yX2_freeParts.cls yX2_freeParts yX2_freeParts ∈ lw_good := List.mem_filter.mpr ⟨List.mem_append_right _ (List.mem_of_getElem? (i := 468) (by decide +kernel)), rfl⟩
theorem ks_X2_allParts : Cond.selects yX2_allParts.cls yX2_allParts yX2_allParts ∈ lw_good := List.mem_filter.mpr ⟨List.mem_append_right _ (List.mem_of_getElem? (i := 472) (by decide +kernel)), rfl⟩
theorem ks_X5_manager : Cond.selects yX5_manager.cls yX5_manager yX5_manager ∈ lw_good := List.mem_filter.mpr ⟨List.mem_append_right _ (List.mem_of_getElem? (i := 476) (by decide +kernel)), rfl⟩
theorem ks_X2_greatestOwner : Cond.selects yX2_greatestOwner.cls yX2_greatestOwner yX2_greatestOwner ∈ lw_good := List.mem_filter.mpr ⟨List.mem_append_right _ (List.mem_of_getElem? (i := 480) (by decide +kernel)), rfl⟩
theorem ks_X5_held : Cond.selects yX5_held.cls yX5_held yX5_held ∈ lw_good := List.mem_filter.mpr ⟨List.mem_append_right _ (List.mem_of_getElem? (i := 485) (by decide +kernel)), rfl⟩
theorem ks_X2_partsHeld : Cond.selects yX2_partsHeld.cls yX2_partsHeld yX2_partsHeld ∈ lw_good := List.mem_filter.mpr ⟨List.mem_append_right _ (List.mem_of_getElem? (i := 489) (by decide +kernel)), rfl⟩
theorem ks_X5_paper : Cond.selects yX5_paper.cls yX5_paper yX5_paper ∈ lw_good := List.mem_filter.mpr ⟨List.mem_append_right _ (List.mem_of_getElem? (i := 493) (by decide +kernel)), rfl⟩
theorem ks_X3_add : Cond.selects yX3_add.cls yX3_add yX3_add ∈ lw_good := List.mem_filter.mpr ⟨List.mem_append_right _ (List.mem_of_getElem? (i := 497) (by decide +kernel)), rfl⟩
theorem ks_X5_witness : Cond.selects yX5_witness.cls yX5_witness yX5_witness ∈ lw_good := List.mem_filter.mpr ⟨List.mem_append_right _ (List.mem_of_getElem? (i := 526) (by decide +kernel)), rfl⟩
theorem ks_X3_areTwo : Cond.selects yX3_areTwo.cls yX3_areTwo yX3_areTwo ∈ lw_good := List.mem_filter.mpr ⟨List.mem_append_right _ (List.mem_of_getElem? (i := 530) (by decide +kernel)), rfl⟩
theorem ks_X3_has : Cond.selects yX3_has.cls yX3_has yX3_has ∈ lw_good := List.mem_filter.mpr ⟨List.mem_append_right _ (List.mem_of_getElem? (i := 534) (by decide +kernel)), rfl⟩
theorem ks_X3_hear : Cond.selects yX3_hear.cls yX3_hear yX3_hear ∈ lw_good := List.mem_filter.mpr ⟨List.mem_append_right _ (List.mem_of_getElem? (i := 539) (by decide +kernel)), rfl⟩
theorem ks_X5_alike : Cond.selects yX5_alike.cls yX5_alike yX5_alike ∈ lw_good := List.mem_filter.mpr ⟨List.mem_append_right _ (List.mem_of_getElem? (i := 546) (by decide +kernel)), rfl⟩
theorem ks_X3_mayBeOne : Cond.selects yX3_mayBeOne.cls yX3_mayBeOne yX3_mayBeOne ∈ lw_good := List.mem_filter.mpr ⟨List.mem_append_right _ (List.mem_of_getElem? (i := 550) (by decide +kernel)), rfl⟩
theorem ks_X5_group : Cond.selects yX5_group.cls yX5_group yX5_group ∈ lw_good := List.mem_filter.mpr ⟨List.mem_append_right _ (List.mem_of_getElem? (i := 554) (by decide +kernel)), rfl⟩
theorem ks_X3_joinedGroup : Cond.selects yX3_joinedGroup.cls yX3_joinedGroup yX3_joinedGroup ∈ lw_good := List.mem_filter.mpr ⟨List.mem_append_right _ (List.mem_of_getElem? (i := 559) (by decide +kernel)), rfl⟩
theorem ks_X5_groups : Cond.selects yX5_groups.cls yX5_groups yX5_groups ∈ lw_good := List.mem_filter.mpr ⟨List.mem_append_right _ (List.mem_of_getElem? (i := 563) (by decide +kernel)), rfl⟩
theorem ks_X3_joinedGroups : Cond.selects yX3_joinedGroups.cls yX3_joinedGroups yX3_joinedGroups ∈ lw_good := List.mem_filter.mpr ⟨List.mem_append_right _ (List.mem_of_getElem? (i := 567) (by decide +kernel)), rfl⟩
theorem ks_X5_many : Cond.selects yX5_many.cls yX5_many yX5_many ∈ lw_good := List.mem_filter.mpr ⟨List.mem_append_right _ (List.mem_of_getElem? (i := 571) (by decide +kernel)), rfl⟩
theorem ks_X0_size : Cond.selects yX0_size.cls yX0_size yX0_size ∈ lw_good := List.mem_filter.mpr ⟨List.mem_append_right _ (List.mem_of_getElem? (i := 575) (by decide +kernel)), rfl⟩
theorem ks_X1_size : Cond.selects yX1_size.cls yX1_size yX1_size ∈ lw_good := List.mem_filter.mpr ⟨List.mem_append_right _ (List.mem_of_getElem? (i := 579) (by decide +kernel)), rfl⟩
theorem ks_X2_size : Cond.selects yX2_size.cls yX2_size yX2_size ∈ lw_good := List.mem_filter.mpr ⟨List.mem_append_right _ (List.mem_of_getElem? (i := 583) (by decide +kernel)), rfl⟩
theorem ks_X2_forgedEntries : Cond.selects yX2_forgedEntries.cls yX2_forgedEntries yX2_forgedEntries ∈ lw_good := List.mem_filter.mpr ⟨List.mem_append_right _ (List.mem_of_getElem? (i := 587) (by decide +kernel)), rfl⟩
theorem ks_X2_voidEntries : Cond.selects yX2_voidEntries.cls yX2_voidEntries yX2_voidEntries ∈ lw_good := List.mem_filter.mpr ⟨List.mem_append_right _ (List.mem_of_getElem? (i := 595) (by decide +kernel)), rfl⟩
theorem ks_X2_standingPledges : Cond.selects yX2_standingPledges.cls yX2_standingPledges yX2_standingPledges ∈ lw_good := List.mem_filter.mpr ⟨List.mem_append_right _ (List.mem_of_getElem? (i := 599) (by decide +kernel)), rfl⟩
theorem ks_X3_size : Cond.selects yX3_size.cls yX3_size yX3_size ∈ lw_good := List.mem_filter.mpr ⟨List.mem_append_right _ (List.mem_of_getElem? (i := 603) (by decide +kernel)), rfl⟩
theorem ks_X3_witnesses : Cond.selects yX3_witnesses.cls yX3_witnesses yX3_witnesses ∈ lw_good := List.mem_filter.mpr ⟨List.mem_append_right _ (List.mem_of_getElem? (i := 607) (by decide +kernel)), rfl⟩
theorem ks_X0_lettersFed : Cond.selects yX0_lettersFed.cls yX0_lettersFed yX0_lettersFed ∈ lw_good := List.mem_filter.mpr ⟨List.mem_append_right _ (List.mem_of_getElem? (i := 611) (by decide +kernel)), rfl⟩
theorem ks_X6_feed : Cond.selects yX6_feed.cls yX6_feed yX6_feed ∈ lw_good := List.mem_filter.mpr ⟨List.mem_append_right _ (List.mem_of_getElem? (i := 721) (by decide +kernel)), rfl⟩
theorem ks_X6_scrap : Cond.selects yX6_scrap.cls yX6_scrap yX6_scrap ∈ lw_good := List.mem_filter.mpr ⟨List.mem_append_right _ (List.mem_of_getElem? (i := 725) (by decide +kernel)), rfl⟩
theorem ks_X6_act : Cond.selects yX6_act.cls yX6_act yX6_act ∈ lw_good := List.mem_filter.mpr ⟨List.mem_append_right _ (List.mem_of_getElem? (i := 729) (by decide +kernel)), rfl⟩
theorem ks_X6_inForce : Cond.selects yX6_inForce.cls yX6_inForce yX6_inForce ∈ lw_good := List.mem_filter.mpr ⟨List.mem_append_right _ (List.mem_of_getElem? (i := 746) (by decide +kernel)), rfl⟩
theorem ks_X6_tons : Cond.selects yX6_tons.cls yX6_tons yX6_tons ∈ lw_good := List.mem_filter.mpr ⟨List.mem_append_right _ (List.mem_of_getElem? (i := 754) (by decide +kernel)), rfl⟩
theorem ks_X6_shape : Cond.selects yX6_shape.cls yX6_shape yX6_shape ∈ lw_good := List.mem_filter.mpr ⟨List.mem_append_right _ (List.mem_of_getElem? (i := 784) (by decide +kernel)), rfl⟩
theorem ks_X6_hull : Cond.selects yX6_hull.cls yX6_hull yX6_hull ∈ lw_good := List.mem_filter.mpr ⟨List.mem_append_right _ (List.mem_of_getElem? (i := 789) (by decide +kernel)), rfl⟩
theorem ks_X6_alter : Cond.selects yX6_alter.cls yX6_alter yX6_alter ∈ lw_good := List.mem_filter.mpr ⟨List.mem_append_right _ (List.mem_of_getElem? (i := 797) (by decide +kernel)), rfl⟩
theorem ks_X6_measure : Cond.selects yX6_measure.cls yX6_measure yX6_measure ∈ lw_good := List.mem_filter.mpr ⟨List.mem_append_right _ (List.mem_of_getElem? (i := 805) (by decide +kernel)), rfl⟩
theorem ks_X6_of : Cond.selects yX6_of.cls yX6_of yX6_of ∈ lw_good := List.mem_filter.mpr ⟨List.mem_append_right _ (List.mem_of_getElem? (i := 809) (by decide +kernel)), rfl⟩
theorem ks_X6_sell : Cond.selects yX6_sell.cls yX6_sell yX6_sell ∈ lw_good := List.mem_filter.mpr ⟨List.mem_append_right _ (List.mem_of_getElem? (i := 813) (by decide +kernel)), rfl⟩
theorem ks_X6_pledge : Cond.selects yX6_pledge.cls yX6_pledge yX6_pledge ∈ lw_good := List.mem_filter.mpr ⟨List.mem_append_right _ (List.mem_of_getElem? (i := 828) (by decide +kernel)), rfl⟩
theorem ks_X6_redeem : Cond.selects yX6_redeem.cls yX6_redeem yX6_redeem ∈ lw_good := List.mem_filter.mpr ⟨List.mem_append_right _ (List.mem_of_getElem? (i := 832) (by decide +kernel)), rfl⟩
theorem ks_X6_forge : Cond.selects yX6_forge.cls yX6_forge yX6_forge ∈ lw_good := List.mem_filter.mpr ⟨List.mem_append_right _ (List.mem_of_getElem? (i := 840) (by decide +kernel)), rfl⟩
theorem ks_X6_entry : Cond.selects yX6_entry.cls yX6_entry yX6_entry ∈ lw_good := List.mem_filter.mpr ⟨List.mem_append_right _ (List.mem_of_getElem? (i := 844) (by decide +kernel)), rfl⟩
theorem ks_X6_parts : Cond.selects yX6_parts.cls yX6_parts yX6_parts ∈ lw_good := List.mem_filter.mpr ⟨List.mem_append_right _ (List.mem_of_getElem? (i := 860) (by decide +kernel)), rfl⟩
theorem ks_X6_manager : Cond.selects yX6_manager.cls yX6_manager yX6_manager ∈ lw_good := List.mem_filter.mpr ⟨List.mem_append_right _ (List.mem_of_getElem? (i := 864) (by decide +kernel)), rfl⟩
theorem ks_X6_held : Cond.selects yX6_held.cls yX6_held yX6_held ∈ lw_good := List.mem_filter.mpr ⟨List.mem_append_right _ (List.mem_of_getElem? (i := 868) (by decide +kernel)), rfl⟩
theorem ks_X6_paper : Cond.selects yX6_paper.cls yX6_paper yX6_paper ∈ lw_good := List.mem_filter.mpr ⟨List.mem_append_right _ (List.mem_of_getElem? (i := 872) (by decide +kernel)), rfl⟩
theorem ks_X6_witness : Cond.selects yX6_witness.cls yX6_witness yX6_witness ∈ lw_good := List.mem_filter.mpr ⟨List.mem_append_right _ (List.mem_of_getElem? (i := 876) (by decide +kernel)), rfl⟩
theorem ks_X6_alike : Cond.selects yX6_alike.cls yX6_alike yX6_alike ∈ lw_good := List.mem_filter.mpr ⟨List.mem_append_right _ (List.mem_of_getElem? (i := 888) (by decide +kernel)), rfl⟩
theorem ks_X6_group : Cond.selects yX6_group.cls yX6_group yX6_group ∈ lw_good := List.mem_filter.mpr ⟨List.mem_append_right _ (List.mem_of_getElem? (i := 896) (by decide +kernel)), rfl⟩
theorem ks_X6_groups : Cond.selects yX6_groups.cls yX6_groups yX6_groups ∈ lw_good := List.mem_filter.mpr ⟨List.mem_append_right _ (List.mem_of_getElem? (i := 912) (by decide +kernel)), rfl⟩
theorem ks_X6_many : Cond.selects yX6_many.cls yX6_many yX6_many ∈ lw_good := List.mem_filter.mpr ⟨List.mem_append_right _ (List.mem_of_getElem? (i := 916) (by decide +kernel)), rfl⟩
theorem ks_X2_goThrough : Cond.selects yX2_goThrough.cls yX2_goThrough yX2_goThrough ∈ lw_good := List.mem_filter.mpr ⟨List.mem_append_left _ (List.mem_of_getElem? (i := 0) (by decide +kernel)), rfl⟩
theorem ks_X2_beginAnew : Cond.selects yX2_beginAnew.cls yX2_beginAnew yX2_beginAnew ∈ lw_good := List.mem_filter.mpr ⟨List.mem_append_left _ (List.mem_of_getElem? (i := 1) (by decide +kernel)), rfl⟩
theorem ks_X2_isForged : Cond.selects yX2_isForged.cls yX2_isForged yX2_isForged ∈ lw_good := List.mem_filter.mpr ⟨List.mem_append_left _ (List.mem_of_getElem? (i := 2) (by decide +kernel)), rfl⟩
theorem ks_X2_takesEffect : Cond.selects yX2_takesEffect.cls yX2_takesEffect yX2_takesEffect ∈ lw_good := List.mem_filter.mpr ⟨List.mem_append_left _ (List.mem_of_getElem? (i := 3) (by decide +kernel)), rfl⟩
theorem ks_X2_bringParts : Cond.selects yX2_bringParts.cls yX2_bringParts yX2_bringParts ∈ lw_good := List.mem_filter.mpr ⟨List.mem_append_left _ (List.mem_of_getElem? (i := 4) (by decide +kernel)), rfl⟩
theorem ks_X2_freeOf : Cond.selects yX2_freeOf.cls yX2_freeOf yX2_freeOf ∈ lw_good := List.mem_filter.mpr ⟨List.mem_append_left _ (List.mem_of_getElem? (i := 5) (by decide +kernel)), rfl⟩
theorem ks_X2_beginPledge : Cond.selects yX2_beginPledge.cls yX2_beginPledge yX2_beginPledge ∈ lw_good := List.mem_filter.mpr ⟨List.mem_append_left _ (List.mem_of_getElem? (i := 6) (by decide +kernel)), rfl⟩
theorem ks_X2_setStanding : Cond.selects yX2_setStanding.cls yX2_setStanding yX2_setStanding ∈ lw_good := List.mem_filter.mpr ⟨List.mem_append_left _ (List.mem_of_getElem? (i := 7) (by decide +kernel)), rfl⟩
theorem ks_X2_endPledge : Cond.selects yX2_endPledge.cls yX2_endPledge yX2_endPledge ∈ lw_good := List.mem_filter.mpr ⟨List.mem_append_left _ (List.mem_of_getElem? (i := 8) (by decide +kernel)), rfl⟩
theorem ks_X2_put : Cond.selects yX2_put.cls yX2_put yX2_put ∈ lw_good := List.mem_filter.mpr ⟨List.mem_append_left _ (List.mem_of_getElem? (i := 9) (by decide +kernel)), rfl⟩
theorem ks_X2_rankPledges : Cond.selects yX2_rankPledges.cls yX2_rankPledges yX2_rankPledges ∈ lw_good := List.mem_filter.mpr ⟨List.mem_append_left _ (List.mem_of_getElem? (i := 10) (by decide +kernel)), rfl⟩
theorem ks_X4_read : Cond.selects yX4_read.cls yX4_read yX4_read ∈ lw_good := List.mem_filter.mpr ⟨List.mem_append_left _ (List.mem_of_getElem? (i := 11) (by decide +kernel)), rfl⟩
theorem ks_X4_readFigure : Cond.selects yX4_readFigure.cls yX4_readFigure yX4_readFigure ∈ lw_good := List.mem_filter.mpr ⟨List.mem_append_left _ (List.mem_of_getElem? (i := 12) (by decide +kernel)), rfl⟩
theorem ks_X4_push : Cond.selects yX4_push.cls yX4_push yX4_push ∈ lw_good := List.mem_filter.mpr ⟨List.mem_append_left _ (List.mem_of_getElem? (i := 13) (by decide +kernel)), rfl⟩
theorem ks_X4_liftToZero : Cond.selects yX4_liftToZero.cls yX4_liftToZero yX4_liftToZero ∈ lw_good := List.mem_filter.mpr ⟨List.mem_append_left _ (List.mem_of_getElem? (i := 14) (by decide +kernel)), rfl⟩
theorem ks_X4_joinTwo : Cond.selects yX4_joinTwo.cls yX4_joinTwo yX4_joinTwo ∈ lw_good := List.mem_filter.mpr ⟨List.mem_append_left _ (List.mem_of_getElem? (i := 15) (by decide +kernel)), rfl⟩
theorem ks_X0_tonsOfShapes : Cond.selects yX0_tonsOfShapes.cls yX0_tonsOfShapes yX0_tonsOfShapes ∈ lw_good := List.mem_filter.mpr ⟨List.mem_append_left _ (List.mem_of_getElem? (i := 16) (by decide +kernel)), rfl⟩
theorem ks_X5_enter : Cond.selects yX5_enter.cls yX5_enter yX5_enter ∈ lw_good := List.mem_filter.mpr ⟨List.mem_append_left _ (List.mem_of_getElem? (i := 17) (by decide +kernel)), rfl⟩
theorem ks_X3_seemAlike : Cond.selects yX3_seemAlike.cls yX3_seemAlike yX3_seemAlike ∈ lw_good := List.mem_filter.mpr ⟨List.mem_append_left _ (List.mem_of_getElem? (i := 18) (by decide +kernel)), rfl⟩
theorem ks_X3_setLike : Cond.selects yX3_setLike.cls yX3_setLike yX3_setLike ∈ lw_good := List.mem_filter.mpr ⟨List.mem_append_left _ (List.mem_of_getElem? (i := 19) (by decide +kernel)), rfl⟩
theorem ks_X3_joinAnew : Cond.selects yX3_joinAnew.cls yX3_joinAnew yX3_joinAnew ∈ lw_good := List.mem_filter.mpr ⟨List.mem_append_left _ (List.mem_of_getElem? (i := 20) (by decide +kernel)), rfl⟩
theorem ks_X3_placeFrom : Cond.selects yX3_placeFrom.cls yX3_placeFrom yX3_placeFrom ∈ lw_good := List.mem_filter.mpr ⟨List.mem_append_left _ (List.mem_of_getElem? (i := 21) (by decide +kernel)), rfl⟩
theorem ks_X3_placeInto : Cond.selects yX3_placeInto.cls yX3_placeInto yX3_placeInto ∈ lw_good := List.mem_filter.mpr ⟨List.mem_append_left _ (List.mem_of_getElem? (i := 22) (by decide +kernel)), rfl⟩
theorem ks_X2_sumOf : Cond.selects yX2_sumOf.cls yX2_sumOf yX2_sumOf ∈ lw_good := List.mem_filter.mpr ⟨List.mem_append_left _ (List.mem_of_getElem? (i := 23) (by decide +kernel)), rfl⟩
theorem ks_X6_isGood : Cond.selects yX6_isGood.cls yX6_isGood yX6_isGood ∈ lw_good := List.mem_filter.mpr ⟨List.mem_append_left _ (List.mem_of_getElem? (i := 24) (by decide +kernel)), rfl⟩
theorem ks_X6_forceOn : Cond.selects yX6_forceOn.cls yX6_forceOn yX6_forceOn ∈ lw_good := List.mem_filter.mpr ⟨List.mem_append_left _ (List.mem_of_getElem? (i := 25) (by decide +kernel)), rfl⟩
theorem ks_X6_isAct : Cond.selects yX6_isAct.cls yX6_isAct yX6_isAct ∈ lw_good := List.mem_filter.mpr ⟨List.mem_append_left _ (List.mem_of_getElem? (i := 26) (by decide +kernel)), rfl⟩
theorem ks_X6_tonsBy : Cond.selects yX6_tonsBy.cls yX6_tonsBy yX6_tonsBy ∈ lw_good := List.mem_filter.mpr ⟨List.mem_append_left _ (List.mem_of_getElem? (i := 27) (by decide +kernel)), rfl⟩
theorem ks_X6_push : Cond.selects yX6_push.cls yX6_push yX6_push ∈ lw_good := List.mem_filter.mpr ⟨List.mem_append_left _ (List.mem_of_getElem? (i := 28) (by decide +kernel)), rfl⟩
theorem ks_X6_combine : Cond.selects yX6_combine.cls yX6_combine yX6_combine ∈ lw_good := List.mem_filter.mpr ⟨List.mem_append_left _ (List.mem_of_getElem? (i := 29) (by decide +kernel)), rfl⟩
theorem ks_X6_put : Cond.selects yX6_put.cls yX6_put yX6_put ∈ lw_good := List.mem_filter.mpr ⟨List.mem_append_left _ (List.mem_of_getElem? (i := 30) (by decide +kernel)), rfl⟩
theorem ks_X6_isHull : Cond.selects yX6_isHull.cls yX6_isHull yX6_isHull ∈ lw_good := List.mem_filter.mpr ⟨List.mem_append_left _ (List.mem_of_getElem? (i := 31) (by decide +kernel)), rfl⟩
theorem ks_X6_deal : Cond.selects yX6_deal.cls yX6_deal yX6_deal ∈ lw_good := List.mem_filter.mpr ⟨List.mem_append_left _ (List.mem_of_getElem? (i := 32) (by decide +kernel)), rfl⟩
theorem ks_X6_enter : Cond.selects yX6_enter.cls yX6_enter yX6_enter ∈ lw_good := List.mem_filter.mpr ⟨List.mem_append_left _ (List.mem_of_getElem? (i := 33) (by decide +kernel)), rfl⟩
theorem ks_X6_isEntry : Cond.selects yX6_isEntry.cls yX6_isEntry yX6_isEntry ∈ lw_good := List.mem_filter.mpr ⟨List.mem_append_left _ (List.mem_of_getElem? (i := 34) (by decide +kernel)), rfl⟩
theorem ks_X6_goThrough : Cond.selects yX6_goThrough.cls yX6_goThrough yX6_goThrough ∈ lw_good := List.mem_filter.mpr ⟨List.mem_append_left _ (List.mem_of_getElem? (i := 35) (by decide +kernel)), rfl⟩
theorem ks_X6_does : Cond.selects yX6_does.cls yX6_does yX6_does ∈ lw_good := List.mem_filter.mpr ⟨List.mem_append_left _ (List.mem_of_getElem? (i := 36) (by decide +kernel)), rfl⟩
theorem ks_X6_rankOf : Cond.selects yX6_rankOf.cls yX6_rankOf yX6_rankOf ∈ lw_good := List.mem_filter.mpr ⟨List.mem_append_left _ (List.mem_of_getElem? (i := 37) (by decide +kernel)), rfl⟩
theorem ks_X6_isPaper : Cond.selects yX6_isPaper.cls yX6_isPaper yX6_isPaper ∈ lw_good := List.mem_filter.mpr ⟨List.mem_append_left _ (List.mem_of_getElem? (i := 38) (by decide +kernel)), rfl⟩
theorem ks_X6_witnessOf : Cond.selects yX6_witnessOf.cls yX6_witnessOf yX6_witnessOf ∈ lw_good := List.mem_filter.mpr ⟨List.mem_append_left _ (List.mem_of_getElem? (i := 39) (by decide +kernel)), rfl⟩
theorem ks_X6_areAlike : Cond.selects yX6_areAlike.cls yX6_areAlike yX6_areAlike ∈ lw_good := List.mem_filter.mpr ⟨List.mem_append_left _ (List.mem_of_getElem? (i := 40) (by decide +kernel)), rfl⟩
theorem ks_X6_join : Cond.selects yX6_join.cls yX6_join yX6_join ∈ lw_good := List.mem_filter.mpr ⟨List.mem_append_left _ (List.mem_of_getElem? (i := 41) (by decide +kernel)), rfl⟩
theorem ks_X6_findJoining : Cond.selects yX6_findJoining.cls yX6_findJoining yX6_findJoining ∈ lw_good := List.mem_filter.mpr ⟨List.mem_append_left _ (List.mem_of_getElem? (i := 42) (by decide +kernel)), rfl⟩
theorem ks_X6_mayJoin : Cond.selects yX6_mayJoin.cls yX6_mayJoin yX6_mayJoin ∈ lw_good := List.mem_filter.mpr ⟨List.mem_append_left _ (List.mem_of_getElem? (i := 43) (by decide +kernel)), rfl⟩
theorem ks_X6_entriesThat : Cond.selects yX6_entriesThat.cls yX6_entriesThat yX6_entriesThat ∈ lw_good := List.mem_filter.mpr ⟨List.mem_append_left _ (List.mem_of_getElem? (i := 44) (by decide +kernel)), rfl⟩
theorem ks_X6_standing : Cond.selects yX6_standing.cls yX6_standing yX6_standing ∈ lw_good := List.mem_filter.mpr ⟨List.mem_append_left _ (List.mem_of_getElem? (i := 45) (by decide +kernel)), rfl⟩
theorem kn_L : Cond.initialized RL ∈ lw_good := List.mem_filter.mpr ⟨List.mem_append_right _ (List.mem_of_getElem? (i := 0) (by decide +kernel)), rfl⟩
theorem kn_X5 : Cond.initialized RX5 ∈ lw_good := List.mem_filter.mpr ⟨List.mem_append_right _ (List.mem_of_getElem? (i := 1) (by decide +kernel)), rfl⟩
theorem kn_X0 : Cond.initialized RX0 ∈ lw_good := List.mem_filter.mpr ⟨List.mem_append_right _ (List.mem_of_getElem? (i := 2) (by decide +kernel)), rfl⟩
theorem kn_X4 : Cond.initialized RX4 ∈ lw_good := List.mem_filter.mpr ⟨List.mem_append_right _ (List.mem_of_getElem? (i := 3) (by decide +kernel)), rfl⟩
theorem kn_X1 : Cond.initialized RX1 ∈ lw_good := List.mem_filter.mpr ⟨List.mem_append_right _ (List.mem_of_getElem? (i := 4) (by decide +kernel)), rfl⟩
theorem kn_X2 : Cond.initialized RX2 ∈ lw_good := List.mem_filter.mpr ⟨List.mem_append_right _ (List.mem_of_getElem? (i := 5) (by decide +kernel)), rfl⟩
theorem kn_J7 : Cond.initialized RJ7 ∈ lw_good := List.mem_filter.mpr ⟨List.mem_append_right _ (List.mem_of_getElem? (i := 6) (by decide +kernel)), rfl⟩
theorem kn_X3 : Cond.initialized RX3 ∈ lw_good := List.mem_filter.mpr ⟨List.mem_append_right _ (List.mem_of_getElem? (i := 7) (by decide +kernel)), rfl⟩
theorem kn_X6 : Cond.initialized RX6 ∈ lw_good := List.mem_filter.mpr ⟨List.mem_append_right _ (List.mem_of_getElem? (i := 8) (by decide +kernel)), rfl⟩
theorem kn_J9 : Cond.initialized RJ9 ∈ lw_good := List.mem_filter.mpr ⟨List.mem_append_right _ (List.mem_of_getElem? (i := 9) (by decide +kernel)), rfl⟩
theorem kn_J10 : Cond.initialized RJ10 ∈ lw_good := List.mem_filter.mpr ⟨List.mem_append_right _ (List.mem_of_getElem? (i := 10) (by decide +kernel)), rfl⟩
theorem kc_X4_72 : Cond.constant RX4 72 (999999) ∈ lw_good := List.mem_filter.mpr ⟨List.mem_append_right _ (List.mem_of_getElem? (i := 313) (by decide +kernel)), rfl⟩
theorem kc_X4_75 : Cond.constant RX4 75 (-999999) ∈ lw_good := List.mem_filter.mpr ⟨List.mem_append_right _ (List.mem_of_getElem? (i := 315) (by decide +kernel)), rfl⟩
theorem kc_X4_38 : Cond.constant RX4 38 (-10000000) ∈ lw_good := List.mem_filter.mpr ⟨List.mem_append_right _ (List.mem_of_getElem? (i := 316) (by decide +kernel)), rfl⟩
theorem kc_X0_66 : Cond.constant RX0 66 (-10000000) ∈ lw_good := List.mem_filter.mpr ⟨List.mem_append_right _ (List.mem_of_getElem? (i := 317) (by decide +kernel)), rfl⟩
theorem kc_X5_62 : Cond.constant RX5 62 (-10000000) ∈ lw_good := List.mem_filter.mpr ⟨List.mem_append_right _ (List.mem_of_getElem? (i := 346) (by decide +kernel)), rfl⟩
theorem kc_X1_27 : Cond.constant RX1 27 (-10000000) ∈ lw_good := List.mem_filter.mpr ⟨List.mem_append_right _ (List.mem_of_getElem? (i := 392) (by decide +kernel)), rfl⟩
theorem kc_X6_120 : Cond.constant RX6 120 (999999) ∈ lw_good := List.mem_filter.mpr ⟨List.mem_append_right _ (List.mem_of_getElem? (i := 774) (by decide +kernel)), rfl⟩
theorem kc_X6_123 : Cond.constant RX6 123 (-999999) ∈ lw_good := List.mem_filter.mpr ⟨List.mem_append_right _ (List.mem_of_getElem? (i := 776) (by decide +kernel)), rfl⟩
theorem kc_X6_147 : Cond.constant RX6 147 (-10000000) ∈ lw_good := List.mem_filter.mpr ⟨List.mem_append_right _ (List.mem_of_getElem? (i := 781) (by decide +kernel)), rfl⟩
theorem kc_X6_148 : Cond.constant RX6 148 (10000000) ∈ lw_good := List.mem_filter.mpr ⟨List.mem_append_right _ (List.mem_of_getElem? (i := 786) (by decide +kernel)), rfl⟩
theorem kc_X4_70 : Cond.constantLong RX4 70 (999999) ∈ lw_good := List.mem_filter.mpr ⟨List.mem_append_right _ (List.mem_of_getElem? (i := 312) (by decide +kernel)), rfl⟩
theorem kc_X4_73 : Cond.constantLong RX4 73 (-999999) ∈ lw_good := List.mem_filter.mpr ⟨List.mem_append_right _ (List.mem_of_getElem? (i := 314) (by decide +kernel)), rfl⟩
theorem kc_X6_128 : Cond.constantLong RX6 128 (10) ∈ lw_good := List.mem_filter.mpr ⟨List.mem_append_right _ (List.mem_of_getElem? (i := 767) (by decide +kernel)), rfl⟩
theorem kc_X6_130 : Cond.constantLong RX6 130 (48) ∈ lw_good := List.mem_filter.mpr ⟨List.mem_append_right _ (List.mem_of_getElem? (i := 768) (by decide +kernel)), rfl⟩
theorem kc_X6_118 : Cond.constantLong RX6 118 (999999) ∈ lw_good := List.mem_filter.mpr ⟨List.mem_append_right _ (List.mem_of_getElem? (i := 773) (by decide +kernel)), rfl⟩
theorem kc_X6_121 : Cond.constantLong RX6 121 (-999999) ∈ lw_good := List.mem_filter.mpr ⟨List.mem_append_right _ (List.mem_of_getElem? (i := 775) (by decide +kernel)), rfl⟩
abbrev mX4_init : vMx := (yX4_init, cX4_init, 1, none)
theorem gX4_init : vGood mX4_init 0 := ⟨List.mem_filter.mpr ⟨List.mem_append_right _ (List.mem_of_getElem? (i := 31) (by decide +kernel)), rfl⟩, kn_X4, by decide +kernel, by decide⟩
abbrev mX0_init : vMx := (yX0_init, cX0_init, 1, none)
theorem gX0_init : vGood mX0_init 0 := ⟨List.mem_filter.mpr ⟨List.mem_append_right _ (List.mem_of_getElem? (i := 23) (by decide +kernel)), rfl⟩, kn_X0, by decide +kernel, by decide⟩
abbrev mX0_size : vMx := (yX0_size, cX0_size, 1, (some .int))
theorem gX0_size : vGood mX0_size 0 := ⟨List.mem_filter.mpr ⟨List.mem_append_right _ (List.mem_of_getElem? (i := 576) (by decide +kernel)), rfl⟩, kn_X0, by decide +kernel, by decide⟩
abbrev mX5_isWithin : vMx := (yX5_isWithin, cX5_isWithin, 3, (some .boolean))
theorem gX5_isWithin : vGood mX5_isWithin 3 := ⟨List.mem_filter.mpr ⟨List.mem_append_right _ (List.mem_of_getElem? (i := 149) (by decide +kernel)), rfl⟩, kn_X5, by decide +kernel, by decide⟩
abbrev mX0_has : vMx := (yX0_has, cX0_has, 2, (some .boolean))
theorem gX0_has : vGood mX0_has 1 := ⟨List.mem_filter.mpr ⟨List.mem_append_right _ (List.mem_of_getElem? (i := 338) (by decide +kernel)), rfl⟩, kn_X0, by decide +kernel, by decide⟩
abbrev mX0_lettersFed : vMx := (yX0_lettersFed, cX0_lettersFed, 1, (some .int))
theorem gX0_lettersFed : vGood mX0_lettersFed 0 := ⟨List.mem_filter.mpr ⟨List.mem_append_right _ (List.mem_of_getElem? (i := 612) (by decide +kernel)), rfl⟩, kn_X0, by decide +kernel, by decide⟩
abbrev mX0_letterAt : vMx := (yX0_letterAt, cX0_letterAt, 2, (some .int))
theorem gX0_letterAt : vGood mX0_letterAt 2 := ⟨List.mem_filter.mpr ⟨List.mem_append_right _ (List.mem_of_getElem? (i := 256) (by decide +kernel)), rfl⟩, kn_X0, by decide +kernel, by decide⟩
abbrev mX0_lettersIn : vMx := (yX0_lettersIn, cX0_lettersIn, 2, (some .int))
theorem gX0_lettersIn : vGood mX0_lettersIn 1 := ⟨List.mem_filter.mpr ⟨List.mem_append_right _ (List.mem_of_getElem? (i := 253) (by decide +kernel)), rfl⟩, kn_X0, by decide +kernel, by decide⟩
abbrev mX0_takeLetters : vMx := (yX0_takeLetters, cX0_takeLetters, 4, (some .int))
theorem gX0_takeLetters : vGood mX0_takeLetters 1 := ⟨List.mem_filter.mpr ⟨List.mem_append_right _ (List.mem_of_getElem? (i := 250) (by decide +kernel)), rfl⟩, kn_X0, by decide +kernel, by decide⟩
abbrev mJ7_fill_53178 : vMx := (yJ7_fill_53178, cJ7_fill_53178, 4, none)
theorem gJ7_fill_53178 : vGood mJ7_fill_53178 2 := ⟨List.mem_filter.mpr ⟨List.mem_append_right _ (List.mem_of_getElem? (i := 107) (by decide +kernel)), rfl⟩, kn_J7, by decide +kernel, by decide⟩
abbrev mX0_dropLetters : vMx := (yX0_dropLetters, cX0_dropLetters, 2, (some .int))
theorem gX0_dropLetters : vGood mX0_dropLetters 0 := ⟨List.mem_filter.mpr ⟨List.mem_append_right _ (List.mem_of_getElem? (i := 264) (by decide +kernel)), rfl⟩, kn_X0, by decide +kernel, by decide⟩
abbrev mX5_isDay : vMx := (yX5_isDay, cX5_isDay, 1, (some .boolean))
theorem gX5_isDay : vGood mX5_isDay 1 := ⟨List.mem_filter.mpr ⟨List.mem_append_right _ (List.mem_of_getElem? (i := 276) (by decide +kernel)), rfl⟩, kn_X5, by decide +kernel, by decide⟩
abbrev mX4_push : vMx := (yX4_push, cX4_push, 2, (some .boolean))
theorem gX4_push : vGood mX4_push 1 := ⟨List.mem_filter.mpr ⟨List.mem_append_right _ (List.mem_of_getElem? (i := 294) (by decide +kernel)), rfl⟩, kn_X4, by decide +kernel, by decide⟩
abbrev mX4_readFigure : vMx := (yX4_readFigure, cX4_readFigure, 2, (some .boolean))
theorem gX4_readFigure : vGood mX4_readFigure 1 := ⟨List.mem_filter.mpr ⟨List.mem_append_right _ (List.mem_of_getElem? (i := 290) (by decide +kernel)), rfl⟩, kn_X4, by decide +kernel, by decide⟩
abbrev mX4_liftToZero : vMx := (yX4_liftToZero, cX4_liftToZero, 1, (some .boolean))
theorem gX4_liftToZero : vGood mX4_liftToZero 0 := ⟨List.mem_filter.mpr ⟨List.mem_append_right _ (List.mem_of_getElem? (i := 298) (by decide +kernel)), rfl⟩, kn_X4, by decide +kernel, by decide⟩
abbrev mX4_joined : vMx := (yX4_joined, cX4_joined, 5, (some .long))
theorem gX4_joined : vGood mX4_joined 3 := ⟨List.mem_filter.mpr ⟨List.mem_append_right _ (List.mem_of_getElem? (i := 308) (by decide +kernel)), rfl⟩, kn_X4, by decide +kernel, by decide⟩
abbrev mX4_bounded : vMx := (yX4_bounded, cX4_bounded, 2, (some .int))
theorem gX4_bounded : vGood mX4_bounded 1 := ⟨List.mem_filter.mpr ⟨List.mem_append_right _ (List.mem_of_getElem? (i := 311) (by decide +kernel)), rfl⟩, kn_X4, by decide +kernel, by decide⟩
abbrev mX4_joinTwo : vMx := (yX4_joinTwo, cX4_joinTwo, 2, (some .boolean))
theorem gX4_joinTwo : vGood mX4_joinTwo 1 := ⟨List.mem_filter.mpr ⟨List.mem_append_right _ (List.mem_of_getElem? (i := 305) (by decide +kernel)), rfl⟩, kn_X4, by decide +kernel, by decide⟩
abbrev mX4_read : vMx := (yX4_read, cX4_read, 2, (some .boolean))
theorem gX4_read : vGood mX4_read 1 := ⟨List.mem_filter.mpr ⟨List.mem_append_right _ (List.mem_of_getElem? (i := 285) (by decide +kernel)), rfl⟩, kn_X4, by decide +kernel, by decide⟩
abbrev mX4_reckon : vMx := (yX4_reckon, cX4_reckon, 6, (some .int))
theorem gX4_reckon : vGood mX4_reckon 1 := ⟨List.mem_filter.mpr ⟨List.mem_append_right _ (List.mem_of_getElem? (i := 281) (by decide +kernel)), rfl⟩, kn_X4, by decide +kernel, by decide⟩
abbrev mX0_enact : vMx := (yX0_enact, cX0_enact, 2, (some .int))
theorem gX0_enact : vGood mX0_enact 1 := ⟨List.mem_filter.mpr ⟨List.mem_append_right _ (List.mem_of_getElem? (i := 273) (by decide +kernel)), rfl⟩, kn_X0, by decide +kernel, by decide⟩
abbrev mX0_onDay : vMx := (yX0_onDay, cX0_onDay, 4, (some .int))
theorem gX0_onDay : vGood mX0_onDay 1 := ⟨List.mem_filter.mpr ⟨List.mem_append_right _ (List.mem_of_getElem? (i := 330) (by decide +kernel)), rfl⟩, kn_X0, by decide +kernel, by decide⟩
abbrev mX4_setSizes : vMx := (yX4_setSizes, cX4_setSizes, 5, none)
theorem gX4_setSizes : vGood mX4_setSizes 4 := ⟨List.mem_filter.mpr ⟨List.mem_append_right _ (List.mem_of_getElem? (i := 354) (by decide +kernel)), rfl⟩, kn_X4, by decide +kernel, by decide⟩
abbrev mX0_tonsBy : vMx := (yX0_tonsBy, cX0_tonsBy, 6, (some .int))
theorem gX0_tonsBy : vGood mX0_tonsBy 5 := ⟨List.mem_filter.mpr ⟨List.mem_append_right _ (List.mem_of_getElem? (i := 350) (by decide +kernel)), rfl⟩, kn_X0, by decide +kernel, by decide⟩
abbrev mX0_lengthOf : vMx := (yX0_lengthOf, cX0_lengthOf, 1, (some .int))
theorem gX0_lengthOf : vGood mX0_lengthOf 1 := ⟨List.mem_filter.mpr ⟨List.mem_append_right _ (List.mem_of_getElem? (i := 369) (by decide +kernel)), rfl⟩, kn_X0, by decide +kernel, by decide⟩
abbrev mX0_breadthOf : vMx := (yX0_breadthOf, cX0_breadthOf, 1, (some .int))
theorem gX0_breadthOf : vGood mX0_breadthOf 1 := ⟨List.mem_filter.mpr ⟨List.mem_append_right _ (List.mem_of_getElem? (i := 372) (by decide +kernel)), rfl⟩, kn_X0, by decide +kernel, by decide⟩
abbrev mX0_depthOf : vMx := (yX0_depthOf, cX0_depthOf, 1, (some .int))
theorem gX0_depthOf : vGood mX0_depthOf 1 := ⟨List.mem_filter.mpr ⟨List.mem_append_right _ (List.mem_of_getElem? (i := 375) (by decide +kernel)), rfl⟩, kn_X0, by decide +kernel, by decide⟩
abbrev mX0_tonsOfShapes : vMx := (yX0_tonsOfShapes, cX0_tonsOfShapes, 4, (some (.array .int)))
theorem gX0_tonsOfShapes : vGood mX0_tonsOfShapes 1 := ⟨List.mem_filter.mpr ⟨List.mem_append_right _ (List.mem_of_getElem? (i := 366) (by decide +kernel)), rfl⟩, kn_X0, by decide +kernel, by decide⟩
abbrev mX0_leastShape : vMx := (yX0_leastShape, cX0_leastShape, 4, (some .int))
theorem gX0_leastShape : vGood mX0_leastShape 2 := ⟨List.mem_filter.mpr ⟨List.mem_append_right _ (List.mem_of_getElem? (i := 379) (by decide +kernel)), rfl⟩, kn_X0, by decide +kernel, by decide⟩
abbrev mX0_ofLeastShape : vMx := (yX0_ofLeastShape, cX0_ofLeastShape, 6, (some .int))
theorem gX0_ofLeastShape : vGood mX0_ofLeastShape 3 := ⟨List.mem_filter.mpr ⟨List.mem_append_right _ (List.mem_of_getElem? (i := 362) (by decide +kernel)), rfl⟩, kn_X0, by decide +kernel, by decide⟩
abbrev mX1_init : vMx := (yX1_init, cX1_init, 1, none)
theorem gX1_init : vGood mX1_init 0 := ⟨List.mem_filter.mpr ⟨List.mem_append_right _ (List.mem_of_getElem? (i := 82) (by decide +kernel)), rfl⟩, kn_X1, by decide +kernel, by decide⟩
abbrev mX1_size : vMx := (yX1_size, cX1_size, 1, (some .int))
theorem gX1_size : vGood mX1_size 0 := ⟨List.mem_filter.mpr ⟨List.mem_append_right _ (List.mem_of_getElem? (i := 580) (by decide +kernel)), rfl⟩, kn_X1, by decide +kernel, by decide⟩
abbrev mX1_has : vMx := (yX1_has, cX1_has, 2, (some .boolean))
theorem gX1_has : vGood mX1_has 1 := ⟨List.mem_filter.mpr ⟨List.mem_append_right _ (List.mem_of_getElem? (i := 404) (by decide +kernel)), rfl⟩, kn_X1, by decide +kernel, by decide⟩
abbrev mX1_told : vMx := (yX1_told, cX1_told, 3, (some .int))
theorem gX1_told : vGood mX1_told 2 := ⟨List.mem_filter.mpr ⟨List.mem_append_right _ (List.mem_of_getElem? (i := 414) (by decide +kernel)), rfl⟩, kn_X1, by decide +kernel, by decide⟩
abbrev mX1_setSizes : vMx := (yX1_setSizes, cX1_setSizes, 7, none)
theorem gX1_setSizes : vGood mX1_setSizes 5 := ⟨List.mem_filter.mpr ⟨List.mem_append_right _ (List.mem_of_getElem? (i := 391) (by decide +kernel)), rfl⟩, kn_X1, by decide +kernel, by decide⟩
abbrev mX1_setMeasuring : vMx := (yX1_setMeasuring, cX1_setMeasuring, 6, none)
theorem gX1_setMeasuring : vGood mX1_setMeasuring 4 := ⟨List.mem_filter.mpr ⟨List.mem_append_right _ (List.mem_of_getElem? (i := 396) (by decide +kernel)), rfl⟩, kn_X1, by decide +kernel, by decide⟩
abbrev mX1_add : vMx := (yX1_add, cX1_add, 5, (some .int))
theorem gX1_add : vGood mX1_add 4 := ⟨List.mem_filter.mpr ⟨List.mem_append_right _ (List.mem_of_getElem? (i := 387) (by decide +kernel)), rfl⟩, kn_X1, by decide +kernel, by decide⟩
abbrev mX2_account : vMx := (yX2_account, cX2_account, 2, (some .int))
theorem gX2_account : vGood mX2_account 2 := ⟨List.mem_filter.mpr ⟨List.mem_append_right _ (List.mem_of_getElem? (i := 110) (by decide +kernel)), rfl⟩, kn_X2, by decide +kernel, by decide⟩
abbrev mX2_beginAnew : vMx := (yX2_beginAnew, cX2_beginAnew, 2, none)
theorem gX2_beginAnew : vGood mX2_beginAnew 0 := ⟨List.mem_filter.mpr ⟨List.mem_append_right _ (List.mem_of_getElem? (i := 104) (by decide +kernel)), rfl⟩, kn_X2, by decide +kernel, by decide⟩
abbrev mX2_told : vMx := (yX2_told, cX2_told, 3, (some .int))
theorem gX2_told : vGood mX2_told 2 := ⟨List.mem_filter.mpr ⟨List.mem_append_right _ (List.mem_of_getElem? (i := 118) (by decide +kernel)), rfl⟩, kn_X2, by decide +kernel, by decide⟩
abbrev mX2_isForged : vMx := (yX2_isForged, cX2_isForged, 2, (some .boolean))
theorem gX2_isForged : vGood mX2_isForged 1 := ⟨List.mem_filter.mpr ⟨List.mem_append_right _ (List.mem_of_getElem? (i := 114) (by decide +kernel)), rfl⟩, kn_X2, by decide +kernel, by decide⟩
abbrev mX2_freeOf : vMx := (yX2_freeOf, cX2_freeOf, 2, (some .int))
theorem gX2_freeOf : vGood mX2_freeOf 1 := ⟨List.mem_filter.mpr ⟨List.mem_append_right _ (List.mem_of_getElem? (i := 130) (by decide +kernel)), rfl⟩, kn_X2, by decide +kernel, by decide⟩
abbrev mX2_bringParts : vMx := (yX2_bringParts, cX2_bringParts, 4, (some .boolean))
theorem gX2_bringParts : vGood mX2_bringParts 1 := ⟨List.mem_filter.mpr ⟨List.mem_append_right _ (List.mem_of_getElem? (i := 126) (by decide +kernel)), rfl⟩, kn_X2, by decide +kernel, by decide⟩
abbrev mX2_setStanding : vMx := (yX2_setStanding, cX2_setStanding, 4, none)
theorem gX2_setStanding : vGood mX2_setStanding 2 := ⟨List.mem_filter.mpr ⟨List.mem_append_right _ (List.mem_of_getElem? (i := 138) (by decide +kernel)), rfl⟩, kn_X2, by decide +kernel, by decide⟩
abbrev mX2_beginPledge : vMx := (yX2_beginPledge, cX2_beginPledge, 2, (some .boolean))
theorem gX2_beginPledge : vGood mX2_beginPledge 1 := ⟨List.mem_filter.mpr ⟨List.mem_append_right _ (List.mem_of_getElem? (i := 134) (by decide +kernel)), rfl⟩, kn_X2, by decide +kernel, by decide⟩
abbrev mX2_has : vMx := (yX2_has, cX2_has, 2, (some .boolean))
theorem gX2_has : vGood mX2_has 1 := ⟨List.mem_filter.mpr ⟨List.mem_append_right _ (List.mem_of_getElem? (i := 146) (by decide +kernel)), rfl⟩, kn_X2, by decide +kernel, by decide⟩
abbrev mX2_endPledge : vMx := (yX2_endPledge, cX2_endPledge, 2, (some .boolean))
theorem gX2_endPledge : vGood mX2_endPledge 1 := ⟨List.mem_filter.mpr ⟨List.mem_append_right _ (List.mem_of_getElem? (i := 142) (by decide +kernel)), rfl⟩, kn_X2, by decide +kernel, by decide⟩
abbrev mX2_takesEffect : vMx := (yX2_takesEffect, cX2_takesEffect, 2, (some .boolean))
theorem gX2_takesEffect : vGood mX2_takesEffect 1 := ⟨List.mem_filter.mpr ⟨List.mem_append_right _ (List.mem_of_getElem? (i := 122) (by decide +kernel)), rfl⟩, kn_X2, by decide +kernel, by decide⟩
abbrev mX2_put : vMx := (yX2_put, cX2_put, 4, none)
theorem gX2_put : vGood mX2_put 3 := ⟨List.mem_filter.mpr ⟨List.mem_append_right _ (List.mem_of_getElem? (i := 153) (by decide +kernel)), rfl⟩, kn_X2, by decide +kernel, by decide⟩
abbrev mX2_rankPledges : vMx := (yX2_rankPledges, cX2_rankPledges, 3, none)
theorem gX2_rankPledges : vGood mX2_rankPledges 0 := ⟨List.mem_filter.mpr ⟨List.mem_append_right _ (List.mem_of_getElem? (i := 157) (by decide +kernel)), rfl⟩, kn_X2, by decide +kernel, by decide⟩
abbrev mX2_goThrough : vMx := (yX2_goThrough, cX2_goThrough, 2, none)
theorem gX2_goThrough : vGood mX2_goThrough 0 := ⟨List.mem_filter.mpr ⟨List.mem_append_right _ (List.mem_of_getElem? (i := 100) (by decide +kernel)), rfl⟩, kn_X2, by decide +kernel, by decide⟩
abbrev mX2_init : vMx := (yX2_init, cX2_init, 1, none)
theorem gX2_init : vGood mX2_init 0 := ⟨List.mem_filter.mpr ⟨List.mem_append_right _ (List.mem_of_getElem? (i := 95) (by decide +kernel)), rfl⟩, kn_X2, by decide +kernel, by decide⟩
abbrev mX2_size : vMx := (yX2_size, cX2_size, 1, (some .int))
theorem gX2_size : vGood mX2_size 0 := ⟨List.mem_filter.mpr ⟨List.mem_append_right _ (List.mem_of_getElem? (i := 584) (by decide +kernel)), rfl⟩, kn_X2, by decide +kernel, by decide⟩
abbrev mX2_add : vMx := (yX2_add, cX2_add, 7, (some .int))
theorem gX2_add : vGood mX2_add 6 := ⟨List.mem_filter.mpr ⟨List.mem_append_right _ (List.mem_of_getElem? (i := 434) (by decide +kernel)), rfl⟩, kn_X2, by decide +kernel, by decide⟩
abbrev mX2_addRedeem : vMx := (yX2_addRedeem, cX2_addRedeem, 2, (some .int))
theorem gX2_addRedeem : vGood mX2_addRedeem 1 := ⟨List.mem_filter.mpr ⟨List.mem_append_right _ (List.mem_of_getElem? (i := 447) (by decide +kernel)), rfl⟩, kn_X2, by decide +kernel, by decide⟩
abbrev mX2_markForged : vMx := (yX2_markForged, cX2_markForged, 2, (some .int))
theorem gX2_markForged : vGood mX2_markForged 1 := ⟨List.mem_filter.mpr ⟨List.mem_append_right _ (List.mem_of_getElem? (i := 456) (by decide +kernel)), rfl⟩, kn_X2, by decide +kernel, by decide⟩
abbrev mX2_allParts : vMx := (yX2_allParts, cX2_allParts, 3, (some .int))
theorem gX2_allParts : vGood mX2_allParts 2 := ⟨List.mem_filter.mpr ⟨List.mem_append_right _ (List.mem_of_getElem? (i := 473) (by decide +kernel)), rfl⟩, kn_X2, by decide +kernel, by decide⟩
abbrev mX2_freeParts : vMx := (yX2_freeParts, cX2_freeParts, 3, (some .int))
theorem gX2_freeParts : vGood mX2_freeParts 2 := ⟨List.mem_filter.mpr ⟨List.mem_append_right _ (List.mem_of_getElem? (i := 469) (by decide +kernel)), rfl⟩, kn_X2, by decide +kernel, by decide⟩
abbrev mX2_partsHeld : vMx := (yX2_partsHeld, cX2_partsHeld, 3, (some .int))
theorem gX2_partsHeld : vGood mX2_partsHeld 2 := ⟨List.mem_filter.mpr ⟨List.mem_append_right _ (List.mem_of_getElem? (i := 490) (by decide +kernel)), rfl⟩, kn_X2, by decide +kernel, by decide⟩
abbrev mX2_greatestOwner : vMx := (yX2_greatestOwner, cX2_greatestOwner, 4, (some .int))
theorem gX2_greatestOwner : vGood mX2_greatestOwner 1 := ⟨List.mem_filter.mpr ⟨List.mem_append_right _ (List.mem_of_getElem? (i := 481) (by decide +kernel)), rfl⟩, kn_X2, by decide +kernel, by decide⟩
abbrev mX2_sumOf : vMx := (yX2_sumOf, cX2_sumOf, 4, (some .int))
theorem gX2_sumOf : vGood mX2_sumOf 1 := ⟨List.mem_filter.mpr ⟨List.mem_append_right _ (List.mem_of_getElem? (i := 592) (by decide +kernel)), rfl⟩, kn_X2, by decide +kernel, by decide⟩
abbrev mX2_forgedEntries : vMx := (yX2_forgedEntries, cX2_forgedEntries, 1, (some .int))
theorem gX2_forgedEntries : vGood mX2_forgedEntries 0 := ⟨List.mem_filter.mpr ⟨List.mem_append_right _ (List.mem_of_getElem? (i := 588) (by decide +kernel)), rfl⟩, kn_X2, by decide +kernel, by decide⟩
abbrev mX2_voidEntries : vMx := (yX2_voidEntries, cX2_voidEntries, 1, (some .int))
theorem gX2_voidEntries : vGood mX2_voidEntries 0 := ⟨List.mem_filter.mpr ⟨List.mem_append_right _ (List.mem_of_getElem? (i := 596) (by decide +kernel)), rfl⟩, kn_X2, by decide +kernel, by decide⟩
abbrev mX2_standingPledges : vMx := (yX2_standingPledges, cX2_standingPledges, 3, (some .int))
theorem gX2_standingPledges : vGood mX2_standingPledges 0 := ⟨List.mem_filter.mpr ⟨List.mem_append_right _ (List.mem_of_getElem? (i := 600) (by decide +kernel)), rfl⟩, kn_X2, by decide +kernel, by decide⟩
abbrev mX3_init : vMx := (yX3_init, cX3_init, 1, none)
theorem gX3_init : vGood mX3_init 0 := ⟨List.mem_filter.mpr ⟨List.mem_append_right _ (List.mem_of_getElem? (i := 191) (by decide +kernel)), rfl⟩, kn_X3, by decide +kernel, by decide⟩
abbrev mX3_size : vMx := (yX3_size, cX3_size, 1, (some .int))
theorem gX3_size : vGood mX3_size 0 := ⟨List.mem_filter.mpr ⟨List.mem_append_right _ (List.mem_of_getElem? (i := 604) (by decide +kernel)), rfl⟩, kn_X3, by decide +kernel, by decide⟩
abbrev mX3_witnesses : vMx := (yX3_witnesses, cX3_witnesses, 1, (some .int))
theorem gX3_witnesses : vGood mX3_witnesses 0 := ⟨List.mem_filter.mpr ⟨List.mem_append_right _ (List.mem_of_getElem? (i := 608) (by decide +kernel)), rfl⟩, kn_X3, by decide +kernel, by decide⟩
abbrev mX3_has : vMx := (yX3_has, cX3_has, 2, (some .boolean))
theorem gX3_has : vGood mX3_has 1 := ⟨List.mem_filter.mpr ⟨List.mem_append_right _ (List.mem_of_getElem? (i := 535) (by decide +kernel)), rfl⟩, kn_X3, by decide +kernel, by decide⟩
abbrev mX3_areTwo : vMx := (yX3_areTwo, cX3_areTwo, 3, (some .boolean))
theorem gX3_areTwo : vGood mX3_areTwo 2 := ⟨List.mem_filter.mpr ⟨List.mem_append_right _ (List.mem_of_getElem? (i := 531) (by decide +kernel)), rfl⟩, kn_X3, by decide +kernel, by decide⟩
abbrev mX3_isIn : vMx := (yX3_isIn, cX3_isIn, 2, (some .boolean))
theorem gX3_isIn : vGood mX3_isIn 2 := ⟨List.mem_filter.mpr ⟨List.mem_append_right _ (List.mem_of_getElem? (i := 543) (by decide +kernel)), rfl⟩, kn_X3, by decide +kernel, by decide⟩
abbrev mX3_mayBeOne : vMx := (yX3_mayBeOne, cX3_mayBeOne, 3, (some .boolean))
theorem gX3_mayBeOne : vGood mX3_mayBeOne 2 := ⟨List.mem_filter.mpr ⟨List.mem_append_right _ (List.mem_of_getElem? (i := 551) (by decide +kernel)), rfl⟩, kn_X3, by decide +kernel, by decide⟩
abbrev mX3_joinedGroup : vMx := (yX3_joinedGroup, cX3_joinedGroup, 2, (some .int))
theorem gX3_joinedGroup : vGood mX3_joinedGroup 1 := ⟨List.mem_filter.mpr ⟨List.mem_append_right _ (List.mem_of_getElem? (i := 560) (by decide +kernel)), rfl⟩, kn_X3, by decide +kernel, by decide⟩
abbrev mX3_joinedGroups : vMx := (yX3_joinedGroups, cX3_joinedGroups, 1, (some .int))
theorem gX3_joinedGroups : vGood mX3_joinedGroups 0 := ⟨List.mem_filter.mpr ⟨List.mem_append_right _ (List.mem_of_getElem? (i := 568) (by decide +kernel)), rfl⟩, kn_X3, by decide +kernel, by decide⟩
abbrev mX3_seemAlike : vMx := (yX3_seemAlike, cX3_seemAlike, 6, (some .boolean))
theorem gX3_seemAlike : vGood mX3_seemAlike 2 := ⟨List.mem_filter.mpr ⟨List.mem_append_right _ (List.mem_of_getElem? (i := 502) (by decide +kernel)), rfl⟩, kn_X3, by decide +kernel, by decide⟩
abbrev mX3_setLike : vMx := (yX3_setLike, cX3_setLike, 4, none)
theorem gX3_setLike : vGood mX3_setLike 3 := ⟨List.mem_filter.mpr ⟨List.mem_append_right _ (List.mem_of_getElem? (i := 506) (by decide +kernel)), rfl⟩, kn_X3, by decide +kernel, by decide⟩
abbrev mX3_placeFrom : vMx := (yX3_placeFrom, cX3_placeFrom, 6, (some .boolean))
theorem gX3_placeFrom : vGood mX3_placeFrom 3 := ⟨List.mem_filter.mpr ⟨List.mem_append_right _ (List.mem_of_getElem? (i := 515) (by decide +kernel)), rfl⟩, kn_X3, by decide +kernel, by decide⟩
abbrev mX3_placeInto : vMx := (yX3_placeInto, cX3_placeInto, 5, (some .boolean))
theorem gX3_placeInto : vGood mX3_placeInto 4 := ⟨List.mem_filter.mpr ⟨List.mem_append_right _ (List.mem_of_getElem? (i := 522) (by decide +kernel)), rfl⟩, kn_X3, by decide +kernel, by decide⟩
abbrev mX3_joinAnew : vMx := (yX3_joinAnew, cX3_joinAnew, 2, none)
theorem gX3_joinAnew : vGood mX3_joinAnew 0 := ⟨List.mem_filter.mpr ⟨List.mem_append_right _ (List.mem_of_getElem? (i := 510) (by decide +kernel)), rfl⟩, kn_X3, by decide +kernel, by decide⟩
abbrev mX3_add : vMx := (yX3_add, cX3_add, 7, (some .int))
theorem gX3_add : vGood mX3_add 5 := ⟨List.mem_filter.mpr ⟨List.mem_append_right _ (List.mem_of_getElem? (i := 498) (by decide +kernel)), rfl⟩, kn_X3, by decide +kernel, by decide⟩
abbrev mX3_hear : vMx := (yX3_hear, cX3_hear, 4, (some .int))
theorem gX3_hear : vGood mX3_hear 3 := ⟨List.mem_filter.mpr ⟨List.mem_append_right _ (List.mem_of_getElem? (i := 540) (by decide +kernel)), rfl⟩, kn_X3, by decide +kernel, by decide⟩
abbrev mX5_init : vMx := (yX5_init, cX5_init, 1, none)
theorem gX5_init : vGood mX5_init 0 := ⟨List.mem_filter.mpr ⟨List.mem_append_right _ (List.mem_of_getElem? (i := 15) (by decide +kernel)), rfl⟩, kn_X5, by decide +kernel, by decide⟩
abbrev mX5_feed : vMx := (yX5_feed, cX5_feed, 2, (some .int))
theorem gX5_feed : vGood mX5_feed 1 := ⟨List.mem_filter.mpr ⟨List.mem_append_right _ (List.mem_of_getElem? (i := 246) (by decide +kernel)), rfl⟩, kn_X5, by decide +kernel, by decide⟩
abbrev mX5_scrap : vMx := (yX5_scrap, cX5_scrap, 1, (some .int))
theorem gX5_scrap : vGood mX5_scrap 0 := ⟨List.mem_filter.mpr ⟨List.mem_append_right _ (List.mem_of_getElem? (i := 260) (by decide +kernel)), rfl⟩, kn_X5, by decide +kernel, by decide⟩
abbrev mX5_act : vMx := (yX5_act, cX5_act, 2, (some .int))
theorem gX5_act : vGood mX5_act 1 := ⟨List.mem_filter.mpr ⟨List.mem_append_right _ (List.mem_of_getElem? (i := 269) (by decide +kernel)), rfl⟩, kn_X5, by decide +kernel, by decide⟩
abbrev mX5_inForce : vMx := (yX5_inForce, cX5_inForce, 2, (some .int))
theorem gX5_inForce : vGood mX5_inForce 1 := ⟨List.mem_filter.mpr ⟨List.mem_append_right _ (List.mem_of_getElem? (i := 325) (by decide +kernel)), rfl⟩, kn_X5, by decide +kernel, by decide⟩
abbrev mX5_isMeasure : vMx := (yX5_isMeasure, cX5_isMeasure, 1, (some .boolean))
theorem gX5_isMeasure : vGood mX5_isMeasure 1 := ⟨List.mem_filter.mpr ⟨List.mem_append_right _ (List.mem_of_getElem? (i := 345) (by decide +kernel)), rfl⟩, kn_X5, by decide +kernel, by decide⟩
abbrev mX5_areSizes : vMx := (yX5_areSizes, cX5_areSizes, 4, (some .boolean))
theorem gX5_areSizes : vGood mX5_areSizes 4 := ⟨List.mem_filter.mpr ⟨List.mem_append_right _ (List.mem_of_getElem? (i := 342) (by decide +kernel)), rfl⟩, kn_X5, by decide +kernel, by decide⟩
abbrev mX5_tons : vMx := (yX5_tons, cX5_tons, 6, (some .int))
theorem gX5_tons : vGood mX5_tons 5 := ⟨List.mem_filter.mpr ⟨List.mem_append_right _ (List.mem_of_getElem? (i := 334) (by decide +kernel)), rfl⟩, kn_X5, by decide +kernel, by decide⟩
abbrev mX5_shape : vMx := (yX5_shape, cX5_shape, 4, (some .int))
theorem gX5_shape : vGood mX5_shape 3 := ⟨List.mem_filter.mpr ⟨List.mem_append_right _ (List.mem_of_getElem? (i := 358) (by decide +kernel)), rfl⟩, kn_X5, by decide +kernel, by decide⟩
abbrev mX5_hull : vMx := (yX5_hull, cX5_hull, 5, (some .int))
theorem gX5_hull : vGood mX5_hull 4 := ⟨List.mem_filter.mpr ⟨List.mem_append_right _ (List.mem_of_getElem? (i := 383) (by decide +kernel)), rfl⟩, kn_X5, by decide +kernel, by decide⟩
abbrev mX5_alter : vMx := (yX5_alter, cX5_alter, 6, (some .int))
theorem gX5_alter : vGood mX5_alter 5 := ⟨List.mem_filter.mpr ⟨List.mem_append_right _ (List.mem_of_getElem? (i := 400) (by decide +kernel)), rfl⟩, kn_X5, by decide +kernel, by decide⟩
abbrev mX5_measure : vMx := (yX5_measure, cX5_measure, 5, (some .int))
theorem gX5_measure : vGood mX5_measure 2 := ⟨List.mem_filter.mpr ⟨List.mem_append_right _ (List.mem_of_getElem? (i := 410) (by decide +kernel)), rfl⟩, kn_X5, by decide +kernel, by decide⟩
abbrev mX5_of : vMx := (yX5_of, cX5_of, 3, (some .int))
theorem gX5_of : vGood mX5_of 2 := ⟨List.mem_filter.mpr ⟨List.mem_append_right _ (List.mem_of_getElem? (i := 419) (by decide +kernel)), rfl⟩, kn_X5, by decide +kernel, by decide⟩
abbrev mX5_isPerson : vMx := (yX5_isPerson, cX5_isPerson, 1, (some .boolean))
theorem gX5_isPerson : vGood mX5_isPerson 1 := ⟨List.mem_filter.mpr ⟨List.mem_append_right _ (List.mem_of_getElem? (i := 430) (by decide +kernel)), rfl⟩, kn_X5, by decide +kernel, by decide⟩
abbrev mX5_enter : vMx := (yX5_enter, cX5_enter, 6, (some .int))
theorem gX5_enter : vGood mX5_enter 5 := ⟨List.mem_filter.mpr ⟨List.mem_append_right _ (List.mem_of_getElem? (i := 427) (by decide +kernel)), rfl⟩, kn_X5, by decide +kernel, by decide⟩
abbrev mX5_sell : vMx := (yX5_sell, cX5_sell, 5, (some .int))
theorem gX5_sell : vGood mX5_sell 4 := ⟨List.mem_filter.mpr ⟨List.mem_append_right _ (List.mem_of_getElem? (i := 423) (by decide +kernel)), rfl⟩, kn_X5, by decide +kernel, by decide⟩
abbrev mX5_pledge : vMx := (yX5_pledge, cX5_pledge, 5, (some .int))
theorem gX5_pledge : vGood mX5_pledge 4 := ⟨List.mem_filter.mpr ⟨List.mem_append_right _ (List.mem_of_getElem? (i := 438) (by decide +kernel)), rfl⟩, kn_X5, by decide +kernel, by decide⟩
abbrev mX5_redeem : vMx := (yX5_redeem, cX5_redeem, 2, (some .int))
theorem gX5_redeem : vGood mX5_redeem 1 := ⟨List.mem_filter.mpr ⟨List.mem_append_right _ (List.mem_of_getElem? (i := 442) (by decide +kernel)), rfl⟩, kn_X5, by decide +kernel, by decide⟩
abbrev mX5_forge : vMx := (yX5_forge, cX5_forge, 2, (some .int))
theorem gX5_forge : vGood mX5_forge 1 := ⟨List.mem_filter.mpr ⟨List.mem_append_right _ (List.mem_of_getElem? (i := 452) (by decide +kernel)), rfl⟩, kn_X5, by decide +kernel, by decide⟩
abbrev mX5_entry : vMx := (yX5_entry, cX5_entry, 3, (some .int))
theorem gX5_entry : vGood mX5_entry 2 := ⟨List.mem_filter.mpr ⟨List.mem_append_right _ (List.mem_of_getElem? (i := 460) (by decide +kernel)), rfl⟩, kn_X5, by decide +kernel, by decide⟩
abbrev mX5_parts : vMx := (yX5_parts, cX5_parts, 4, (some .int))
theorem gX5_parts : vGood mX5_parts 3 := ⟨List.mem_filter.mpr ⟨List.mem_append_right _ (List.mem_of_getElem? (i := 465) (by decide +kernel)), rfl⟩, kn_X5, by decide +kernel, by decide⟩
abbrev mX5_manager : vMx := (yX5_manager, cX5_manager, 2, (some .int))
theorem gX5_manager : vGood mX5_manager 1 := ⟨List.mem_filter.mpr ⟨List.mem_append_right _ (List.mem_of_getElem? (i := 477) (by decide +kernel)), rfl⟩, kn_X5, by decide +kernel, by decide⟩
abbrev mX5_held : vMx := (yX5_held, cX5_held, 3, (some .int))
theorem gX5_held : vGood mX5_held 2 := ⟨List.mem_filter.mpr ⟨List.mem_append_right _ (List.mem_of_getElem? (i := 486) (by decide +kernel)), rfl⟩, kn_X5, by decide +kernel, by decide⟩
abbrev mX5_paper : vMx := (yX5_paper, cX5_paper, 6, (some .int))
theorem gX5_paper : vGood mX5_paper 5 := ⟨List.mem_filter.mpr ⟨List.mem_append_right _ (List.mem_of_getElem? (i := 494) (by decide +kernel)), rfl⟩, kn_X5, by decide +kernel, by decide⟩
abbrev mX5_witness : vMx := (yX5_witness, cX5_witness, 4, (some .int))
theorem gX5_witness : vGood mX5_witness 3 := ⟨List.mem_filter.mpr ⟨List.mem_append_right _ (List.mem_of_getElem? (i := 527) (by decide +kernel)), rfl⟩, kn_X5, by decide +kernel, by decide⟩
abbrev mX5_alike : vMx := (yX5_alike, cX5_alike, 3, (some .int))
theorem gX5_alike : vGood mX5_alike 2 := ⟨List.mem_filter.mpr ⟨List.mem_append_right _ (List.mem_of_getElem? (i := 547) (by decide +kernel)), rfl⟩, kn_X5, by decide +kernel, by decide⟩
abbrev mX5_group : vMx := (yX5_group, cX5_group, 2, (some .int))
theorem gX5_group : vGood mX5_group 1 := ⟨List.mem_filter.mpr ⟨List.mem_append_right _ (List.mem_of_getElem? (i := 555) (by decide +kernel)), rfl⟩, kn_X5, by decide +kernel, by decide⟩
abbrev mX5_groups : vMx := (yX5_groups, cX5_groups, 1, (some .int))
theorem gX5_groups : vGood mX5_groups 0 := ⟨List.mem_filter.mpr ⟨List.mem_append_right _ (List.mem_of_getElem? (i := 564) (by decide +kernel)), rfl⟩, kn_X5, by decide +kernel, by decide⟩
abbrev mX5_many : vMx := (yX5_many, cX5_many, 2, (some .int))
theorem gX5_many : vGood mX5_many 1 := ⟨List.mem_filter.mpr ⟨List.mem_append_right _ (List.mem_of_getElem? (i := 572) (by decide +kernel)), rfl⟩, kn_X5, by decide +kernel, by decide⟩
abbrev mX6_init : vMx := (yX6_init, cX6_init, 1, none)
theorem gX6_init : vGood mX6_init 0 := ⟨List.mem_filter.mpr ⟨List.mem_append_right _ (List.mem_of_getElem? (i := 617) (by decide +kernel)), rfl⟩, kn_X6, by decide +kernel, by decide⟩
abbrev mX6_in : vMx := (yX6_in, cX6_in, 3, (some .boolean))
theorem gX6_in : vGood mX6_in 3 := ⟨List.mem_filter.mpr ⟨List.mem_append_right _ (List.mem_of_getElem? (i := 733) (by decide +kernel)), rfl⟩, kn_X6, by decide +kernel, by decide⟩
abbrev mX6_feed : vMx := (yX6_feed, cX6_feed, 4, (some .int))
theorem gX6_feed : vGood mX6_feed 1 := ⟨List.mem_filter.mpr ⟨List.mem_append_right _ (List.mem_of_getElem? (i := 722) (by decide +kernel)), rfl⟩, kn_X6, by decide +kernel, by decide⟩
abbrev mX6_scrap : vMx := (yX6_scrap, cX6_scrap, 2, (some .int))
theorem gX6_scrap : vGood mX6_scrap 0 := ⟨List.mem_filter.mpr ⟨List.mem_append_right _ (List.mem_of_getElem? (i := 726) (by decide +kernel)), rfl⟩, kn_X6, by decide +kernel, by decide⟩
abbrev mX6_isFigure : vMx := (yX6_isFigure, cX6_isFigure, 1, (some .boolean))
theorem gX6_isFigure : vGood mX6_isFigure 1 := ⟨List.mem_filter.mpr ⟨List.mem_append_right _ (List.mem_of_getElem? (i := 743) (by decide +kernel)), rfl⟩, kn_X6, by decide +kernel, by decide⟩
abbrev mX6_takes : vMx := (yX6_takes, cX6_takes, 1, (some .int))
theorem gX6_takes : vGood mX6_takes 1 := ⟨List.mem_filter.mpr ⟨List.mem_append_right _ (List.mem_of_getElem? (i := 740) (by decide +kernel)), rfl⟩, kn_X6, by decide +kernel, by decide⟩
abbrev mX6_isGood : vMx := (yX6_isGood, cX6_isGood, 6, (some .boolean))
theorem gX6_isGood : vGood mX6_isGood 0 := ⟨List.mem_filter.mpr ⟨List.mem_append_right _ (List.mem_of_getElem? (i := 737) (by decide +kernel)), rfl⟩, kn_X6, by decide +kernel, by decide⟩
abbrev mX6_act : vMx := (yX6_act, cX6_act, 3, (some .int))
theorem gX6_act : vGood mX6_act 1 := ⟨List.mem_filter.mpr ⟨List.mem_append_right _ (List.mem_of_getElem? (i := 730) (by decide +kernel)), rfl⟩, kn_X6, by decide +kernel, by decide⟩
abbrev mX6_isAct : vMx := (yX6_isAct, cX6_isAct, 2, (some .boolean))
theorem gX6_isAct : vGood mX6_isAct 1 := ⟨List.mem_filter.mpr ⟨List.mem_append_right _ (List.mem_of_getElem? (i := 759) (by decide +kernel)), rfl⟩, kn_X6, by decide +kernel, by decide⟩
abbrev mX6_forceOn : vMx := (yX6_forceOn, cX6_forceOn, 4, (some .int))
theorem gX6_forceOn : vGood mX6_forceOn 1 := ⟨List.mem_filter.mpr ⟨List.mem_append_right _ (List.mem_of_getElem? (i := 751) (by decide +kernel)), rfl⟩, kn_X6, by decide +kernel, by decide⟩
abbrev mX6_inForce : vMx := (yX6_inForce, cX6_inForce, 2, (some .int))
theorem gX6_inForce : vGood mX6_inForce 1 := ⟨List.mem_filter.mpr ⟨List.mem_append_right _ (List.mem_of_getElem? (i := 747) (by decide +kernel)), rfl⟩, kn_X6, by decide +kernel, by decide⟩
abbrev mX6_push : vMx := (yX6_push, cX6_push, 3, none)
theorem gX6_push : vGood mX6_push 1 := ⟨List.mem_filter.mpr ⟨List.mem_append_right _ (List.mem_of_getElem? (i := 772) (by decide +kernel)), rfl⟩, kn_X6, by decide +kernel, by decide⟩
abbrev mX6_combine : vMx := (yX6_combine, cX6_combine, 6, none)
theorem gX6_combine : vGood mX6_combine 1 := ⟨List.mem_filter.mpr ⟨List.mem_append_right _ (List.mem_of_getElem? (i := 780) (by decide +kernel)), rfl⟩, kn_X6, by decide +kernel, by decide⟩
abbrev mX6_tonsBy : vMx := (yX6_tonsBy, cX6_tonsBy, 9, (some .int))
theorem gX6_tonsBy : vGood mX6_tonsBy 5 := ⟨List.mem_filter.mpr ⟨List.mem_append_right _ (List.mem_of_getElem? (i := 766) (by decide +kernel)), rfl⟩, kn_X6, by decide +kernel, by decide⟩
abbrev mX6_areSizes : vMx := (yX6_areSizes, cX6_areSizes, 4, (some .boolean))
theorem gX6_areSizes : vGood mX6_areSizes 4 := ⟨List.mem_filter.mpr ⟨List.mem_append_right _ (List.mem_of_getElem? (i := 762) (by decide +kernel)), rfl⟩, kn_X6, by decide +kernel, by decide⟩
abbrev mX6_tons : vMx := (yX6_tons, cX6_tons, 6, (some .int))
theorem gX6_tons : vGood mX6_tons 5 := ⟨List.mem_filter.mpr ⟨List.mem_append_right _ (List.mem_of_getElem? (i := 755) (by decide +kernel)), rfl⟩, kn_X6, by decide +kernel, by decide⟩
abbrev mX6_shape : vMx := (yX6_shape, cX6_shape, 10, (some .int))
theorem gX6_shape : vGood mX6_shape 3 := ⟨List.mem_filter.mpr ⟨List.mem_append_right _ (List.mem_of_getElem? (i := 785) (by decide +kernel)), rfl⟩, kn_X6, by decide +kernel, by decide⟩
abbrev mX6_isHull : vMx := (yX6_isHull, cX6_isHull, 2, (some .boolean))
theorem gX6_isHull : vGood mX6_isHull 1 := ⟨List.mem_filter.mpr ⟨List.mem_append_right _ (List.mem_of_getElem? (i := 802) (by decide +kernel)), rfl⟩, kn_X6, by decide +kernel, by decide⟩
abbrev mX6_put : vMx := (yX6_put, cX6_put, 6, none)
theorem gX6_put : vGood mX6_put 5 := ⟨List.mem_filter.mpr ⟨List.mem_append_right _ (List.mem_of_getElem? (i := 794) (by decide +kernel)), rfl⟩, kn_X6, by decide +kernel, by decide⟩
abbrev mX6_hull : vMx := (yX6_hull, cX6_hull, 5, (some .int))
theorem gX6_hull : vGood mX6_hull 4 := ⟨List.mem_filter.mpr ⟨List.mem_append_right _ (List.mem_of_getElem? (i := 790) (by decide +kernel)), rfl⟩, kn_X6, by decide +kernel, by decide⟩
abbrev mX6_alter : vMx := (yX6_alter, cX6_alter, 6, (some .int))
theorem gX6_alter : vGood mX6_alter 5 := ⟨List.mem_filter.mpr ⟨List.mem_append_right _ (List.mem_of_getElem? (i := 798) (by decide +kernel)), rfl⟩, kn_X6, by decide +kernel, by decide⟩
abbrev mX6_measure : vMx := (yX6_measure, cX6_measure, 4, (some .int))
theorem gX6_measure : vGood mX6_measure 2 := ⟨List.mem_filter.mpr ⟨List.mem_append_right _ (List.mem_of_getElem? (i := 806) (by decide +kernel)), rfl⟩, kn_X6, by decide +kernel, by decide⟩
abbrev mX6_of : vMx := (yX6_of, cX6_of, 3, (some .int))
theorem gX6_of : vGood mX6_of 2 := ⟨List.mem_filter.mpr ⟨List.mem_append_right _ (List.mem_of_getElem? (i := 810) (by decide +kernel)), rfl⟩, kn_X6, by decide +kernel, by decide⟩
abbrev mX6_isPerson : vMx := (yX6_isPerson, cX6_isPerson, 1, (some .boolean))
theorem gX6_isPerson : vGood mX6_isPerson 1 := ⟨List.mem_filter.mpr ⟨List.mem_append_right _ (List.mem_of_getElem? (i := 821) (by decide +kernel)), rfl⟩, kn_X6, by decide +kernel, by decide⟩
abbrev mX6_isEntry : vMx := (yX6_isEntry, cX6_isEntry, 2, (some .boolean))
theorem gX6_isEntry : vGood mX6_isEntry 1 := ⟨List.mem_filter.mpr ⟨List.mem_append_right _ (List.mem_of_getElem? (i := 837) (by decide +kernel)), rfl⟩, kn_X6, by decide +kernel, by decide⟩
abbrev mX6_enter : vMx := (yX6_enter, cX6_enter, 7, (some .int))
theorem gX6_enter : vGood mX6_enter 6 := ⟨List.mem_filter.mpr ⟨List.mem_append_right _ (List.mem_of_getElem? (i := 825) (by decide +kernel)), rfl⟩, kn_X6, by decide +kernel, by decide⟩
abbrev mX6_deal : vMx := (yX6_deal, cX6_deal, 6, (some .int))
theorem gX6_deal : vGood mX6_deal 5 := ⟨List.mem_filter.mpr ⟨List.mem_append_right _ (List.mem_of_getElem? (i := 818) (by decide +kernel)), rfl⟩, kn_X6, by decide +kernel, by decide⟩
abbrev mX6_sell : vMx := (yX6_sell, cX6_sell, 5, (some .int))
theorem gX6_sell : vGood mX6_sell 4 := ⟨List.mem_filter.mpr ⟨List.mem_append_right _ (List.mem_of_getElem? (i := 814) (by decide +kernel)), rfl⟩, kn_X6, by decide +kernel, by decide⟩
abbrev mX6_pledge : vMx := (yX6_pledge, cX6_pledge, 5, (some .int))
theorem gX6_pledge : vGood mX6_pledge 4 := ⟨List.mem_filter.mpr ⟨List.mem_append_right _ (List.mem_of_getElem? (i := 829) (by decide +kernel)), rfl⟩, kn_X6, by decide +kernel, by decide⟩
abbrev mX6_redeem : vMx := (yX6_redeem, cX6_redeem, 2, (some .int))
theorem gX6_redeem : vGood mX6_redeem 1 := ⟨List.mem_filter.mpr ⟨List.mem_append_right _ (List.mem_of_getElem? (i := 833) (by decide +kernel)), rfl⟩, kn_X6, by decide +kernel, by decide⟩
abbrev mX6_forge : vMx := (yX6_forge, cX6_forge, 2, (some .int))
theorem gX6_forge : vGood mX6_forge 1 := ⟨List.mem_filter.mpr ⟨List.mem_append_right _ (List.mem_of_getElem? (i := 841) (by decide +kernel)), rfl⟩, kn_X6, by decide +kernel, by decide⟩
abbrev mX6_does : vMx := (yX6_does, cX6_does, 5, none)
theorem gX6_does : vGood mX6_does 1 := ⟨List.mem_filter.mpr ⟨List.mem_append_right _ (List.mem_of_getElem? (i := 853) (by decide +kernel)), rfl⟩, kn_X6, by decide +kernel, by decide⟩
abbrev mX6_goThrough : vMx := (yX6_goThrough, cX6_goThrough, 2, none)
theorem gX6_goThrough : vGood mX6_goThrough 0 := ⟨List.mem_filter.mpr ⟨List.mem_append_right _ (List.mem_of_getElem? (i := 849) (by decide +kernel)), rfl⟩, kn_X6, by decide +kernel, by decide⟩
abbrev mX6_rankOf : vMx := (yX6_rankOf, cX6_rankOf, 4, (some .int))
theorem gX6_rankOf : vGood mX6_rankOf 1 := ⟨List.mem_filter.mpr ⟨List.mem_append_right _ (List.mem_of_getElem? (i := 857) (by decide +kernel)), rfl⟩, kn_X6, by decide +kernel, by decide⟩
abbrev mX6_entry : vMx := (yX6_entry, cX6_entry, 3, (some .int))
theorem gX6_entry : vGood mX6_entry 2 := ⟨List.mem_filter.mpr ⟨List.mem_append_right _ (List.mem_of_getElem? (i := 845) (by decide +kernel)), rfl⟩, kn_X6, by decide +kernel, by decide⟩
abbrev mX6_parts : vMx := (yX6_parts, cX6_parts, 5, (some .int))
theorem gX6_parts : vGood mX6_parts 3 := ⟨List.mem_filter.mpr ⟨List.mem_append_right _ (List.mem_of_getElem? (i := 861) (by decide +kernel)), rfl⟩, kn_X6, by decide +kernel, by decide⟩
abbrev mX6_manager : vMx := (yX6_manager, cX6_manager, 4, (some .int))
theorem gX6_manager : vGood mX6_manager 1 := ⟨List.mem_filter.mpr ⟨List.mem_append_right _ (List.mem_of_getElem? (i := 865) (by decide +kernel)), rfl⟩, kn_X6, by decide +kernel, by decide⟩
abbrev mX6_held : vMx := (yX6_held, cX6_held, 5, (some .int))
theorem gX6_held : vGood mX6_held 2 := ⟨List.mem_filter.mpr ⟨List.mem_append_right _ (List.mem_of_getElem? (i := 869) (by decide +kernel)), rfl⟩, kn_X6, by decide +kernel, by decide⟩
abbrev mX6_isPaper : vMx := (yX6_isPaper, cX6_isPaper, 2, (some .boolean))
theorem gX6_isPaper : vGood mX6_isPaper 1 := ⟨List.mem_filter.mpr ⟨List.mem_append_right _ (List.mem_of_getElem? (i := 881) (by decide +kernel)), rfl⟩, kn_X6, by decide +kernel, by decide⟩
abbrev mX6_paper : vMx := (yX6_paper, cX6_paper, 7, (some .int))
theorem gX6_paper : vGood mX6_paper 5 := ⟨List.mem_filter.mpr ⟨List.mem_append_right _ (List.mem_of_getElem? (i := 873) (by decide +kernel)), rfl⟩, kn_X6, by decide +kernel, by decide⟩
abbrev mX6_witnessOf : vMx := (yX6_witnessOf, cX6_witnessOf, 4, (some .int))
theorem gX6_witnessOf : vGood mX6_witnessOf 2 := ⟨List.mem_filter.mpr ⟨List.mem_append_right _ (List.mem_of_getElem? (i := 885) (by decide +kernel)), rfl⟩, kn_X6, by decide +kernel, by decide⟩
abbrev mX6_witness : vMx := (yX6_witness, cX6_witness, 4, (some .int))
theorem gX6_witness : vGood mX6_witness 3 := ⟨List.mem_filter.mpr ⟨List.mem_append_right _ (List.mem_of_getElem? (i := 877) (by decide +kernel)), rfl⟩, kn_X6, by decide +kernel, by decide⟩
abbrev mX6_areAlike : vMx := (yX6_areAlike, cX6_areAlike, 9, (some .boolean))
theorem gX6_areAlike : vGood mX6_areAlike 2 := ⟨List.mem_filter.mpr ⟨List.mem_append_right _ (List.mem_of_getElem? (i := 893) (by decide +kernel)), rfl⟩, kn_X6, by decide +kernel, by decide⟩
abbrev mX6_alike : vMx := (yX6_alike, cX6_alike, 3, (some .int))
theorem gX6_alike : vGood mX6_alike 2 := ⟨List.mem_filter.mpr ⟨List.mem_append_right _ (List.mem_of_getElem? (i := 889) (by decide +kernel)), rfl⟩, kn_X6, by decide +kernel, by decide⟩
abbrev mX6_mayJoin : vMx := (yX6_mayJoin, cX6_mayJoin, 3, (some .boolean))
theorem gX6_mayJoin : vGood mX6_mayJoin 1 := ⟨List.mem_filter.mpr ⟨List.mem_append_right _ (List.mem_of_getElem? (i := 909) (by decide +kernel)), rfl⟩, kn_X6, by decide +kernel, by decide⟩
abbrev mX6_findJoining : vMx := (yX6_findJoining, cX6_findJoining, 4, (some .boolean))
theorem gX6_findJoining : vGood mX6_findJoining 1 := ⟨List.mem_filter.mpr ⟨List.mem_append_right _ (List.mem_of_getElem? (i := 905) (by decide +kernel)), rfl⟩, kn_X6, by decide +kernel, by decide⟩
abbrev mX6_join : vMx := (yX6_join, cX6_join, 2, (some .int))
theorem gX6_join : vGood mX6_join 0 := ⟨List.mem_filter.mpr ⟨List.mem_append_right _ (List.mem_of_getElem? (i := 901) (by decide +kernel)), rfl⟩, kn_X6, by decide +kernel, by decide⟩
abbrev mX6_group : vMx := (yX6_group, cX6_group, 3, (some .int))
theorem gX6_group : vGood mX6_group 1 := ⟨List.mem_filter.mpr ⟨List.mem_append_right _ (List.mem_of_getElem? (i := 897) (by decide +kernel)), rfl⟩, kn_X6, by decide +kernel, by decide⟩
abbrev mX6_groups : vMx := (yX6_groups, cX6_groups, 1, (some .int))
theorem gX6_groups : vGood mX6_groups 0 := ⟨List.mem_filter.mpr ⟨List.mem_append_right _ (List.mem_of_getElem? (i := 913) (by decide +kernel)), rfl⟩, kn_X6, by decide +kernel, by decide⟩
abbrev mX6_entriesThat : vMx := (yX6_entriesThat, cX6_entriesThat, 4, (some .int))
theorem gX6_entriesThat : vGood mX6_entriesThat 1 := ⟨List.mem_filter.mpr ⟨List.mem_append_right _ (List.mem_of_getElem? (i := 921) (by decide +kernel)), rfl⟩, kn_X6, by decide +kernel, by decide⟩
abbrev mX6_standing : vMx := (yX6_standing, cX6_standing, 3, (some .int))
theorem gX6_standing : vGood mX6_standing 0 := ⟨List.mem_filter.mpr ⟨List.mem_append_right _ (List.mem_of_getElem? (i := 925) (by decide +kernel)), rfl⟩, kn_X6, by decide +kernel, by decide⟩
abbrev mX6_many : vMx := (yX6_many, cX6_many, 2, (some .int))
theorem gX6_many : vGood mX6_many 1 := ⟨List.mem_filter.mpr ⟨List.mem_append_right _ (List.mem_of_getElem? (i := 917) (by decide +kernel)), rfl⟩, kn_X6, by decide +kernel, by decide⟩
abbrev mJ9_max_7cf53 : vMx := (yJ9_max_7cf53, cJ9_max_7cf53, 2, (some .int))
theorem gJ9_max_7cf53 : vGood mJ9_max_7cf53 2 := ⟨List.mem_filter.mpr ⟨List.mem_append_right _ (List.mem_of_getElem? (i := 301) (by decide +kernel)), rfl⟩, kn_J9, by decide +kernel, by decide⟩
abbrev mJ9_min_7cf53 : vMx := (yJ9_min_7cf53, cJ9_min_7cf53, 2, (some .int))
theorem gJ9_min_7cf53 : vGood mJ9_min_7cf53 2 := ⟨List.mem_filter.mpr ⟨List.mem_append_right _ (List.mem_of_getElem? (i := 518) (by decide +kernel)), rfl⟩, kn_J9, by decide +kernel, by decide⟩
end
section
def vEq (r0 : Option Value) (F0 : vFt) (A0 : vAt) : Option Value → vFt → vAt → Prop := fun r F Ar => r = r0 ∧ F = F0 ∧ Ar = A0
theorem vEq.rf {r : Option Value} {F : vFt} {Ar : vAt} : vEq r F Ar r F Ar := ⟨rfl, rfl, rfl⟩
/-- a truth value as a number -/
def vB (p : Prop) [Decidable p] : Int32 := if p then 1 else 0
theorem vB_t {p : Prop} [Decidable p] (h : p) : vB p = 1 := if_pos h
theorem vB_f {p : Prop} [Decidable p] (h : ¬ p) : vB p = 0 := if_neg h
theorem vB_0 {p : Prop} [Decidable p] : vB p = 0 ↔ ¬ p := by
  unfold vB
  split <;> simp_all
theorem vB_n0 {p : Prop} [Decidable p] : ¬ vB p = 0 ↔ p := by
  unfold vB
  split <;> simp_all
theorem vB_nar {p : Prop} [Decidable p] : narrow .boolean (.int (vB p)) = .int (vB p) := by
  unfold vB
  split <;> rfl
theorem vB_vnar {p : Prop} [Decidable p] : vp_nar .boolean (vB p) = vB p := by
  unfold vB
  split <;> rfl
theorem vB_congr {p q : Prop} [Decidable p] [Decidable q] (h : p ↔ q) : vB p = vB q := by
  unfold vB
  by_cases hp : p
  · rw [if_pos hp, if_pos (h.mp hp)]
  · rw [if_neg hp, if_neg (fun z => hp (h.mpr z))]
section
variable {κ : vK} {M N : vMx} {pc q : Nat} {ls rest : List Value} {F F' : vFt} {Ar Ar' : vAt} {x : vXt} {Q : Option Value → vFt → vAt → Prop} {dd d' o n index : Nat}
theorem V_cV0 (hC : C0 N d' [.ref o] F Ar x Q) (hB : vBig κ dd) (hd : d' < dd) (hG : vGood N 0) (hl : Cond.methodLink M.1.cls index N.1 ∈ lw_good) (hi : Cond.instanceMethod N.1 ∈ lw_good) (hs : Cond.selects N.1.cls N.1 N.1 ∈ lw_good) (ho : o < 7) (hcls : vR o = N.1.cls) (hW : (rest.map fun v => v.category).sum ≤ 8) (d : decode M.2.1 pc = .ok (.invokevirtual index, 3)) (hq : pc + 3 = q) (k : ∀ r F' Ar', Q r F' Ar' → V κ M q ls (r.toList ++ rest) F' Ar' x) : V κ M pc ls (.ref o :: rest) F Ar x := V_callV (As := []) hC hB hd hG hl hi hs ho hcls rfl hW d hq k
theorem V_cV0I {v : Int32} (hC : C0 N d' [.ref o] F Ar x (vEq (some (.int v)) F' Ar')) (hB : vBig κ dd) (hd : d' < dd) (hG : vGood N 0) (hl : Cond.methodLink M.1.cls index N.1 ∈ lw_good) (hi : Cond.instanceMethod N.1 ∈ lw_good) (hs : Cond.selects N.1.cls N.1 N.1 ∈ lw_good) (ho : o < 7) (hcls : vR o = N.1.cls) (hW : (rest.map fun v => v.category).sum ≤ 8) (d : decode M.2.1 pc = .ok (.invokevirtual index, 3)) (hq : pc + 3 = q) (k : V κ M q ls (.int v :: rest) F' Ar' x) : V κ M pc ls (.ref o :: rest) F Ar x := V_callV (As := []) hC hB hd hG hl hi hs ho hcls rfl hW d hq (fun _ _ _ h => by obtain ⟨rfl, rfl, rfl⟩ := h; exact k)
theorem V_cV0L {v : Int64} (hC : C0 N d' [.ref o] F Ar x (vEq (some (.long v)) F' Ar')) (hB : vBig κ dd) (hd : d' < dd) (hG : vGood N 0) (hl : Cond.methodLink M.1.cls index N.1 ∈ lw_good) (hi : Cond.instanceMethod N.1 ∈ lw_good) (hs : Cond.selects N.1.cls N.1 N.1 ∈ lw_good) (ho : o < 7) (hcls : vR o = N.1.cls) (hW : (rest.map fun v => v.category).sum ≤ 8) (d : decode M.2.1 pc = .ok (.invokevirtual index, 3)) (hq : pc + 3 = q) (k : V κ M q ls (.long v :: rest) F' Ar' x) : V κ M pc ls (.ref o :: rest) F Ar x := V_callV (As := []) hC hB hd hG hl hi hs ho hcls rfl hW d hq (fun _ _ _ h => by obtain ⟨rfl, rfl, rfl⟩ := h; exact k)
theorem V_cV0U (hC : C0 N d' [.ref o] F Ar x (vEq none F' Ar')) (hB : vBig κ dd) (hd : d' < dd) (hG : vGood N 0) (hl : Cond.methodLink M.1.cls index N.1 ∈ lw_good) (hi : Cond.instanceMethod N.1 ∈ lw_good) (hs : Cond.selects N.1.cls N.1 N.1 ∈ lw_good) (ho : o < 7) (hcls : vR o = N.1.cls) (hW : (rest.map fun v => v.category).sum ≤ 8) (d : decode M.2.1 pc = .ok (.invokevirtual index, 3)) (hq : pc + 3 = q) (k : V κ M q ls (rest) F' Ar' x) : V κ M pc ls (.ref o :: rest) F Ar x := V_callV (As := []) hC hB hd hG hl hi hs ho hcls rfl hW d hq (fun _ _ _ h => by obtain ⟨rfl, rfl, rfl⟩ := h; exact k)
theorem V_cS0 (hC : C0 N d' [] F Ar x Q) (hB : vBig κ dd) (hd : d' < dd) (hG : vGood N 0) (hl : Cond.methodLink M.1.cls index N.1 ∈ lw_good) (hi : Cond.static N.1 ∈ lw_good) (hW : (rest.map fun v => v.category).sum ≤ 8) (d : decode M.2.1 pc = .ok (.invokestatic index, 3)) (hq : pc + 3 = q) (k : ∀ r F' Ar', Q r F' Ar' → V κ M q ls (r.toList ++ rest) F' Ar' x) : V κ M pc ls (rest) F Ar x := V_callS (As := []) hC hB hd hG hl hi rfl hW d hq k
theorem V_cS0I {v : Int32} (hC : C0 N d' [] F Ar x (vEq (some (.int v)) F' Ar')) (hB : vBig κ dd) (hd : d' < dd) (hG : vGood N 0) (hl : Cond.methodLink M.1.cls index N.1 ∈ lw_good) (hi : Cond.static N.1 ∈ lw_good) (hW : (rest.map fun v => v.category).sum ≤ 8) (d : decode M.2.1 pc = .ok (.invokestatic index, 3)) (hq : pc + 3 = q) (k : V κ M q ls (.int v :: rest) F' Ar' x) : V κ M pc ls (rest) F Ar x := V_callS (As := []) hC hB hd hG hl hi rfl hW d hq (fun _ _ _ h => by obtain ⟨rfl, rfl, rfl⟩ := h; exact k)
theorem V_cS0L {v : Int64} (hC : C0 N d' [] F Ar x (vEq (some (.long v)) F' Ar')) (hB : vBig κ dd) (hd : d' < dd) (hG : vGood N 0) (hl : Cond.methodLink M.1.cls index N.1 ∈ lw_good) (hi : Cond.static N.1 ∈ lw_good) (hW : (rest.map fun v => v.category).sum ≤ 8) (d : decode M.2.1 pc = .ok (.invokestatic index, 3)) (hq : pc + 3 = q) (k : V κ M q ls (.long v :: rest) F' Ar' x) : V κ M pc ls (rest) F Ar x := V_callS (As := []) hC hB hd hG hl hi rfl hW d hq (fun _ _ _ h => by obtain ⟨rfl, rfl, rfl⟩ := h; exact k)
theorem V_cS0U (hC : C0 N d' [] F Ar x (vEq none F' Ar')) (hB : vBig κ dd) (hd : d' < dd) (hG : vGood N 0) (hl : Cond.methodLink M.1.cls index N.1 ∈ lw_good) (hi : Cond.static N.1 ∈ lw_good) (hW : (rest.map fun v => v.category).sum ≤ 8) (d : decode M.2.1 pc = .ok (.invokestatic index, 3)) (hq : pc + 3 = q) (k : V κ M q ls (rest) F' Ar' x) : V κ M pc ls (rest) F Ar x := V_callS (As := []) hC hB hd hG hl hi rfl hW d hq (fun _ _ _ h => by obtain ⟨rfl, rfl, rfl⟩ := h; exact k)
theorem V_cV1 {a1 : Value} (hC : C0 N d' [.ref o, a1] F Ar x Q) (hB : vBig κ dd) (hd : d' < dd) (hG : vGood N 1) (hl : Cond.methodLink M.1.cls index N.1 ∈ lw_good) (hi : Cond.instanceMethod N.1 ∈ lw_good) (hs : Cond.selects N.1.cls N.1 N.1 ∈ lw_good) (ho : o < 7) (hcls : vR o = N.1.cls) (hW : (rest.map fun v => v.category).sum ≤ 8) (d : decode M.2.1 pc = .ok (.invokevirtual index, 3)) (hq : pc + 3 = q) (k : ∀ r F' Ar', Q r F' Ar' → V κ M q ls (r.toList ++ rest) F' Ar' x) : V κ M pc ls (a1 :: .ref o :: rest) F Ar x := V_callV (As := [a1]) hC hB hd hG hl hi hs ho hcls rfl hW d hq k
theorem V_cV1I {a1 : Value} {v : Int32} (hC : C0 N d' [.ref o, a1] F Ar x (vEq (some (.int v)) F' Ar')) (hB : vBig κ dd) (hd : d' < dd) (hG : vGood N 1) (hl : Cond.methodLink M.1.cls index N.1 ∈ lw_good) (hi : Cond.instanceMethod N.1 ∈ lw_good) (hs : Cond.selects N.1.cls N.1 N.1 ∈ lw_good) (ho : o < 7) (hcls : vR o = N.1.cls) (hW : (rest.map fun v => v.category).sum ≤ 8) (d : decode M.2.1 pc = .ok (.invokevirtual index, 3)) (hq : pc + 3 = q) (k : V κ M q ls (.int v :: rest) F' Ar' x) : V κ M pc ls (a1 :: .ref o :: rest) F Ar x := V_callV (As := [a1]) hC hB hd hG hl hi hs ho hcls rfl hW d hq (fun _ _ _ h => by obtain ⟨rfl, rfl, rfl⟩ := h; exact k)
theorem V_cV1L {a1 : Value} {v : Int64} (hC : C0 N d' [.ref o, a1] F Ar x (vEq (some (.long v)) F' Ar')) (hB : vBig κ dd) (hd : d' < dd) (hG : vGood N 1) (hl : Cond.methodLink M.1.cls index N.1 ∈ lw_good) (hi : Cond.instanceMethod N.1 ∈ lw_good) (hs : Cond.selects N.1.cls N.1 N.1 ∈ lw_good) (ho : o < 7) (hcls : vR o = N.1.cls) (hW : (rest.map fun v => v.category).sum ≤ 8) (d : decode M.2.1 pc = .ok (.invokevirtual index, 3)) (hq : pc + 3 = q) (k : V κ M q ls (.long v :: rest) F' Ar' x) : V κ M pc ls (a1 :: .ref o :: rest) F Ar x := V_callV (As := [a1]) hC hB hd hG hl hi hs ho hcls rfl hW d hq (fun _ _ _ h => by obtain ⟨rfl, rfl, rfl⟩ := h; exact k)
theorem V_cV1U {a1 : Value} (hC : C0 N d' [.ref o, a1] F Ar x (vEq none F' Ar')) (hB : vBig κ dd) (hd : d' < dd) (hG : vGood N 1) (hl : Cond.methodLink M.1.cls index N.1 ∈ lw_good) (hi : Cond.instanceMethod N.1 ∈ lw_good) (hs : Cond.selects N.1.cls N.1 N.1 ∈ lw_good) (ho : o < 7) (hcls : vR o = N.1.cls) (hW : (rest.map fun v => v.category).sum ≤ 8) (d : decode M.2.1 pc = .ok (.invokevirtual index, 3)) (hq : pc + 3 = q) (k : V κ M q ls (rest) F' Ar' x) : V κ M pc ls (a1 :: .ref o :: rest) F Ar x := V_callV (As := [a1]) hC hB hd hG hl hi hs ho hcls rfl hW d hq (fun _ _ _ h => by obtain ⟨rfl, rfl, rfl⟩ := h; exact k)
theorem V_cS1 {a1 : Value} (hC : C0 N d' [a1] F Ar x Q) (hB : vBig κ dd) (hd : d' < dd) (hG : vGood N 1) (hl : Cond.methodLink M.1.cls index N.1 ∈ lw_good) (hi : Cond.static N.1 ∈ lw_good) (hW : (rest.map fun v => v.category).sum ≤ 8) (d : decode M.2.1 pc = .ok (.invokestatic index, 3)) (hq : pc + 3 = q) (k : ∀ r F' Ar', Q r F' Ar' → V κ M q ls (r.toList ++ rest) F' Ar' x) : V κ M pc ls (a1 :: rest) F Ar x := V_callS (As := [a1]) hC hB hd hG hl hi rfl hW d hq k
theorem V_cS1I {a1 : Value} {v : Int32} (hC : C0 N d' [a1] F Ar x (vEq (some (.int v)) F' Ar')) (hB : vBig κ dd) (hd : d' < dd) (hG : vGood N 1) (hl : Cond.methodLink M.1.cls index N.1 ∈ lw_good) (hi : Cond.static N.1 ∈ lw_good) (hW : (rest.map fun v => v.category).sum ≤ 8) (d : decode M.2.1 pc = .ok (.invokestatic index, 3)) (hq : pc + 3 = q) (k : V κ M q ls (.int v :: rest) F' Ar' x) : V κ M pc ls (a1 :: rest) F Ar x := V_callS (As := [a1]) hC hB hd hG hl hi rfl hW d hq (fun _ _ _ h => by obtain ⟨rfl, rfl, rfl⟩ := h; exact k)
theorem V_cS1L {a1 : Value} {v : Int64} (hC : C0 N d' [a1] F Ar x (vEq (some (.long v)) F' Ar')) (hB : vBig κ dd) (hd : d' < dd) (hG : vGood N 1) (hl : Cond.methodLink M.1.cls index N.1 ∈ lw_good) (hi : Cond.static N.1 ∈ lw_good) (hW : (rest.map fun v => v.category).sum ≤ 8) (d : decode M.2.1 pc = .ok (.invokestatic index, 3)) (hq : pc + 3 = q) (k : V κ M q ls (.long v :: rest) F' Ar' x) : V κ M pc ls (a1 :: rest) F Ar x := V_callS (As := [a1]) hC hB hd hG hl hi rfl hW d hq (fun _ _ _ h => by obtain ⟨rfl, rfl, rfl⟩ := h; exact k)
theorem V_cS1U {a1 : Value} (hC : C0 N d' [a1] F Ar x (vEq none F' Ar')) (hB : vBig κ dd) (hd : d' < dd) (hG : vGood N 1) (hl : Cond.methodLink M.1.cls index N.1 ∈ lw_good) (hi : Cond.static N.1 ∈ lw_good) (hW : (rest.map fun v => v.category).sum ≤ 8) (d : decode M.2.1 pc = .ok (.invokestatic index, 3)) (hq : pc + 3 = q) (k : V κ M q ls (rest) F' Ar' x) : V κ M pc ls (a1 :: rest) F Ar x := V_callS (As := [a1]) hC hB hd hG hl hi rfl hW d hq (fun _ _ _ h => by obtain ⟨rfl, rfl, rfl⟩ := h; exact k)
theorem V_cV2 {a1 a2 : Value} (hC : C0 N d' [.ref o, a1, a2] F Ar x Q) (hB : vBig κ dd) (hd : d' < dd) (hG : vGood N 2) (hl : Cond.methodLink M.1.cls index N.1 ∈ lw_good) (hi : Cond.instanceMethod N.1 ∈ lw_good) (hs : Cond.selects N.1.cls N.1 N.1 ∈ lw_good) (ho : o < 7) (hcls : vR o = N.1.cls) (hW : (rest.map fun v => v.category).sum ≤ 8) (d : decode M.2.1 pc = .ok (.invokevirtual index, 3)) (hq : pc + 3 = q) (k : ∀ r F' Ar', Q r F' Ar' → V κ M q ls (r.toList ++ rest) F' Ar' x) : V κ M pc ls (a2 :: a1 :: .ref o :: rest) F Ar x := V_callV (As := [a1, a2]) hC hB hd hG hl hi hs ho hcls rfl hW d hq k
theorem V_cV2I {a1 a2 : Value} {v : Int32} (hC : C0 N d' [.ref o, a1, a2] F Ar x (vEq (some (.int v)) F' Ar')) (hB : vBig κ dd) (hd : d' < dd) (hG : vGood N 2) (hl : Cond.methodLink M.1.cls index N.1 ∈ lw_good) (hi : Cond.instanceMethod N.1 ∈ lw_good) (hs : Cond.selects N.1.cls N.1 N.1 ∈ lw_good) (ho : o < 7) (hcls : vR o = N.1.cls) (hW : (rest.map fun v => v.category).sum ≤ 8) (d : decode M.2.1 pc = .ok (.invokevirtual index, 3)) (hq : pc + 3 = q) (k : V κ M q ls (.int v :: rest) F' Ar' x) : V κ M pc ls (a2 :: a1 :: .ref o :: rest) F Ar x := V_callV (As := [a1, a2]) hC hB hd hG hl hi hs ho hcls rfl hW d hq (fun _ _ _ h => by obtain ⟨rfl, rfl, rfl⟩ := h; exact k)
theorem V_cV2L {a1 a2 : Value} {v : Int64} (hC : C0 N d' [.ref o, a1, a2] F Ar x (vEq (some (.long v)) F' Ar')) (hB : vBig κ dd) (hd : d' < dd) (hG : vGood N 2) (hl : Cond.methodLink M.1.cls index N.1 ∈ lw_good) (hi : Cond.instanceMethod N.1 ∈ lw_good) (hs : Cond.selects N.1.cls N.1 N.1 ∈ lw_good) (ho : o < 7) (hcls : vR o = N.1.cls) (hW : (rest.map fun v => v.category).sum ≤ 8) (d : decode M.2.1 pc = .ok (.invokevirtual index, 3)) (hq : pc + 3 = q) (k : V κ M q ls (.long v :: rest) F' Ar' x) : V κ M pc ls (a2 :: a1 :: .ref o :: rest) F Ar x := V_callV (As := [a1, a2]) hC hB hd hG hl hi hs ho hcls rfl hW d hq (fun _ _ _ h => by obtain ⟨rfl, rfl, rfl⟩ := h; exact k)
theorem V_cV2U {a1 a2 : Value} (hC : C0 N d' [.ref o, a1, a2] F Ar x (vEq none F' Ar')) (hB : vBig κ dd) (hd : d' < dd) (hG : vGood N 2) (hl : Cond.methodLink M.1.cls index N.1 ∈ lw_good) (hi : Cond.instanceMethod N.1 ∈ lw_good) (hs : Cond.selects N.1.cls N.1 N.1 ∈ lw_good) (ho : o < 7) (hcls : vR o = N.1.cls) (hW : (rest.map fun v => v.category).sum ≤ 8) (d : decode M.2.1 pc = .ok (.invokevirtual index, 3)) (hq : pc + 3 = q) (k : V κ M q ls (rest) F' Ar' x) : V κ M pc ls (a2 :: a1 :: .ref o :: rest) F Ar x := V_callV (As := [a1, a2]) hC hB hd hG hl hi hs ho hcls rfl hW d hq (fun _ _ _ h => by obtain ⟨rfl, rfl, rfl⟩ := h; exact k)
theorem V_cS2 {a1 a2 : Value} (hC : C0 N d' [a1, a2] F Ar x Q) (hB : vBig κ dd) (hd : d' < dd) (hG : vGood N 2) (hl : Cond.methodLink M.1.cls index N.1 ∈ lw_good) (hi : Cond.static N.1 ∈ lw_good) (hW : (rest.map fun v => v.category).sum ≤ 8) (d : decode M.2.1 pc = .ok (.invokestatic index, 3)) (hq : pc + 3 = q) (k : ∀ r F' Ar', Q r F' Ar' → V κ M q ls (r.toList ++ rest) F' Ar' x) : V κ M pc ls (a2 :: a1 :: rest) F Ar x := V_callS (As := [a1, a2]) hC hB hd hG hl hi rfl hW d hq k
theorem V_cS2I {a1 a2 : Value} {v : Int32} (hC : C0 N d' [a1, a2] F Ar x (vEq (some (.int v)) F' Ar')) (hB : vBig κ dd) (hd : d' < dd) (hG : vGood N 2) (hl : Cond.methodLink M.1.cls index N.1 ∈ lw_good) (hi : Cond.static N.1 ∈ lw_good) (hW : (rest.map fun v => v.category).sum ≤ 8) (d : decode M.2.1 pc = .ok (.invokestatic index, 3)) (hq : pc + 3 = q) (k : V κ M q ls (.int v :: rest) F' Ar' x) : V κ M pc ls (a2 :: a1 :: rest) F Ar x := V_callS (As := [a1, a2]) hC hB hd hG hl hi rfl hW d hq (fun _ _ _ h => by obtain ⟨rfl, rfl, rfl⟩ := h; exact k)
theorem V_cS2L {a1 a2 : Value} {v : Int64} (hC : C0 N d' [a1, a2] F Ar x (vEq (some (.long v)) F' Ar')) (hB : vBig κ dd) (hd : d' < dd) (hG : vGood N 2) (hl : Cond.methodLink M.1.cls index N.1 ∈ lw_good) (hi : Cond.static N.1 ∈ lw_good) (hW : (rest.map fun v => v.category).sum ≤ 8) (d : decode M.2.1 pc = .ok (.invokestatic index, 3)) (hq : pc + 3 = q) (k : V κ M q ls (.long v :: rest) F' Ar' x) : V κ M pc ls (a2 :: a1 :: rest) F Ar x := V_callS (As := [a1, a2]) hC hB hd hG hl hi rfl hW d hq (fun _ _ _ h => by obtain ⟨rfl, rfl, rfl⟩ := h; exact k)
theorem V_cS2U {a1 a2 : Value} (hC : C0 N d' [a1, a2] F Ar x (vEq none F' Ar')) (hB : vBig κ dd) (hd : d' < dd) (hG : vGood N 2) (hl : Cond.methodLink M.1.cls index N.1 ∈ lw_good) (hi : Cond.static N.1 ∈ lw_good) (hW : (rest.map fun v => v.category).sum ≤ 8) (d : decode M.2.1 pc = .ok (.invokestatic index, 3)) (hq : pc + 3 = q) (k : V κ M q ls (rest) F' Ar' x) : V κ M pc ls (a2 :: a1 :: rest) F Ar x := V_callS (As := [a1, a2]) hC hB hd hG hl hi rfl hW d hq (fun _ _ _ h => by obtain ⟨rfl, rfl, rfl⟩ := h; exact k)
theorem V_cV3 {a1 a2 a3 : Value} (hC : C0 N d' [.ref o, a1, a2, a3] F Ar x Q) (hB : vBig κ dd) (hd : d' < dd) (hG : vGood N 3) (hl : Cond.methodLink M.1.cls index N.1 ∈ lw_good) (hi : Cond.instanceMethod N.1 ∈ lw_good) (hs : Cond.selects N.1.cls N.1 N.1 ∈ lw_good) (ho : o < 7) (hcls : vR o = N.1.cls) (hW : (rest.map fun v => v.category).sum ≤ 8) (d : decode M.2.1 pc = .ok (.invokevirtual index, 3)) (hq : pc + 3 = q) (k : ∀ r F' Ar', Q r F' Ar' → V κ M q ls (r.toList ++ rest) F' Ar' x) : V κ M pc ls (a3 :: a2 :: a1 :: .ref o :: rest) F Ar x := V_callV (As := [a1, a2, a3]) hC hB hd hG hl hi hs ho hcls rfl hW d hq k
theorem V_cV3I {a1 a2 a3 : Value} {v : Int32} (hC : C0 N d' [.ref o, a1, a2, a3] F Ar x (vEq (some (.int v)) F' Ar')) (hB : vBig κ dd) (hd : d' < dd) (hG : vGood N 3) (hl : Cond.methodLink M.1.cls index N.1 ∈ lw_good) (hi : Cond.instanceMethod N.1 ∈ lw_good) (hs : Cond.selects N.1.cls N.1 N.1 ∈ lw_good) (ho : o < 7) (hcls : vR o = N.1.cls) (hW : (rest.map fun v => v.category).sum ≤ 8) (d : decode M.2.1 pc = .ok (.invokevirtual index, 3)) (hq : pc + 3 = q) (k : V κ M q ls (.int v :: rest) F' Ar' x) : V κ M pc ls (a3 :: a2 :: a1 :: .ref o :: rest) F Ar x := V_callV (As := [a1, a2, a3]) hC hB hd hG hl hi hs ho hcls rfl hW d hq (fun _ _ _ h => by obtain ⟨rfl, rfl, rfl⟩ := h; exact k)
theorem V_cV3L {a1 a2 a3 : Value} {v : Int64} (hC : C0 N d' [.ref o, a1, a2, a3] F Ar x (vEq (some (.long v)) F' Ar')) (hB : vBig κ dd) (hd : d' < dd) (hG : vGood N 3) (hl : Cond.methodLink M.1.cls index N.1 ∈ lw_good) (hi : Cond.instanceMethod N.1 ∈ lw_good) (hs : Cond.selects N.1.cls N.1 N.1 ∈ lw_good) (ho : o < 7) (hcls : vR o = N.1.cls) (hW : (rest.map fun v => v.category).sum ≤ 8) (d : decode M.2.1 pc = .ok (.invokevirtual index, 3)) (hq : pc + 3 = q) (k : V κ M q ls (.long v :: rest) F' Ar' x) : V κ M pc ls (a3 :: a2 :: a1 :: .ref o :: rest) F Ar x := V_callV (As := [a1, a2, a3]) hC hB hd hG hl hi hs ho hcls rfl hW d hq (fun _ _ _ h => by obtain ⟨rfl, rfl, rfl⟩ := h; exact k)
theorem V_cV3U {a1 a2 a3 : Value} (hC : C0 N d' [.ref o, a1, a2, a3] F Ar x (vEq none F' Ar')) (hB : vBig κ dd) (hd : d' < dd) (hG : vGood N 3) (hl : Cond.methodLink M.1.cls index N.1 ∈ lw_good) (hi : Cond.instanceMethod N.1 ∈ lw_good) (hs : Cond.selects N.1.cls N.1 N.1 ∈ lw_good) (ho : o < 7) (hcls : vR o = N.1.cls) (hW : (rest.map fun v => v.category).sum ≤ 8) (d : decode M.2.1 pc = .ok (.invokevirtual index, 3)) (hq : pc + 3 = q) (k : V κ M q ls (rest) F' Ar' x) : V κ M pc ls (a3 :: a2 :: a1 :: .ref o :: rest) F Ar x := V_callV (As := [a1, a2, a3]) hC hB hd hG hl hi hs ho hcls rfl hW d hq (fun _ _ _ h => by obtain ⟨rfl, rfl, rfl⟩ := h; exact k)
theorem V_cS3 {a1 a2 a3 : Value} (hC : C0 N d' [a1, a2, a3] F Ar x Q) (hB : vBig κ dd) (hd : d' < dd) (hG : vGood N 3) (hl : Cond.methodLink M.1.cls index N.1 ∈ lw_good) (hi : Cond.static N.1 ∈ lw_good) (hW : (rest.map fun v => v.category).sum ≤ 8) (d : decode M.2.1 pc = .ok (.invokestatic index, 3)) (hq : pc + 3 = q) (k : ∀ r F' Ar', Q r F' Ar' → V κ M q ls (r.toList ++ rest) F' Ar' x) : V κ M pc ls (a3 :: a2 :: a1 :: rest) F Ar x := V_callS (As := [a1, a2, a3]) hC hB hd hG hl hi rfl hW d hq k
theorem V_cS3I {a1 a2 a3 : Value} {v : Int32} (hC : C0 N d' [a1, a2, a3] F Ar x (vEq (some (.int v)) F' Ar')) (hB : vBig κ dd) (hd : d' < dd) (hG : vGood N 3) (hl : Cond.methodLink M.1.cls index N.1 ∈ lw_good) (hi : Cond.static N.1 ∈ lw_good) (hW : (rest.map fun v => v.category).sum ≤ 8) (d : decode M.2.1 pc = .ok (.invokestatic index, 3)) (hq : pc + 3 = q) (k : V κ M q ls (.int v :: rest) F' Ar' x) : V κ M pc ls (a3 :: a2 :: a1 :: rest) F Ar x := V_callS (As := [a1, a2, a3]) hC hB hd hG hl hi rfl hW d hq (fun _ _ _ h => by obtain ⟨rfl, rfl, rfl⟩ := h; exact k)
theorem V_cS3L {a1 a2 a3 : Value} {v : Int64} (hC : C0 N d' [a1, a2, a3] F Ar x (vEq (some (.long v)) F' Ar')) (hB : vBig κ dd) (hd : d' < dd) (hG : vGood N 3) (hl : Cond.methodLink M.1.cls index N.1 ∈ lw_good) (hi : Cond.static N.1 ∈ lw_good) (hW : (rest.map fun v => v.category).sum ≤ 8) (d : decode M.2.1 pc = .ok (.invokestatic index, 3)) (hq : pc + 3 = q) (k : V κ M q ls (.long v :: rest) F' Ar' x) : V κ M pc ls (a3 :: a2 :: a1 :: rest) F Ar x := V_callS (As := [a1, a2, a3]) hC hB hd hG hl hi rfl hW d hq (fun _ _ _ h => by obtain ⟨rfl, rfl, rfl⟩ := h; exact k)
theorem V_cS3U {a1 a2 a3 : Value} (hC : C0 N d' [a1, a2, a3] F Ar x (vEq none F' Ar')) (hB : vBig κ dd) (hd : d' < dd) (hG : vGood N 3) (hl : Cond.methodLink M.1.cls index N.1 ∈ lw_good) (hi : Cond.static N.1 ∈ lw_good) (hW : (rest.map fun v => v.category).sum ≤ 8) (d : decode M.2.1 pc = .ok (.invokestatic index, 3)) (hq : pc + 3 = q) (k : V κ M q ls (rest) F' Ar' x) : V κ M pc ls (a3 :: a2 :: a1 :: rest) F Ar x := V_callS (As := [a1, a2, a3]) hC hB hd hG hl hi rfl hW d hq (fun _ _ _ h => by obtain ⟨rfl, rfl, rfl⟩ := h; exact k)
theorem V_cV4 {a1 a2 a3 a4 : Value} (hC : C0 N d' [.ref o, a1, a2, a3, a4] F Ar x Q) (hB : vBig κ dd) (hd : d' < dd) (hG : vGood N 4) (hl : Cond.methodLink M.1.cls index N.1 ∈ lw_good) (hi : Cond.instanceMethod N.1 ∈ lw_good) (hs : Cond.selects N.1.cls N.1 N.1 ∈ lw_good) (ho : o < 7) (hcls : vR o = N.1.cls) (hW : (rest.map fun v => v.category).sum ≤ 8) (d : decode M.2.1 pc = .ok (.invokevirtual index, 3)) (hq : pc + 3 = q) (k : ∀ r F' Ar', Q r F' Ar' → V κ M q ls (r.toList ++ rest) F' Ar' x) : V κ M pc ls (a4 :: a3 :: a2 :: a1 :: .ref o :: rest) F Ar x := V_callV (As := [a1, a2, a3, a4]) hC hB hd hG hl hi hs ho hcls rfl hW d hq k
theorem V_cV4I {a1 a2 a3 a4 : Value} {v : Int32} (hC : C0 N d' [.ref o, a1, a2, a3, a4] F Ar x (vEq (some (.int v)) F' Ar')) (hB : vBig κ dd) (hd : d' < dd) (hG : vGood N 4) (hl : Cond.methodLink M.1.cls index N.1 ∈ lw_good) (hi : Cond.instanceMethod N.1 ∈ lw_good) (hs : Cond.selects N.1.cls N.1 N.1 ∈ lw_good) (ho : o < 7) (hcls : vR o = N.1.cls) (hW : (rest.map fun v => v.category).sum ≤ 8) (d : decode M.2.1 pc = .ok (.invokevirtual index, 3)) (hq : pc + 3 = q) (k : V κ M q ls (.int v :: rest) F' Ar' x) : V κ M pc ls (a4 :: a3 :: a2 :: a1 :: .ref o :: rest) F Ar x := V_callV (As := [a1, a2, a3, a4]) hC hB hd hG hl hi hs ho hcls rfl hW d hq (fun _ _ _ h => by obtain ⟨rfl, rfl, rfl⟩ := h; exact k)
theorem V_cV4L {a1 a2 a3 a4 : Value} {v : Int64} (hC : C0 N d' [.ref o, a1, a2, a3, a4] F Ar x (vEq (some (.long v)) F' Ar')) (hB : vBig κ dd) (hd : d' < dd) (hG : vGood N 4) (hl : Cond.methodLink M.1.cls index N.1 ∈ lw_good) (hi : Cond.instanceMethod N.1 ∈ lw_good) (hs : Cond.selects N.1.cls N.1 N.1 ∈ lw_good) (ho : o < 7) (hcls : vR o = N.1.cls) (hW : (rest.map fun v => v.category).sum ≤ 8) (d : decode M.2.1 pc = .ok (.invokevirtual index, 3)) (hq : pc + 3 = q) (k : V κ M q ls (.long v :: rest) F' Ar' x) : V κ M pc ls (a4 :: a3 :: a2 :: a1 :: .ref o :: rest) F Ar x := V_callV (As := [a1, a2, a3, a4]) hC hB hd hG hl hi hs ho hcls rfl hW d hq (fun _ _ _ h => by obtain ⟨rfl, rfl, rfl⟩ := h; exact k)
theorem V_cV4U {a1 a2 a3 a4 : Value} (hC : C0 N d' [.ref o, a1, a2, a3, a4] F Ar x (vEq none F' Ar')) (hB : vBig κ dd) (hd : d' < dd) (hG : vGood N 4) (hl : Cond.methodLink M.1.cls index N.1 ∈ lw_good) (hi : Cond.instanceMethod N.1 ∈ lw_good) (hs : Cond.selects N.1.cls N.1 N.1 ∈ lw_good) (ho : o < 7) (hcls : vR o = N.1.cls) (hW : (rest.map fun v => v.category).sum ≤ 8) (d : decode M.2.1 pc = .ok (.invokevirtual index, 3)) (hq : pc + 3 = q) (k : V κ M q ls (rest) F' Ar' x) : V κ M pc ls (a4 :: a3 :: a2 :: a1 :: .ref o :: rest) F Ar x := V_callV (As := [a1, a2, a3, a4]) hC hB hd hG hl hi hs ho hcls rfl hW d hq (fun _ _ _ h => by obtain ⟨rfl, rfl, rfl⟩ := h; exact k)
theorem V_cS4 {a1 a2 a3 a4 : Value} (hC : C0 N d' [a1, a2, a3, a4] F Ar x Q) (hB : vBig κ dd) (hd : d' < dd) (hG : vGood N 4) (hl : Cond.methodLink M.1.cls index N.1 ∈ lw_good) (hi : Cond.static N.1 ∈ lw_good) (hW : (rest.map fun v => v.category).sum ≤ 8) (d : decode M.2.1 pc = .ok (.invokestatic index, 3)) (hq : pc + 3 = q) (k : ∀ r F' Ar', Q r F' Ar' → V κ M q ls (r.toList ++ rest) F' Ar' x) : V κ M pc ls (a4 :: a3 :: a2 :: a1 :: rest) F Ar x := V_callS (As := [a1, a2, a3, a4]) hC hB hd hG hl hi rfl hW d hq k
theorem V_cS4I {a1 a2 a3 a4 : Value} {v : Int32} (hC : C0 N d' [a1, a2, a3, a4] F Ar x (vEq (some (.int v)) F' Ar')) (hB : vBig κ dd) (hd : d' < dd) (hG : vGood N 4) (hl : Cond.methodLink M.1.cls index N.1 ∈ lw_good) (hi : Cond.static N.1 ∈ lw_good) (hW : (rest.map fun v => v.category).sum ≤ 8) (d : decode M.2.1 pc = .ok (.invokestatic index, 3)) (hq : pc + 3 = q) (k : V κ M q ls (.int v :: rest) F' Ar' x) : V κ M pc ls (a4 :: a3 :: a2 :: a1 :: rest) F Ar x := V_callS (As := [a1, a2, a3, a4]) hC hB hd hG hl hi rfl hW d hq (fun _ _ _ h => by obtain ⟨rfl, rfl, rfl⟩ := h; exact k)
theorem V_cS4L {a1 a2 a3 a4 : Value} {v : Int64} (hC : C0 N d' [a1, a2, a3, a4] F Ar x (vEq (some (.long v)) F' Ar')) (hB : vBig κ dd) (hd : d' < dd) (hG : vGood N 4) (hl : Cond.methodLink M.1.cls index N.1 ∈ lw_good) (hi : Cond.static N.1 ∈ lw_good) (hW : (rest.map fun v => v.category).sum ≤ 8) (d : decode M.2.1 pc = .ok (.invokestatic index, 3)) (hq : pc + 3 = q) (k : V κ M q ls (.long v :: rest) F' Ar' x) : V κ M pc ls (a4 :: a3 :: a2 :: a1 :: rest) F Ar x := V_callS (As := [a1, a2, a3, a4]) hC hB hd hG hl hi rfl hW d hq (fun _ _ _ h => by obtain ⟨rfl, rfl, rfl⟩ := h; exact k)
theorem V_cS4U {a1 a2 a3 a4 : Value} (hC : C0 N d' [a1, a2, a3, a4] F Ar x (vEq none F' Ar')) (hB : vBig κ dd) (hd : d' < dd) (hG : vGood N 4) (hl : Cond.methodLink M.1.cls index N.1 ∈ lw_good) (hi : Cond.static N.1 ∈ lw_good) (hW : (rest.map fun v => v.category).sum ≤ 8) (d : decode M.2.1 pc = .ok (.invokestatic index, 3)) (hq : pc + 3 = q) (k : V κ M q ls (rest) F' Ar' x) : V κ M pc ls (a4 :: a3 :: a2 :: a1 :: rest) F Ar x := V_callS (As := [a1, a2, a3, a4]) hC hB hd hG hl hi rfl hW d hq (fun _ _ _ h => by obtain ⟨rfl, rfl, rfl⟩ := h; exact k)
theorem V_cV5 {a1 a2 a3 a4 a5 : Value} (hC : C0 N d' [.ref o, a1, a2, a3, a4, a5] F Ar x Q) (hB : vBig κ dd) (hd : d' < dd) (hG : vGood N 5) (hl : Cond.methodLink M.1.cls index N.1 ∈ lw_good) (hi : Cond.instanceMethod N.1 ∈ lw_good) (hs : Cond.selects N.1.cls N.1 N.1 ∈ lw_good) (ho : o < 7) (hcls : vR o = N.1.cls) (hW : (rest.map fun v => v.category).sum ≤ 8) (d : decode M.2.1 pc = .ok (.invokevirtual index, 3)) (hq : pc + 3 = q) (k : ∀ r F' Ar', Q r F' Ar' → V κ M q ls (r.toList ++ rest) F' Ar' x) : V κ M pc ls (a5 :: a4 :: a3 :: a2 :: a1 :: .ref o :: rest) F Ar x := V_callV (As := [a1, a2, a3, a4, a5]) hC hB hd hG hl hi hs ho hcls rfl hW d hq k
theorem V_cV5I {a1 a2 a3 a4 a5 : Value} {v : Int32} (hC : C0 N d' [.ref o, a1, a2, a3, a4, a5] F Ar x (vEq (some (.int v)) F' Ar')) (hB : vBig κ dd) (hd : d' < dd) (hG : vGood N 5) (hl : Cond.methodLink M.1.cls index N.1 ∈ lw_good) (hi : Cond.instanceMethod N.1 ∈ lw_good) (hs : Cond.selects N.1.cls N.1 N.1 ∈ lw_good) (ho : o < 7) (hcls : vR o = N.1.cls) (hW : (rest.map fun v => v.category).sum ≤ 8) (d : decode M.2.1 pc = .ok (.invokevirtual index, 3)) (hq : pc + 3 = q) (k : V κ M q ls (.int v :: rest) F' Ar' x) : V κ M pc ls (a5 :: a4 :: a3 :: a2 :: a1 :: .ref o :: rest) F Ar x := V_callV (As := [a1, a2, a3, a4, a5]) hC hB hd hG hl hi hs ho hcls rfl hW d hq (fun _ _ _ h => by obtain ⟨rfl, rfl, rfl⟩ := h; exact k)
theorem V_cV5L {a1 a2 a3 a4 a5 : Value} {v : Int64} (hC : C0 N d' [.ref o, a1, a2, a3, a4, a5] F Ar x (vEq (some (.long v)) F' Ar')) (hB : vBig κ dd) (hd : d' < dd) (hG : vGood N 5) (hl : Cond.methodLink M.1.cls index N.1 ∈ lw_good) (hi : Cond.instanceMethod N.1 ∈ lw_good) (hs : Cond.selects N.1.cls N.1 N.1 ∈ lw_good) (ho : o < 7) (hcls : vR o = N.1.cls) (hW : (rest.map fun v => v.category).sum ≤ 8) (d : decode M.2.1 pc = .ok (.invokevirtual index, 3)) (hq : pc + 3 = q) (k : V κ M q ls (.long v :: rest) F' Ar' x) : V κ M pc ls (a5 :: a4 :: a3 :: a2 :: a1 :: .ref o :: rest) F Ar x := V_callV (As := [a1, a2, a3, a4, a5]) hC hB hd hG hl hi hs ho hcls rfl hW d hq (fun _ _ _ h => by obtain ⟨rfl, rfl, rfl⟩ := h; exact k)
theorem V_cV5U {a1 a2 a3 a4 a5 : Value} (hC : C0 N d' [.ref o, a1, a2, a3, a4, a5] F Ar x (vEq none F' Ar')) (hB : vBig κ dd) (hd : d' < dd) (hG : vGood N 5) (hl : Cond.methodLink M.1.cls index N.1 ∈ lw_good) (hi : Cond.instanceMethod N.1 ∈ lw_good) (hs : Cond.selects N.1.cls N.1 N.1 ∈ lw_good) (ho : o < 7) (hcls : vR o = N.1.cls) (hW : (rest.map fun v => v.category).sum ≤ 8) (d : decode M.2.1 pc = .ok (.invokevirtual index, 3)) (hq : pc + 3 = q) (k : V κ M q ls (rest) F' Ar' x) : V κ M pc ls (a5 :: a4 :: a3 :: a2 :: a1 :: .ref o :: rest) F Ar x := V_callV (As := [a1, a2, a3, a4, a5]) hC hB hd hG hl hi hs ho hcls rfl hW d hq (fun _ _ _ h => by obtain ⟨rfl, rfl, rfl⟩ := h; exact k)
theorem V_cS5 {a1 a2 a3 a4 a5 : Value} (hC : C0 N d' [a1, a2, a3, a4, a5] F Ar x Q) (hB : vBig κ dd) (hd : d' < dd) (hG : vGood N 5) (hl : Cond.methodLink M.1.cls index N.1 ∈ lw_good) (hi : Cond.static N.1 ∈ lw_good) (hW : (rest.map fun v => v.category).sum ≤ 8) (d : decode M.2.1 pc = .ok (.invokestatic index, 3)) (hq : pc + 3 = q) (k : ∀ r F' Ar', Q r F' Ar' → V κ M q ls (r.toList ++ rest) F' Ar' x) : V κ M pc ls (a5 :: a4 :: a3 :: a2 :: a1 :: rest) F Ar x := V_callS (As := [a1, a2, a3, a4, a5]) hC hB hd hG hl hi rfl hW d hq k
theorem V_cS5I {a1 a2 a3 a4 a5 : Value} {v : Int32} (hC : C0 N d' [a1, a2, a3, a4, a5] F Ar x (vEq (some (.int v)) F' Ar')) (hB : vBig κ dd) (hd : d' < dd) (hG : vGood N 5) (hl : Cond.methodLink M.1.cls index N.1 ∈ lw_good) (hi : Cond.static N.1 ∈ lw_good) (hW : (rest.map fun v => v.category).sum ≤ 8) (d : decode M.2.1 pc = .ok (.invokestatic index, 3)) (hq : pc + 3 = q) (k : V κ M q ls (.int v :: rest) F' Ar' x) : V κ M pc ls (a5 :: a4 :: a3 :: a2 :: a1 :: rest) F Ar x := V_callS (As := [a1, a2, a3, a4, a5]) hC hB hd hG hl hi rfl hW d hq (fun _ _ _ h => by obtain ⟨rfl, rfl, rfl⟩ := h; exact k)
theorem V_cS5L {a1 a2 a3 a4 a5 : Value} {v : Int64} (hC : C0 N d' [a1, a2, a3, a4, a5] F Ar x (vEq (some (.long v)) F' Ar')) (hB : vBig κ dd) (hd : d' < dd) (hG : vGood N 5) (hl : Cond.methodLink M.1.cls index N.1 ∈ lw_good) (hi : Cond.static N.1 ∈ lw_good) (hW : (rest.map fun v => v.category).sum ≤ 8) (d : decode M.2.1 pc = .ok (.invokestatic index, 3)) (hq : pc + 3 = q) (k : V κ M q ls (.long v :: rest) F' Ar' x) : V κ M pc ls (a5 :: a4 :: a3 :: a2 :: a1 :: rest) F Ar x := V_callS (As := [a1, a2, a3, a4, a5]) hC hB hd hG hl hi rfl hW d hq (fun _ _ _ h => by obtain ⟨rfl, rfl, rfl⟩ := h; exact k)
theorem V_cS5U {a1 a2 a3 a4 a5 : Value} (hC : C0 N d' [a1, a2, a3, a4, a5] F Ar x (vEq none F' Ar')) (hB : vBig κ dd) (hd : d' < dd) (hG : vGood N 5) (hl : Cond.methodLink M.1.cls index N.1 ∈ lw_good) (hi : Cond.static N.1 ∈ lw_good) (hW : (rest.map fun v => v.category).sum ≤ 8) (d : decode M.2.1 pc = .ok (.invokestatic index, 3)) (hq : pc + 3 = q) (k : V κ M q ls (rest) F' Ar' x) : V κ M pc ls (a5 :: a4 :: a3 :: a2 :: a1 :: rest) F Ar x := V_callS (As := [a1, a2, a3, a4, a5]) hC hB hd hG hl hi rfl hW d hq (fun _ _ _ h => by obtain ⟨rfl, rfl, rfl⟩ := h; exact k)
theorem V_cV6 {a1 a2 a3 a4 a5 a6 : Value} (hC : C0 N d' [.ref o, a1, a2, a3, a4, a5, a6] F Ar x Q) (hB : vBig κ dd) (hd : d' < dd) (hG : vGood N 6) (hl : Cond.methodLink M.1.cls index N.1 ∈ lw_good) (hi : Cond.instanceMethod N.1 ∈ lw_good) (hs : Cond.selects N.1.cls N.1 N.1 ∈ lw_good) (ho : o < 7) (hcls : vR o = N.1.cls) (hW : (rest.map fun v => v.category).sum ≤ 8) (d : decode M.2.1 pc = .ok (.invokevirtual index, 3)) (hq : pc + 3 = q) (k : ∀ r F' Ar', Q r F' Ar' → V κ M q ls (r.toList ++ rest) F' Ar' x) : V κ M pc ls (a6 :: a5 :: a4 :: a3 :: a2 :: a1 :: .ref o :: rest) F Ar x := V_callV (As := [a1, a2, a3, a4, a5, a6]) hC hB hd hG hl hi hs ho hcls rfl hW d hq k
theorem V_cV6I {a1 a2 a3 a4 a5 a6 : Value} {v : Int32} (hC : C0 N d' [.ref o, a1, a2, a3, a4, a5, a6] F Ar x (vEq (some (.int v)) F' Ar')) (hB : vBig κ dd) (hd : d' < dd) (hG : vGood N 6) (hl : Cond.methodLink M.1.cls index N.1 ∈ lw_good) (hi : Cond.instanceMethod N.1 ∈ lw_good) (hs : Cond.selects N.1.cls N.1 N.1 ∈ lw_good) (ho : o < 7) (hcls : vR o = N.1.cls) (hW : (rest.map fun v => v.category).sum ≤ 8) (d : decode M.2.1 pc = .ok (.invokevirtual index, 3)) (hq : pc + 3 = q) (k : V κ M q ls (.int v :: rest) F' Ar' x) : V κ M pc ls (a6 :: a5 :: a4 :: a3 :: a2 :: a1 :: .ref o :: rest) F Ar x := V_callV (As := [a1, a2, a3, a4, a5, a6]) hC hB hd hG hl hi hs ho hcls rfl hW d hq (fun _ _ _ h => by obtain ⟨rfl, rfl, rfl⟩ := h; exact k)
theorem V_cV6L {a1 a2 a3 a4 a5 a6 : Value} {v : Int64} (hC : C0 N d' [.ref o, a1, a2, a3, a4, a5, a6] F Ar x (vEq (some (.long v)) F' Ar')) (hB : vBig κ dd) (hd : d' < dd) (hG : vGood N 6) (hl : Cond.methodLink M.1.cls index N.1 ∈ lw_good) (hi : Cond.instanceMethod N.1 ∈ lw_good) (hs : Cond.selects N.1.cls N.1 N.1 ∈ lw_good) (ho : o < 7) (hcls : vR o = N.1.cls) (hW : (rest.map fun v => v.category).sum ≤ 8) (d : decode M.2.1 pc = .ok (.invokevirtual index, 3)) (hq : pc + 3 = q) (k : V κ M q ls (.long v :: rest) F' Ar' x) : V κ M pc ls (a6 :: a5 :: a4 :: a3 :: a2 :: a1 :: .ref o :: rest) F Ar x := V_callV (As := [a1, a2, a3, a4, a5, a6]) hC hB hd hG hl hi hs ho hcls rfl hW d hq (fun _ _ _ h => by obtain ⟨rfl, rfl, rfl⟩ := h; exact k)
theorem V_cV6U {a1 a2 a3 a4 a5 a6 : Value} (hC : C0 N d' [.ref o, a1, a2, a3, a4, a5, a6] F Ar x (vEq none F' Ar')) (hB : vBig κ dd) (hd : d' < dd) (hG : vGood N 6) (hl : Cond.methodLink M.1.cls index N.1 ∈ lw_good) (hi : Cond.instanceMethod N.1 ∈ lw_good) (hs : Cond.selects N.1.cls N.1 N.1 ∈ lw_good) (ho : o < 7) (hcls : vR o = N.1.cls) (hW : (rest.map fun v => v.category).sum ≤ 8) (d : decode M.2.1 pc = .ok (.invokevirtual index, 3)) (hq : pc + 3 = q) (k : V κ M q ls (rest) F' Ar' x) : V κ M pc ls (a6 :: a5 :: a4 :: a3 :: a2 :: a1 :: .ref o :: rest) F Ar x := V_callV (As := [a1, a2, a3, a4, a5, a6]) hC hB hd hG hl hi hs ho hcls rfl hW d hq (fun _ _ _ h => by obtain ⟨rfl, rfl, rfl⟩ := h; exact k)
theorem V_cS6 {a1 a2 a3 a4 a5 a6 : Value} (hC : C0 N d' [a1, a2, a3, a4, a5, a6] F Ar x Q) (hB : vBig κ dd) (hd : d' < dd) (hG : vGood N 6) (hl : Cond.methodLink M.1.cls index N.1 ∈ lw_good) (hi : Cond.static N.1 ∈ lw_good) (hW : (rest.map fun v => v.category).sum ≤ 8) (d : decode M.2.1 pc = .ok (.invokestatic index, 3)) (hq : pc + 3 = q) (k : ∀ r F' Ar', Q r F' Ar' → V κ M q ls (r.toList ++ rest) F' Ar' x) : V κ M pc ls (a6 :: a5 :: a4 :: a3 :: a2 :: a1 :: rest) F Ar x := V_callS (As := [a1, a2, a3, a4, a5, a6]) hC hB hd hG hl hi rfl hW d hq k
theorem V_cS6I {a1 a2 a3 a4 a5 a6 : Value} {v : Int32} (hC : C0 N d' [a1, a2, a3, a4, a5, a6] F Ar x (vEq (some (.int v)) F' Ar')) (hB : vBig κ dd) (hd : d' < dd) (hG : vGood N 6) (hl : Cond.methodLink M.1.cls index N.1 ∈ lw_good) (hi : Cond.static N.1 ∈ lw_good) (hW : (rest.map fun v => v.category).sum ≤ 8) (d : decode M.2.1 pc = .ok (.invokestatic index, 3)) (hq : pc + 3 = q) (k : V κ M q ls (.int v :: rest) F' Ar' x) : V κ M pc ls (a6 :: a5 :: a4 :: a3 :: a2 :: a1 :: rest) F Ar x := V_callS (As := [a1, a2, a3, a4, a5, a6]) hC hB hd hG hl hi rfl hW d hq (fun _ _ _ h => by obtain ⟨rfl, rfl, rfl⟩ := h; exact k)
theorem V_cS6L {a1 a2 a3 a4 a5 a6 : Value} {v : Int64} (hC : C0 N d' [a1, a2, a3, a4, a5, a6] F Ar x (vEq (some (.long v)) F' Ar')) (hB : vBig κ dd) (hd : d' < dd) (hG : vGood N 6) (hl : Cond.methodLink M.1.cls index N.1 ∈ lw_good) (hi : Cond.static N.1 ∈ lw_good) (hW : (rest.map fun v => v.category).sum ≤ 8) (d : decode M.2.1 pc = .ok (.invokestatic index, 3)) (hq : pc + 3 = q) (k : V κ M q ls (.long v :: rest) F' Ar' x) : V κ M pc ls (a6 :: a5 :: a4 :: a3 :: a2 :: a1 :: rest) F Ar x := V_callS (As := [a1, a2, a3, a4, a5, a6]) hC hB hd hG hl hi rfl hW d hq (fun _ _ _ h => by obtain ⟨rfl, rfl, rfl⟩ := h; exact k)
theorem V_cS6U {a1 a2 a3 a4 a5 a6 : Value} (hC : C0 N d' [a1, a2, a3, a4, a5, a6] F Ar x (vEq none F' Ar')) (hB : vBig κ dd) (hd : d' < dd) (hG : vGood N 6) (hl : Cond.methodLink M.1.cls index N.1 ∈ lw_good) (hi : Cond.static N.1 ∈ lw_good) (hW : (rest.map fun v => v.category).sum ≤ 8) (d : decode M.2.1 pc = .ok (.invokestatic index, 3)) (hq : pc + 3 = q) (k : V κ M q ls (rest) F' Ar' x) : V κ M pc ls (a6 :: a5 :: a4 :: a3 :: a2 :: a1 :: rest) F Ar x := V_callS (As := [a1, a2, a3, a4, a5, a6]) hC hB hd hG hl hi rfl hW d hq (fun _ _ _ h => by obtain ⟨rfl, rfl, rfl⟩ := h; exact k)
theorem V_cSN1I {a1 : Value} {v : Int32} (hC : C0 N d' [a1] F Ar x (vEq (some (.int v)) F' Ar')) (hB : vBig κ dd) (hd : d' < dd) (hG : vGood N 1) (hl : (M.1.cls, index, N.1) ∈ vNl) (hi : Cond.static N.1 ∈ lw_good) (hW : (rest.map fun v => v.category).sum ≤ 8) (d : decode M.2.1 pc = .ok (.invokestatic index, 3)) (hq : pc + 3 = q) (k : V κ M q ls (.int v :: rest) F' Ar' x) : V κ M pc ls (a1 :: rest) F Ar x := V_callSN (As := [a1]) hC hB hd hG hl hi rfl hW d hq (fun _ _ _ h => by obtain ⟨rfl, rfl, rfl⟩ := h; exact k)
theorem V_cSN3I {a1 a2 a3 : Value} {v : Int32} (hC : C0 N d' [a1, a2, a3] F Ar x (vEq (some (.int v)) F' Ar')) (hB : vBig κ dd) (hd : d' < dd) (hG : vGood N 3) (hl : (M.1.cls, index, N.1) ∈ vNl) (hi : Cond.static N.1 ∈ lw_good) (hW : (rest.map fun v => v.category).sum ≤ 8) (d : decode M.2.1 pc = .ok (.invokestatic index, 3)) (hq : pc + 3 = q) (k : V κ M q ls (.int v :: rest) F' Ar' x) : V κ M pc ls (a3 :: a2 :: a1 :: rest) F Ar x := V_callSN (As := [a1, a2, a3]) hC hB hd hG hl hi rfl hW d hq (fun _ _ _ h => by obtain ⟨rfl, rfl, rfl⟩ := h; exact k)
end
section
variable {κ : vK} {M : vMx} {pc q : Nat} {ls rest : List Value} {F : vFt} {Ar : vAt} {x : vXt} {dd index : Nat} {a b : Int32}
theorem kx_max : Cond.static Lib.Math.max.name ∈ lw_good ∧ Cond.code Lib.Math.max.name Lib.Math.max.code 2 (some .int) ∈ lw_good := by decide +kernel
theorem kx_min : Cond.static Lib.Math.min.name ∈ lw_good ∧ Cond.code Lib.Math.min.name Lib.Math.min.code 2 (some .int) ∈ lw_good := by decide +kernel
theorem V_max (hB : vBig κ dd) (hd : 0 < dd) (hl : Cond.methodLink M.1.cls index Lib.Math.max.name ∈ lw_good) (hW : (rest.map fun v => v.category).sum ≤ 8) (d : decode M.2.1 pc = .ok (.invokestatic index, 3)) (hq : pc + 3 = q) (k : V κ M q ls (.int (if a < b then b else a) :: rest) F Ar x) : V κ M pc ls (.int b :: .int a :: rest) F Ar x := by
  subst hq
  obtain ⟨p, l, e, R, s, m, args, below, meth, c, D, cA, ad, A, H0, cells, slots, QW⟩ := κ
  intro H locs la C hP hD hS hl0
  have hts := C.2.2.2.2.1
  have hB : dd ≤ R.frames ∧ 60 * dd ≤ R.locals := hB
  exact va_mmax C.1 C.2.1 (C.2.2.1.trans hl0.1.symm) C.2.2.2.1 (hts _ hl) (hts _ kx_max.1) (hts _ kn_J9) (hts _ kx_max.2) (by omega) (by rw [vCat]; omega) C.2.2.2.2.2.2.2.2.2.1 C.2.2.2.2.2.2.2.2.2.2.1 d (k H locs la C hP hD hS hl0)
theorem V_min (hB : vBig κ dd) (hd : 0 < dd) (hl : Cond.methodLink M.1.cls index Lib.Math.min.name ∈ lw_good) (hW : (rest.map fun v => v.category).sum ≤ 8) (d : decode M.2.1 pc = .ok (.invokestatic index, 3)) (hq : pc + 3 = q) (k : V κ M q ls (.int (if b < a then b else a) :: rest) F Ar x) : V κ M pc ls (.int b :: .int a :: rest) F Ar x := by
  subst hq
  obtain ⟨p, l, e, R, s, m, args, below, meth, c, D, cA, ad, A, H0, cells, slots, QW⟩ := κ
  intro H locs la C hP hD hS hl0
  have hts := C.2.2.2.2.1
  have hB : dd ≤ R.frames ∧ 60 * dd ≤ R.locals := hB
  exact va_mmin C.1 C.2.1 (C.2.2.1.trans hl0.1.symm) C.2.2.2.1 (hts _ hl) (hts _ kx_min.1) (hts _ kn_J9) (hts _ kx_min.2) (by omega) (by rw [vCat]; omega) C.2.2.2.2.2.2.2.2.2.1 C.2.2.2.2.2.2.2.2.2.2.1 d (k H locs la C hP hD hS hl0)
/-- a row of texts, or the row of tons of an act: a place in an array of int arrays -/
theorem V_aald {a : Nat} {f : Nat → Nat} {i : Int32} (hf : ∀ (ad : Nat → Nat) (cA : Nat → ClassId), vCell ad cA F Ar x.2 a = .inl (cA 2, 5, .inr (.inr (.inr (.inr (fun j => some (ad (f j)))))))) (ha : a < 66 + x.1) (hin : vp_in i 5) (d : decode M.2.1 pc = .ok (.aaload, 1)) (hq : pc + 1 = q) (k : V κ M q ls (.ref (f i.toNatClampNeg) :: rest) F Ar x) : V κ M pc ls (.int i :: .ref a :: rest) F Ar x := by
  subst hq
  obtain ⟨p, l, e, R, s, m, args, below, meth, c, D, cA, ad, A, H0, cells, slots, QW⟩ := κ
  intro H locs la C hP hD hS hl0
  have hw : (vW ad cA F Ar x)[a]? = some (ad a, .inl (cA 2, 5, .inr (.inr (.inr (.inr (fun j => some (ad (f j)))))))) := by rw [vW_at ha, hf]
  have hlt : i.toNatClampNeg < 5 := Nat.not_le.mp fun q => hin (Or.inr q)
  exact W.aald (v := .ref (ad (f i.toNatClampNeg))) (ty := .array .int) C.1 C.2.1 (hP a _ hw) ((C.2.2.2.2.2.1.2 2 _ rfl).1 5 (fun j => va_rf (some (ad (f j))))) rfl (fun q => by cases q) (by show ¬ (i < 0 ∨ (arrV _ _ _).slots.size ≤ _); rw [arrV_size]; exact hin) (by show (arrV _ _ _).slots[_]? = _; rw [arrV_read _ _ hlt]; rfl) rfl rfl d (k H locs la C hP hD hS hl0)
theorem kx_copy : Cond.native arraycopyName ∈ lw_good ∧ Cond.static arraycopyName ∈ lw_good := by decide +kernel
theorem V_copy {a0 a1 : Nat} {sp dp n : Int32} (hB : vBig κ dd) (hd : 0 < dd) (hl : Cond.methodLink M.1.cls index arraycopyName ∈ lw_good) (h90 : 9 ≤ a0) (ha0 : a0 < 66 + x.1) (ht0 : vTyA a0 = 0) (h91 : 9 ≤ a1) (ha1 : a1 < 66 + x.1) (ht1 : vTyA a1 = 0) (h1 : ¬ sp < 0) (h2 : ¬ dp < 0) (h3 : ¬ n < 0) (h4 : sp.toNatClampNeg + n.toNatClampNeg ≤ vLen a0) (h5 : dp.toNatClampNeg + n.toNatClampNeg ≤ vLen a1) (hW : (rest.map fun v => v.category).sum ≤ 8) (d : decode M.2.1 pc = .ok (.invokestatic index, 3)) (hq : pc + 3 = q) (k : V κ M q ls rest F (vS Ar a1 (va_cpy (Ar a0) (Ar a1) sp.toNatClampNeg dp.toNatClampNeg n.toNatClampNeg)) x) : V κ M pc ls (.int n :: .int dp :: .ref a1 :: .int sp :: .ref a0 :: rest) F Ar x := by
  subst hq
  obtain ⟨p, l, e, R, s, m, args, below, meth, c, D, cA, ad, A, H0, cells, slots, QW⟩ := κ
  intro H locs la C hP hD hS hl0
  have hts := C.2.2.2.2.1
  have hB : dd ≤ R.frames ∧ 60 * dd ≤ R.locals := hB
  refine va_copyi C.1 C.2.1 (C.2.2.1.trans hl0.1.symm) C.2.2.2.1 (hts _ hl) (hts _ kx_copy.1) (hts _ kx_copy.2) (hts _ kn_J10) C.2.2.2.2.2.1 hP hD hS a0 a1 0 0 (ty := .int) (vW_arr h90 ha0) (vW_arr h91 ha1) (by rw [ht0]; rfl) (by rw [ht1]; rfl) rfl h1 h2 h3 h4 h5 (fun _ _ => rfl) (by omega) ?_ d (fun H1 locs1 hP1 hD1 hS1 => ?_)
  · have : nativeFrameWords "java/lang/System" "arraycopy" 5 ≤ 30 := by decide +kernel
    rw [vCat]
    omega
  · rw [vW_setA h91 ha1] at hP1 hD1
    exact k H1 locs1 la C hP1 hD1 hS1 hl0
end
end
section
theorem vS_at {Ar : vAt} {a : Nat} {f : Nat → Int32} : vS Ar a f a = f := if_pos rfl
theorem vS_ne {Ar : vAt} {a b : Nat} {f : Nat → Int32} (h : b ≠ a) : vS Ar a f b = Ar b := if_neg h
theorem vS_vS {Ar : vAt} {a : Nat} {f g : Nat → Int32} : vS (vS Ar a f) a g = vS Ar a g := by
  funext b
  unfold vS
  split <;> rfl
theorem vS_self {Ar : vAt} {a : Nat} : vS Ar a (Ar a) = Ar := by
  funext b
  unfold vS
  split
  · subst b; rfl
  · rfl
theorem vS_comm {Ar : vAt} {a b : Nat} {f g : Nat → Int32} (h : a ≠ b) : vS (vS Ar a f) b g = vS (vS Ar b g) a f := by
  funext c
  unfold vS
  by_cases h1 : c = b
  · by_cases h2 : c = a
    · exact absurd (h2.symm.trans h1) h
    · simp [h1]
      exact fun q => absurd q.symm h
  · by_cases h2 : c = a <;> simp [h1, h2, h]
theorem upd_at {f : Nat → Int32} {k : Nat} {v : Int32} : upd f k v k = v := if_pos rfl
theorem upd_ne {f : Nat → Int32} {k j : Nat} {v : Int32} (h : j ≠ k) : upd f k v j = f j := if_neg h
theorem upd_self {f : Nat → Int32} {k : Nat} : upd f k (f k) = f := by
  funext b
  unfold upd
  split
  · subst b; rfl
  · rfl
theorem upd_upd {f : Nat → Int32} {k : Nat} {v w : Int32} : upd (upd f k v) k w = upd f k w := by
  funext b
  unfold upd
  split <;> rfl
theorem upd_comm {f : Nat → Int32} {k j : Nat} {v w : Int32} (h : k ≠ j) : upd (upd f k v) j w = upd (upd f j w) k v := by
  funext c
  unfold upd
  by_cases h1 : c = j
  · by_cases h2 : c = k
    · exact absurd (h2.symm.trans h1) h
    · simp [h1]
      exact fun q => absurd q.symm h
  · by_cases h2 : c = k <;> simp [h1, h2, h]
/-- small numbers -/
theorem v_ma (a b c : Nat) : nI a * nI b + nI c = nI (a * b + c) := by rw [pk_mul, nI_add]
theorem v_am (a b c : Nat) : nI a * nI b + nI c = nI (b * a + c) := by rw [pk_mul, nI_add, Nat.mul_comm]
theorem v_in {a : Int32} {N : Nat} (n : Nat) (h : a = nI n) (hn : n < N) (hN : N < 2 ^ 31) : vp_in a N := by
  rw [h]
  exact vp_in_nI hn hN
theorem v_cl {a : Int32} (n : Nat) (h : a = nI n) (hn : n < 2 ^ 31) : a.toNatClampNeg = n := by
  rw [h]
  exact nI_clamp hn
theorem v_toInt {n : Nat} (h : n < 2 ^ 31) : (nI n).toInt = (n : Int) := nI_toInt h
theorem v_sub1 {n : Nat} (h : 0 < n) : nI n - 1 = nI (n - 1) := pk_sub (a := n) (b := 1) h
/-- what a check of a number against a count says -/
theorem v_has {i : Int32} {n : Nat} (hn : n < 2 ^ 31) : (0 ≤ i ∧ i ≤ nI n - 1) ↔ ∃ j, j < n ∧ i = nI j := by
  constructor
  · rintro ⟨h1, h2⟩
    rcases pk_ix i hn with h | h | h
    · rw [Int32.le_iff_toInt_le] at h1
      rw [Int32.lt_iff_toInt_lt] at h
      omega
    · exfalso
      have h0 : n = 0 ∨ 0 < n := Nat.eq_zero_or_pos n
      rcases h0 with rfl | h0
      · have e : nI 0 - 1 = -1 := by decide
        rw [e] at h2
        have := Int32.le_trans h1 h2
        exact absurd this (by decide)
      · rw [v_sub1 h0] at h2
        have h3 := Int32.le_trans h h2
        exact nI_ge (a := n - 1) (b := n) (by omega) hn h3
    · exact h
  · rintro ⟨j, hj, rfl⟩
    rw [v_sub1 (by omega)]
    exact ⟨nI_pos' (by omega), nI_le (by omega) (by omega)⟩
theorem v_to {i M : Int32} {n : Nat} (hM : M = nI n) (hn : n + 1 < 2 ^ 31) : (0 ≤ i ∧ i ≤ M) ↔ ∃ j, j ≤ n ∧ i = nI j := by
  have h := v_has (i := i) (n := n + 1) (by omega)
  rw [v_sub1 (by omega)] at h
  subst hM
  rw [show n = n + 1 - 1 by omega, h]
  constructor
  · rintro ⟨j, h1, h2⟩
    exact ⟨j, by omega, h2⟩
  · rintro ⟨j, h1, h2⟩
    exact ⟨j, by omega, h2⟩
theorem v_to1 {i M : Int32} {n : Nat} (hM : M = nI n) (hn : n + 1 < 2 ^ 31) : (1 ≤ i ∧ i ≤ M) ↔ ∃ j, 1 ≤ j ∧ j ≤ n ∧ i = nI j := by
  constructor
  · rintro ⟨h1, h2⟩
    obtain ⟨j, hj, e⟩ := (v_to hM hn).mp ⟨Int32.le_trans (by decide : (0 : Int32) ≤ 1) h1, h2⟩
    refine ⟨j, ?_, hj, e⟩
    rcases Nat.eq_zero_or_pos j with rfl | h
    · subst e
      exact absurd h1 (by decide)
    · exact h
  · rintro ⟨j, h1, h2, rfl⟩
    subst hM
    exact ⟨nI_le (a := 1) h1 (by omega), nI_le h2 (by omega)⟩
theorem v_lt_of {a b : Nat} (ha : a < 2 ^ 31) (hb : b < 2 ^ 31) : nI a < nI b ↔ a < b := nI_ltI ha hb
theorem v_le_of {a b : Nat} (ha : a < 2 ^ 31) (hb : b < 2 ^ 31) : nI a ≤ nI b ↔ a ≤ b := nI_leI ha hb
theorem v_eq_of {a b : Nat} (ha : a < 2 ^ 31) (hb : b < 2 ^ 31) : nI a = nI b ↔ a = b := nI_eq ha hb
theorem V_ild {κ : vK} {M : vMx} {pc q : Nat} {ls st : List Value} {F : vFt} {Ar : vAt} {x : vXt} {a : Nat} {i : Int32} (k n : Nat) (hi : i = nI k) (hk : k < n) (h9 : 9 ≤ a) (ha : a < 66 + x.1) (ht : vTyA a = 0) (hn : vLen a = n) (h31 : n < 2 ^ 31) (d : decode M.2.1 pc = .ok (.iaload, 1)) (hq : pc + 1 = q) (kk : V κ M q ls (.int (Ar a k) :: st) F Ar x) : V κ M pc ls (.int i :: .ref a :: st) F Ar x := by
  subst hi
  refine V_iald h9 ha ht (by rw [hn]; exact vp_in_nI hk h31) d hq ?_
  rw [nI_clamp (by omega)]
  exact kk
theorem V_zld {κ : vK} {M : vMx} {pc q : Nat} {ls st : List Value} {F : vFt} {Ar : vAt} {x : vXt} {a : Nat} {i : Int32} (k n : Nat) (hi : i = nI k) (hk : k < n) (h9 : 9 ≤ a) (ha : a < 66 + x.1) (ht : vTyA a = 1) (hn : vLen a = n) (h31 : n < 2 ^ 31) (d : decode M.2.1 pc = .ok (.baload, 1)) (hq : pc + 1 = q) (kk : V κ M q ls (.int (Ar a k) :: st) F Ar x) : V κ M pc ls (.int i :: .ref a :: st) F Ar x := by
  subst hi
  refine V_zald h9 ha ht (by rw [hn]; exact vp_in_nI hk h31) d hq ?_
  rw [nI_clamp (by omega)]
  exact kk
theorem V_ist {κ : vK} {M : vMx} {pc q : Nat} {ls st : List Value} {F : vFt} {Ar : vAt} {x : vXt} {a : Nat} {i v : Int32} (k n : Nat) (hi : i = nI k) (hk : k < n) (h9 : 9 ≤ a) (ha : a < 66 + x.1) (ht : vTyA a = 0) (hn : vLen a = n) (h31 : n < 2 ^ 31) (d : decode M.2.1 pc = .ok (.iastore, 1)) (hq : pc + 1 = q) (kk : V κ M q ls st F (vS Ar a (upd (Ar a) k v)) x) : V κ M pc ls (.int v :: .int i :: .ref a :: st) F Ar x := by
  subst hi
  refine V_iast h9 ha ht (by rw [hn]; exact vp_in_nI hk h31) d hq ?_
  rw [nI_clamp (by omega)]
  exact kk
theorem V_zst {κ : vK} {M : vMx} {pc q : Nat} {ls st : List Value} {F : vFt} {Ar : vAt} {x : vXt} {a : Nat} {i v : Int32} (k n : Nat) (hi : i = nI k) (hk : k < n) (h9 : 9 ≤ a) (ha : a < 66 + x.1) (ht : vTyA a = 1) (hn : vLen a = n) (h31 : n < 2 ^ 31) (d : decode M.2.1 pc = .ok (.bastore, 1)) (hq : pc + 1 = q) (kk : V κ M q ls st F (vS Ar a (upd (Ar a) k (vp_nar .boolean v))) x) : V κ M pc ls (.int v :: .int i :: .ref a :: st) F Ar x := by
  subst hi
  refine V_zast h9 ha ht (by rw [hn]; exact vp_in_nI hk h31) d hq ?_
  rw [nI_clamp (by omega)]
  exact kk
theorem V_top {κ : vK} {M : vMx} {pc : Nat} {ls st : List Value} {F : vFt} {Ar : vAt} {x : vXt} {a : Int32} (b : Int32) (h : a = b) (k : V κ M pc ls (.int b :: st) F Ar x) : V κ M pc ls (.int a :: st) F Ar x := by
  subst h
  exact k
theorem V_ar {κ : vK} {M : vMx} {pc : Nat} {ls st : List Value} {F : vFt} {Ar : vAt} {x : vXt} (Ar' : vAt) (h : Ar = Ar') (k : V κ M pc ls st F Ar' x) : V κ M pc ls st F Ar x := by
  subst h
  exact k
theorem V_fl {κ : vK} {M : vMx} {pc : Nat} {ls st : List Value} {F : vFt} {Ar : vAt} {x : vXt} (F' : vFt) (h : F = F') (k : V κ M pc ls st F' Ar x) : V κ M pc ls st F Ar x := by
  subst h
  exact k
theorem V_ls {κ : vK} {M : vMx} {pc : Nat} {ls st : List Value} {F : vFt} {Ar : vAt} {x : vXt} (ls' : List Value) (h : ls = ls') (k : V κ M pc ls' st F Ar x) : V κ M pc ls st F Ar x := by
  subst h
  exact k
theorem V_iincN {κ : vK} {M : vMx} {pc q : Nat} {ls st : List Value} {F : vFt} {Ar : vAt} {x : vXt} {i j : Nat} (d : decode M.2.1 pc = .ok (.iinc i 1, 3)) (hl0 : ls[i]? = some (.int (nI j))) (hn : i < M.2.2.1) (ho : vOkS ls i = true) (hq : pc + 3 = q) (k : V κ M q (ls.set i (.int (nI (j + 1)))) st F Ar x) : V κ M pc ls st F Ar x := by
  refine V_iinc (w := 1) d hl0 (by decide) hn ho hq ?_
  rw [nI_1]
  exact k
theorem v_gf {i n : Nat} (hi : i < 2 ^ 31) (hn : n < 2 ^ 31) (h : i < n) : ¬ nI n ≤ nI i := fun c => by rw [nI_leI hn hi] at c; omega
theorem v_gt {i n : Nat} (hi : i < 2 ^ 31) (hn : n < 2 ^ 31) (h : n ≤ i) : ¬ ¬ nI n ≤ nI i := fun c => c ((nI_leI hn hi).mpr h)
/-- the first n places become v -/
def vFill (f : Nat → Int32) (n : Nat) (v : Int32) : Nat → Int32 := fun j => if j < n then v else f j
theorem vFill_0 {f : Nat → Int32} {v : Int32} : vFill f 0 v = f := by
  funext j
  simp [vFill]
theorem vFill_s {f : Nat → Int32} {n : Nat} {v : Int32} : upd (vFill f n v) n v = vFill f (n + 1) v := by
  funext j
  unfold upd vFill
  by_cases h : j = n
  · simp [h]
  · by_cases h2 : j < n
    · simp [h, h2, Nat.lt_succ_of_lt h2]
    · simp [h, h2, show ¬ j < n + 1 by omega]
end
section
theorem v_tout (a : Int32) (lo hi : Int) {l h : Int32} (_ : l.toInt = lo) (_ : h.toInt = hi) (hn : ¬ (l ≤ a ∧ a ≤ h)) : a.toInt < lo ∨ hi < a.toInt := by
  subst lo
  subst hi
  simp only [Int32.le_iff_toInt_le] at hn
  omega
theorem v_nlt {a b : Int32} (h : a < b) : ¬ b ≤ a := by
  rw [Int32.le_iff_toInt_le]
  rw [Int32.lt_iff_toInt_lt] at h
  omega
theorem v_nle {a b : Int32} (h : ¬ a < b) : b ≤ a := by
  rw [Int32.le_iff_toInt_le]
  rw [Int32.lt_iff_toInt_lt] at h
  omega
theorem v_lt {a b : Int32} (h : ¬ a ≤ b) : b < a := by
  rw [Int32.lt_iff_toInt_lt]
  rw [Int32.le_iff_toInt_le] at h
  omega
theorem tX5_isWithin {F : vFt} {Ar : vAt} {x : vXt} {n a b : Int32}  : C0 mX5_isWithin 0 [.int n, .int a, .int b] F Ar x (vEq (some (.int (vB (a ≤ n ∧ n ≤ b)))) F Ar) := by
  refine C0_of (by decide +kernel) (Nat.le_of_ble_eq_true rfl) (fun κ hκ => ?_)
  show V κ mX5_isWithin 0 [.int n, .int a, .int b] [] F Ar x
  refine V_iload_n (q := 1) dX5_isWithin_0 rfl rfl ?_
  refine V_iload_n (q := 2) dX5_isWithin_1 rfl rfl ?_
  refine V_icmp_gt (tgt := 14) (q := 5) dX5_isWithin_2 (by decide) rfl (fun c_2 => ?_) (fun c_2 => ?_)
  · refine V_iconst (q := 15) (v := 0) dX5_isWithin_14 (by decide) rfl ?_
    exact V_iret hκ rfl (by first | rfl | exact vB_nar) dX5_isWithin_15 ⟨by rw [vB_f (fun h => v_nlt c_2 h.1)], rfl, rfl⟩
  · refine V_iload_n (q := 6) dX5_isWithin_5 rfl rfl ?_
    refine V_iload_n (q := 7) dX5_isWithin_6 rfl rfl ?_
    refine V_icmp_gt (tgt := 14) (q := 10) dX5_isWithin_7 (by decide) rfl (fun c_7 => ?_) (fun c_7 => ?_)
    · refine V_iconst (q := 15) (v := 0) dX5_isWithin_14 (by decide) rfl ?_
      exact V_iret hκ rfl (by first | rfl | exact vB_nar) dX5_isWithin_15 ⟨by rw [vB_f (fun h => v_nlt c_7 h.2)], rfl, rfl⟩
    · refine V_iconst (q := 11) (v := 1) dX5_isWithin_10 (by decide) rfl ?_
      refine V_goto (q := 15) dX5_isWithin_11 (by decide) ?_
      exact V_iret hκ rfl (by first | rfl | exact vB_nar) dX5_isWithin_15 ⟨by rw [vB_t ⟨v_nle c_2, v_nle c_7⟩], rfl, rfl⟩
theorem tX5_isDay {F : vFt} {Ar : vAt} {x : vXt} {n : Int32}  : C0 mX5_isDay 1 [.int n] F Ar x (vEq (some (.int (vB (0 ≤ n ∧ n ≤ 999)))) F Ar) := by
  refine C0_of (by decide +kernel) (Nat.le_of_ble_eq_true rfl) (fun κ hκ => ?_)
  show V κ mX5_isDay 0 [.int n] [] F Ar x
  refine V_iload_n (q := 1) dX5_isDay_0 rfl rfl ?_
  refine V_iconst (q := 2) (v := 0) dX5_isDay_1 (by decide) rfl ?_
  refine V_sipush (q := 5) (v := 999) dX5_isDay_2 (by decide) rfl ?_
  refine V_cS3I (q := 8) (N := mX5_isWithin) tX5_isWithin hκ.big (by decide) gX5_isWithin kl_X5_67 kt_X5_isWithin (Nat.le_of_ble_eq_true rfl) dX5_isDay_5 rfl ?_
  exact V_iret hκ rfl (by first | rfl | exact vB_nar) dX5_isDay_8 vEq.rf
theorem tX5_isMeasure {F : vFt} {Ar : vAt} {x : vXt} {n : Int32}  : C0 mX5_isMeasure 1 [.int n] F Ar x (vEq (some (.int (vB (1 ≤ n ∧ n ≤ 99)))) F Ar) := by
  refine C0_of (by decide +kernel) (Nat.le_of_ble_eq_true rfl) (fun κ hκ => ?_)
  show V κ mX5_isMeasure 0 [.int n] [] F Ar x
  refine V_iload_n (q := 1) dX5_isMeasure_0 rfl rfl ?_
  refine V_iconst (q := 2) (v := 1) dX5_isMeasure_1 (by decide) rfl ?_
  refine V_bipush (q := 4) (v := 99) dX5_isMeasure_2 (by decide) rfl ?_
  refine V_cS3I (q := 7) (N := mX5_isWithin) tX5_isWithin hκ.big (by decide) gX5_isWithin kl_X5_67 kt_X5_isWithin (Nat.le_of_ble_eq_true rfl) dX5_isMeasure_4 rfl ?_
  exact V_iret hκ rfl (by first | rfl | exact vB_nar) dX5_isMeasure_7 vEq.rf
theorem tX5_isPerson {F : vFt} {Ar : vAt} {x : vXt} {n : Int32}  : C0 mX5_isPerson 1 [.int n] F Ar x (vEq (some (.int (vB (0 ≤ n ∧ n ≤ 7)))) F Ar) := by
  refine C0_of (by decide +kernel) (Nat.le_of_ble_eq_true rfl) (fun κ hκ => ?_)
  show V κ mX5_isPerson 0 [.int n] [] F Ar x
  refine V_iload_n (q := 1) dX5_isPerson_0 rfl rfl ?_
  refine V_iconst (q := 2) (v := 0) dX5_isPerson_1 (by decide) rfl ?_
  refine V_bipush (q := 4) (v := 7) dX5_isPerson_2 (by decide) rfl ?_
  refine V_cS3I (q := 7) (N := mX5_isWithin) tX5_isWithin hκ.big (by decide) gX5_isWithin kl_X5_67 kt_X5_isWithin (Nat.le_of_ble_eq_true rfl) dX5_isPerson_4 rfl ?_
  exact V_iret hκ rfl (by first | rfl | exact vB_nar) dX5_isPerson_7 vEq.rf
abbrev vSz (l b d r : Int32) : Prop := (1 ≤ l ∧ l ≤ 99) ∧ (1 ≤ b ∧ b ≤ 99) ∧ (1 ≤ d ∧ d ≤ 99) ∧ (0 ≤ r ∧ r ≤ 999)
theorem tX5_areSizes {F : vFt} {Ar : vAt} {x : vXt} {l b d r : Int32}  : C0 mX5_areSizes 2 [.int l, .int b, .int d, .int r] F Ar x (vEq (some (.int (vB (vSz l b d r)))) F Ar) := by
  refine C0_of (by decide +kernel) (Nat.le_of_ble_eq_true rfl) (fun κ hκ => ?_)
  show V κ mX5_areSizes 0 [.int l, .int b, .int d, .int r] [] F Ar x
  refine V_iload_n (q := 1) dX5_areSizes_0 rfl rfl ?_
  refine V_cS1I (q := 4) (N := mX5_isMeasure) tX5_isMeasure hκ.big (by decide) gX5_isMeasure kl_X5_118 kt_X5_isMeasure (Nat.le_of_ble_eq_true rfl) dX5_areSizes_1 rfl ?_
  refine V_if_eq (tgt := 36) (q := 7) dX5_areSizes_4 (by decide) rfl (fun c_4 => ?_) (fun c_4 => ?_)
  · refine V_iconst (q := 37) (v := 0) dX5_areSizes_36 (by decide) rfl ?_
    exact V_iret hκ rfl (by first | rfl | exact vB_nar) dX5_areSizes_37 ⟨by rw [vB_f (fun h => vB_0.mp c_4 h.1)], rfl, rfl⟩
  · refine V_iload_n (q := 8) dX5_areSizes_7 rfl rfl ?_
    refine V_cS1I (q := 11) (N := mX5_isMeasure) tX5_isMeasure hκ.big (by decide) gX5_isMeasure kl_X5_118 kt_X5_isMeasure (Nat.le_of_ble_eq_true rfl) dX5_areSizes_8 rfl ?_
    refine V_if_eq (tgt := 36) (q := 14) dX5_areSizes_11 (by decide) rfl (fun c_11 => ?_) (fun c_11 => ?_)
    · refine V_iconst (q := 37) (v := 0) dX5_areSizes_36 (by decide) rfl ?_
      exact V_iret hκ rfl (by first | rfl | exact vB_nar) dX5_areSizes_37 ⟨by rw [vB_f (fun h => vB_0.mp c_11 h.2.1)], rfl, rfl⟩
    · refine V_iload_n (q := 15) dX5_areSizes_14 rfl rfl ?_
      refine V_cS1I (q := 18) (N := mX5_isMeasure) tX5_isMeasure hκ.big (by decide) gX5_isMeasure kl_X5_118 kt_X5_isMeasure (Nat.le_of_ble_eq_true rfl) dX5_areSizes_15 rfl ?_
      refine V_if_eq (tgt := 36) (q := 21) dX5_areSizes_18 (by decide) rfl (fun c_18 => ?_) (fun c_18 => ?_)
      · refine V_iconst (q := 37) (v := 0) dX5_areSizes_36 (by decide) rfl ?_
        exact V_iret hκ rfl (by first | rfl | exact vB_nar) dX5_areSizes_37 ⟨by rw [vB_f (fun h => vB_0.mp c_18 h.2.2.1)], rfl, rfl⟩
      · refine V_iload_n (q := 22) dX5_areSizes_21 rfl rfl ?_
        refine V_iconst (q := 23) (v := 0) dX5_areSizes_22 (by decide) rfl ?_
        refine V_sipush (q := 26) (v := 999) dX5_areSizes_23 (by decide) rfl ?_
        refine V_cS3I (q := 29) (N := mX5_isWithin) tX5_isWithin hκ.big (by decide) gX5_isWithin kl_X5_67 kt_X5_isWithin (Nat.le_of_ble_eq_true rfl) dX5_areSizes_26 rfl ?_
        refine V_if_eq (tgt := 36) (q := 32) dX5_areSizes_29 (by decide) rfl (fun c_29 => ?_) (fun c_29 => ?_)
        · refine V_iconst (q := 37) (v := 0) dX5_areSizes_36 (by decide) rfl ?_
          exact V_iret hκ rfl (by first | rfl | exact vB_nar) dX5_areSizes_37 ⟨by rw [vB_f (fun h => vB_0.mp c_29 h.2.2.2)], rfl, rfl⟩
        · refine V_iconst (q := 33) (v := 1) dX5_areSizes_32 (by decide) rfl ?_
          refine V_goto (q := 37) dX5_areSizes_33 (by decide) ?_
          exact V_iret hκ rfl (by first | rfl | exact vB_nar) dX5_areSizes_37 ⟨by rw [vB_t ⟨vB_n0.mp c_4, vB_n0.mp c_11, vB_n0.mp c_18, vB_n0.mp c_29⟩], rfl, rfl⟩
theorem tX0_has {F : vFt} {Ar : vAt} {x : vXt} {i : Int32}  : C0 mX0_has 1 [.ref 1, .int i] F Ar x (vEq (some (.int (vB (0 ≤ i ∧ i ≤ F 68 - 1)))) F Ar) := by
  refine C0_of (by decide +kernel) (Nat.le_of_ble_eq_true rfl) (fun κ hκ => ?_)
  show V κ mX0_has 0 [.ref 1, .int i] [] F Ar x
  refine V_iload_n (q := 1) dX0_has_0 rfl rfl ?_
  refine V_iconst (q := 2) (v := 0) dX0_has_1 (by decide) rfl ?_
  refine V_aload_n (q := 3) dX0_has_2 rfl rfl ?_
  refine V_getI (q := 6) (n := 68) 1 4 kf_X0_33 (by decide) (by decide) rfl rfl dX0_has_3 rfl ?_
  refine V_iconst (q := 7) (v := 1) dX0_has_6 (by decide) rfl ?_
  refine V_isub (q := 8) dX0_has_7 rfl ?_
  refine V_cSN3I (q := 11) (N := mX5_isWithin) tX5_isWithin hκ.big (by decide) gX5_isWithin (by decide +kernel) kt_X5_isWithin (Nat.le_of_ble_eq_true rfl) dX0_has_8 rfl ?_
  exact V_iret hκ rfl (by first | rfl | exact vB_nar) dX0_has_11 vEq.rf
theorem tX0_size {F : vFt} {Ar : vAt} {x : vXt}   : C0 mX0_size 0 [.ref 1] F Ar x (vEq (some (.int (F 68))) F Ar) := by
  refine C0_of (by decide +kernel) (Nat.le_of_ble_eq_true rfl) (fun κ hκ => ?_)
  show V κ mX0_size 0 [.ref 1] [] F Ar x
  refine V_aload_n (q := 1) dX0_size_0 rfl rfl ?_
  refine V_getI (q := 4) (n := 68) 1 4 kf_X0_33 (by decide) (by decide) rfl rfl dX0_size_1 rfl ?_
  exact V_iret hκ rfl rfl dX0_size_4 vEq.rf
theorem tX1_has {F : vFt} {Ar : vAt} {x : vXt} {i : Int32}  : C0 mX1_has 1 [.ref 3, .int i] F Ar x (vEq (some (.int (vB (0 ≤ i ∧ i ≤ F 193 - 1)))) F Ar) := by
  refine C0_of (by decide +kernel) (Nat.le_of_ble_eq_true rfl) (fun κ hκ => ?_)
  show V κ mX1_has 0 [.ref 3, .int i] [] F Ar x
  refine V_iload_n (q := 1) dX1_has_0 rfl rfl ?_
  refine V_iconst (q := 2) (v := 0) dX1_has_1 (by decide) rfl ?_
  refine V_aload_n (q := 3) dX1_has_2 rfl rfl ?_
  refine V_getI (q := 6) (n := 193) 3 1 kf_X1_15 (by decide) (by decide) rfl rfl dX1_has_3 rfl ?_
  refine V_iconst (q := 7) (v := 1) dX1_has_6 (by decide) rfl ?_
  refine V_isub (q := 8) dX1_has_7 rfl ?_
  refine V_cSN3I (q := 11) (N := mX5_isWithin) tX5_isWithin hκ.big (by decide) gX5_isWithin (by decide +kernel) kt_X5_isWithin (Nat.le_of_ble_eq_true rfl) dX1_has_8 rfl ?_
  exact V_iret hκ rfl (by first | rfl | exact vB_nar) dX1_has_11 vEq.rf
theorem tX1_size {F : vFt} {Ar : vAt} {x : vXt}   : C0 mX1_size 0 [.ref 3] F Ar x (vEq (some (.int (F 193))) F Ar) := by
  refine C0_of (by decide +kernel) (Nat.le_of_ble_eq_true rfl) (fun κ hκ => ?_)
  show V κ mX1_size 0 [.ref 3] [] F Ar x
  refine V_aload_n (q := 1) dX1_size_0 rfl rfl ?_
  refine V_getI (q := 4) (n := 193) 3 1 kf_X1_15 (by decide) (by decide) rfl rfl dX1_size_1 rfl ?_
  exact V_iret hκ rfl rfl dX1_size_4 vEq.rf
theorem tX2_has {F : vFt} {Ar : vAt} {x : vXt} {i : Int32}  : C0 mX2_has 1 [.ref 4, .int i] F Ar x (vEq (some (.int (vB (0 ≤ i ∧ i ≤ F 258 - 1)))) F Ar) := by
  refine C0_of (by decide +kernel) (Nat.le_of_ble_eq_true rfl) (fun κ hκ => ?_)
  show V κ mX2_has 0 [.ref 4, .int i] [] F Ar x
  refine V_iload_n (q := 1) dX2_has_0 rfl rfl ?_
  refine V_iconst (q := 2) (v := 0) dX2_has_1 (by decide) rfl ?_
  refine V_aload_n (q := 3) dX2_has_2 rfl rfl ?_
  refine V_getI (q := 6) (n := 258) 4 2 kf_X2_42 (by decide) (by decide) rfl rfl dX2_has_3 rfl ?_
  refine V_iconst (q := 7) (v := 1) dX2_has_6 (by decide) rfl ?_
  refine V_isub (q := 8) dX2_has_7 rfl ?_
  refine V_cSN3I (q := 11) (N := mX5_isWithin) tX5_isWithin hκ.big (by decide) gX5_isWithin (by decide +kernel) kt_X5_isWithin (Nat.le_of_ble_eq_true rfl) dX2_has_8 rfl ?_
  exact V_iret hκ rfl (by first | rfl | exact vB_nar) dX2_has_11 vEq.rf
theorem tX2_size {F : vFt} {Ar : vAt} {x : vXt}   : C0 mX2_size 0 [.ref 4] F Ar x (vEq (some (.int (F 258))) F Ar) := by
  refine C0_of (by decide +kernel) (Nat.le_of_ble_eq_true rfl) (fun κ hκ => ?_)
  show V κ mX2_size 0 [.ref 4] [] F Ar x
  refine V_aload_n (q := 1) dX2_size_0 rfl rfl ?_
  refine V_getI (q := 4) (n := 258) 4 2 kf_X2_42 (by decide) (by decide) rfl rfl dX2_size_1 rfl ?_
  exact V_iret hκ rfl rfl dX2_size_4 vEq.rf
theorem tX3_has {F : vFt} {Ar : vAt} {x : vXt} {i : Int32}  : C0 mX3_has 1 [.ref 5, .int i] F Ar x (vEq (some (.int (vB (0 ≤ i ∧ i ≤ F 325 - 1)))) F Ar) := by
  refine C0_of (by decide +kernel) (Nat.le_of_ble_eq_true rfl) (fun κ hκ => ?_)
  show V κ mX3_has 0 [.ref 5, .int i] [] F Ar x
  refine V_iload_n (q := 1) dX3_has_0 rfl rfl ?_
  refine V_iconst (q := 2) (v := 0) dX3_has_1 (by decide) rfl ?_
  refine V_aload_n (q := 3) dX3_has_2 rfl rfl ?_
  refine V_getI (q := 6) (n := 325) 5 5 kf_X3_39 (by decide) (by decide) rfl rfl dX3_has_3 rfl ?_
  refine V_iconst (q := 7) (v := 1) dX3_has_6 (by decide) rfl ?_
  refine V_isub (q := 8) dX3_has_7 rfl ?_
  refine V_cSN3I (q := 11) (N := mX5_isWithin) tX5_isWithin hκ.big (by decide) gX5_isWithin (by decide +kernel) kt_X5_isWithin (Nat.le_of_ble_eq_true rfl) dX3_has_8 rfl ?_
  exact V_iret hκ rfl (by first | rfl | exact vB_nar) dX3_has_11 vEq.rf
theorem tX3_size {F : vFt} {Ar : vAt} {x : vXt}   : C0 mX3_size 0 [.ref 5] F Ar x (vEq (some (.int (F 325))) F Ar) := by
  refine C0_of (by decide +kernel) (Nat.le_of_ble_eq_true rfl) (fun κ hκ => ?_)
  show V κ mX3_size 0 [.ref 5] [] F Ar x
  refine V_aload_n (q := 1) dX3_size_0 rfl rfl ?_
  refine V_getI (q := 4) (n := 325) 5 5 kf_X3_39 (by decide) (by decide) rfl rfl dX3_size_1 rfl ?_
  exact V_iret hκ rfl rfl dX3_size_4 vEq.rf
end
section
/-- a hull's numbers in its row; its measuring -/
def hSz (f : Nat → Int32) (h : Nat) (l b d r : Int32) : Nat → Int32 := upd (upd (upd (upd f (h * 7 + 0) l) (h * 7 + 1) b) (h * 7 + 2) d) (h * 7 + 3) r
def hMs (f : Nat → Int32) (h : Nat) (t d a : Int32) : Nat → Int32 := upd (upd (upd f (h * 7 + 4) t) (h * 7 + 5) d) (h * 7 + 6) a
theorem tX1_told {F : vFt} {Ar : vAt} {x : vXt} {h c : Nat} (hh : h < 5) (hc : c < 7) : C0 mX1_told 0 [.ref 3, .int (nI h), .int (nI c)] F Ar x (vEq (some (.int (Ar 22 (h * 7 + c)))) F Ar) := by
  refine C0_of (by decide +kernel) (Nat.le_of_ble_eq_true rfl) (fun κ hκ => ?_)
  show V κ mX1_told 0 [.ref 3, .int (nI h), .int (nI c)] [] F Ar x
  refine V_aload_n (q := 1) dX1_told_0 rfl rfl ?_
  refine V_getR (q := 4) (n := 22) 3 0 kf_X1_11 (by decide) (by decide) rfl (by decide) dX1_told_1 rfl ?_
  refine V_iload_n (q := 5) dX1_told_4 rfl rfl ?_
  refine V_bipush (q := 7) (v := 7) dX1_told_5 (by decide) rfl ?_
  refine V_imul (q := 8) dX1_told_7 rfl ?_
  refine V_iload_n (q := 9) dX1_told_8 rfl rfl ?_
  refine V_iadd (q := 10) dX1_told_9 rfl ?_
  refine V_ild (q := 11) (h * 7 + c) 35 (v_ma h 7 c) (by omega) (by decide) (by omega) (by decide) rfl (by decide) dX1_told_10 rfl ?_
  exact V_iret hκ rfl rfl dX1_told_11 vEq.rf
theorem tX1_setSizes {F : vFt} {Ar : vAt} {x : vXt} {h : Nat} {l b d r : Int32} (hh : h < 5) : C0 mX1_setSizes 0 [.ref 3, .int (nI h), .int l, .int b, .int d, .int r] F Ar x (vEq none F (vS Ar 22 (hSz (Ar 22) h l b d r))) := by
  refine C0_of (by decide +kernel) (Nat.le_of_ble_eq_true rfl) (fun κ hκ => ?_)
  show V κ mX1_setSizes 0 [.ref 3, .int (nI h), .int l, .int b, .int d, .int r, .null] [] F Ar x
  refine V_iload_n (q := 1) dX1_setSizes_0 rfl rfl ?_
  refine V_bipush (q := 3) (v := 7) dX1_setSizes_1 (by decide) rfl ?_
  refine V_imul (q := 4) dX1_setSizes_3 rfl ?_
  refine V_istore (q := 6) dX1_setSizes_4 (Nat.le_of_ble_eq_true rfl) rfl rfl ?_
  refine V_aload_n (q := 7) dX1_setSizes_6 rfl rfl ?_
  refine V_getR (q := 10) (n := 22) 3 0 kf_X1_11 (by decide) (by decide) rfl (by decide) dX1_setSizes_7 rfl ?_
  refine V_iload (q := 12) dX1_setSizes_10 rfl rfl ?_
  refine V_iconst (q := 13) (v := 0) dX1_setSizes_12 (by decide) rfl ?_
  refine V_iadd (q := 14) dX1_setSizes_13 rfl ?_
  refine V_iload_n (q := 15) dX1_setSizes_14 rfl rfl ?_
  refine V_ist (q := 16) (h * 7 + 0) 35 (v_ma h 7 0) (by omega) (by decide) (by omega) (by decide) rfl (by decide) dX1_setSizes_15 rfl ?_
  refine V_aload_n (q := 17) dX1_setSizes_16 rfl rfl ?_
  refine V_getR (q := 20) (n := 22) 3 0 kf_X1_11 (by decide) (by decide) rfl (by decide) dX1_setSizes_17 rfl ?_
  refine V_iload (q := 22) dX1_setSizes_20 rfl rfl ?_
  refine V_iconst (q := 23) (v := 1) dX1_setSizes_22 (by decide) rfl ?_
  refine V_iadd (q := 24) dX1_setSizes_23 rfl ?_
  refine V_iload_n (q := 25) dX1_setSizes_24 rfl rfl ?_
  refine V_ist (q := 26) (h * 7 + 1) 35 (v_ma h 7 1) (by omega) (by decide) (by omega) (by decide) rfl (by decide) dX1_setSizes_25 rfl ?_
  refine V_aload_n (q := 27) dX1_setSizes_26 rfl rfl ?_
  refine V_getR (q := 30) (n := 22) 3 0 kf_X1_11 (by decide) (by decide) rfl (by decide) dX1_setSizes_27 rfl ?_
  refine V_iload (q := 32) dX1_setSizes_30 rfl rfl ?_
  refine V_iconst (q := 33) (v := 2) dX1_setSizes_32 (by decide) rfl ?_
  refine V_iadd (q := 34) dX1_setSizes_33 rfl ?_
  refine V_iload (q := 36) dX1_setSizes_34 rfl rfl ?_
  refine V_ist (q := 37) (h * 7 + 2) 35 (v_ma h 7 2) (by omega) (by decide) (by omega) (by decide) rfl (by decide) dX1_setSizes_36 rfl ?_
  refine V_aload_n (q := 38) dX1_setSizes_37 rfl rfl ?_
  refine V_getR (q := 41) (n := 22) 3 0 kf_X1_11 (by decide) (by decide) rfl (by decide) dX1_setSizes_38 rfl ?_
  refine V_iload (q := 43) dX1_setSizes_41 rfl rfl ?_
  refine V_iconst (q := 44) (v := 3) dX1_setSizes_43 (by decide) rfl ?_
  refine V_iadd (q := 45) dX1_setSizes_44 rfl ?_
  refine V_iload (q := 47) dX1_setSizes_45 rfl rfl ?_
  refine V_ist (q := 48) (h * 7 + 3) 35 (v_ma h 7 3) (by omega) (by decide) (by omega) (by decide) rfl (by decide) dX1_setSizes_47 rfl ?_
  exact V_vret hκ rfl dX1_setSizes_48 ⟨rfl, rfl, by simp only [vS_vS, vS_at]; rfl⟩
theorem tX1_setMeasuring {F : vFt} {Ar : vAt} {x : vXt} {h : Nat} {t d a : Int32} (hh : h < 5) : C0 mX1_setMeasuring 0 [.ref 3, .int (nI h), .int t, .int d, .int a] F Ar x (vEq none F (vS Ar 22 (hMs (Ar 22) h t d a))) := by
  refine C0_of (by decide +kernel) (Nat.le_of_ble_eq_true rfl) (fun κ hκ => ?_)
  show V κ mX1_setMeasuring 0 [.ref 3, .int (nI h), .int t, .int d, .int a, .null] [] F Ar x
  refine V_iload_n (q := 1) dX1_setMeasuring_0 rfl rfl ?_
  refine V_bipush (q := 3) (v := 7) dX1_setMeasuring_1 (by decide) rfl ?_
  refine V_imul (q := 4) dX1_setMeasuring_3 rfl ?_
  refine V_istore (q := 6) dX1_setMeasuring_4 (Nat.le_of_ble_eq_true rfl) rfl rfl ?_
  refine V_aload_n (q := 7) dX1_setMeasuring_6 rfl rfl ?_
  refine V_getR (q := 10) (n := 22) 3 0 kf_X1_11 (by decide) (by decide) rfl (by decide) dX1_setMeasuring_7 rfl ?_
  refine V_iload (q := 12) dX1_setMeasuring_10 rfl rfl ?_
  refine V_iconst (q := 13) (v := 4) dX1_setMeasuring_12 (by decide) rfl ?_
  refine V_iadd (q := 14) dX1_setMeasuring_13 rfl ?_
  refine V_iload_n (q := 15) dX1_setMeasuring_14 rfl rfl ?_
  refine V_ist (q := 16) (h * 7 + 4) 35 (v_ma h 7 4) (by omega) (by decide) (by omega) (by decide) rfl (by decide) dX1_setMeasuring_15 rfl ?_
  refine V_aload_n (q := 17) dX1_setMeasuring_16 rfl rfl ?_
  refine V_getR (q := 20) (n := 22) 3 0 kf_X1_11 (by decide) (by decide) rfl (by decide) dX1_setMeasuring_17 rfl ?_
  refine V_iload (q := 22) dX1_setMeasuring_20 rfl rfl ?_
  refine V_iconst (q := 23) (v := 5) dX1_setMeasuring_22 (by decide) rfl ?_
  refine V_iadd (q := 24) dX1_setMeasuring_23 rfl ?_
  refine V_iload_n (q := 25) dX1_setMeasuring_24 rfl rfl ?_
  refine V_ist (q := 26) (h * 7 + 5) 35 (v_ma h 7 5) (by omega) (by decide) (by omega) (by decide) rfl (by decide) dX1_setMeasuring_25 rfl ?_
  refine V_aload_n (q := 27) dX1_setMeasuring_26 rfl rfl ?_
  refine V_getR (q := 30) (n := 22) 3 0 kf_X1_11 (by decide) (by decide) rfl (by decide) dX1_setMeasuring_27 rfl ?_
  refine V_iload (q := 32) dX1_setMeasuring_30 rfl rfl ?_
  refine V_bipush (q := 34) (v := 6) dX1_setMeasuring_32 (by decide) rfl ?_
  refine V_iadd (q := 35) dX1_setMeasuring_34 rfl ?_
  refine V_iload (q := 37) dX1_setMeasuring_35 rfl rfl ?_
  refine V_ist (q := 38) (h * 7 + 6) 35 (v_ma h 7 6) (by omega) (by decide) (by omega) (by decide) rfl (by decide) dX1_setMeasuring_37 rfl ?_
  exact V_vret hκ rfl dX1_setMeasuring_38 ⟨rfl, rfl, by simp only [vS_vS, vS_at]; rfl⟩
theorem tX1_add {F : vFt} {Ar : vAt} {x : vXt} {n : Nat} {l b d r : Int32} (hn : F 193 = nI n) (hn5 : n ≤ 5) : C0 mX1_add 1 [.ref 3, .int l, .int b, .int d, .int r] F Ar x (vEq (some (.int (if n < 5 then nI n else -2))) (if n < 5 then upd F 193 (nI (n + 1)) else F) (if n < 5 then vS Ar 22 (hMs (hSz (Ar 22) n l b d r) n (-10000000) (-10000000) (-10000000)) else Ar)) := by
  refine C0_of (by decide +kernel) (Nat.le_of_ble_eq_true rfl) (fun κ hκ => ?_)
  show V κ mX1_add 0 [.ref 3, .int l, .int b, .int d, .int r] [] F Ar x
  refine V_aload_n (q := 1) dX1_add_0 rfl rfl ?_
  refine V_getI (q := 4) (n := 193) 3 1 kf_X1_15 (by decide) (by decide) rfl rfl dX1_add_1 rfl ?_
  refine V_iconst (q := 5) (v := 5) dX1_add_4 (by decide) rfl ?_
  have h5 : nI n < nI 5 ↔ n < 5 := nI_ltI (by omega) (by decide)
  rw [hn]
  refine V_icmp_lt (tgt := 11) (q := 8) dX1_add_5 (by decide) rfl (fun c_5 => ?_) (fun c_5 => ?_)
  · refine V_aload_n (q := 12) dX1_add_11 rfl rfl ?_
    refine V_aload_n (q := 13) dX1_add_12 rfl rfl ?_
    refine V_getI (q := 16) (n := 193) 3 1 kf_X1_15 (by decide) (by decide) rfl rfl dX1_add_13 rfl ?_
    rw [hn]
    refine V_iload_n (q := 17) dX1_add_16 rfl rfl ?_
    refine V_iload_n (q := 18) dX1_add_17 rfl rfl ?_
    refine V_iload_n (q := 19) dX1_add_18 rfl rfl ?_
    refine V_iload (q := 21) dX1_add_19 rfl rfl ?_
    refine V_cV5U (q := 24) (o := 3) (N := mX1_setSizes) (tX1_setSizes (h5.mp c_5)) hκ.big (by decide) gX1_setSizes kl_X1_23 ki_X1_setSizes ks_X1_setSizes (by decide) rfl (Nat.le_of_ble_eq_true rfl) dX1_add_21 rfl ?_
    refine V_aload_n (q := 25) dX1_add_24 rfl rfl ?_
    refine V_aload_n (q := 26) dX1_add_25 rfl rfl ?_
    refine V_getI (q := 29) (n := 193) 3 1 kf_X1_15 (by decide) (by decide) rfl rfl dX1_add_26 rfl ?_
    rw [hn]
    refine V_ldc (q := 31) dX1_add_29 kc_X1_27 rfl ?_
    refine V_ldc (q := 33) dX1_add_31 kc_X1_27 rfl ?_
    refine V_ldc (q := 35) dX1_add_33 kc_X1_27 rfl ?_
    refine V_cV4U (q := 38) (o := 3) (N := mX1_setMeasuring) (tX1_setMeasuring (h5.mp c_5)) hκ.big (by decide) gX1_setMeasuring kl_X1_28 ki_X1_setMeasuring ks_X1_setMeasuring (by decide) rfl (Nat.le_of_ble_eq_true rfl) dX1_add_35 rfl ?_
    refine V_aload_n (q := 39) dX1_add_38 rfl rfl ?_
    refine V_dup (q := 40) dX1_add_39 rfl rfl ?_
    refine V_getI (q := 43) (n := 193) 3 1 kf_X1_15 (by decide) (by decide) rfl rfl dX1_add_40 rfl ?_
    refine V_iconst (q := 44) (v := 1) dX1_add_43 (by decide) rfl ?_
    refine V_iadd (q := 45) dX1_add_44 rfl ?_
    refine V_putI (q := 48) (n := 193) 3 1 kf_X1_15 (by decide) (by decide) rfl rfl dX1_add_45 rfl ?_
    refine V_aload_n (q := 49) dX1_add_48 rfl rfl ?_
    refine V_getI (q := 52) (n := 193) 3 1 kf_X1_15 (by decide) (by decide) rfl rfl dX1_add_49 rfl ?_
    refine V_iconst (q := 53) (v := 1) dX1_add_52 (by decide) rfl ?_
    refine V_isub (q := 54) dX1_add_53 rfl ?_
    exact V_iret hκ rfl rfl dX1_add_54 (by simp only [if_pos (h5.mp c_5)]; refine ⟨?_, ?_, ?_⟩; (· show some (Value.int (F 193 + 1 - 1)) = _; rw [hn, nI_1]; exact congrArg (fun z => some (Value.int z)) (nI_pred n)); (· rw [hn, nI_1]); (· rw [vS_vS, vS_at]))
  · refine V_bipush (q := 10) (v := (-2)) dX1_add_8 (by decide) rfl ?_
    exact V_iret hκ rfl rfl dX1_add_10 (by simp only [if_neg (fun h => c_5 (h5.mpr h) : ¬ n < 5)]; exact vEq.rf)
end
section
abbrev gT : Type := (Nat → Int32) × (Nat → Int32) × (Nat → Int32) × (Nat → Int32)
/-- how it stands: what is owned, pledged, held, which pledges stand -/
def gGet (Ar : vAt) : gT := (Ar 27, Ar 28, Ar 29, Ar 24)
def gPut (Ar : vAt) (s : gT) : vAt := vS (vS (vS (vS Ar 27 s.1) 28 s.2.1) 29 s.2.2.1) 24 s.2.2.2
def gSet (a1 a2 : Nat → Nat) (p : Nat) (v n : Int32) (s : gT) : gT := (s.1, upd s.2.1 (a1 p) (s.2.1 (a1 p) + n), upd s.2.2.1 (a2 p) (s.2.2.1 (a2 p) + n), upd s.2.2.2 p v)
def gMove (a1 a2 : Nat → Nat) (e : Nat) (n : Int32) (s : gT) : gT := (upd (upd s.1 (a1 e) (s.1 (a1 e) - n)) (a2 e) (upd s.1 (a1 e) (s.1 (a1 e) - n) (a2 e) + n), s.2.1, s.2.2.1, s.2.2.2)
/-- an entry that isn't forged: whether it takes effect, and how it stands then -/
def gEff (kd am : Nat → Int32) (rd a1 a2 : Nat → Nat) (e : Nat) (s : gT) : Bool × gT :=
  if kd e = 0 then (if am e ≤ s.1 (a1 e) - s.2.1 (a1 e) then (true, gMove a1 a2 e (am e) s) else (false, s))
  else if kd e = 1 then (if am e ≤ s.1 (a1 e) - s.2.1 (a1 e) then (true, gSet a1 a2 e 1 (am e) s) else (false, s))
  else if s.2.2.2 (rd e) = 0 then (false, s) else (true, gSet a1 a2 (rd e) 0 (-(am (rd e))) s)
def gCol (T : Nat → Int32) (c : Nat) : Nat → Int32 := fun e => T (e * 9 + c)
def gIx (f : Nat → Int32) : Nat → Nat := fun e => (f e).toNatClampNeg
theorem gIx_eq {f : Nat → Int32} {e a : Nat} (h : f e = nI a) (ha : a < 2 ^ 31) : gIx f e = a := v_cl a h ha
theorem gPut_get (Ar : vAt) : gPut Ar (gGet Ar) = Ar := by
  unfold gPut gGet
  funext b
  simp only [vS]
  by_cases h1 : b = 24 <;> by_cases h2 : b = 29 <;> by_cases h3 : b = 28 <;> by_cases h4 : b = 27 <;> simp_all
theorem tX2_account {F : vFt} {Ar : vAt} {x : vXt} {h c : Nat}  : C0 mX2_account 0 [.int (nI h), .int (nI c)] F Ar x (vEq (some (.int (nI (h * 8 + c)))) F Ar) := by
  refine C0_of (by decide +kernel) (Nat.le_of_ble_eq_true rfl) (fun κ hκ => ?_)
  show V κ mX2_account 0 [.int (nI h), .int (nI c)] [] F Ar x
  refine V_iload_n (q := 1) dX2_account_0 rfl rfl ?_
  refine V_bipush (q := 3) (v := 8) dX2_account_1 (by decide) rfl ?_
  refine V_imul (q := 4) dX2_account_3 rfl ?_
  refine V_iload_n (q := 5) dX2_account_4 rfl rfl ?_
  refine V_iadd (q := 6) dX2_account_5 rfl ?_
  exact V_iret hκ rfl rfl dX2_account_6 ⟨congrArg (fun z => some (Value.int z)) (v_ma h 8 c), rfl, rfl⟩
theorem tX2_told {F : vFt} {Ar : vAt} {x : vXt} {e c : Nat} (he : e < 60) (hc : c < 9) : C0 mX2_told 0 [.ref 4, .int (nI e), .int (nI c)] F Ar x (vEq (some (.int (Ar 23 (e * 9 + c)))) F Ar) := by
  refine C0_of (by decide +kernel) (Nat.le_of_ble_eq_true rfl) (fun κ hκ => ?_)
  show V κ mX2_told 0 [.ref 4, .int (nI e), .int (nI c)] [] F Ar x
  refine V_aload_n (q := 1) dX2_told_0 rfl rfl ?_
  refine V_getR (q := 4) (n := 23) 4 0 kf_X2_13 (by decide) (by decide) rfl (by decide) dX2_told_1 rfl ?_
  refine V_iload_n (q := 5) dX2_told_4 rfl rfl ?_
  refine V_bipush (q := 7) (v := 9) dX2_told_5 (by decide) rfl ?_
  refine V_imul (q := 8) dX2_told_7 rfl ?_
  refine V_iload_n (q := 9) dX2_told_8 rfl rfl ?_
  refine V_iadd (q := 10) dX2_told_9 rfl ?_
  refine V_ild (q := 11) (e * 9 + c) 540 (v_ma e 9 c) (by omega) (by decide) (by omega) (by decide) rfl (by decide) dX2_told_10 rfl ?_
  exact V_iret hκ rfl rfl dX2_told_11 vEq.rf
theorem tX2_put {F : vFt} {Ar : vAt} {x : vXt} {e c : Nat} {v : Int32} (he : e < 60) (hc : c < 9) : C0 mX2_put 0 [.ref 4, .int (nI e), .int (nI c), .int v] F Ar x (vEq none F (vS Ar 23 (upd (Ar 23) (e * 9 + c) v))) := by
  refine C0_of (by decide +kernel) (Nat.le_of_ble_eq_true rfl) (fun κ hκ => ?_)
  show V κ mX2_put 0 [.ref 4, .int (nI e), .int (nI c), .int v] [] F Ar x
  refine V_aload_n (q := 1) dX2_put_0 rfl rfl ?_
  refine V_getR (q := 4) (n := 23) 4 0 kf_X2_13 (by decide) (by decide) rfl (by decide) dX2_put_1 rfl ?_
  refine V_iload_n (q := 5) dX2_put_4 rfl rfl ?_
  refine V_bipush (q := 7) (v := 9) dX2_put_5 (by decide) rfl ?_
  refine V_imul (q := 8) dX2_put_7 rfl ?_
  refine V_iload_n (q := 9) dX2_put_8 rfl rfl ?_
  refine V_iadd (q := 10) dX2_put_9 rfl ?_
  refine V_iload_n (q := 11) dX2_put_10 rfl rfl ?_
  refine V_ist (q := 12) (e * 9 + c) 540 (v_ma e 9 c) (by omega) (by decide) (by omega) (by decide) rfl (by decide) dX2_put_11 rfl ?_
  exact V_vret hκ rfl dX2_put_12 vEq.rf
theorem tX2_isForged {F : vFt} {Ar : vAt} {x : vXt} {e : Nat} (he : e < 60) : C0 mX2_isForged 1 [.ref 4, .int (nI e)] F Ar x (vEq (some (.int (vB (Ar 23 (e * 9 + 5) = 1)))) F Ar) := by
  refine C0_of (by decide +kernel) (Nat.le_of_ble_eq_true rfl) (fun κ hκ => ?_)
  show V κ mX2_isForged 0 [.ref 4, .int (nI e)] [] F Ar x
  refine V_aload_n (q := 1) dX2_isForged_0 rfl rfl ?_
  refine V_iload_n (q := 2) dX2_isForged_1 rfl rfl ?_
  refine V_iconst (q := 3) (v := 5) dX2_isForged_2 (by decide) rfl ?_
  refine V_cV2I (q := 6) (o := 4) (N := mX2_told) (tX2_told (c := 5) he (by decide)) hκ.big (by decide) gX2_told kl_X2_50 ki_X2_told ks_X2_told (by decide) rfl (Nat.le_of_ble_eq_true rfl) dX2_isForged_3 rfl ?_
  refine V_iconst (q := 7) (v := 1) dX2_isForged_6 (by decide) rfl ?_
  refine V_icmp_ne (tgt := 14) (q := 10) dX2_isForged_7 (by decide) rfl (fun c_7 => ?_) (fun c_7 => ?_)
  · refine V_iconst (q := 15) (v := 0) dX2_isForged_14 (by decide) rfl ?_
    exact V_iret hκ rfl (by first | rfl | exact vB_nar) dX2_isForged_15 ⟨by rw [vB_f c_7], rfl, rfl⟩
  · refine V_iconst (q := 11) (v := 1) dX2_isForged_10 (by decide) rfl ?_
    refine V_goto (q := 15) dX2_isForged_11 (by decide) ?_
    exact V_iret hκ rfl (by first | rfl | exact vB_nar) dX2_isForged_15 ⟨by rw [vB_t c_7], rfl, rfl⟩
theorem tX2_freeOf {F : vFt} {Ar : vAt} {x : vXt} {a : Nat} (ha : a < 40) : C0 mX2_freeOf 0 [.ref 4, .int (nI a)] F Ar x (vEq (some (.int (Ar 27 a - Ar 28 a))) F Ar) := by
  refine C0_of (by decide +kernel) (Nat.le_of_ble_eq_true rfl) (fun κ hκ => ?_)
  show V κ mX2_freeOf 0 [.ref 4, .int (nI a)] [] F Ar x
  refine V_aload_n (q := 1) dX2_freeOf_0 rfl rfl ?_
  refine V_getR (q := 4) (n := 27) 4 5 kf_X2_27 (by decide) (by decide) rfl (by decide) dX2_freeOf_1 rfl ?_
  refine V_iload_n (q := 5) dX2_freeOf_4 rfl rfl ?_
  refine V_ild (q := 6) (a) 40 rfl ha (by decide) (by omega) (by decide) rfl (by decide) dX2_freeOf_5 rfl ?_
  refine V_aload_n (q := 7) dX2_freeOf_6 rfl rfl ?_
  refine V_getR (q := 10) (n := 28) 4 6 kf_X2_30 (by decide) (by decide) rfl (by decide) dX2_freeOf_7 rfl ?_
  refine V_iload_n (q := 11) dX2_freeOf_10 rfl rfl ?_
  refine V_ild (q := 12) (a) 40 rfl ha (by decide) (by omega) (by decide) rfl (by decide) dX2_freeOf_11 rfl ?_
  refine V_isub (q := 13) dX2_freeOf_12 rfl ?_
  exact V_iret hκ rfl rfl dX2_freeOf_13 vEq.rf
theorem tX2_allParts {F : vFt} {Ar : vAt} {x : vXt} {h c : Nat} (hh : h < 5) (hc : c < 8) : C0 mX2_allParts 1 [.ref 4, .int (nI h), .int (nI c)] F Ar x (vEq (some (.int (Ar 27 (h * 8 + c)))) F Ar) := by
  refine C0_of (by decide +kernel) (Nat.le_of_ble_eq_true rfl) (fun κ hκ => ?_)
  show V κ mX2_allParts 0 [.ref 4, .int (nI h), .int (nI c)] [] F Ar x
  refine V_aload_n (q := 1) dX2_allParts_0 rfl rfl ?_
  refine V_getR (q := 4) (n := 27) 4 5 kf_X2_27 (by decide) (by decide) rfl (by decide) dX2_allParts_1 rfl ?_
  refine V_iload_n (q := 5) dX2_allParts_4 rfl rfl ?_
  refine V_iload_n (q := 6) dX2_allParts_5 rfl rfl ?_
  refine V_cS2I (q := 9) (N := mX2_account) tX2_account hκ.big (by decide) gX2_account kl_X2_58 kt_X2_account (Nat.le_of_ble_eq_true rfl) dX2_allParts_6 rfl ?_
  refine V_ild (q := 10) (h * 8 + c) 40 rfl (by omega) (by decide) (by omega) (by decide) rfl (by decide) dX2_allParts_9 rfl ?_
  exact V_iret hκ rfl rfl dX2_allParts_10 vEq.rf
theorem tX2_partsHeld {F : vFt} {Ar : vAt} {x : vXt} {h c : Nat} (hh : h < 5) (hc : c < 8) : C0 mX2_partsHeld 1 [.ref 4, .int (nI h), .int (nI c)] F Ar x (vEq (some (.int (Ar 29 (h * 8 + c)))) F Ar) := by
  refine C0_of (by decide +kernel) (Nat.le_of_ble_eq_true rfl) (fun κ hκ => ?_)
  show V κ mX2_partsHeld 0 [.ref 4, .int (nI h), .int (nI c)] [] F Ar x
  refine V_aload_n (q := 1) dX2_partsHeld_0 rfl rfl ?_
  refine V_getR (q := 4) (n := 29) 4 7 kf_X2_33 (by decide) (by decide) rfl (by decide) dX2_partsHeld_1 rfl ?_
  refine V_iload_n (q := 5) dX2_partsHeld_4 rfl rfl ?_
  refine V_iload_n (q := 6) dX2_partsHeld_5 rfl rfl ?_
  refine V_cS2I (q := 9) (N := mX2_account) tX2_account hκ.big (by decide) gX2_account kl_X2_58 kt_X2_account (Nat.le_of_ble_eq_true rfl) dX2_partsHeld_6 rfl ?_
  refine V_ild (q := 10) (h * 8 + c) 40 rfl (by omega) (by decide) (by omega) (by decide) rfl (by decide) dX2_partsHeld_9 rfl ?_
  exact V_iret hκ rfl rfl dX2_partsHeld_10 vEq.rf
theorem tX2_freeParts {F : vFt} {Ar : vAt} {x : vXt} {h c : Nat} (hh : h < 5) (hc : c < 8) : C0 mX2_freeParts 1 [.ref 4, .int (nI h), .int (nI c)] F Ar x (vEq (some (.int (Ar 27 (h * 8 + c) - Ar 28 (h * 8 + c)))) F Ar) := by
  refine C0_of (by decide +kernel) (Nat.le_of_ble_eq_true rfl) (fun κ hκ => ?_)
  show V κ mX2_freeParts 0 [.ref 4, .int (nI h), .int (nI c)] [] F Ar x
  refine V_aload_n (q := 1) dX2_freeParts_0 rfl rfl ?_
  refine V_iload_n (q := 2) dX2_freeParts_1 rfl rfl ?_
  refine V_iload_n (q := 3) dX2_freeParts_2 rfl rfl ?_
  refine V_cS2I (q := 6) (N := mX2_account) tX2_account hκ.big (by decide) gX2_account kl_X2_58 kt_X2_account (Nat.le_of_ble_eq_true rfl) dX2_freeParts_3 rfl ?_
  refine V_cV1I (q := 9) (o := 4) (N := mX2_freeOf) (tX2_freeOf (by omega)) hκ.big (by decide) gX2_freeOf kl_X2_69 ki_X2_freeOf ks_X2_freeOf (by decide) rfl (Nat.le_of_ble_eq_true rfl) dX2_freeParts_6 rfl ?_
  exact V_iret hκ rfl rfl dX2_freeParts_9 vEq.rf
theorem tX2_setStanding {F : vFt} {Ar : vAt} {x : vXt} {e a b : Nat} {on : Bool} (he : e < 60) (ha : a < 40) (hb : b < 40) (h1 : Ar 25 e = nI a) (h2 : Ar 26 e = nI b) : C0 mX2_setStanding 1 [.ref 4, .int (nI e), .int (if on then 1 else 0)] F Ar x (vEq none F (gPut Ar (gSet (gIx (Ar 25)) (gIx (Ar 26)) e (if on then 1 else 0) (if on then gCol (Ar 23) 4 e else -(gCol (Ar 23) 4 e)) (gGet Ar)))) := by
  refine C0_of (by decide +kernel) (Nat.le_of_ble_eq_true rfl) (fun κ hκ => ?_)
  show V κ mX2_setStanding 0 [.ref 4, .int (nI e), .int (if on then 1 else 0), .null] [] F Ar x
  have e1 := gIx_eq h1 (by omega)
  have e2 := gIx_eq h2 (by omega)
  have fin : ∀ n : Int32, vS (vS (vS Ar 24 (upd (Ar 24) e (if on then 1 else 0))) 28 (upd (Ar 28) a (Ar 28 a + n))) 29 (upd (Ar 29) b (Ar 29 b + n)) = gPut Ar (gSet (gIx (Ar 25)) (gIx (Ar 26)) e (if on then 1 else 0) n (gGet Ar)) := by
    intro n
    unfold gPut gSet gGet
    simp only [e1, e2]
    funext z
    simp only [vS]
    by_cases h1 : z = 24 <;> by_cases h2 : z = 29 <;> by_cases h3 : z = 28 <;> by_cases h4 : z = 27 <;> simp_all
  have hnar : vp_nar .boolean (if on then 1 else 0) = (if on then 1 else 0) := by cases on <;> rfl
  refine V_iload_n (q := 1) dX2_setStanding_0 rfl rfl ?_
  refine V_if_eq (tgt := 13) (q := 4) dX2_setStanding_1 (by decide) rfl (fun c_1 => ?_) (fun c_1 => ?_)
  · refine V_aload_n (q := 14) dX2_setStanding_13 rfl rfl ?_
    refine V_iload_n (q := 15) dX2_setStanding_14 rfl rfl ?_
    refine V_iconst (q := 16) (v := 4) dX2_setStanding_15 (by decide) rfl ?_
    refine V_cV2I (q := 19) (o := 4) (N := mX2_told) (tX2_told (c := 4) he (by decide)) hκ.big (by decide) gX2_told kl_X2_50 ki_X2_told ks_X2_told (by decide) rfl (Nat.le_of_ble_eq_true rfl) dX2_setStanding_16 rfl ?_
    refine V_ineg (q := 20) dX2_setStanding_19 rfl ?_
    refine V_istore_n (q := 21) dX2_setStanding_20 (Nat.le_of_ble_eq_true rfl) rfl rfl ?_
    refine V_aload_n (q := 22) dX2_setStanding_21 rfl rfl ?_
    refine V_getR (q := 25) (n := 24) 4 1 kf_X2_17 (by decide) (by decide) rfl (by decide) dX2_setStanding_22 rfl ?_
    refine V_iload_n (q := 26) dX2_setStanding_25 rfl rfl ?_
    refine V_iload_n (q := 27) dX2_setStanding_26 rfl rfl ?_
    refine V_zst (q := 28) (e) 60 rfl he (by decide) (by omega) (by decide) rfl (by decide) dX2_setStanding_27 rfl ?_
    rw [hnar]
    refine V_aload_n (q := 29) dX2_setStanding_28 rfl rfl ?_
    refine V_getR (q := 32) (n := 28) 4 6 kf_X2_30 (by decide) (by decide) rfl (by decide) dX2_setStanding_29 rfl ?_
    refine V_aload_n (q := 33) dX2_setStanding_32 rfl rfl ?_
    refine V_getR (q := 36) (n := 25) 4 3 kf_X2_21 (by decide) (by decide) rfl (by decide) dX2_setStanding_33 rfl ?_
    refine V_iload_n (q := 37) dX2_setStanding_36 rfl rfl ?_
    refine V_ild (q := 38) (e) 60 rfl he (by decide) (by omega) (by decide) rfl (by decide) dX2_setStanding_37 rfl ?_
    refine V_dup2 (q := 39) dX2_setStanding_38 rfl rfl rfl ?_
    refine V_ild (q := 40) (a) 40 h1 ha (by decide) (by omega) (by decide) rfl (by decide) dX2_setStanding_39 rfl ?_
    refine V_iload_n (q := 41) dX2_setStanding_40 rfl rfl ?_
    refine V_iadd (q := 42) dX2_setStanding_41 rfl ?_
    refine V_ist (q := 43) (a) 40 h1 ha (by decide) (by omega) (by decide) rfl (by decide) dX2_setStanding_42 rfl ?_
    refine V_aload_n (q := 44) dX2_setStanding_43 rfl rfl ?_
    refine V_getR (q := 47) (n := 29) 4 7 kf_X2_33 (by decide) (by decide) rfl (by decide) dX2_setStanding_44 rfl ?_
    refine V_aload_n (q := 48) dX2_setStanding_47 rfl rfl ?_
    refine V_getR (q := 51) (n := 26) 4 4 kf_X2_24 (by decide) (by decide) rfl (by decide) dX2_setStanding_48 rfl ?_
    refine V_iload_n (q := 52) dX2_setStanding_51 rfl rfl ?_
    refine V_ild (q := 53) (e) 60 rfl he (by decide) (by omega) (by decide) rfl (by decide) dX2_setStanding_52 rfl ?_
    refine V_dup2 (q := 54) dX2_setStanding_53 rfl rfl rfl ?_
    refine V_ild (q := 55) (b) 40 h2 hb (by decide) (by omega) (by decide) rfl (by decide) dX2_setStanding_54 rfl ?_
    refine V_iload_n (q := 56) dX2_setStanding_55 rfl rfl ?_
    refine V_iadd (q := 57) dX2_setStanding_56 rfl ?_
    refine V_ist (q := 58) (b) 40 h2 hb (by decide) (by omega) (by decide) rfl (by decide) dX2_setStanding_57 rfl ?_
    exact V_vret hκ rfl dX2_setStanding_58 ⟨rfl, rfl, by cases on; (· exact fin _); (· exact absurd c_1 (by decide))⟩
  · refine V_aload_n (q := 5) dX2_setStanding_4 rfl rfl ?_
    refine V_iload_n (q := 6) dX2_setStanding_5 rfl rfl ?_
    refine V_iconst (q := 7) (v := 4) dX2_setStanding_6 (by decide) rfl ?_
    refine V_cV2I (q := 10) (o := 4) (N := mX2_told) (tX2_told (c := 4) he (by decide)) hκ.big (by decide) gX2_told kl_X2_50 ki_X2_told ks_X2_told (by decide) rfl (Nat.le_of_ble_eq_true rfl) dX2_setStanding_7 rfl ?_
    refine V_goto (q := 20) dX2_setStanding_10 (by decide) ?_
    refine V_istore_n (q := 21) dX2_setStanding_20 (Nat.le_of_ble_eq_true rfl) rfl rfl ?_
    refine V_aload_n (q := 22) dX2_setStanding_21 rfl rfl ?_
    refine V_getR (q := 25) (n := 24) 4 1 kf_X2_17 (by decide) (by decide) rfl (by decide) dX2_setStanding_22 rfl ?_
    refine V_iload_n (q := 26) dX2_setStanding_25 rfl rfl ?_
    refine V_iload_n (q := 27) dX2_setStanding_26 rfl rfl ?_
    refine V_zst (q := 28) (e) 60 rfl he (by decide) (by omega) (by decide) rfl (by decide) dX2_setStanding_27 rfl ?_
    rw [hnar]
    refine V_aload_n (q := 29) dX2_setStanding_28 rfl rfl ?_
    refine V_getR (q := 32) (n := 28) 4 6 kf_X2_30 (by decide) (by decide) rfl (by decide) dX2_setStanding_29 rfl ?_
    refine V_aload_n (q := 33) dX2_setStanding_32 rfl rfl ?_
    refine V_getR (q := 36) (n := 25) 4 3 kf_X2_21 (by decide) (by decide) rfl (by decide) dX2_setStanding_33 rfl ?_
    refine V_iload_n (q := 37) dX2_setStanding_36 rfl rfl ?_
    refine V_ild (q := 38) (e) 60 rfl he (by decide) (by omega) (by decide) rfl (by decide) dX2_setStanding_37 rfl ?_
    refine V_dup2 (q := 39) dX2_setStanding_38 rfl rfl rfl ?_
    refine V_ild (q := 40) (a) 40 h1 ha (by decide) (by omega) (by decide) rfl (by decide) dX2_setStanding_39 rfl ?_
    refine V_iload_n (q := 41) dX2_setStanding_40 rfl rfl ?_
    refine V_iadd (q := 42) dX2_setStanding_41 rfl ?_
    refine V_ist (q := 43) (a) 40 h1 ha (by decide) (by omega) (by decide) rfl (by decide) dX2_setStanding_42 rfl ?_
    refine V_aload_n (q := 44) dX2_setStanding_43 rfl rfl ?_
    refine V_getR (q := 47) (n := 29) 4 7 kf_X2_33 (by decide) (by decide) rfl (by decide) dX2_setStanding_44 rfl ?_
    refine V_aload_n (q := 48) dX2_setStanding_47 rfl rfl ?_
    refine V_getR (q := 51) (n := 26) 4 4 kf_X2_24 (by decide) (by decide) rfl (by decide) dX2_setStanding_48 rfl ?_
    refine V_iload_n (q := 52) dX2_setStanding_51 rfl rfl ?_
    refine V_ild (q := 53) (e) 60 rfl he (by decide) (by omega) (by decide) rfl (by decide) dX2_setStanding_52 rfl ?_
    refine V_dup2 (q := 54) dX2_setStanding_53 rfl rfl rfl ?_
    refine V_ild (q := 55) (b) 40 h2 hb (by decide) (by omega) (by decide) rfl (by decide) dX2_setStanding_54 rfl ?_
    refine V_iload_n (q := 56) dX2_setStanding_55 rfl rfl ?_
    refine V_iadd (q := 57) dX2_setStanding_56 rfl ?_
    refine V_ist (q := 58) (b) 40 h2 hb (by decide) (by omega) (by decide) rfl (by decide) dX2_setStanding_57 rfl ?_
    exact V_vret hκ rfl dX2_setStanding_58 ⟨rfl, rfl, by cases on; (· exact absurd rfl c_1); (· exact fin _)⟩
end
section
set_option maxHeartbeats 1000000 in
theorem lp_fill {F : vFt} {Ar : vAt} {x : vXt} {a n : Nat} {v : Int32} {κ : vK} (hκ : vStd κ 0 x (vEq none F (vS Ar a (vFill (Ar a) n v)))) (h9 : 9 ≤ a) (ha : a < 66 + x.1) (ht : vTyA a = 0) (hn : vLen a = n) (h31 : n < 2 ^ 31) : ∀ k i, i + k = n → V κ mJ7_fill_53178 5 [.ref a, .int v, .int (nI i), .int (nI n)] [] F (vS Ar a (vFill (Ar a) i v)) x := by
  intro k
  induction k with
  | zero =>
    intro i hi
    obtain rfl : i = n := by omega
    refine V_iload_n (q := 6) dJ7_fill_53178_5 rfl rfl ?_
    refine V_iload_n (q := 7) dJ7_fill_53178_6 rfl rfl ?_
    refine V_icmp_ge (tgt := 20) (q := 10) dJ7_fill_53178_7 (by decide) rfl (fun c_7 => ?_) (fun c_7 => absurd c_7 (v_gt h31 h31 (Nat.le_refl _)))
    exact V_vret hκ rfl dJ7_fill_53178_20 vEq.rf
  | succ k ih =>
    intro i hi
    refine V_iload_n (q := 6) dJ7_fill_53178_5 rfl rfl ?_
    refine V_iload_n (q := 7) dJ7_fill_53178_6 rfl rfl ?_
    refine V_icmp_ge (tgt := 20) (q := 10) dJ7_fill_53178_7 (by decide) rfl (fun c_7 => absurd c_7 (v_gf (by omega) h31 (by omega))) (fun c_7 => ?_)
    refine V_aload_n (q := 11) dJ7_fill_53178_10 rfl rfl ?_
    refine V_iload_n (q := 12) dJ7_fill_53178_11 rfl rfl ?_
    refine V_iload_n (q := 13) dJ7_fill_53178_12 rfl rfl ?_
    refine V_ist (q := 14) (i) n rfl (by omega) h9 ha ht hn h31 dJ7_fill_53178_13 rfl ?_
    refine V_iincN (q := 17) dJ7_fill_53178_14 rfl (Nat.le_of_ble_eq_true rfl) rfl rfl ?_
    refine V_goto (q := 5) dJ7_fill_53178_17 (by decide) ?_
    refine V_ar (vS Ar a (vFill (Ar a) (i + 1) v)) (by rw [vS_at, vS_vS, vFill_s]) ?_
    exact ih (i + 1) (by omega)
theorem tJ7_fill_53178 {F : vFt} {Ar : vAt} {x : vXt} {a n : Nat} {v : Int32} (h9 : 9 ≤ a) (ha : a < 66 + x.1) (ht : vTyA a = 0) (hn : vLen a = n) (h31 : n < 2 ^ 31) : C0 mJ7_fill_53178 0 [.ref a, .int v] F Ar x (vEq none F (vS Ar a (vFill (Ar a) n v))) := by
  refine C0_of (by decide +kernel) (Nat.le_of_ble_eq_true rfl) (fun κ hκ => ?_)
  show V κ mJ7_fill_53178 0 [.ref a, .int v, .null, .null] [] F Ar x
  refine V_iconst (q := 1) (v := 0) dJ7_fill_53178_0 (by decide) rfl ?_
  refine V_istore_n (q := 2) dJ7_fill_53178_1 (Nat.le_of_ble_eq_true rfl) rfl rfl ?_
  refine V_aload_n (q := 3) dJ7_fill_53178_2 rfl rfl ?_
  refine V_alen (q := 4) h9 ha hn dJ7_fill_53178_3 rfl ?_
  refine V_istore_n (q := 5) dJ7_fill_53178_4 (Nat.le_of_ble_eq_true rfl) rfl rfl ?_
  refine V_ar (vS Ar a (vFill (Ar a) 0 v)) (by rw [vFill_0, vS_self]) ?_
  exact lp_fill hκ h9 ha ht hn h31 n 0 (by omega)
theorem tX2_bringParts {F : vFt} {Ar : vAt} {x : vXt} {e a b : Nat} (he : e < 60) (ha : a < 40) (hb : b < 40) (h1 : Ar 25 e = nI a) (h2 : Ar 26 e = nI b) : C0 mX2_bringParts 1 [.ref 4, .int (nI e)] F Ar x (vEq (some (.int (if gCol (Ar 23) 4 e ≤ Ar 27 a - Ar 28 a then 1 else 0))) F (if gCol (Ar 23) 4 e ≤ Ar 27 a - Ar 28 a then gPut Ar (gMove (gIx (Ar 25)) (gIx (Ar 26)) e (gCol (Ar 23) 4 e) (gGet Ar)) else Ar)) := by
  refine C0_of (by decide +kernel) (Nat.le_of_ble_eq_true rfl) (fun κ hκ => ?_)
  show V κ mX2_bringParts 0 [.ref 4, .int (nI e), .null, .null] [] F Ar x
  have e1 := gIx_eq h1 (by omega)
  have e2 := gIx_eq h2 (by omega)
  have fin : vS Ar 27 (upd (upd (Ar 27) a (Ar 27 a - gCol (Ar 23) 4 e)) b (upd (Ar 27) a (Ar 27 a - gCol (Ar 23) 4 e) b + gCol (Ar 23) 4 e)) = gPut Ar (gMove (gIx (Ar 25)) (gIx (Ar 26)) e (gCol (Ar 23) 4 e) (gGet Ar)) := by
    unfold gPut gMove gGet
    simp only [e1, e2]
    funext z
    simp only [vS]
    by_cases h1 : z = 24 <;> by_cases h2 : z = 29 <;> by_cases h3 : z = 28 <;> by_cases h4 : z = 27 <;> simp_all
  refine V_aload_n (q := 1) dX2_bringParts_0 rfl rfl ?_
  refine V_getR (q := 4) (n := 25) 4 3 kf_X2_21 (by decide) (by decide) rfl (by decide) dX2_bringParts_1 rfl ?_
  refine V_iload_n (q := 5) dX2_bringParts_4 rfl rfl ?_
  refine V_ild (q := 6) (e) 60 rfl he (by decide) (by omega) (by decide) rfl (by decide) dX2_bringParts_5 rfl ?_
  rw [h1]
  refine V_istore_n (q := 7) dX2_bringParts_6 (Nat.le_of_ble_eq_true rfl) rfl rfl ?_
  refine V_aload_n (q := 8) dX2_bringParts_7 rfl rfl ?_
  refine V_iload_n (q := 9) dX2_bringParts_8 rfl rfl ?_
  refine V_iconst (q := 10) (v := 4) dX2_bringParts_9 (by decide) rfl ?_
  refine V_cV2I (q := 13) (o := 4) (N := mX2_told) (tX2_told (c := 4) he (by decide)) hκ.big (by decide) gX2_told kl_X2_50 ki_X2_told ks_X2_told (by decide) rfl (Nat.le_of_ble_eq_true rfl) dX2_bringParts_10 rfl ?_
  refine V_istore_n (q := 14) dX2_bringParts_13 (Nat.le_of_ble_eq_true rfl) rfl rfl ?_
  refine V_iload_n (q := 15) dX2_bringParts_14 rfl rfl ?_
  refine V_aload_n (q := 16) dX2_bringParts_15 rfl rfl ?_
  refine V_iload_n (q := 17) dX2_bringParts_16 rfl rfl ?_
  refine V_cV1I (q := 20) (o := 4) (N := mX2_freeOf) (tX2_freeOf ha) hκ.big (by decide) gX2_freeOf kl_X2_69 ki_X2_freeOf ks_X2_freeOf (by decide) rfl (Nat.le_of_ble_eq_true rfl) dX2_bringParts_17 rfl ?_
  refine V_icmp_le (tgt := 25) (q := 23) dX2_bringParts_20 (by decide) rfl (fun c_20 => ?_) (fun c_20 => ?_)
  · refine V_aload_n (q := 26) dX2_bringParts_25 rfl rfl ?_
    refine V_getR (q := 29) (n := 27) 4 5 kf_X2_27 (by decide) (by decide) rfl (by decide) dX2_bringParts_26 rfl ?_
    refine V_iload_n (q := 30) dX2_bringParts_29 rfl rfl ?_
    refine V_dup2 (q := 31) dX2_bringParts_30 rfl rfl rfl ?_
    refine V_ild (q := 32) (a) 40 rfl ha (by decide) (by omega) (by decide) rfl (by decide) dX2_bringParts_31 rfl ?_
    refine V_iload_n (q := 33) dX2_bringParts_32 rfl rfl ?_
    refine V_isub (q := 34) dX2_bringParts_33 rfl ?_
    refine V_ist (q := 35) (a) 40 rfl ha (by decide) (by omega) (by decide) rfl (by decide) dX2_bringParts_34 rfl ?_
    refine V_aload_n (q := 36) dX2_bringParts_35 rfl rfl ?_
    refine V_getR (q := 39) (n := 27) 4 5 kf_X2_27 (by decide) (by decide) rfl (by decide) dX2_bringParts_36 rfl ?_
    refine V_aload_n (q := 40) dX2_bringParts_39 rfl rfl ?_
    refine V_getR (q := 43) (n := 26) 4 4 kf_X2_24 (by decide) (by decide) rfl (by decide) dX2_bringParts_40 rfl ?_
    refine V_iload_n (q := 44) dX2_bringParts_43 rfl rfl ?_
    refine V_ild (q := 45) (e) 60 rfl he (by decide) (by omega) (by decide) rfl (by decide) dX2_bringParts_44 rfl ?_
    refine V_dup2 (q := 46) dX2_bringParts_45 rfl rfl rfl ?_
    refine V_ild (q := 47) (b) 40 h2 hb (by decide) (by omega) (by decide) rfl (by decide) dX2_bringParts_46 rfl ?_
    refine V_iload_n (q := 48) dX2_bringParts_47 rfl rfl ?_
    refine V_iadd (q := 49) dX2_bringParts_48 rfl ?_
    refine V_ist (q := 50) (b) 40 h2 hb (by decide) (by omega) (by decide) rfl (by decide) dX2_bringParts_49 rfl ?_
    refine V_iconst (q := 51) (v := 1) dX2_bringParts_50 (by decide) rfl ?_
    exact V_iret hκ rfl rfl dX2_bringParts_51 (by have c9 : gCol (Ar 23) 4 e ≤ Ar 27 a - Ar 28 a := c_20; rw [if_pos c9, if_pos c9]; exact ⟨rfl, rfl, by rw [← fin, vS_at, vS_vS]; rfl⟩)
  · refine V_iconst (q := 24) (v := 0) dX2_bringParts_23 (by decide) rfl ?_
    exact V_iret hκ rfl rfl dX2_bringParts_24 (by have c9 : ¬ gCol (Ar 23) 4 e ≤ Ar 27 a - Ar 28 a := c_20; rw [if_neg c9, if_neg c9]; exact vEq.rf)
theorem tX2_beginPledge {F : vFt} {Ar : vAt} {x : vXt} {e a b : Nat} (he : e < 60) (ha : a < 40) (hb : b < 40) (h1 : Ar 25 e = nI a) (h2 : Ar 26 e = nI b) : C0 mX2_beginPledge 2 [.ref 4, .int (nI e)] F Ar x (vEq (some (.int (if gCol (Ar 23) 4 e ≤ Ar 27 a - Ar 28 a then 1 else 0))) F (if gCol (Ar 23) 4 e ≤ Ar 27 a - Ar 28 a then gPut Ar (gSet (gIx (Ar 25)) (gIx (Ar 26)) e 1 (gCol (Ar 23) 4 e) (gGet Ar)) else Ar)) := by
  refine C0_of (by decide +kernel) (Nat.le_of_ble_eq_true rfl) (fun κ hκ => ?_)
  show V κ mX2_beginPledge 0 [.ref 4, .int (nI e)] [] F Ar x
  refine V_aload_n (q := 1) dX2_beginPledge_0 rfl rfl ?_
  refine V_iload_n (q := 2) dX2_beginPledge_1 rfl rfl ?_
  refine V_iconst (q := 3) (v := 4) dX2_beginPledge_2 (by decide) rfl ?_
  refine V_cV2I (q := 6) (o := 4) (N := mX2_told) (tX2_told (c := 4) he (by decide)) hκ.big (by decide) gX2_told kl_X2_50 ki_X2_told ks_X2_told (by decide) rfl (Nat.le_of_ble_eq_true rfl) dX2_beginPledge_3 rfl ?_
  refine V_aload_n (q := 7) dX2_beginPledge_6 rfl rfl ?_
  refine V_aload_n (q := 8) dX2_beginPledge_7 rfl rfl ?_
  refine V_getR (q := 11) (n := 25) 4 3 kf_X2_21 (by decide) (by decide) rfl (by decide) dX2_beginPledge_8 rfl ?_
  refine V_iload_n (q := 12) dX2_beginPledge_11 rfl rfl ?_
  refine V_ild (q := 13) (e) 60 rfl he (by decide) (by omega) (by decide) rfl (by decide) dX2_beginPledge_12 rfl ?_
  rw [h1]
  refine V_cV1I (q := 16) (o := 4) (N := mX2_freeOf) (tX2_freeOf ha) hκ.big (by decide) gX2_freeOf kl_X2_69 ki_X2_freeOf ks_X2_freeOf (by decide) rfl (Nat.le_of_ble_eq_true rfl) dX2_beginPledge_13 rfl ?_
  refine V_icmp_le (tgt := 21) (q := 19) dX2_beginPledge_16 (by decide) rfl (fun c_16 => ?_) (fun c_16 => ?_)
  · refine V_aload_n (q := 22) dX2_beginPledge_21 rfl rfl ?_
    refine V_iload_n (q := 23) dX2_beginPledge_22 rfl rfl ?_
    refine V_iconst (q := 24) (v := 1) dX2_beginPledge_23 (by decide) rfl ?_
    refine V_cV2U (q := 27) (o := 4) (N := mX2_setStanding) (tX2_setStanding (on := true) he ha hb h1 h2) hκ.big (by decide) gX2_setStanding kl_X2_103 ki_X2_setStanding ks_X2_setStanding (by decide) rfl (Nat.le_of_ble_eq_true rfl) dX2_beginPledge_24 rfl ?_
    refine V_iconst (q := 28) (v := 1) dX2_beginPledge_27 (by decide) rfl ?_
    exact V_iret hκ rfl rfl dX2_beginPledge_28 (by have c9 : gCol (Ar 23) 4 e ≤ Ar 27 a - Ar 28 a := c_16; rw [if_pos c9, if_pos c9]; exact vEq.rf)
  · refine V_iconst (q := 20) (v := 0) dX2_beginPledge_19 (by decide) rfl ?_
    exact V_iret hκ rfl rfl dX2_beginPledge_20 (by have c9 : ¬ gCol (Ar 23) 4 e ≤ Ar 27 a - Ar 28 a := c_16; rw [if_neg c9, if_neg c9]; exact vEq.rf)
theorem tX2_endPledge {F : vFt} {Ar : vAt} {x : vXt} {n e a b : Nat} (hn : F 258 = nI n) (hn60 : n ≤ 60) (he : e < n) (ha : a < 40) (hb : b < 40) (h1 : Ar 25 e = nI a) (h2 : Ar 26 e = nI b) : C0 mX2_endPledge 2 [.ref 4, .int (nI e)] F Ar x (vEq (some (.int (if Ar 24 e = 0 then 0 else 1))) F (if Ar 24 e = 0 then Ar else gPut Ar (gSet (gIx (Ar 25)) (gIx (Ar 26)) e 0 (-(gCol (Ar 23) 4 e)) (gGet Ar)))) := by
  refine C0_of (by decide +kernel) (Nat.le_of_ble_eq_true rfl) (fun κ hκ => ?_)
  show V κ mX2_endPledge 0 [.ref 4, .int (nI e)] [] F Ar x
  refine V_aload_n (q := 1) dX2_endPledge_0 rfl rfl ?_
  refine V_iload_n (q := 2) dX2_endPledge_1 rfl rfl ?_
  refine V_cV1I (q := 5) (o := 4) (N := mX2_has) tX2_has hκ.big (by decide) gX2_has kl_X2_107 ki_X2_has ks_X2_has (by decide) rfl (Nat.le_of_ble_eq_true rfl) dX2_endPledge_2 rfl ?_
  refine V_if_eq (tgt := 17) (q := 8) dX2_endPledge_5 (by decide) rfl (fun c_5 => absurd c_5 (vB_n0.mpr (by rw [hn]; exact (v_has (by omega)).mpr ⟨e, he, rfl⟩))) (fun c_5 => ?_)
  refine V_aload_n (q := 9) dX2_endPledge_8 rfl rfl ?_
  refine V_getR (q := 12) (n := 24) 4 1 kf_X2_17 (by decide) (by decide) rfl (by decide) dX2_endPledge_9 rfl ?_
  refine V_iload_n (q := 13) dX2_endPledge_12 rfl rfl ?_
  refine V_zld (q := 14) (e) 60 rfl (by omega) (by decide) (by omega) (by decide) rfl (by decide) dX2_endPledge_13 rfl ?_
  refine V_if_ne (tgt := 19) (q := 17) dX2_endPledge_14 (by decide) rfl (fun c_14 => ?_) (fun c_14 => ?_)
  · refine V_aload_n (q := 20) dX2_endPledge_19 rfl rfl ?_
    refine V_iload_n (q := 21) dX2_endPledge_20 rfl rfl ?_
    refine V_iconst (q := 22) (v := 0) dX2_endPledge_21 (by decide) rfl ?_
    refine V_cV2U (q := 25) (o := 4) (N := mX2_setStanding) (tX2_setStanding (on := false) (by omega) ha hb h1 h2) hκ.big (by decide) gX2_setStanding kl_X2_103 ki_X2_setStanding ks_X2_setStanding (by decide) rfl (Nat.le_of_ble_eq_true rfl) dX2_endPledge_22 rfl ?_
    refine V_iconst (q := 26) (v := 1) dX2_endPledge_25 (by decide) rfl ?_
    exact V_iret hκ rfl rfl dX2_endPledge_26 (by rw [if_neg c_14, if_neg c_14]; exact vEq.rf)
  · refine V_iconst (q := 18) (v := 0) dX2_endPledge_17 (by decide) rfl ?_
    exact V_iret hκ rfl rfl dX2_endPledge_18 (by rw [if_pos c_14, if_pos c_14]; exact vEq.rf)
end
section
def gOk (Ar : vAt) (n : Nat) : Prop := ∀ e, e < n → (∃ a, a < 40 ∧ Ar 25 e = nI a) ∧ (∃ b, b < 40 ∧ Ar 26 e = nI b) ∧ (gCol (Ar 23) 0 e = 0 ∨ gCol (Ar 23) 0 e = 1 ∨ ∃ q, q < n ∧ gCol (Ar 23) 8 e = nI q)
def gEf (Ar : vAt) (e : Nat) (s : gT) : Bool × gT := gEff (gCol (Ar 23) 0) (gCol (Ar 23) 4) (gIx (gCol (Ar 23) 8)) (gIx (Ar 25)) (gIx (Ar 26)) e s
theorem gEff_0 {kd am : Nat → Int32} {rd a1 a2 : Nat → Nat} {e : Nat} {s : gT} (h : kd e = 0) : gEff kd am rd a1 a2 e s = if am e ≤ s.1 (a1 e) - s.2.1 (a1 e) then (true, gMove a1 a2 e (am e) s) else (false, s) := if_pos h
theorem gEff_1 {kd am : Nat → Int32} {rd a1 a2 : Nat → Nat} {e : Nat} {s : gT} (h0 : ¬ kd e = 0) (h : kd e = 1) : gEff kd am rd a1 a2 e s = if am e ≤ s.1 (a1 e) - s.2.1 (a1 e) then (true, gSet a1 a2 e 1 (am e) s) else (false, s) := (if_neg h0).trans (if_pos h)
theorem gEff_2 {kd am : Nat → Int32} {rd a1 a2 : Nat → Nat} {e : Nat} {s : gT} (h0 : ¬ kd e = 0) (h : ¬ kd e = 1) : gEff kd am rd a1 a2 e s = if s.2.2.2 (rd e) = 0 then (false, s) else (true, gSet a1 a2 (rd e) 0 (-(am (rd e))) s) := (if_neg h0).trans (if_neg h)
theorem vB_ite (b : Bool) : (if b = true then (1 : Int32) else 0) = vB (b = true) := rfl
theorem tX2_takesEffect {F : vFt} {Ar : vAt} {x : vXt} {n e : Nat} (hn : F 258 = nI n) (hn60 : n ≤ 60) (he0 : e < n) (hok : gOk Ar n) : C0 mX2_takesEffect 3 [.ref 4, .int (nI e)] F Ar x (vEq (some (.int (if (gEf Ar e (gGet Ar)).1 = true then 1 else 0))) F (gPut Ar (gEf Ar e (gGet Ar)).2)) := by
  refine C0_of (by decide +kernel) (Nat.le_of_ble_eq_true rfl) (fun κ hκ => ?_)
  show V κ mX2_takesEffect 0 [.ref 4, .int (nI e)] [] F Ar x
  have he : e < 60 := by omega
  obtain ⟨⟨a, ha, h1⟩, ⟨b, hb, h2⟩, h3⟩ := hok e he0
  have e1 := gIx_eq h1 (by omega)
  have e2 := gIx_eq h2 (by omega)
  refine V_aload_n (q := 1) dX2_takesEffect_0 rfl rfl ?_
  refine V_iload_n (q := 2) dX2_takesEffect_1 rfl rfl ?_
  refine V_iconst (q := 3) (v := 0) dX2_takesEffect_2 (by decide) rfl ?_
  refine V_cV2I (q := 6) (o := 4) (N := mX2_told) (tX2_told (c := 0) he (by decide)) hκ.big (by decide) gX2_told kl_X2_50 ki_X2_told ks_X2_told (by decide) rfl (Nat.le_of_ble_eq_true rfl) dX2_takesEffect_3 rfl ?_
  by_cases e_6_0 : Ar 23 (e * 9 + 0) = 0
  · refine V_lookup (q := 32) (off := 26) dX2_takesEffect_6 (by decide) (by rw [e_6_0]; decide) (by decide) ?_
    refine V_aload_n (q := 33) dX2_takesEffect_32 rfl rfl ?_
    refine V_iload_n (q := 34) dX2_takesEffect_33 rfl rfl ?_
    refine V_cV1I (q := 37) (o := 4) (N := mX2_bringParts) (tX2_bringParts he ha hb h1 h2) hκ.big (by decide) gX2_bringParts kl_X2_94 ki_X2_bringParts ks_X2_bringParts (by decide) rfl (Nat.le_of_ble_eq_true rfl) dX2_takesEffect_34 rfl ?_
    exact V_iret hκ rfl (by split <;> rfl) dX2_takesEffect_37 (by have k0 : gCol (Ar 23) 0 e = 0 := e_6_0; rw [gEf, gEff_0 k0, show (gGet Ar).1 = Ar 27 from rfl, show (gGet Ar).2.1 = Ar 28 from rfl, e1]; by_cases c9 : gCol (Ar 23) 4 e ≤ Ar 27 a - Ar 28 a; (· rw [if_pos c9, if_pos c9, if_pos c9]; exact vEq.rf); (· rw [if_neg c9, if_neg c9, if_neg c9]; exact ⟨rfl, rfl, (gPut_get Ar).symm⟩))
  by_cases e_6_1 : Ar 23 (e * 9 + 0) = 1
  · refine V_lookup (q := 38) (off := 32) dX2_takesEffect_6 (by decide) (by rw [e_6_1]; decide) (by decide) ?_
    refine V_aload_n (q := 39) dX2_takesEffect_38 rfl rfl ?_
    refine V_iload_n (q := 40) dX2_takesEffect_39 rfl rfl ?_
    refine V_cV1I (q := 43) (o := 4) (N := mX2_beginPledge) (tX2_beginPledge he ha hb h1 h2) hκ.big (by decide) gX2_beginPledge kl_X2_97 ki_X2_beginPledge ks_X2_beginPledge (by decide) rfl (Nat.le_of_ble_eq_true rfl) dX2_takesEffect_40 rfl ?_
    exact V_iret hκ rfl (by split <;> rfl) dX2_takesEffect_43 (by have k0 : ¬ gCol (Ar 23) 0 e = 0 := e_6_0; have k1 : gCol (Ar 23) 0 e = 1 := e_6_1; rw [gEf, gEff_1 k0 k1, show (gGet Ar).1 = Ar 27 from rfl, show (gGet Ar).2.1 = Ar 28 from rfl, e1]; by_cases c9 : gCol (Ar 23) 4 e ≤ Ar 27 a - Ar 28 a; (· rw [if_pos c9, if_pos c9, if_pos c9]; exact vEq.rf); (· rw [if_neg c9, if_neg c9, if_neg c9]; exact ⟨rfl, rfl, (gPut_get Ar).symm⟩))
  refine V_lookup (q := 44) (off := 38) dX2_takesEffect_6 (by decide) (by show Op.lookupswitch.offset [(0, 26), (1, 32)] 38 _ = _; rw [lv_osw e_6_0 (by decide), lv_osw e_6_1 (by decide)]; rfl) (by decide) ?_
  have k0 : ¬ gCol (Ar 23) 0 e = 0 := e_6_0
  have k1 : ¬ gCol (Ar 23) 0 e = 1 := e_6_1
  obtain ⟨q, hp, hpe⟩ : ∃ q, q < n ∧ gCol (Ar 23) 8 e = nI q := by
    rcases h3 with h3 | h3 | h3
    · exact absurd h3 k0
    · exact absurd h3 k1
    · exact h3
  obtain ⟨⟨ap, hap, h1p⟩, ⟨bp, hbp, h2p⟩, -⟩ := hok q hp
  have hpe2 : Ar 23 (e * 9 + 8) = nI q := hpe
  have e3 : gIx (gCol (Ar 23) 8) e = q := gIx_eq hpe (by omega)
  refine V_aload_n (q := 45) dX2_takesEffect_44 rfl rfl ?_
  refine V_aload_n (q := 46) dX2_takesEffect_45 rfl rfl ?_
  refine V_iload_n (q := 47) dX2_takesEffect_46 rfl rfl ?_
  refine V_bipush (q := 49) (v := 8) dX2_takesEffect_47 (by decide) rfl ?_
  refine V_cV2I (q := 52) (o := 4) (N := mX2_told) (tX2_told (c := 8) he (by decide)) hκ.big (by decide) gX2_told kl_X2_50 ki_X2_told ks_X2_told (by decide) rfl (Nat.le_of_ble_eq_true rfl) dX2_takesEffect_49 rfl ?_
  rw [hpe2]
  refine V_cV1I (q := 55) (o := 4) (N := mX2_endPledge) (tX2_endPledge hn hn60 hp hap hbp h1p h2p) hκ.big (by decide) gX2_endPledge kl_X2_100 ki_X2_endPledge ks_X2_endPledge (by decide) rfl (Nat.le_of_ble_eq_true rfl) dX2_takesEffect_52 rfl ?_
  exact V_iret hκ rfl (by split <;> rfl) dX2_takesEffect_55 (by rw [gEf, gEff_2 k0 k1, show (gGet Ar).2.2.2 = Ar 24 from rfl, e3]; by_cases c9 : Ar 24 q = 0; (· rw [if_pos c9, if_pos c9, if_pos c9]; exact ⟨rfl, rfl, (gPut_get Ar).symm⟩); (· rw [if_neg c9, if_neg c9, if_neg c9]; exact vEq.rf))
/-- at first person 0 has all parts of each hull -/
def gOw (f : Nat → Int32) : Nat → Nat → Int32
  | 0 => vFill f 40 0
  | h + 1 => upd (gOw f h) (h * 8 + 0) 64
def gZero (Ar : vAt) (n : Nat) : gT := (gOw (Ar 27) 5, vFill (Ar 28) 40 0, vFill (Ar 29) 40 0, vFill (Ar 24) n 0)
theorem lp_X2_begin2 {F : vFt} {Ar : vAt} {x : vXt} {n : Nat} {κ : vK} (hκ : vStd κ 1 x (vEq none F (gPut Ar (gZero Ar n)))) (hn : F 258 = nI n) (hn60 : n ≤ 60) : ∀ k i, i + k = n → V κ mX2_beginAnew 51 [.ref 4, .int (nI i)] [] F (vS (vS (vS (vS Ar 27 (gOw (Ar 27) 5)) 28 (vFill (Ar 28) 40 0)) 29 (vFill (Ar 29) 40 0)) 24 (vFill (Ar 24) i 0)) x := by
  intro k
  induction k with
  | zero =>
    intro i hi
    obtain rfl : i = n := by omega
    refine V_iload_n (q := 52) dX2_beginAnew_51 rfl rfl ?_
    refine V_aload_n (q := 53) dX2_beginAnew_52 rfl rfl ?_
    refine V_getI (q := 56) (n := 258) 4 2 kf_X2_42 (by decide) (by decide) rfl rfl dX2_beginAnew_53 rfl ?_
    rw [hn]
    refine V_icmp_ge (tgt := 72) (q := 59) dX2_beginAnew_56 (by decide) rfl (fun c_56 => ?_) (fun c_56 => absurd c_56 (v_gt (by omega) (by omega) (Nat.le_refl _)))
    exact V_vret hκ rfl dX2_beginAnew_72 ⟨rfl, rfl, rfl⟩
  | succ k ih =>
    intro i hi
    refine V_iload_n (q := 52) dX2_beginAnew_51 rfl rfl ?_
    refine V_aload_n (q := 53) dX2_beginAnew_52 rfl rfl ?_
    refine V_getI (q := 56) (n := 258) 4 2 kf_X2_42 (by decide) (by decide) rfl rfl dX2_beginAnew_53 rfl ?_
    rw [hn]
    refine V_icmp_ge (tgt := 72) (q := 59) dX2_beginAnew_56 (by decide) rfl (fun c_56 => absurd c_56 (v_gf (by omega) (by omega) (by omega))) (fun c_56 => ?_)
    refine V_aload_n (q := 60) dX2_beginAnew_59 rfl rfl ?_
    refine V_getR (q := 63) (n := 24) 4 1 kf_X2_17 (by decide) (by decide) rfl (by decide) dX2_beginAnew_60 rfl ?_
    refine V_iload_n (q := 64) dX2_beginAnew_63 rfl rfl ?_
    refine V_iconst (q := 65) (v := 0) dX2_beginAnew_64 (by decide) rfl ?_
    refine V_zst (q := 66) (i) 60 rfl (by omega) (by decide) (by omega) (by decide) rfl (by decide) dX2_beginAnew_65 rfl ?_
    refine V_iincN (q := 69) dX2_beginAnew_66 rfl (Nat.le_of_ble_eq_true rfl) rfl rfl ?_
    refine V_goto (q := 51) dX2_beginAnew_69 (by decide) ?_
    refine V_ar (vS (vS (vS (vS Ar 27 (gOw (Ar 27) 5)) 28 (vFill (Ar 28) 40 0)) 29 (vFill (Ar 29) 40 0)) 24 (vFill (Ar 24) (i + 1) 0)) (by rw [vS_at, vS_vS, show vp_nar .boolean 0 = 0 from rfl, vFill_s]) ?_
    exact ih (i + 1) (by omega)
theorem lp_X2_begin1 {F : vFt} {Ar : vAt} {x : vXt} {n : Nat} {κ : vK} (hκ : vStd κ 1 x (vEq none F (gPut Ar (gZero Ar n)))) (hn : F 258 = nI n) (hn60 : n ≤ 60) : ∀ k h, h + k = 5 → V κ mX2_beginAnew 26 [.ref 4, .int (nI h)] [] F (vS (vS (vS Ar 27 (gOw (Ar 27) h)) 28 (vFill (Ar 28) 40 0)) 29 (vFill (Ar 29) 40 0)) x := by
  intro k
  induction k with
  | zero =>
    intro h hi
    obtain rfl : h = 5 := by omega
    refine V_iload_n (q := 27) dX2_beginAnew_26 rfl rfl ?_
    refine V_iconst (q := 28) (v := 5) dX2_beginAnew_27 (by decide) rfl ?_
    refine V_icmp_ge (tgt := 49) (q := 31) dX2_beginAnew_28 (by decide) rfl (fun c_28 => ?_) (fun c_28 => absurd c_28 (v_gt (i := 5) (n := 5) (by decide) (by decide) (Nat.le_refl _)))
    refine V_iconst (q := 50) (v := 0) dX2_beginAnew_49 (by decide) rfl ?_
    refine V_istore_n (q := 51) dX2_beginAnew_50 (Nat.le_of_ble_eq_true rfl) rfl rfl ?_
    refine V_ar (vS (vS (vS (vS Ar 27 (gOw (Ar 27) 5)) 28 (vFill (Ar 28) 40 0)) 29 (vFill (Ar 29) 40 0)) 24 (vFill (Ar 24) 0 0)) (by rw [vFill_0]; exact vS_self.symm) ?_
    exact lp_X2_begin2 hκ hn hn60 n 0 (by omega)
  | succ k ih =>
    intro h hi
    refine V_iload_n (q := 27) dX2_beginAnew_26 rfl rfl ?_
    refine V_iconst (q := 28) (v := 5) dX2_beginAnew_27 (by decide) rfl ?_
    refine V_icmp_ge (tgt := 49) (q := 31) dX2_beginAnew_28 (by decide) rfl (fun c_28 => absurd c_28 (v_gf (n := 5) (by omega) (by decide) (by omega))) (fun c_28 => ?_)
    refine V_aload_n (q := 32) dX2_beginAnew_31 rfl rfl ?_
    refine V_getR (q := 35) (n := 27) 4 5 kf_X2_27 (by decide) (by decide) rfl (by decide) dX2_beginAnew_32 rfl ?_
    refine V_iload_n (q := 36) dX2_beginAnew_35 rfl rfl ?_
    refine V_iconst (q := 37) (v := 0) dX2_beginAnew_36 (by decide) rfl ?_
    refine V_cS2I (q := 40) (N := mX2_account) (tX2_account (c := 0)) hκ.big (by decide) gX2_account kl_X2_58 kt_X2_account (Nat.le_of_ble_eq_true rfl) dX2_beginAnew_37 rfl ?_
    refine V_bipush (q := 42) (v := 64) dX2_beginAnew_40 (by decide) rfl ?_
    refine V_ist (q := 43) (h * 8 + 0) 40 rfl (by omega) (by decide) (by omega) (by decide) rfl (by decide) dX2_beginAnew_42 rfl ?_
    refine V_iincN (q := 46) dX2_beginAnew_43 rfl (Nat.le_of_ble_eq_true rfl) rfl rfl ?_
    refine V_goto (q := 26) dX2_beginAnew_46 (by decide) ?_
    refine V_ar (vS (vS (vS Ar 27 (gOw (Ar 27) (h + 1))) 28 (vFill (Ar 28) 40 0)) 29 (vFill (Ar 29) 40 0)) (by rw [vS_comm (a := 29) (b := 27) (by decide), vS_comm (a := 28) (b := 27) (by decide), vS_vS]; rfl) ?_
    exact ih (h + 1) (by omega)
theorem tX2_beginAnew {F : vFt} {Ar : vAt} {x : vXt} {n : Nat} (hn : F 258 = nI n) (hn60 : n ≤ 60) : C0 mX2_beginAnew 1 [.ref 4] F Ar x (vEq none F (gPut Ar (gZero Ar n))) := by
  refine C0_of (by decide +kernel) (Nat.le_of_ble_eq_true rfl) (fun κ hκ => ?_)
  show V κ mX2_beginAnew 0 [.ref 4, .null] [] F Ar x
  refine V_aload_n (q := 1) dX2_beginAnew_0 rfl rfl ?_
  refine V_getR (q := 4) (n := 27) 4 5 kf_X2_27 (by decide) (by decide) rfl (by decide) dX2_beginAnew_1 rfl ?_
  refine V_iconst (q := 5) (v := 0) dX2_beginAnew_4 (by decide) rfl ?_
  refine V_cS2U (q := 8) (N := mJ7_fill_53178) (tJ7_fill_53178 (n := 40) (by decide) (by omega) (by decide) rfl (by decide)) hκ.big (by decide) gJ7_fill_53178 kl_X2_88 kt_J7_fill_53178 (Nat.le_of_ble_eq_true rfl) dX2_beginAnew_5 rfl ?_
  refine V_aload_n (q := 9) dX2_beginAnew_8 rfl rfl ?_
  refine V_getR (q := 12) (n := 28) 4 6 kf_X2_30 (by decide) (by decide) rfl (by decide) dX2_beginAnew_9 rfl ?_
  refine V_iconst (q := 13) (v := 0) dX2_beginAnew_12 (by decide) rfl ?_
  refine V_cS2U (q := 16) (N := mJ7_fill_53178) (tJ7_fill_53178 (n := 40) (by decide) (by omega) (by decide) rfl (by decide)) hκ.big (by decide) gJ7_fill_53178 kl_X2_88 kt_J7_fill_53178 (Nat.le_of_ble_eq_true rfl) dX2_beginAnew_13 rfl ?_
  refine V_aload_n (q := 17) dX2_beginAnew_16 rfl rfl ?_
  refine V_getR (q := 20) (n := 29) 4 7 kf_X2_33 (by decide) (by decide) rfl (by decide) dX2_beginAnew_17 rfl ?_
  refine V_iconst (q := 21) (v := 0) dX2_beginAnew_20 (by decide) rfl ?_
  refine V_cS2U (q := 24) (N := mJ7_fill_53178) (tJ7_fill_53178 (n := 40) (by decide) (by omega) (by decide) rfl (by decide)) hκ.big (by decide) gJ7_fill_53178 kl_X2_88 kt_J7_fill_53178 (Nat.le_of_ble_eq_true rfl) dX2_beginAnew_21 rfl ?_
  refine V_iconst (q := 25) (v := 0) dX2_beginAnew_24 (by decide) rfl ?_
  refine V_istore_n (q := 26) dX2_beginAnew_25 (Nat.le_of_ble_eq_true rfl) rfl rfl ?_
  exact lp_X2_begin1 hκ hn hn60 5 0 rfl
end
section
/-- the ranks, in the table, and how many pledges there are of an account so far -/
def gRk (st : Nat → Int32) (a1 : Nat → Nat) (T P : Nat → Int32) : Nat → (Nat → Int32) × (Nat → Int32)
  | 0 => (T, vFill P 40 0)
  | i + 1 => if st i = 0 then (upd (gRk st a1 T P i).1 (i * 9 + 7) (-4), (gRk st a1 T P i).2)
    else (upd (gRk st a1 T P i).1 (i * 9 + 7) ((gRk st a1 T P i).2 (a1 i)), upd (gRk st a1 T P i).2 (a1 i) ((gRk st a1 T P i).2 (a1 i) + 1))
def gRank (Ar : vAt) (n : Nat) : vAt := vS (vS Ar 23 (gRk (Ar 24) (gIx (Ar 25)) (Ar 23) (Ar 30) n).1) 30 (gRk (Ar 24) (gIx (Ar 25)) (Ar 23) (Ar 30) n).2
theorem gRank_s0 {Ar : vAt} {i : Nat} (h : Ar 24 i = 0) : vS (gRank Ar i) 23 (upd (gRank Ar i 23) (i * 9 + 7) (-4)) = gRank Ar (i + 1) := by
  unfold gRank
  simp only [gRk, if_pos h]
  rw [vS_comm (a := 30) (b := 23) (by decide), vS_vS]
  rfl
theorem gRank_s1 {Ar : vAt} {i a : Nat} (h : ¬ Ar 24 i = 0) (ha : gIx (Ar 25) i = a) : vS (vS (gRank Ar i) 23 (upd (gRank Ar i 23) (i * 9 + 7) (gRank Ar i 30 a))) 30 (upd (gRank Ar i 30) a (gRank Ar i 30 a + 1)) = gRank Ar (i + 1) := by
  unfold gRank
  simp only [gRk, if_neg h, ha]
  rw [vS_comm (a := 30) (b := 23) (by decide), vS_vS, vS_vS]
  rfl
theorem lp_X2_rank {F : vFt} {Ar : vAt} {x : vXt} {n : Nat} {l2 : Value} {κ : vK} (hκ : vStd κ 1 x (vEq none F (gRank Ar n))) (hn : F 258 = nI n) (hn60 : n ≤ 60) (hok : ∀ e, e < n → ∃ a, a < 40 ∧ Ar 25 e = nI a) : ∀ k i l2, i + k = n → V κ mX2_rankPledges 10 [.ref 4, .int (nI i), l2] [] F (gRank Ar i) x := by
  intro k
  induction k with
  | zero =>
    intro i l2 hi
    obtain rfl : i = n := by omega
    refine V_iload_n (q := 11) dX2_rankPledges_10 rfl rfl ?_
    refine V_aload_n (q := 12) dX2_rankPledges_11 rfl rfl ?_
    refine V_getI (q := 15) (n := 258) 4 2 kf_X2_42 (by decide) (by decide) rfl rfl dX2_rankPledges_12 rfl ?_
    rw [hn]
    refine V_icmp_ge (tgt := 72) (q := 18) dX2_rankPledges_15 (by decide) rfl (fun c_15 => ?_) (fun c_15 => absurd c_15 (v_gt (by omega) (by omega) (Nat.le_refl _)))
    exact V_vret hκ rfl dX2_rankPledges_72 vEq.rf
  | succ k ih =>
    intro i l2 hi
    obtain ⟨a, ha, h1⟩ := hok i (by omega)
    have e1 := gIx_eq h1 (by omega)
    have h25 : gRank Ar i 25 i = nI a := h1
    refine V_iload_n (q := 11) dX2_rankPledges_10 rfl rfl ?_
    refine V_aload_n (q := 12) dX2_rankPledges_11 rfl rfl ?_
    refine V_getI (q := 15) (n := 258) 4 2 kf_X2_42 (by decide) (by decide) rfl rfl dX2_rankPledges_12 rfl ?_
    rw [hn]
    refine V_icmp_ge (tgt := 72) (q := 18) dX2_rankPledges_15 (by decide) rfl (fun c_15 => absurd c_15 (v_gf (by omega) (by omega) (by omega))) (fun c_15 => ?_)
    refine V_aload_n (q := 19) dX2_rankPledges_18 rfl rfl ?_
    refine V_iload_n (q := 20) dX2_rankPledges_19 rfl rfl ?_
    refine V_bipush (q := 22) (v := 7) dX2_rankPledges_20 (by decide) rfl ?_
    refine V_bipush (q := 24) (v := (-4)) dX2_rankPledges_22 (by decide) rfl ?_
    refine V_cV3U (q := 27) (o := 4) (N := mX2_put) (tX2_put (e := i) (c := 7) (by omega) (by decide)) hκ.big (by decide) gX2_put kl_X2_61 ki_X2_put ks_X2_put (by decide) rfl (Nat.le_of_ble_eq_true rfl) dX2_rankPledges_24 rfl ?_
    refine V_aload_n (q := 28) dX2_rankPledges_27 rfl rfl ?_
    refine V_getR (q := 31) (n := 24) 4 1 kf_X2_17 (by decide) (by decide) rfl (by decide) dX2_rankPledges_28 rfl ?_
    refine V_iload_n (q := 32) dX2_rankPledges_31 rfl rfl ?_
    refine V_zld (q := 33) (i) 60 rfl (by omega) (by decide) (by omega) (by decide) rfl (by decide) dX2_rankPledges_32 rfl ?_
    refine V_if_eq (tgt := 66) (q := 36) dX2_rankPledges_33 (by decide) rfl (fun c_33 => ?_) (fun c_33 => ?_)
    · refine V_iincN (q := 69) dX2_rankPledges_66 rfl (Nat.le_of_ble_eq_true rfl) rfl rfl ?_
      refine V_goto (q := 10) dX2_rankPledges_69 (by decide) ?_
      refine V_ar (gRank Ar (i + 1)) (gRank_s0 (c_33 : Ar 24 i = 0)) ?_
      exact ih (i + 1) l2 (by omega)
    · refine V_aload_n (q := 37) dX2_rankPledges_36 rfl rfl ?_
      refine V_getR (q := 40) (n := 25) 4 3 kf_X2_21 (by decide) (by decide) rfl (by decide) dX2_rankPledges_37 rfl ?_
      refine V_iload_n (q := 41) dX2_rankPledges_40 rfl rfl ?_
      refine V_ild (q := 42) (i) 60 rfl (by omega) (by decide) (by omega) (by decide) rfl (by decide) dX2_rankPledges_41 rfl ?_
      refine V_top (nI a) h1 ?_
      refine V_istore_n (q := 43) dX2_rankPledges_42 (Nat.le_of_ble_eq_true rfl) rfl rfl ?_
      refine V_aload_n (q := 44) dX2_rankPledges_43 rfl rfl ?_
      refine V_iload_n (q := 45) dX2_rankPledges_44 rfl rfl ?_
      refine V_bipush (q := 47) (v := 7) dX2_rankPledges_45 (by decide) rfl ?_
      refine V_aload_n (q := 48) dX2_rankPledges_47 rfl rfl ?_
      refine V_getR (q := 51) (n := 30) 4 8 kf_X2_36 (by decide) (by decide) rfl (by decide) dX2_rankPledges_48 rfl ?_
      refine V_iload_n (q := 52) dX2_rankPledges_51 rfl rfl ?_
      refine V_ild (q := 53) (a) 40 rfl ha (by decide) (by omega) (by decide) rfl (by decide) dX2_rankPledges_52 rfl ?_
      refine V_cV3U (q := 56) (o := 4) (N := mX2_put) (tX2_put (e := i) (c := 7) (by omega) (by decide)) hκ.big (by decide) gX2_put kl_X2_61 ki_X2_put ks_X2_put (by decide) rfl (Nat.le_of_ble_eq_true rfl) dX2_rankPledges_53 rfl ?_
      refine V_aload_n (q := 57) dX2_rankPledges_56 rfl rfl ?_
      refine V_getR (q := 60) (n := 30) 4 8 kf_X2_36 (by decide) (by decide) rfl (by decide) dX2_rankPledges_57 rfl ?_
      refine V_iload_n (q := 61) dX2_rankPledges_60 rfl rfl ?_
      refine V_dup2 (q := 62) dX2_rankPledges_61 rfl rfl rfl ?_
      refine V_ild (q := 63) (a) 40 rfl ha (by decide) (by omega) (by decide) rfl (by decide) dX2_rankPledges_62 rfl ?_
      refine V_iconst (q := 64) (v := 1) dX2_rankPledges_63 (by decide) rfl ?_
      refine V_iadd (q := 65) dX2_rankPledges_64 rfl ?_
      refine V_ist (q := 66) (a) 40 rfl ha (by decide) (by omega) (by decide) rfl (by decide) dX2_rankPledges_65 rfl ?_
      refine V_iincN (q := 69) dX2_rankPledges_66 rfl (Nat.le_of_ble_eq_true rfl) rfl rfl ?_
      refine V_goto (q := 10) dX2_rankPledges_69 (by decide) ?_
      refine V_ar (gRank Ar (i + 1)) (by have h9 := gRank_s1 (Ar := Ar) (i := i) c_33 e1; rw [vS_vS, vS_at, upd_upd]; exact h9) ?_
      exact ih (i + 1) (.int (nI a)) (by omega)
theorem tX2_rankPledges {F : vFt} {Ar : vAt} {x : vXt} {n : Nat} (hn : F 258 = nI n) (hn60 : n ≤ 60) (hok : ∀ e, e < n → ∃ a, a < 40 ∧ Ar 25 e = nI a) : C0 mX2_rankPledges 1 [.ref 4] F Ar x (vEq none F (gRank Ar n)) := by
  refine C0_of (by decide +kernel) (Nat.le_of_ble_eq_true rfl) (fun κ hκ => ?_)
  show V κ mX2_rankPledges 0 [.ref 4, .null, .null] [] F Ar x
  refine V_aload_n (q := 1) dX2_rankPledges_0 rfl rfl ?_
  refine V_getR (q := 4) (n := 30) 4 8 kf_X2_36 (by decide) (by decide) rfl (by decide) dX2_rankPledges_1 rfl ?_
  refine V_iconst (q := 5) (v := 0) dX2_rankPledges_4 (by decide) rfl ?_
  refine V_cS2U (q := 8) (N := mJ7_fill_53178) (tJ7_fill_53178 (n := 40) (by decide) (by omega) (by decide) rfl (by decide)) hκ.big (by decide) gJ7_fill_53178 kl_X2_88 kt_J7_fill_53178 (Nat.le_of_ble_eq_true rfl) dX2_rankPledges_5 rfl ?_
  refine V_iconst (q := 9) (v := 0) dX2_rankPledges_8 (by decide) rfl ?_
  refine V_istore_n (q := 10) dX2_rankPledges_9 (Nat.le_of_ble_eq_true rfl) rfl rfl ?_
  refine V_ar (gRank Ar 0) (by unfold gRank; simp only [gRk]; rw [vS_self]) ?_
  exact lp_X2_rank (l2 := .null) hκ hn hn60 hok n 0 .null (by omega)
/-- all entries gone through -/
def gRun (Ar : vAt) (s0 : gT) : Nat → gT
  | 0 => s0
  | i + 1 => if gCol (Ar 23) 5 i = 1 then gRun Ar s0 i else (gEf Ar i (gRun Ar s0 i)).2
def gVoid (Ar : vAt) (s0 : gT) (i : Nat) : Int32 := if gCol (Ar 23) 5 i = 1 then 0 else if (gEf Ar i (gRun Ar s0 i)).1 = true then 0 else 1
def gTv (T vd : Nat → Int32) : Nat → Nat → Int32
  | 0 => T
  | i + 1 => upd (gTv T vd i) (i * 9 + 6) (vd i)
theorem gTv_col {T vd : Nat → Int32} {c : Nat} (hc : c < 9) (h6 : c ≠ 6) : ∀ i, gCol (gTv T vd i) c = gCol T c := by
  intro i
  induction i with
  | zero => rfl
  | succ i ih =>
    rw [← ih]
    funext e
    unfold gCol
    show upd (gTv T vd i) (i * 9 + 6) (vd i) (e * 9 + c) = _
    exact upd_ne (by omega)
def gAt (Ar : vAt) (s0 : gT) (i : Nat) : vAt := vS (gPut Ar (gRun Ar s0 i)) 23 (gTv (Ar 23) (gVoid Ar s0) i)
theorem gAt_ef (Ar : vAt) (s0 : gT) (i e : Nat) (s : gT) : gEf (gAt Ar s0 i) e s = gEf Ar e s := by
  unfold gEf
  rw [show gAt Ar s0 i 23 = gTv (Ar 23) (gVoid Ar s0) i from rfl, show gAt Ar s0 i 25 = Ar 25 from rfl, show gAt Ar s0 i 26 = Ar 26 from rfl, gTv_col (by decide) (by decide), gTv_col (by decide) (by decide), gTv_col (by decide) (by decide)]
theorem gAt_ok {Ar : vAt} {s0 : gT} {i n : Nat} (h : gOk Ar n) : gOk (gAt Ar s0 i) n := by
  intro e he
  have h3 := h e he
  rw [show gAt Ar s0 i 23 = gTv (Ar 23) (gVoid Ar s0) i from rfl, gTv_col (by decide) (by decide), gTv_col (by decide) (by decide)]
  exact h3
theorem gAt_fg (Ar : vAt) (s0 : gT) (i : Nat) : gAt Ar s0 i 23 (i * 9 + 5) = gCol (Ar 23) 5 i := by
  show gCol (gTv (Ar 23) (gVoid Ar s0) i) 5 i = _
  rw [gTv_col (by decide) (by decide)]
theorem gAt_get (Ar : vAt) (s0 : gT) (i : Nat) : gGet (gAt Ar s0 i) = gRun Ar s0 i := rfl
theorem gAt_put (Ar : vAt) (s0 : gT) (i : Nat) (v : Int32) (s : gT) : vS (gPut (gAt Ar s0 i) s) 23 (upd (gPut (gAt Ar s0 i) s 23) (i * 9 + 6) v) = vS (gPut Ar s) 23 (upd (gTv (Ar 23) (gVoid Ar s0) i) (i * 9 + 6) v) := by
  rw [show gPut (gAt Ar s0 i) s 23 = gTv (Ar 23) (gVoid Ar s0) i from rfl]
  unfold gAt gPut
  funext z
  simp only [vS]
  by_cases h1 : z = 23 <;> by_cases h2 : z = 24 <;> by_cases h3 : z = 29 <;> by_cases h4 : z = 28 <;> by_cases h5 : z = 27 <;> simp_all
theorem gAt_s0 {Ar : vAt} {s0 : gT} {i : Nat} (h : gCol (Ar 23) 5 i = 1) : vS (gAt Ar s0 i) 23 (upd (gAt Ar s0 i 23) (i * 9 + 6) 0) = gAt Ar s0 (i + 1) := by
  unfold gAt
  rw [vS_vS]
  show _ = vS (gPut Ar (if gCol (Ar 23) 5 i = 1 then gRun Ar s0 i else (gEf Ar i (gRun Ar s0 i)).2)) 23 (upd (gTv (Ar 23) (gVoid Ar s0) i) (i * 9 + 6) (gVoid Ar s0 i))
  rw [if_pos h, show gVoid Ar s0 i = 0 from if_pos h]
  rfl
theorem gAt_s1 {Ar : vAt} {s0 : gT} {i : Nat} {v : Int32} (h : ¬ gCol (Ar 23) 5 i = 1) (hv : v = if (gEf Ar i (gRun Ar s0 i)).1 = true then 0 else 1) : vS (gPut (gAt Ar s0 i) (gEf Ar i (gRun Ar s0 i)).2) 23 (upd (gPut (gAt Ar s0 i) (gEf Ar i (gRun Ar s0 i)).2 23) (i * 9 + 6) v) = gAt Ar s0 (i + 1) := by
  rw [gAt_put]
  show _ = vS (gPut Ar (if gCol (Ar 23) 5 i = 1 then gRun Ar s0 i else (gEf Ar i (gRun Ar s0 i)).2)) 23 (upd (gTv (Ar 23) (gVoid Ar s0) i) (i * 9 + 6) (gVoid Ar s0 i))
  rw [if_neg h, show gVoid Ar s0 i = _ from if_neg h, hv]
def gAll (Ar : vAt) (n : Nat) : vAt := gRank (gAt Ar (gZero Ar n) n) n
theorem lp_X2_go {F : vFt} {Ar : vAt} {x : vXt} {n : Nat} {κ : vK} (hκ : vStd κ 4 x (vEq none F (gAll Ar n))) (hn : F 258 = nI n) (hn60 : n ≤ 60) (hok : gOk Ar n) : ∀ k i, i + k = n → V κ mX2_goThrough 6 [.ref 4, .int (nI i)] [] F (gAt Ar (gZero Ar n) i) x := by
  intro k
  induction k with
  | zero =>
    intro i hi
    obtain rfl : i = n := by omega
    refine V_iload_n (q := 7) dX2_goThrough_6 rfl rfl ?_
    refine V_aload_n (q := 8) dX2_goThrough_7 rfl rfl ?_
    refine V_getI (q := 11) (n := 258) 4 2 kf_X2_42 (by decide) (by decide) rfl rfl dX2_goThrough_8 rfl ?_
    rw [hn]
    refine V_icmp_ge (tgt := 48) (q := 14) dX2_goThrough_11 (by decide) rfl (fun c_11 => ?_) (fun c_11 => absurd c_11 (v_gt (by omega) (by omega) (Nat.le_refl _)))
    refine V_aload_n (q := 49) dX2_goThrough_48 rfl rfl ?_
    refine V_cV0U (q := 52) (o := 4) (N := mX2_rankPledges) (tX2_rankPledges hn hn60 (fun e he => (hok e he).1)) hκ.big (by decide) gX2_rankPledges kl_X2_85 ki_X2_rankPledges ks_X2_rankPledges (by decide) rfl (Nat.le_of_ble_eq_true rfl) dX2_goThrough_49 rfl ?_
    exact V_vret hκ rfl dX2_goThrough_52 vEq.rf
  | succ k ih =>
    intro i hi
    have hfg := gAt_fg Ar (gZero Ar n) i
    refine V_iload_n (q := 7) dX2_goThrough_6 rfl rfl ?_
    refine V_aload_n (q := 8) dX2_goThrough_7 rfl rfl ?_
    refine V_getI (q := 11) (n := 258) 4 2 kf_X2_42 (by decide) (by decide) rfl rfl dX2_goThrough_8 rfl ?_
    rw [hn]
    refine V_icmp_ge (tgt := 48) (q := 14) dX2_goThrough_11 (by decide) rfl (fun c_11 => absurd c_11 (v_gf (by omega) (by omega) (by omega))) (fun c_11 => ?_)
    refine V_aload_n (q := 15) dX2_goThrough_14 rfl rfl ?_
    refine V_iload_n (q := 16) dX2_goThrough_15 rfl rfl ?_
    refine V_bipush (q := 18) (v := 6) dX2_goThrough_16 (by decide) rfl ?_
    refine V_aload_n (q := 19) dX2_goThrough_18 rfl rfl ?_
    refine V_iload_n (q := 20) dX2_goThrough_19 rfl rfl ?_
    refine V_cV1I (q := 23) (o := 4) (N := mX2_isForged) (tX2_isForged (e := i) (by omega)) hκ.big (by decide) gX2_isForged kl_X2_65 ki_X2_isForged ks_X2_isForged (by decide) rfl (Nat.le_of_ble_eq_true rfl) dX2_goThrough_20 rfl ?_
    refine V_if_ne (tgt := 34) (q := 26) dX2_goThrough_23 (by decide) rfl (fun c_23 => ?_) (fun c_23 => ?_)
    · refine V_iconst (q := 35) (v := 0) dX2_goThrough_34 (by decide) rfl ?_
      refine V_goto (q := 39) dX2_goThrough_35 (by decide) ?_
      refine V_cV3U (q := 42) (o := 4) (N := mX2_put) (tX2_put (e := i) (c := 6) (by omega) (by decide)) hκ.big (by decide) gX2_put kl_X2_61 ki_X2_put ks_X2_put (by decide) rfl (Nat.le_of_ble_eq_true rfl) dX2_goThrough_39 rfl ?_
      refine V_iincN (q := 45) dX2_goThrough_42 rfl (Nat.le_of_ble_eq_true rfl) rfl rfl ?_
      refine V_goto (q := 6) dX2_goThrough_45 (by decide) ?_
      refine V_ar (gAt Ar (gZero Ar n) (i + 1)) (gAt_s0 (by rw [← hfg]; exact vB_n0.mp c_23)) ?_
      exact ih (i + 1) (by omega)
    · refine V_aload_n (q := 27) dX2_goThrough_26 rfl rfl ?_
      refine V_iload_n (q := 28) dX2_goThrough_27 rfl rfl ?_
      have hte := tX2_takesEffect (F := F) (Ar := gAt Ar (gZero Ar n) i) (x := x) (e := i) hn hn60 (by omega) (gAt_ok hok)
      rw [gAt_get, gAt_ef] at hte
      refine V_cV1I (q := 31) (o := 4) (N := mX2_takesEffect) hte hκ.big (by decide) gX2_takesEffect kl_X2_82 ki_X2_takesEffect ks_X2_takesEffect (by decide) rfl (Nat.le_of_ble_eq_true rfl) dX2_goThrough_28 rfl ?_
      refine V_if_eq (tgt := 38) (q := 34) dX2_goThrough_31 (by decide) rfl (fun c_31 => ?_) (fun c_31 => ?_)
      · refine V_iconst (q := 39) (v := 1) dX2_goThrough_38 (by decide) rfl ?_
        refine V_cV3U (q := 42) (o := 4) (N := mX2_put) (tX2_put (e := i) (c := 6) (by omega) (by decide)) hκ.big (by decide) gX2_put kl_X2_61 ki_X2_put ks_X2_put (by decide) rfl (Nat.le_of_ble_eq_true rfl) dX2_goThrough_39 rfl ?_
        refine V_iincN (q := 45) dX2_goThrough_42 rfl (Nat.le_of_ble_eq_true rfl) rfl rfl ?_
        refine V_goto (q := 6) dX2_goThrough_45 (by decide) ?_
        refine V_ar (gAt Ar (gZero Ar n) (i + 1)) (gAt_s1 (by rw [← hfg]; exact vB_0.mp c_23) (by rw [vB_ite] at c_31; rw [if_neg (vB_0.mp c_31)])) ?_
        exact ih (i + 1) (by omega)
      · refine V_iconst (q := 35) (v := 0) dX2_goThrough_34 (by decide) rfl ?_
        refine V_goto (q := 39) dX2_goThrough_35 (by decide) ?_
        refine V_cV3U (q := 42) (o := 4) (N := mX2_put) (tX2_put (e := i) (c := 6) (by omega) (by decide)) hκ.big (by decide) gX2_put kl_X2_61 ki_X2_put ks_X2_put (by decide) rfl (Nat.le_of_ble_eq_true rfl) dX2_goThrough_39 rfl ?_
        refine V_iincN (q := 45) dX2_goThrough_42 rfl (Nat.le_of_ble_eq_true rfl) rfl rfl ?_
        refine V_goto (q := 6) dX2_goThrough_45 (by decide) ?_
        refine V_ar (gAt Ar (gZero Ar n) (i + 1)) (gAt_s1 (by rw [← hfg]; exact vB_0.mp c_23) (by rw [vB_ite] at c_31; rw [if_pos (vB_n0.mp c_31)])) ?_
        exact ih (i + 1) (by omega)
theorem tX2_goThrough {F : vFt} {Ar : vAt} {x : vXt} {n : Nat} (hn : F 258 = nI n) (hn60 : n ≤ 60) (hok : gOk Ar n) : C0 mX2_goThrough 4 [.ref 4] F Ar x (vEq none F (gAll Ar n)) := by
  refine C0_of (by decide +kernel) (Nat.le_of_ble_eq_true rfl) (fun κ hκ => ?_)
  show V κ mX2_goThrough 0 [.ref 4, .null] [] F Ar x
  refine V_aload_n (q := 1) dX2_goThrough_0 rfl rfl ?_
  refine V_cV0U (q := 4) (o := 4) (N := mX2_beginAnew) (tX2_beginAnew hn hn60) hκ.big (by decide) gX2_beginAnew kl_X2_79 ki_X2_beginAnew ks_X2_beginAnew (by decide) rfl (Nat.le_of_ble_eq_true rfl) dX2_goThrough_1 rfl ?_
  refine V_iconst (q := 5) (v := 0) dX2_goThrough_4 (by decide) rfl ?_
  refine V_istore_n (q := 6) dX2_goThrough_5 (Nat.le_of_ble_eq_true rfl) rfl rfl ?_
  refine V_ar (gAt Ar (gZero Ar n) 0) (by unfold gAt; exact (vS_self (Ar := gPut Ar (gZero Ar n)) (a := 23)).symm) ?_
  exact lp_X2_go hκ hn hn60 hok n 0 (by omega)
end
section
/-- who has the most, of the first i -/
def vBest (f : Nat → Int32) : Nat → Nat
  | 0 => 0
  | i + 1 => if f (vBest f i) < f i then i else vBest f i
theorem vBest_lt (f : Nat → Int32) : ∀ i, 0 < i → vBest f i < i := by
  intro i
  induction i with
  | zero => intro h; omega
  | succ i ih =>
    intro _
    unfold vBest
    split
    · omega
    · rcases Nat.eq_zero_or_pos i with rfl | h
      · simp [vBest]
      · have := ih h
        omega
theorem vBest_1 (f : Nat → Int32) : vBest f 1 = 0 := by
  unfold vBest
  split <;> rfl
def vSum (f : Nat → Int32) : Nat → Int32
  | 0 => 0
  | i + 1 => vSum f i + f i
theorem lp_X2_great {F : vFt} {Ar : vAt} {x : vXt} {h : Nat} {κ : vK} (hκ : vStd κ 2 x (vEq (some (.int (nI (vBest (fun c => Ar 27 (h * 8 + c)) 8)))) F Ar)) (hh : h < 5) : ∀ k i, 0 < i → i + k = 8 → V κ mX2_greatestOwner 4 [.ref 4, .int (nI h), .int (nI (vBest (fun c => Ar 27 (h * 8 + c)) i)), .int (nI i)] [] F Ar x := by
  intro k
  induction k with
  | zero =>
    intro i h0 hi
    obtain rfl : i = 8 := by omega
    refine V_iload_n (q := 5) dX2_greatestOwner_4 rfl rfl ?_
    refine V_bipush (q := 7) (v := 8) dX2_greatestOwner_5 (by decide) rfl ?_
    refine V_icmp_ge (tgt := 33) (q := 10) dX2_greatestOwner_7 (by decide) rfl (fun c_7 => ?_) (fun c_7 => absurd c_7 (v_gt (i := 8) (n := 8) (by decide) (by decide) (Nat.le_refl _)))
    refine V_iload_n (q := 34) dX2_greatestOwner_33 rfl rfl ?_
    exact V_iret hκ rfl rfl dX2_greatestOwner_34 vEq.rf
  | succ k ih =>
    intro i h0 hi
    have hb := vBest_lt (fun c => Ar 27 (h * 8 + c)) i h0
    have ih2 := ih (i + 1) (by omega) (by omega)
    unfold vBest at ih2
    refine V_iload_n (q := 5) dX2_greatestOwner_4 rfl rfl ?_
    refine V_bipush (q := 7) (v := 8) dX2_greatestOwner_5 (by decide) rfl ?_
    refine V_icmp_ge (tgt := 33) (q := 10) dX2_greatestOwner_7 (by decide) rfl (fun c_7 => absurd c_7 (v_gf (n := 8) (by omega) (by decide) (by omega))) (fun c_7 => ?_)
    refine V_aload_n (q := 11) dX2_greatestOwner_10 rfl rfl ?_
    refine V_iload_n (q := 12) dX2_greatestOwner_11 rfl rfl ?_
    refine V_iload_n (q := 13) dX2_greatestOwner_12 rfl rfl ?_
    refine V_cV2I (q := 16) (o := 4) (N := mX2_allParts) (tX2_allParts hh (by omega)) hκ.big (by decide) gX2_allParts kl_X2_73 ki_X2_allParts ks_X2_allParts (by decide) rfl (Nat.le_of_ble_eq_true rfl) dX2_greatestOwner_13 rfl ?_
    refine V_aload_n (q := 17) dX2_greatestOwner_16 rfl rfl ?_
    refine V_iload_n (q := 18) dX2_greatestOwner_17 rfl rfl ?_
    refine V_iload_n (q := 19) dX2_greatestOwner_18 rfl rfl ?_
    refine V_cV2I (q := 22) (o := 4) (N := mX2_allParts) (tX2_allParts hh (by omega)) hκ.big (by decide) gX2_allParts kl_X2_73 ki_X2_allParts ks_X2_allParts (by decide) rfl (Nat.le_of_ble_eq_true rfl) dX2_greatestOwner_19 rfl ?_
    refine V_icmp_le (tgt := 27) (q := 25) dX2_greatestOwner_22 (by decide) rfl (fun c_22 => ?_) (fun c_22 => ?_)
    · refine V_iincN (q := 30) dX2_greatestOwner_27 rfl (Nat.le_of_ble_eq_true rfl) rfl rfl ?_
      refine V_goto (q := 4) dX2_greatestOwner_30 (by decide) ?_
      rw [if_neg (fun q => v_nlt q c_22)] at ih2
      exact ih2
    · refine V_iload_n (q := 26) dX2_greatestOwner_25 rfl rfl ?_
      refine V_istore_n (q := 27) dX2_greatestOwner_26 (Nat.le_of_ble_eq_true rfl) rfl rfl ?_
      refine V_iincN (q := 30) dX2_greatestOwner_27 rfl (Nat.le_of_ble_eq_true rfl) rfl rfl ?_
      refine V_goto (q := 4) dX2_greatestOwner_30 (by decide) ?_
      rw [if_pos (v_lt c_22)] at ih2
      exact ih2
theorem tX2_greatestOwner {F : vFt} {Ar : vAt} {x : vXt} {h : Nat} (hh : h < 5) : C0 mX2_greatestOwner 2 [.ref 4, .int (nI h)] F Ar x (vEq (some (.int (nI (vBest (fun c => Ar 27 (h * 8 + c)) 8)))) F Ar) := by
  refine C0_of (by decide +kernel) (Nat.le_of_ble_eq_true rfl) (fun κ hκ => ?_)
  show V κ mX2_greatestOwner 0 [.ref 4, .int (nI h), .null, .null] [] F Ar x
  refine V_iconst (q := 1) (v := 0) dX2_greatestOwner_0 (by decide) rfl ?_
  refine V_istore_n (q := 2) dX2_greatestOwner_1 (Nat.le_of_ble_eq_true rfl) rfl rfl ?_
  refine V_iconst (q := 3) (v := 1) dX2_greatestOwner_2 (by decide) rfl ?_
  refine V_istore_n (q := 4) dX2_greatestOwner_3 (Nat.le_of_ble_eq_true rfl) rfl rfl ?_
  have h9 := lp_X2_great (F := F) (Ar := Ar) hκ hh 7 1 (by decide) (by decide)
  rw [vBest_1] at h9
  exact h9
theorem lp_X2_sum {F : vFt} {Ar : vAt} {x : vXt} {n c : Nat} {κ : vK} (hκ : vStd κ 1 x (vEq (some (.int (vSum (gCol (Ar 23) c) n))) F Ar)) (hc : c < 9) (hn : F 258 = nI n) (hn60 : n ≤ 60) : ∀ k i, i + k = n → V κ mX2_sumOf 4 [.ref 4, .int (nI c), .int (vSum (gCol (Ar 23) c) i), .int (nI i)] [] F Ar x := by
  intro k
  induction k with
  | zero =>
    intro i hi
    obtain rfl : i = n := by omega
    refine V_iload_n (q := 5) dX2_sumOf_4 rfl rfl ?_
    refine V_aload_n (q := 6) dX2_sumOf_5 rfl rfl ?_
    refine V_getI (q := 9) (n := 258) 4 2 kf_X2_42 (by decide) (by decide) rfl rfl dX2_sumOf_6 rfl ?_
    rw [hn]
    refine V_icmp_ge (tgt := 27) (q := 12) dX2_sumOf_9 (by decide) rfl (fun c_9 => ?_) (fun c_9 => absurd c_9 (v_gt (by omega) (by omega) (Nat.le_refl _)))
    refine V_iload_n (q := 28) dX2_sumOf_27 rfl rfl ?_
    exact V_iret hκ rfl rfl dX2_sumOf_28 vEq.rf
  | succ k ih =>
    intro i hi
    refine V_iload_n (q := 5) dX2_sumOf_4 rfl rfl ?_
    refine V_aload_n (q := 6) dX2_sumOf_5 rfl rfl ?_
    refine V_getI (q := 9) (n := 258) 4 2 kf_X2_42 (by decide) (by decide) rfl rfl dX2_sumOf_6 rfl ?_
    rw [hn]
    refine V_icmp_ge (tgt := 27) (q := 12) dX2_sumOf_9 (by decide) rfl (fun c_9 => absurd c_9 (v_gf (by omega) (by omega) (by omega))) (fun c_9 => ?_)
    refine V_iload_n (q := 13) dX2_sumOf_12 rfl rfl ?_
    refine V_aload_n (q := 14) dX2_sumOf_13 rfl rfl ?_
    refine V_iload_n (q := 15) dX2_sumOf_14 rfl rfl ?_
    refine V_iload_n (q := 16) dX2_sumOf_15 rfl rfl ?_
    refine V_cV2I (q := 19) (o := 4) (N := mX2_told) (tX2_told (e := i) (by omega) hc) hκ.big (by decide) gX2_told kl_X2_50 ki_X2_told ks_X2_told (by decide) rfl (Nat.le_of_ble_eq_true rfl) dX2_sumOf_16 rfl ?_
    refine V_iadd (q := 20) dX2_sumOf_19 rfl ?_
    refine V_istore_n (q := 21) dX2_sumOf_20 (Nat.le_of_ble_eq_true rfl) rfl rfl ?_
    refine V_iincN (q := 24) dX2_sumOf_21 rfl (Nat.le_of_ble_eq_true rfl) rfl rfl ?_
    refine V_goto (q := 4) dX2_sumOf_24 (by decide) ?_
    exact ih (i + 1) (by omega)
theorem tX2_sumOf {F : vFt} {Ar : vAt} {x : vXt} {n c : Nat} (hc : c < 9) (hn : F 258 = nI n) (hn60 : n ≤ 60) : C0 mX2_sumOf 1 [.ref 4, .int (nI c)] F Ar x (vEq (some (.int (vSum (gCol (Ar 23) c) n))) F Ar) := by
  refine C0_of (by decide +kernel) (Nat.le_of_ble_eq_true rfl) (fun κ hκ => ?_)
  show V κ mX2_sumOf 0 [.ref 4, .int (nI c), .null, .null] [] F Ar x
  refine V_iconst (q := 1) (v := 0) dX2_sumOf_0 (by decide) rfl ?_
  refine V_istore_n (q := 2) dX2_sumOf_1 (Nat.le_of_ble_eq_true rfl) rfl rfl ?_
  refine V_iconst (q := 3) (v := 0) dX2_sumOf_2 (by decide) rfl ?_
  refine V_istore_n (q := 4) dX2_sumOf_3 (Nat.le_of_ble_eq_true rfl) rfl rfl ?_
  exact lp_X2_sum hκ hc hn hn60 n 0 (by omega)
theorem tX2_forgedEntries {F : vFt} {Ar : vAt} {x : vXt} {n : Nat} (hn : F 258 = nI n) (hn60 : n ≤ 60) : C0 mX2_forgedEntries 2 [.ref 4] F Ar x (vEq (some (.int (vSum (gCol (Ar 23) 5) n))) F Ar) := by
  refine C0_of (by decide +kernel) (Nat.le_of_ble_eq_true rfl) (fun κ hκ => ?_)
  show V κ mX2_forgedEntries 0 [.ref 4] [] F Ar x
  refine V_aload_n (q := 1) dX2_forgedEntries_0 rfl rfl ?_
  refine V_iconst (q := 2) (v := 5) dX2_forgedEntries_1 (by decide) rfl ?_
  refine V_cV1I (q := 5) (o := 4) (N := mX2_sumOf) (tX2_sumOf (c := 5) (by decide) hn hn60) hκ.big (by decide) gX2_sumOf kl_X2_76 ki_X2_sumOf ks_X2_sumOf (by decide) rfl (Nat.le_of_ble_eq_true rfl) dX2_forgedEntries_2 rfl ?_
  exact V_iret hκ rfl rfl dX2_forgedEntries_5 vEq.rf
theorem tX2_voidEntries {F : vFt} {Ar : vAt} {x : vXt} {n : Nat} (hn : F 258 = nI n) (hn60 : n ≤ 60) : C0 mX2_voidEntries 2 [.ref 4] F Ar x (vEq (some (.int (vSum (gCol (Ar 23) 6) n))) F Ar) := by
  refine C0_of (by decide +kernel) (Nat.le_of_ble_eq_true rfl) (fun κ hκ => ?_)
  show V κ mX2_voidEntries 0 [.ref 4] [] F Ar x
  refine V_aload_n (q := 1) dX2_voidEntries_0 rfl rfl ?_
  refine V_bipush (q := 3) (v := 6) dX2_voidEntries_1 (by decide) rfl ?_
  refine V_cV1I (q := 6) (o := 4) (N := mX2_sumOf) (tX2_sumOf (c := 6) (by decide) hn hn60) hκ.big (by decide) gX2_sumOf kl_X2_76 ki_X2_sumOf ks_X2_sumOf (by decide) rfl (Nat.le_of_ble_eq_true rfl) dX2_voidEntries_3 rfl ?_
  exact V_iret hκ rfl rfl dX2_voidEntries_6 vEq.rf
theorem lp_X2_stand {F : vFt} {Ar : vAt} {x : vXt} {n : Nat} {κ : vK} (hκ : vStd κ 0 x (vEq (some (.int (vSum (fun e => if Ar 24 e = 0 then 0 else 1) n))) F Ar)) (hn : F 258 = nI n) (hn60 : n ≤ 60) : ∀ k i, i + k = n → V κ mX2_standingPledges 4 [.ref 4, .int (vSum (fun e => if Ar 24 e = 0 then 0 else 1) i), .int (nI i)] [] F Ar x := by
  intro k
  induction k with
  | zero =>
    intro i hi
    obtain rfl : i = n := by omega
    refine V_iload_n (q := 5) dX2_standingPledges_4 rfl rfl ?_
    refine V_aload_n (q := 6) dX2_standingPledges_5 rfl rfl ?_
    refine V_getI (q := 9) (n := 258) 4 2 kf_X2_42 (by decide) (by decide) rfl rfl dX2_standingPledges_6 rfl ?_
    rw [hn]
    refine V_icmp_ge (tgt := 35) (q := 12) dX2_standingPledges_9 (by decide) rfl (fun c_9 => ?_) (fun c_9 => absurd c_9 (v_gt (by omega) (by omega) (Nat.le_refl _)))
    refine V_iload_n (q := 36) dX2_standingPledges_35 rfl rfl ?_
    exact V_iret hκ rfl rfl dX2_standingPledges_36 vEq.rf
  | succ k ih =>
    intro i hi
    have ih2 := ih (i + 1) (by omega)
    unfold vSum at ih2
    refine V_iload_n (q := 5) dX2_standingPledges_4 rfl rfl ?_
    refine V_aload_n (q := 6) dX2_standingPledges_5 rfl rfl ?_
    refine V_getI (q := 9) (n := 258) 4 2 kf_X2_42 (by decide) (by decide) rfl rfl dX2_standingPledges_6 rfl ?_
    rw [hn]
    refine V_icmp_ge (tgt := 35) (q := 12) dX2_standingPledges_9 (by decide) rfl (fun c_9 => absurd c_9 (v_gf (by omega) (by omega) (by omega))) (fun c_9 => ?_)
    refine V_iload_n (q := 13) dX2_standingPledges_12 rfl rfl ?_
    refine V_aload_n (q := 14) dX2_standingPledges_13 rfl rfl ?_
    refine V_getR (q := 17) (n := 24) 4 1 kf_X2_17 (by decide) (by decide) rfl (by decide) dX2_standingPledges_14 rfl ?_
    refine V_iload_n (q := 18) dX2_standingPledges_17 rfl rfl ?_
    refine V_zld (q := 19) (i) 60 rfl (by omega) (by decide) (by omega) (by decide) rfl (by decide) dX2_standingPledges_18 rfl ?_
    refine V_if_eq (tgt := 26) (q := 22) dX2_standingPledges_19 (by decide) rfl (fun c_19 => ?_) (fun c_19 => ?_)
    · refine V_iconst (q := 27) (v := 0) dX2_standingPledges_26 (by decide) rfl ?_
      refine V_iadd (q := 28) dX2_standingPledges_27 rfl ?_
      refine V_istore_n (q := 29) dX2_standingPledges_28 (Nat.le_of_ble_eq_true rfl) rfl rfl ?_
      refine V_iincN (q := 32) dX2_standingPledges_29 rfl (Nat.le_of_ble_eq_true rfl) rfl rfl ?_
      refine V_goto (q := 4) dX2_standingPledges_32 (by decide) ?_
      rw [if_pos c_19] at ih2
      exact ih2
    · refine V_iconst (q := 23) (v := 1) dX2_standingPledges_22 (by decide) rfl ?_
      refine V_goto (q := 27) dX2_standingPledges_23 (by decide) ?_
      refine V_iadd (q := 28) dX2_standingPledges_27 rfl ?_
      refine V_istore_n (q := 29) dX2_standingPledges_28 (Nat.le_of_ble_eq_true rfl) rfl rfl ?_
      refine V_iincN (q := 32) dX2_standingPledges_29 rfl (Nat.le_of_ble_eq_true rfl) rfl rfl ?_
      refine V_goto (q := 4) dX2_standingPledges_32 (by decide) ?_
      rw [if_neg c_19] at ih2
      exact ih2
theorem tX2_standingPledges {F : vFt} {Ar : vAt} {x : vXt} {n : Nat} (hn : F 258 = nI n) (hn60 : n ≤ 60) : C0 mX2_standingPledges 0 [.ref 4] F Ar x (vEq (some (.int (vSum (fun e => if Ar 24 e = 0 then 0 else 1) n))) F Ar) := by
  refine C0_of (by decide +kernel) (Nat.le_of_ble_eq_true rfl) (fun κ hκ => ?_)
  show V κ mX2_standingPledges 0 [.ref 4, .null, .null] [] F Ar x
  refine V_iconst (q := 1) (v := 0) dX2_standingPledges_0 (by decide) rfl ?_
  refine V_istore_n (q := 2) dX2_standingPledges_1 (Nat.le_of_ble_eq_true rfl) rfl rfl ?_
  refine V_iconst (q := 3) (v := 0) dX2_standingPledges_2 (by decide) rfl ?_
  refine V_istore_n (q := 4) dX2_standingPledges_3 (Nat.le_of_ble_eq_true rfl) rfl rfl ?_
  exact lp_X2_stand hκ hn hn60 n 0 (by omega)
def gRow (T : Nat → Int32) (e : Nat) (k h a b m r : Int32) : Nat → Int32 := upd (upd (upd (upd (upd (upd T (e * 9 + 0) k) (e * 9 + 1) h) (e * 9 + 2) a) (e * 9 + 3) b) (e * 9 + 4) m) (e * 9 + 8) r
def gAdd (Ar : vAt) (n : Nat) (k : Int32) (h a b : Nat) (m r : Int32) : vAt := vS (vS (vS Ar 25 (upd (Ar 25) n (nI (h * 8 + a)))) 26 (upd (Ar 26) n (nI (h * 8 + b)))) 23 (gRow (Ar 23) n k (nI h) (nI a) (nI b) m r)
theorem tX2_add {F : vFt} {Ar : vAt} {x : vXt} {n h a b : Nat} {k m r : Int32} (hn : F 258 = nI n) (hn60 : n ≤ 60) (hok : n < 60 → gOk (gAdd Ar n k h a b m r) (n + 1)) : C0 mX2_add 5 [.ref 4, .int k, .int (nI h), .int (nI a), .int (nI b), .int m, .int r] F Ar x (vEq (some (.int (if n < 60 then nI n else -2))) (if n < 60 then upd F 258 (nI (n + 1)) else F) (if n < 60 then gAll (gAdd Ar n k h a b m r) (n + 1) else Ar)) := by
  refine C0_of (by decide +kernel) (Nat.le_of_ble_eq_true rfl) (fun κ hκ => ?_)
  show V κ mX2_add 0 [.ref 4, .int k, .int (nI h), .int (nI a), .int (nI b), .int m, .int r] [] F Ar x
  refine V_aload_n (q := 1) dX2_add_0 rfl rfl ?_
  refine V_getI (q := 4) (n := 258) 4 2 kf_X2_42 (by decide) (by decide) rfl rfl dX2_add_1 rfl ?_
  refine V_bipush (q := 6) (v := 60) dX2_add_4 (by decide) rfl ?_
  have h6 : nI n < nI 60 ↔ n < 60 := nI_ltI (by omega) (by decide)
  rw [hn]
  refine V_icmp_lt (tgt := 12) (q := 9) dX2_add_6 (by decide) rfl (fun c_6 => ?_) (fun c_6 => ?_)
  · refine V_aload_n (q := 13) dX2_add_12 rfl rfl ?_
    refine V_getR (q := 16) (n := 25) 4 3 kf_X2_21 (by decide) (by decide) rfl (by decide) dX2_add_13 rfl ?_
    refine V_aload_n (q := 17) dX2_add_16 rfl rfl ?_
    refine V_getI (q := 20) (n := 258) 4 2 kf_X2_42 (by decide) (by decide) rfl rfl dX2_add_17 rfl ?_
    rw [hn]
    refine V_iload_n (q := 21) dX2_add_20 rfl rfl ?_
    refine V_iload_n (q := 22) dX2_add_21 rfl rfl ?_
    refine V_cS2I (q := 25) (N := mX2_account) tX2_account hκ.big (by decide) gX2_account kl_X2_58 kt_X2_account (Nat.le_of_ble_eq_true rfl) dX2_add_22 rfl ?_
    refine V_ist (q := 26) (n) 60 rfl (h6.mp c_6) (by decide) (by omega) (by decide) rfl (by decide) dX2_add_25 rfl ?_
    refine V_aload_n (q := 27) dX2_add_26 rfl rfl ?_
    refine V_getR (q := 30) (n := 26) 4 4 kf_X2_24 (by decide) (by decide) rfl (by decide) dX2_add_27 rfl ?_
    refine V_aload_n (q := 31) dX2_add_30 rfl rfl ?_
    refine V_getI (q := 34) (n := 258) 4 2 kf_X2_42 (by decide) (by decide) rfl rfl dX2_add_31 rfl ?_
    rw [hn]
    refine V_iload_n (q := 35) dX2_add_34 rfl rfl ?_
    refine V_iload (q := 37) dX2_add_35 rfl rfl ?_
    refine V_cS2I (q := 40) (N := mX2_account) tX2_account hκ.big (by decide) gX2_account kl_X2_58 kt_X2_account (Nat.le_of_ble_eq_true rfl) dX2_add_37 rfl ?_
    refine V_ist (q := 41) (n) 60 rfl (h6.mp c_6) (by decide) (by omega) (by decide) rfl (by decide) dX2_add_40 rfl ?_
    refine V_aload_n (q := 42) dX2_add_41 rfl rfl ?_
    refine V_aload_n (q := 43) dX2_add_42 rfl rfl ?_
    refine V_getI (q := 46) (n := 258) 4 2 kf_X2_42 (by decide) (by decide) rfl rfl dX2_add_43 rfl ?_
    rw [hn]
    refine V_iconst (q := 47) (v := 0) dX2_add_46 (by decide) rfl ?_
    refine V_iload_n (q := 48) dX2_add_47 rfl rfl ?_
    refine V_cV3U (q := 51) (o := 4) (N := mX2_put) (tX2_put (e := n) (c := 0) (h6.mp c_6) (by decide)) hκ.big (by decide) gX2_put kl_X2_61 ki_X2_put ks_X2_put (by decide) rfl (Nat.le_of_ble_eq_true rfl) dX2_add_48 rfl ?_
    refine V_aload_n (q := 52) dX2_add_51 rfl rfl ?_
    refine V_aload_n (q := 53) dX2_add_52 rfl rfl ?_
    refine V_getI (q := 56) (n := 258) 4 2 kf_X2_42 (by decide) (by decide) rfl rfl dX2_add_53 rfl ?_
    rw [hn]
    refine V_iconst (q := 57) (v := 1) dX2_add_56 (by decide) rfl ?_
    refine V_iload_n (q := 58) dX2_add_57 rfl rfl ?_
    refine V_cV3U (q := 61) (o := 4) (N := mX2_put) (tX2_put (e := n) (c := 1) (h6.mp c_6) (by decide)) hκ.big (by decide) gX2_put kl_X2_61 ki_X2_put ks_X2_put (by decide) rfl (Nat.le_of_ble_eq_true rfl) dX2_add_58 rfl ?_
    refine V_aload_n (q := 62) dX2_add_61 rfl rfl ?_
    refine V_aload_n (q := 63) dX2_add_62 rfl rfl ?_
    refine V_getI (q := 66) (n := 258) 4 2 kf_X2_42 (by decide) (by decide) rfl rfl dX2_add_63 rfl ?_
    rw [hn]
    refine V_iconst (q := 67) (v := 2) dX2_add_66 (by decide) rfl ?_
    refine V_iload_n (q := 68) dX2_add_67 rfl rfl ?_
    refine V_cV3U (q := 71) (o := 4) (N := mX2_put) (tX2_put (e := n) (c := 2) (h6.mp c_6) (by decide)) hκ.big (by decide) gX2_put kl_X2_61 ki_X2_put ks_X2_put (by decide) rfl (Nat.le_of_ble_eq_true rfl) dX2_add_68 rfl ?_
    refine V_aload_n (q := 72) dX2_add_71 rfl rfl ?_
    refine V_aload_n (q := 73) dX2_add_72 rfl rfl ?_
    refine V_getI (q := 76) (n := 258) 4 2 kf_X2_42 (by decide) (by decide) rfl rfl dX2_add_73 rfl ?_
    rw [hn]
    refine V_iconst (q := 77) (v := 3) dX2_add_76 (by decide) rfl ?_
    refine V_iload (q := 79) dX2_add_77 rfl rfl ?_
    refine V_cV3U (q := 82) (o := 4) (N := mX2_put) (tX2_put (e := n) (c := 3) (h6.mp c_6) (by decide)) hκ.big (by decide) gX2_put kl_X2_61 ki_X2_put ks_X2_put (by decide) rfl (Nat.le_of_ble_eq_true rfl) dX2_add_79 rfl ?_
    refine V_aload_n (q := 83) dX2_add_82 rfl rfl ?_
    refine V_aload_n (q := 84) dX2_add_83 rfl rfl ?_
    refine V_getI (q := 87) (n := 258) 4 2 kf_X2_42 (by decide) (by decide) rfl rfl dX2_add_84 rfl ?_
    rw [hn]
    refine V_iconst (q := 88) (v := 4) dX2_add_87 (by decide) rfl ?_
    refine V_iload (q := 90) dX2_add_88 rfl rfl ?_
    refine V_cV3U (q := 93) (o := 4) (N := mX2_put) (tX2_put (e := n) (c := 4) (h6.mp c_6) (by decide)) hκ.big (by decide) gX2_put kl_X2_61 ki_X2_put ks_X2_put (by decide) rfl (Nat.le_of_ble_eq_true rfl) dX2_add_90 rfl ?_
    refine V_aload_n (q := 94) dX2_add_93 rfl rfl ?_
    refine V_aload_n (q := 95) dX2_add_94 rfl rfl ?_
    refine V_getI (q := 98) (n := 258) 4 2 kf_X2_42 (by decide) (by decide) rfl rfl dX2_add_95 rfl ?_
    rw [hn]
    refine V_bipush (q := 100) (v := 8) dX2_add_98 (by decide) rfl ?_
    refine V_iload (q := 102) dX2_add_100 rfl rfl ?_
    refine V_cV3U (q := 105) (o := 4) (N := mX2_put) (tX2_put (e := n) (c := 8) (h6.mp c_6) (by decide)) hκ.big (by decide) gX2_put kl_X2_61 ki_X2_put ks_X2_put (by decide) rfl (Nat.le_of_ble_eq_true rfl) dX2_add_102 rfl ?_
    refine V_aload_n (q := 106) dX2_add_105 rfl rfl ?_
    refine V_dup (q := 107) dX2_add_106 rfl rfl ?_
    refine V_getI (q := 110) (n := 258) 4 2 kf_X2_42 (by decide) (by decide) rfl rfl dX2_add_107 rfl ?_
    refine V_iconst (q := 111) (v := 1) dX2_add_110 (by decide) rfl ?_
    refine V_iadd (q := 112) dX2_add_111 rfl ?_
    refine V_putI (q := 115) (n := 258) 4 2 kf_X2_42 (by decide) (by decide) rfl rfl dX2_add_112 rfl ?_
    refine V_fl (upd F 258 (nI (n + 1))) (by rw [hn, nI_1]) ?_
    refine V_ar (gAdd Ar n k h a b m r) (by simp only [vS_vS, vS_at]; rfl) ?_
    refine V_aload_n (q := 116) dX2_add_115 rfl rfl ?_
    refine V_cV0U (q := 119) (o := 4) (N := mX2_goThrough) (tX2_goThrough (n := n + 1) rfl (by have := h6.mp c_6; omega) (hok (h6.mp c_6))) hκ.big (by decide) gX2_goThrough kl_X2_39 ki_X2_goThrough ks_X2_goThrough (by decide) rfl (Nat.le_of_ble_eq_true rfl) dX2_add_116 rfl ?_
    refine V_aload_n (q := 120) dX2_add_119 rfl rfl ?_
    refine V_getI (q := 123) (n := 258) 4 2 kf_X2_42 (by decide) (by decide) rfl rfl dX2_add_120 rfl ?_
    refine V_iconst (q := 124) (v := 1) dX2_add_123 (by decide) rfl ?_
    refine V_isub (q := 125) dX2_add_124 rfl ?_
    exact V_iret hκ rfl rfl dX2_add_125 (by simp only [if_pos (h6.mp c_6)]; exact ⟨congrArg (fun z => some (Value.int z)) (nI_pred n), rfl, rfl⟩)
  · refine V_bipush (q := 11) (v := (-2)) dX2_add_9 (by decide) rfl ?_
    exact V_iret hκ rfl rfl dX2_add_11 (by simp only [if_neg (fun h => c_6 (h6.mpr h) : ¬ n < 60)]; exact vEq.rf)
theorem tX2_addRedeem {F : vFt} {Ar : vAt} {x : vXt} {n e h a b : Nat} (hn : F 258 = nI n) (hn60 : n ≤ 60) (he : e < n) (hh : gCol (Ar 23) 1 e = nI h) (ha : gCol (Ar 23) 2 e = nI a) (hb : gCol (Ar 23) 3 e = nI b) (hok : n < 60 → gOk (gAdd Ar n 2 h a b (gCol (Ar 23) 4 e) (nI e)) (n + 1)) : C0 mX2_addRedeem 6 [.ref 4, .int (nI e)] F Ar x (vEq (some (.int (if gCol (Ar 23) 0 e = 1 then (if n < 60 then nI n else -2) else -5))) (if gCol (Ar 23) 0 e = 1 ∧ n < 60 then upd F 258 (nI (n + 1)) else F) (if gCol (Ar 23) 0 e = 1 ∧ n < 60 then gAll (gAdd Ar n 2 h a b (gCol (Ar 23) 4 e) (nI e)) (n + 1) else Ar)) := by
  refine C0_of (by decide +kernel) (Nat.le_of_ble_eq_true rfl) (fun κ hκ => ?_)
  show V κ mX2_addRedeem 0 [.ref 4, .int (nI e)] [] F Ar x
  refine V_aload_n (q := 1) dX2_addRedeem_0 rfl rfl ?_
  refine V_iload_n (q := 2) dX2_addRedeem_1 rfl rfl ?_
  refine V_iconst (q := 3) (v := 0) dX2_addRedeem_2 (by decide) rfl ?_
  refine V_cV2I (q := 6) (o := 4) (N := mX2_told) (tX2_told (e := e) (c := 0) (by omega) (by decide)) hκ.big (by decide) gX2_told kl_X2_50 ki_X2_told ks_X2_told (by decide) rfl (Nat.le_of_ble_eq_true rfl) dX2_addRedeem_3 rfl ?_
  refine V_iconst (q := 7) (v := 1) dX2_addRedeem_6 (by decide) rfl ?_
  refine V_icmp_eq (tgt := 13) (q := 10) dX2_addRedeem_7 (by decide) rfl (fun c_7 => ?_) (fun c_7 => ?_)
  · refine V_aload_n (q := 14) dX2_addRedeem_13 rfl rfl ?_
    refine V_iconst (q := 15) (v := 2) dX2_addRedeem_14 (by decide) rfl ?_
    refine V_aload_n (q := 16) dX2_addRedeem_15 rfl rfl ?_
    refine V_iload_n (q := 17) dX2_addRedeem_16 rfl rfl ?_
    refine V_iconst (q := 18) (v := 1) dX2_addRedeem_17 (by decide) rfl ?_
    refine V_cV2I (q := 21) (o := 4) (N := mX2_told) (tX2_told (e := e) (c := 1) (by omega) (by decide)) hκ.big (by decide) gX2_told kl_X2_50 ki_X2_told ks_X2_told (by decide) rfl (Nat.le_of_ble_eq_true rfl) dX2_addRedeem_18 rfl ?_
    refine V_top (nI h) hh ?_
    refine V_aload_n (q := 22) dX2_addRedeem_21 rfl rfl ?_
    refine V_iload_n (q := 23) dX2_addRedeem_22 rfl rfl ?_
    refine V_iconst (q := 24) (v := 2) dX2_addRedeem_23 (by decide) rfl ?_
    refine V_cV2I (q := 27) (o := 4) (N := mX2_told) (tX2_told (e := e) (c := 2) (by omega) (by decide)) hκ.big (by decide) gX2_told kl_X2_50 ki_X2_told ks_X2_told (by decide) rfl (Nat.le_of_ble_eq_true rfl) dX2_addRedeem_24 rfl ?_
    refine V_top (nI a) ha ?_
    refine V_aload_n (q := 28) dX2_addRedeem_27 rfl rfl ?_
    refine V_iload_n (q := 29) dX2_addRedeem_28 rfl rfl ?_
    refine V_iconst (q := 30) (v := 3) dX2_addRedeem_29 (by decide) rfl ?_
    refine V_cV2I (q := 33) (o := 4) (N := mX2_told) (tX2_told (e := e) (c := 3) (by omega) (by decide)) hκ.big (by decide) gX2_told kl_X2_50 ki_X2_told ks_X2_told (by decide) rfl (Nat.le_of_ble_eq_true rfl) dX2_addRedeem_30 rfl ?_
    refine V_top (nI b) hb ?_
    refine V_aload_n (q := 34) dX2_addRedeem_33 rfl rfl ?_
    refine V_iload_n (q := 35) dX2_addRedeem_34 rfl rfl ?_
    refine V_iconst (q := 36) (v := 4) dX2_addRedeem_35 (by decide) rfl ?_
    refine V_cV2I (q := 39) (o := 4) (N := mX2_told) (tX2_told (e := e) (c := 4) (by omega) (by decide)) hκ.big (by decide) gX2_told kl_X2_50 ki_X2_told ks_X2_told (by decide) rfl (Nat.le_of_ble_eq_true rfl) dX2_addRedeem_36 rfl ?_
    refine V_iload_n (q := 40) dX2_addRedeem_39 rfl rfl ?_
    refine V_cV6I (q := 43) (o := 4) (N := mX2_add) (tX2_add hn hn60 hok) hκ.big (by decide) gX2_add kl_X2_54 ki_X2_add ks_X2_add (by decide) rfl (Nat.le_of_ble_eq_true rfl) dX2_addRedeem_40 rfl ?_
    exact V_iret hκ rfl rfl dX2_addRedeem_43 (by have k1 : gCol (Ar 23) 0 e = 1 := c_7; rw [if_pos k1]; by_cases h9 : n < 60; (· simp only [if_pos h9, if_pos (show gCol (Ar 23) 0 e = 1 ∧ n < 60 from ⟨k1, h9⟩)]; exact vEq.rf); (· simp only [if_neg h9, if_neg (fun q : gCol (Ar 23) 0 e = 1 ∧ n < 60 => h9 q.2)]; exact vEq.rf))
  · refine V_bipush (q := 12) (v := (-5)) dX2_addRedeem_10 (by decide) rfl ?_
    exact V_iret hκ rfl rfl dX2_addRedeem_12 (by have k1 : ¬ gCol (Ar 23) 0 e = 1 := c_7; simp only [if_neg k1, if_neg (fun q : gCol (Ar 23) 0 e = 1 ∧ n < 60 => k1 q.1)]; exact vEq.rf)
end
section
theorem tX2_markForged {F : vFt} {Ar : vAt} {x : vXt} {n e : Nat} (hn : F 258 = nI n) (hn60 : n ≤ 60) (he : e < n) (hok : gOk (vS Ar 23 (upd (Ar 23) (e * 9 + 5) 1)) n) : C0 mX2_markForged 5 [.ref 4, .int (nI e)] F Ar x (vEq (some (.int (if gCol (Ar 23) 5 e = 1 then -3 else 1))) F (if gCol (Ar 23) 5 e = 1 then Ar else gAll (vS Ar 23 (upd (Ar 23) (e * 9 + 5) 1)) n)) := by
  refine C0_of (by decide +kernel) (Nat.le_of_ble_eq_true rfl) (fun κ hκ => ?_)
  show V κ mX2_markForged 0 [.ref 4, .int (nI e)] [] F Ar x
  refine V_aload_n (q := 1) dX2_markForged_0 rfl rfl ?_
  refine V_iload_n (q := 2) dX2_markForged_1 rfl rfl ?_
  refine V_cV1I (q := 5) (o := 4) (N := mX2_isForged) (tX2_isForged (e := e) (by omega)) hκ.big (by decide) gX2_isForged kl_X2_65 ki_X2_isForged ks_X2_isForged (by decide) rfl (Nat.le_of_ble_eq_true rfl) dX2_markForged_2 rfl ?_
  refine V_if_eq (tgt := 11) (q := 8) dX2_markForged_5 (by decide) rfl (fun c_5 => ?_) (fun c_5 => ?_)
  · refine V_aload_n (q := 12) dX2_markForged_11 rfl rfl ?_
    refine V_iload_n (q := 13) dX2_markForged_12 rfl rfl ?_
    refine V_iconst (q := 14) (v := 5) dX2_markForged_13 (by decide) rfl ?_
    refine V_iconst (q := 15) (v := 1) dX2_markForged_14 (by decide) rfl ?_
    refine V_cV3U (q := 18) (o := 4) (N := mX2_put) (tX2_put (e := e) (c := 5) (by omega) (by decide)) hκ.big (by decide) gX2_put kl_X2_61 ki_X2_put ks_X2_put (by decide) rfl (Nat.le_of_ble_eq_true rfl) dX2_markForged_15 rfl ?_
    refine V_aload_n (q := 19) dX2_markForged_18 rfl rfl ?_
    refine V_cV0U (q := 22) (o := 4) (N := mX2_goThrough) (tX2_goThrough hn hn60 hok) hκ.big (by decide) gX2_goThrough kl_X2_39 ki_X2_goThrough ks_X2_goThrough (by decide) rfl (Nat.le_of_ble_eq_true rfl) dX2_markForged_19 rfl ?_
    refine V_iconst (q := 23) (v := 1) dX2_markForged_22 (by decide) rfl ?_
    exact V_iret hκ rfl rfl dX2_markForged_23 (by have k1 : ¬ gCol (Ar 23) 5 e = 1 := vB_0.mp c_5; rw [if_neg k1, if_neg k1]; exact vEq.rf)
  · refine V_bipush (q := 10) (v := (-3)) dX2_markForged_8 (by decide) rfl ?_
    exact V_iret hκ rfl rfl dX2_markForged_10 (by have k1 : gCol (Ar 23) 5 e = 1 := vB_n0.mp c_5; rw [if_pos k1, if_pos k1]; exact vEq.rf)
/-- a bit of a mask -/
def bitI (m : Int32) (i : Nat) : Bool := m.toBitVec.getLsbD i
theorem bitI_or (a b : Int32) (i : Nat) : bitI (a ||| b) i = (bitI a i || bitI b i) := by
  unfold bitI
  rw [Int32.toBitVec_or, BitVec.getLsbD_or]
theorem bitI_and (a b : Int32) (i : Nat) : bitI (a &&& b) i = (bitI a i && bitI b i) := by
  unfold bitI
  rw [Int32.toBitVec_and, BitVec.getLsbD_and]
theorem bitI_xor (a b : Int32) (i : Nat) : bitI (a ^^^ b) i = (bitI a i ^^ bitI b i) := by
  unfold bitI
  rw [Int32.toBitVec_xor, BitVec.getLsbD_xor]
theorem bitI_ge {a : Int32} {i : Nat} (h : 32 ≤ i) : bitI a i = false := BitVec.getLsbD_of_ge _ _ h
theorem bitI_m1 : ∀ i, i < 32 → bitI (-1) i = true := by decide
theorem bitI_not (a : Int32) (i : Nat) (h : i < 32) : bitI (a ^^^ (-1)) i = !(bitI a i) := by
  rw [bitI_xor, bitI_m1 i h]
  simp
theorem bitI_sh : ∀ q, q < 8 → ∀ i, i < 32 → bitI (1 <<< (nI q &&& 31)) i = decide (i = q) := by decide +kernel
theorem bitI_0 (i : Nat) : bitI 0 i = false := by
  unfold bitI
  simp
theorem bitI_ext {a b : Int32} (h : ∀ i, i < 32 → bitI a i = bitI b i) : a = b := by
  apply Int32.toBitVec_inj.mp
  apply BitVec.eq_of_getLsbD_eq
  intro i hi
  exact h i hi
theorem bitI_one (a : Int32) : (a &&& 1) = 1 ↔ bitI a 0 = true := by
  constructor
  · intro h
    have h2 : bitI (a &&& 1) 0 = bitI 1 0 := by rw [h]
    rw [bitI_and] at h2
    have h3 : bitI 1 0 = true := by decide
    rw [h3] at h2
    simpa using h2
  · intro h
    apply bitI_ext
    intro i hi
    rw [bitI_and]
    rcases Nat.eq_zero_or_pos i with rfl | h0
    · rw [h]
      decide
    · have h1 : ∀ i, i < 32 → 0 < i → bitI 1 i = false := by decide
      rw [h1 i hi h0]
      simp
theorem shr_amount : ∀ q, q < 8 → ((nI q &&& 31).toBitVec.smod 32).toNat = q := by decide +kernel
theorem bitI_shr (a : Int32) {q : Nat} (hq : q < 8) : bitI (a >>> (nI q &&& 31)) 0 = bitI a q := by
  unfold bitI
  rw [Int32.toBitVec_shiftRight, BitVec.sshiftRight_eq', shr_amount q hq, BitVec.getLsbD_sshiftRight]
  simp
  intro h
  omega
theorem tX3_isIn {F : vFt} {Ar : vAt} {x : vXt} {q : Nat} {m : Int32} (hq : q < 8) : C0 mX3_isIn 0 [.int (nI q), .int m] F Ar x (vEq (some (.int (vB (bitI m q = true)))) F Ar) := by
  refine C0_of (by decide +kernel) (Nat.le_of_ble_eq_true rfl) (fun κ hκ => ?_)
  show V κ mX3_isIn 0 [.int (nI q), .int m] [] F Ar x
  refine V_iload_n (q := 1) dX3_isIn_0 rfl rfl ?_
  refine V_iload_n (q := 2) dX3_isIn_1 rfl rfl ?_
  refine V_ishr (q := 3) dX3_isIn_2 rfl ?_
  refine V_iconst (q := 4) (v := 1) dX3_isIn_3 (by decide) rfl ?_
  refine V_iand (q := 5) dX3_isIn_4 rfl ?_
  refine V_iconst (q := 6) (v := 1) dX3_isIn_5 (by decide) rfl ?_
  have hb : ((m >>> (nI q &&& 31)) &&& 1) = 1 ↔ bitI m q = true := by rw [bitI_one, bitI_shr m hq]
  refine V_icmp_ne (tgt := 13) (q := 9) dX3_isIn_6 (by decide) rfl (fun c_6 => ?_) (fun c_6 => ?_)
  · refine V_iconst (q := 14) (v := 0) dX3_isIn_13 (by decide) rfl ?_
    exact V_iret hκ rfl (by first | rfl | exact vB_nar) dX3_isIn_14 ⟨by rw [vB_f (fun h => c_6 (hb.mpr h))], rfl, rfl⟩
  · refine V_iconst (q := 10) (v := 1) dX3_isIn_9 (by decide) rfl ?_
    refine V_goto (q := 14) dX3_isIn_10 (by decide) ?_
    exact V_iret hκ rfl (by first | rfl | exact vB_nar) dX3_isIn_14 ⟨by rw [vB_t (hb.mp c_6)], rfl, rfl⟩
theorem tX3_mayBeOne {F : vFt} {Ar : vAt} {x : vXt} {a b : Nat} (ha : a < 8) (hb : b < 8) : C0 mX3_mayBeOne 1 [.ref 5, .int (nI a), .int (nI b)] F Ar x (vEq (some (.int (vB (bitI (Ar 36 a) b = true)))) F Ar) := by
  refine C0_of (by decide +kernel) (Nat.le_of_ble_eq_true rfl) (fun κ hκ => ?_)
  show V κ mX3_mayBeOne 0 [.ref 5, .int (nI a), .int (nI b)] [] F Ar x
  refine V_iload_n (q := 1) dX3_mayBeOne_0 rfl rfl ?_
  refine V_aload_n (q := 2) dX3_mayBeOne_1 rfl rfl ?_
  refine V_getR (q := 5) (n := 36) 5 6 kf_X3_27 (by decide) (by decide) rfl (by decide) dX3_mayBeOne_2 rfl ?_
  refine V_iload_n (q := 6) dX3_mayBeOne_5 rfl rfl ?_
  refine V_ild (q := 7) (a) 8 rfl ha (by decide) (by omega) (by decide) rfl (by decide) dX3_mayBeOne_6 rfl ?_
  refine V_cS2I (q := 10) (N := mX3_isIn) (tX3_isIn hb) hκ.big (by decide) gX3_isIn kl_X3_54 kt_X3_isIn (Nat.le_of_ble_eq_true rfl) dX3_mayBeOne_7 rfl ?_
  exact V_iret hκ rfl (by first | rfl | exact vB_nar) dX3_mayBeOne_10 vEq.rf
theorem tX3_joinedGroup {F : vFt} {Ar : vAt} {x : vXt} {a : Nat} (ha : a < 8) : C0 mX3_joinedGroup 0 [.ref 5, .int (nI a)] F Ar x (vEq (some (.int (Ar 38 a))) F Ar) := by
  refine C0_of (by decide +kernel) (Nat.le_of_ble_eq_true rfl) (fun κ hκ => ?_)
  show V κ mX3_joinedGroup 0 [.ref 5, .int (nI a)] [] F Ar x
  refine V_aload_n (q := 1) dX3_joinedGroup_0 rfl rfl ?_
  refine V_getR (q := 4) (n := 38) 5 9 kf_X3_33 (by decide) (by decide) rfl (by decide) dX3_joinedGroup_1 rfl ?_
  refine V_iload_n (q := 5) dX3_joinedGroup_4 rfl rfl ?_
  refine V_ild (q := 6) (a) 8 rfl ha (by decide) (by omega) (by decide) rfl (by decide) dX3_joinedGroup_5 rfl ?_
  exact V_iret hκ rfl rfl dX3_joinedGroup_6 vEq.rf
theorem tX3_joinedGroups {F : vFt} {Ar : vAt} {x : vXt}   : C0 mX3_joinedGroups 0 [.ref 5] F Ar x (vEq (some (.int (F 331))) F Ar) := by
  refine C0_of (by decide +kernel) (Nat.le_of_ble_eq_true rfl) (fun κ hκ => ?_)
  show V κ mX3_joinedGroups 0 [.ref 5] [] F Ar x
  refine V_aload_n (q := 1) dX3_joinedGroups_0 rfl rfl ?_
  refine V_getI (q := 4) (n := 331) 5 11 kf_X3_58 (by decide) (by decide) rfl rfl dX3_joinedGroups_1 rfl ?_
  exact V_iret hκ rfl rfl dX3_joinedGroups_4 vEq.rf
theorem tX3_witnesses {F : vFt} {Ar : vAt} {x : vXt}   : C0 mX3_witnesses 0 [.ref 5] F Ar x (vEq (some (.int (F 328))) F Ar) := by
  refine C0_of (by decide +kernel) (Nat.le_of_ble_eq_true rfl) (fun κ hκ => ?_)
  show V κ mX3_witnesses 0 [.ref 5] [] F Ar x
  refine V_aload_n (q := 1) dX3_witnesses_0 rfl rfl ?_
  refine V_getI (q := 4) (n := 328) 5 8 kf_X3_43 (by decide) (by decide) rfl rfl dX3_witnesses_1 rfl ?_
  exact V_iret hκ rfl rfl dX3_witnesses_4 vEq.rf
theorem tX3_areTwo {F : vFt} {Ar : vAt} {x : vXt} {a b : Int32}  : C0 mX3_areTwo 2 [.ref 5, .int a, .int b] F Ar x (vEq (some (.int (vB ((0 ≤ a ∧ a ≤ F 325 - 1) ∧ (0 ≤ b ∧ b ≤ F 325 - 1) ∧ ¬ a = b)))) F Ar) := by
  refine C0_of (by decide +kernel) (Nat.le_of_ble_eq_true rfl) (fun κ hκ => ?_)
  show V κ mX3_areTwo 0 [.ref 5, .int a, .int b] [] F Ar x
  refine V_aload_n (q := 1) dX3_areTwo_0 rfl rfl ?_
  refine V_iload_n (q := 2) dX3_areTwo_1 rfl rfl ?_
  refine V_cV1I (q := 5) (o := 5) (N := mX3_has) tX3_has hκ.big (by decide) gX3_has kl_X3_50 ki_X3_has ks_X3_has (by decide) rfl (Nat.le_of_ble_eq_true rfl) dX3_areTwo_2 rfl ?_
  refine V_if_eq (tgt := 25) (q := 8) dX3_areTwo_5 (by decide) rfl (fun c_5 => ?_) (fun c_5 => ?_)
  · refine V_iconst (q := 26) (v := 0) dX3_areTwo_25 (by decide) rfl ?_
    exact V_iret hκ rfl (by first | rfl | exact vB_nar) dX3_areTwo_26 ⟨by rw [vB_f (fun h => vB_0.mp c_5 h.1)], rfl, rfl⟩
  · refine V_aload_n (q := 9) dX3_areTwo_8 rfl rfl ?_
    refine V_iload_n (q := 10) dX3_areTwo_9 rfl rfl ?_
    refine V_cV1I (q := 13) (o := 5) (N := mX3_has) tX3_has hκ.big (by decide) gX3_has kl_X3_50 ki_X3_has ks_X3_has (by decide) rfl (Nat.le_of_ble_eq_true rfl) dX3_areTwo_10 rfl ?_
    refine V_if_eq (tgt := 25) (q := 16) dX3_areTwo_13 (by decide) rfl (fun c_13 => ?_) (fun c_13 => ?_)
    · refine V_iconst (q := 26) (v := 0) dX3_areTwo_25 (by decide) rfl ?_
      exact V_iret hκ rfl (by first | rfl | exact vB_nar) dX3_areTwo_26 ⟨by rw [vB_f (fun h => vB_0.mp c_13 h.2.1)], rfl, rfl⟩
    · refine V_iload_n (q := 17) dX3_areTwo_16 rfl rfl ?_
      refine V_iload_n (q := 18) dX3_areTwo_17 rfl rfl ?_
      refine V_icmp_eq (tgt := 25) (q := 21) dX3_areTwo_18 (by decide) rfl (fun c_18 => ?_) (fun c_18 => ?_)
      · refine V_iconst (q := 26) (v := 0) dX3_areTwo_25 (by decide) rfl ?_
        exact V_iret hκ rfl (by first | rfl | exact vB_nar) dX3_areTwo_26 ⟨by rw [vB_f (fun h => h.2.2 c_18)], rfl, rfl⟩
      · refine V_iconst (q := 22) (v := 1) dX3_areTwo_21 (by decide) rfl ?_
        refine V_goto (q := 26) dX3_areTwo_22 (by decide) ?_
        exact V_iret hκ rfl (by first | rfl | exact vB_nar) dX3_areTwo_26 ⟨by rw [vB_t ⟨vB_n0.mp c_5, vB_n0.mp c_13, c_18⟩], rfl, rfl⟩
def stBit (m : Int32) (o : Nat) (yes : Bool) : Int32 := if yes then m ||| (1 <<< (nI o &&& 31)) else m &&& ((1 <<< (nI o &&& 31)) ^^^ (-1))
theorem stBit_bit (m : Int32) {o i : Nat} (yes : Bool) (ho : o < 8) (hi : i < 32) : bitI (stBit m o yes) i = if i = o then yes else bitI m i := by
  unfold stBit
  cases yes
  · rw [if_neg (by decide), bitI_and, bitI_not _ _ hi, bitI_sh o ho i hi]
    by_cases h : i = o <;> simp [h]
  · rw [if_pos rfl, bitI_or, bitI_sh o ho i hi]
    by_cases h : i = o <;> simp [h]
theorem tX3_setLike {F : vFt} {Ar : vAt} {x : vXt} {a b : Nat} {yes : Bool} (ha : a < 8) (hb : b < 8) (hab : a ≠ b) : C0 mX3_setLike 0 [.ref 5, .int (nI a), .int (nI b), .int (if yes then 1 else 0)] F Ar x (vEq none F (vS Ar 36 (upd (upd (Ar 36) a (stBit (Ar 36 a) b yes)) b (stBit (Ar 36 b) a yes)))) := by
  refine C0_of (by decide +kernel) (Nat.le_of_ble_eq_true rfl) (fun κ hκ => ?_)
  show V κ mX3_setLike 0 [.ref 5, .int (nI a), .int (nI b), .int (if yes then 1 else 0)] [] F Ar x
  refine V_aload_n (q := 1) dX3_setLike_0 rfl rfl ?_
  refine V_getR (q := 4) (n := 36) 5 6 kf_X3_27 (by decide) (by decide) rfl (by decide) dX3_setLike_1 rfl ?_
  refine V_iload_n (q := 5) dX3_setLike_4 rfl rfl ?_
  refine V_iload_n (q := 6) dX3_setLike_5 rfl rfl ?_
  refine V_if_eq (tgt := 22) (q := 9) dX3_setLike_6 (by decide) rfl (fun c_6 => ?_) (fun c_6 => ?_)
  · refine V_aload_n (q := 23) dX3_setLike_22 rfl rfl ?_
    refine V_getR (q := 26) (n := 36) 5 6 kf_X3_27 (by decide) (by decide) rfl (by decide) dX3_setLike_23 rfl ?_
    refine V_iload_n (q := 27) dX3_setLike_26 rfl rfl ?_
    refine V_ild (q := 28) (a) 8 rfl ha (by decide) (by omega) (by decide) rfl (by decide) dX3_setLike_27 rfl ?_
    refine V_iconst (q := 29) (v := 1) dX3_setLike_28 (by decide) rfl ?_
    refine V_iload_n (q := 30) dX3_setLike_29 rfl rfl ?_
    refine V_ishl (q := 31) dX3_setLike_30 rfl ?_
    refine V_iconst (q := 32) (v := (-1)) dX3_setLike_31 (by decide) rfl ?_
    refine V_ixor (q := 33) dX3_setLike_32 rfl ?_
    refine V_iand (q := 34) dX3_setLike_33 rfl ?_
    refine V_ist (q := 35) (a) 8 rfl ha (by decide) (by omega) (by decide) rfl (by decide) dX3_setLike_34 rfl ?_
    refine V_aload_n (q := 36) dX3_setLike_35 rfl rfl ?_
    refine V_getR (q := 39) (n := 36) 5 6 kf_X3_27 (by decide) (by decide) rfl (by decide) dX3_setLike_36 rfl ?_
    refine V_iload_n (q := 40) dX3_setLike_39 rfl rfl ?_
    refine V_iload_n (q := 41) dX3_setLike_40 rfl rfl ?_
    refine V_if_eq (tgt := 57) (q := 44) dX3_setLike_41 (by decide) rfl (fun c_41 => ?_) (fun c_41 => by cases yes; (· exact absurd rfl c_41); (· exact absurd c_6 (by decide)))
    refine V_aload_n (q := 58) dX3_setLike_57 rfl rfl ?_
    refine V_getR (q := 61) (n := 36) 5 6 kf_X3_27 (by decide) (by decide) rfl (by decide) dX3_setLike_58 rfl ?_
    refine V_iload_n (q := 62) dX3_setLike_61 rfl rfl ?_
    refine V_ild (q := 63) (b) 8 rfl hb (by decide) (by omega) (by decide) rfl (by decide) dX3_setLike_62 rfl ?_
    refine V_iconst (q := 64) (v := 1) dX3_setLike_63 (by decide) rfl ?_
    refine V_iload_n (q := 65) dX3_setLike_64 rfl rfl ?_
    refine V_ishl (q := 66) dX3_setLike_65 rfl ?_
    refine V_iconst (q := 67) (v := (-1)) dX3_setLike_66 (by decide) rfl ?_
    refine V_ixor (q := 68) dX3_setLike_67 rfl ?_
    refine V_iand (q := 69) dX3_setLike_68 rfl ?_
    refine V_ist (q := 70) (b) 8 rfl hb (by decide) (by omega) (by decide) rfl (by decide) dX3_setLike_69 rfl ?_
    exact V_vret hκ rfl dX3_setLike_70 ⟨rfl, rfl, by cases yes; (· rw [vS_at, vS_vS, upd_ne (fun h => hab h.symm)]; rfl); (· exact absurd c_6 (by decide))⟩
  · refine V_aload_n (q := 10) dX3_setLike_9 rfl rfl ?_
    refine V_getR (q := 13) (n := 36) 5 6 kf_X3_27 (by decide) (by decide) rfl (by decide) dX3_setLike_10 rfl ?_
    refine V_iload_n (q := 14) dX3_setLike_13 rfl rfl ?_
    refine V_ild (q := 15) (a) 8 rfl ha (by decide) (by omega) (by decide) rfl (by decide) dX3_setLike_14 rfl ?_
    refine V_iconst (q := 16) (v := 1) dX3_setLike_15 (by decide) rfl ?_
    refine V_iload_n (q := 17) dX3_setLike_16 rfl rfl ?_
    refine V_ishl (q := 18) dX3_setLike_17 rfl ?_
    refine V_ior (q := 19) dX3_setLike_18 rfl ?_
    refine V_goto (q := 34) dX3_setLike_19 (by decide) ?_
    refine V_ist (q := 35) (a) 8 rfl ha (by decide) (by omega) (by decide) rfl (by decide) dX3_setLike_34 rfl ?_
    refine V_aload_n (q := 36) dX3_setLike_35 rfl rfl ?_
    refine V_getR (q := 39) (n := 36) 5 6 kf_X3_27 (by decide) (by decide) rfl (by decide) dX3_setLike_36 rfl ?_
    refine V_iload_n (q := 40) dX3_setLike_39 rfl rfl ?_
    refine V_iload_n (q := 41) dX3_setLike_40 rfl rfl ?_
    refine V_if_eq (tgt := 57) (q := 44) dX3_setLike_41 (by decide) rfl (fun c_41 => by cases yes; (· exact absurd rfl c_6); (· exact absurd c_41 (by decide))) (fun c_41 => ?_)
    refine V_aload_n (q := 45) dX3_setLike_44 rfl rfl ?_
    refine V_getR (q := 48) (n := 36) 5 6 kf_X3_27 (by decide) (by decide) rfl (by decide) dX3_setLike_45 rfl ?_
    refine V_iload_n (q := 49) dX3_setLike_48 rfl rfl ?_
    refine V_ild (q := 50) (b) 8 rfl hb (by decide) (by omega) (by decide) rfl (by decide) dX3_setLike_49 rfl ?_
    refine V_iconst (q := 51) (v := 1) dX3_setLike_50 (by decide) rfl ?_
    refine V_iload_n (q := 52) dX3_setLike_51 rfl rfl ?_
    refine V_ishl (q := 53) dX3_setLike_52 rfl ?_
    refine V_ior (q := 54) dX3_setLike_53 rfl ?_
    refine V_goto (q := 69) dX3_setLike_54 (by decide) ?_
    refine V_ist (q := 70) (b) 8 rfl hb (by decide) (by omega) (by decide) rfl (by decide) dX3_setLike_69 rfl ?_
    exact V_vret hκ rfl dX3_setLike_70 ⟨rfl, rfl, by cases yes; (· exact absurd rfl c_6); (· rw [vS_at, vS_vS, upd_ne (fun h => hab h.symm)]; rfl)⟩
abbrev sDays (a1 b1 a2 b2 : Int32) : Prop := a1 ≤ b2 ∧ a2 ≤ b1
abbrev sMark (m1 m2 : Int32) : Prop := m1 = m2 ∨ m1 = 0 ∨ m2 = 0
/-- without witnesses -/
abbrev sAl (Ar : vAt) (a b : Nat) : Prop := ¬ sDays (Ar 31 a) (Ar 32 a) (Ar 31 b) (Ar 32 b) ∧ sDays (Ar 33 a) (Ar 34 a) (Ar 33 b) (Ar 34 b) ∧ sMark (Ar 35 a) (Ar 35 b)
theorem st_seem4 {F : vFt} {Ar : vAt} {x : vXt} {a b : Nat} {κ : vK} (hκ : vStd κ 0 x (vEq (some (.int (vB (sAl Ar a b)))) F Ar)) (ha : a < 8) (hb : b < 8) : V κ mX3_seemAlike 113 [.ref 5, .int (nI a), .int (nI b), .int (vB (sDays (Ar 31 a) (Ar 32 a) (Ar 31 b) (Ar 32 b))), .int (vB (sDays (Ar 33 a) (Ar 34 a) (Ar 33 b) (Ar 34 b))), .int (vB (sMark (Ar 35 a) (Ar 35 b)))] [] F Ar x := by
  refine V_iload_n (q := 114) dX3_seemAlike_113 rfl rfl ?_
  refine V_if_ne (tgt := 131) (q := 117) dX3_seemAlike_114 (by decide) rfl (fun c_114 => ?_) (fun c_114 => ?_)
  · refine V_iconst (q := 132) (v := 0) dX3_seemAlike_131 (by decide) rfl ?_
    exact V_iret hκ rfl (by first | rfl | exact vB_nar) dX3_seemAlike_132 ⟨by rw [vB_f (fun h => h.1 (vB_n0.mp c_114))], rfl, rfl⟩
  · refine V_iload (q := 119) dX3_seemAlike_117 rfl rfl ?_
    refine V_if_eq (tgt := 131) (q := 122) dX3_seemAlike_119 (by decide) rfl (fun c_119 => ?_) (fun c_119 => ?_)
    · refine V_iconst (q := 132) (v := 0) dX3_seemAlike_131 (by decide) rfl ?_
      exact V_iret hκ rfl (by first | rfl | exact vB_nar) dX3_seemAlike_132 ⟨by rw [vB_f (fun h => vB_0.mp c_119 h.2.1)], rfl, rfl⟩
    · refine V_iload (q := 124) dX3_seemAlike_122 rfl rfl ?_
      refine V_if_eq (tgt := 131) (q := 127) dX3_seemAlike_124 (by decide) rfl (fun c_124 => ?_) (fun c_124 => ?_)
      · refine V_iconst (q := 132) (v := 0) dX3_seemAlike_131 (by decide) rfl ?_
        exact V_iret hκ rfl (by first | rfl | exact vB_nar) dX3_seemAlike_132 ⟨by rw [vB_f (fun h => vB_0.mp c_124 h.2.2)], rfl, rfl⟩
      · refine V_iconst (q := 128) (v := 1) dX3_seemAlike_127 (by decide) rfl ?_
        refine V_goto (q := 132) dX3_seemAlike_128 (by decide) ?_
        exact V_iret hκ rfl (by first | rfl | exact vB_nar) dX3_seemAlike_132 ⟨by rw [vB_t ⟨vB_0.mp c_114, vB_n0.mp c_119, vB_n0.mp c_124⟩], rfl, rfl⟩
theorem st_seem3 {F : vFt} {Ar : vAt} {x : vXt} {a b : Nat} {κ : vK} (hκ : vStd κ 0 x (vEq (some (.int (vB (sAl Ar a b)))) F Ar)) (ha : a < 8) (hb : b < 8) : V κ mX3_seemAlike 73 [.ref 5, .int (nI a), .int (nI b), .int (vB (sDays (Ar 31 a) (Ar 32 a) (Ar 31 b) (Ar 32 b))), .int (vB (sDays (Ar 33 a) (Ar 34 a) (Ar 33 b) (Ar 34 b))), .null] [] F Ar x := by
  refine V_aload_n (q := 74) dX3_seemAlike_73 rfl rfl ?_
  refine V_getR (q := 77) (n := 35) 5 4 kf_X3_24 (by decide) (by decide) rfl (by decide) dX3_seemAlike_74 rfl ?_
  refine V_iload_n (q := 78) dX3_seemAlike_77 rfl rfl ?_
  refine V_ild (q := 79) (a) 8 rfl ha (by decide) (by omega) (by decide) rfl (by decide) dX3_seemAlike_78 rfl ?_
  refine V_aload_n (q := 80) dX3_seemAlike_79 rfl rfl ?_
  refine V_getR (q := 83) (n := 35) 5 4 kf_X3_24 (by decide) (by decide) rfl (by decide) dX3_seemAlike_80 rfl ?_
  refine V_iload_n (q := 84) dX3_seemAlike_83 rfl rfl ?_
  refine V_ild (q := 85) (b) 8 rfl hb (by decide) (by omega) (by decide) rfl (by decide) dX3_seemAlike_84 rfl ?_
  refine V_icmp_eq (tgt := 106) (q := 88) dX3_seemAlike_85 (by decide) rfl (fun c_85 => ?_) (fun c_85 => ?_)
  · refine V_iconst (q := 107) (v := 1) dX3_seemAlike_106 (by decide) rfl ?_
    refine V_goto (q := 111) dX3_seemAlike_107 (by decide) ?_
    refine V_top (vB (sMark (Ar 35 a) (Ar 35 b))) (vB_t (Or.inl c_85)).symm ?_
    refine V_istore (q := 113) dX3_seemAlike_111 (Nat.le_of_ble_eq_true rfl) rfl rfl ?_
    exact st_seem4 hκ ha hb
  · refine V_aload_n (q := 89) dX3_seemAlike_88 rfl rfl ?_
    refine V_getR (q := 92) (n := 35) 5 4 kf_X3_24 (by decide) (by decide) rfl (by decide) dX3_seemAlike_89 rfl ?_
    refine V_iload_n (q := 93) dX3_seemAlike_92 rfl rfl ?_
    refine V_ild (q := 94) (a) 8 rfl ha (by decide) (by omega) (by decide) rfl (by decide) dX3_seemAlike_93 rfl ?_
    refine V_if_eq (tgt := 106) (q := 97) dX3_seemAlike_94 (by decide) rfl (fun c_94 => ?_) (fun c_94 => ?_)
    · refine V_iconst (q := 107) (v := 1) dX3_seemAlike_106 (by decide) rfl ?_
      refine V_goto (q := 111) dX3_seemAlike_107 (by decide) ?_
      refine V_top (vB (sMark (Ar 35 a) (Ar 35 b))) (vB_t (Or.inr (Or.inl c_94))).symm ?_
      refine V_istore (q := 113) dX3_seemAlike_111 (Nat.le_of_ble_eq_true rfl) rfl rfl ?_
      exact st_seem4 hκ ha hb
    · refine V_aload_n (q := 98) dX3_seemAlike_97 rfl rfl ?_
      refine V_getR (q := 101) (n := 35) 5 4 kf_X3_24 (by decide) (by decide) rfl (by decide) dX3_seemAlike_98 rfl ?_
      refine V_iload_n (q := 102) dX3_seemAlike_101 rfl rfl ?_
      refine V_ild (q := 103) (b) 8 rfl hb (by decide) (by omega) (by decide) rfl (by decide) dX3_seemAlike_102 rfl ?_
      refine V_if_ne (tgt := 110) (q := 106) dX3_seemAlike_103 (by decide) rfl (fun c_103 => ?_) (fun c_103 => ?_)
      · refine V_iconst (q := 111) (v := 0) dX3_seemAlike_110 (by decide) rfl ?_
        refine V_top (vB (sMark (Ar 35 a) (Ar 35 b))) (vB_f (fun h => h.elim c_85 (fun h => h.elim c_94 c_103))).symm ?_
        refine V_istore (q := 113) dX3_seemAlike_111 (Nat.le_of_ble_eq_true rfl) rfl rfl ?_
        exact st_seem4 hκ ha hb
      · refine V_iconst (q := 107) (v := 1) dX3_seemAlike_106 (by decide) rfl ?_
        refine V_goto (q := 111) dX3_seemAlike_107 (by decide) ?_
        refine V_top (vB (sMark (Ar 35 a) (Ar 35 b))) (vB_t (Or.inr (Or.inr c_103))).symm ?_
        refine V_istore (q := 113) dX3_seemAlike_111 (Nat.le_of_ble_eq_true rfl) rfl rfl ?_
        exact st_seem4 hκ ha hb
theorem st_seem2 {F : vFt} {Ar : vAt} {x : vXt} {a b : Nat} {κ : vK} (hκ : vStd κ 0 x (vEq (some (.int (vB (sAl Ar a b)))) F Ar)) (ha : a < 8) (hb : b < 8) : V κ mX3_seemAlike 36 [.ref 5, .int (nI a), .int (nI b), .int (vB (sDays (Ar 31 a) (Ar 32 a) (Ar 31 b) (Ar 32 b))), .null, .null] [] F Ar x := by
  refine V_aload_n (q := 37) dX3_seemAlike_36 rfl rfl ?_
  refine V_getR (q := 40) (n := 33) 5 2 kf_X3_18 (by decide) (by decide) rfl (by decide) dX3_seemAlike_37 rfl ?_
  refine V_iload_n (q := 41) dX3_seemAlike_40 rfl rfl ?_
  refine V_ild (q := 42) (a) 8 rfl ha (by decide) (by omega) (by decide) rfl (by decide) dX3_seemAlike_41 rfl ?_
  refine V_aload_n (q := 43) dX3_seemAlike_42 rfl rfl ?_
  refine V_getR (q := 46) (n := 34) 5 3 kf_X3_21 (by decide) (by decide) rfl (by decide) dX3_seemAlike_43 rfl ?_
  refine V_iload_n (q := 47) dX3_seemAlike_46 rfl rfl ?_
  refine V_ild (q := 48) (b) 8 rfl hb (by decide) (by omega) (by decide) rfl (by decide) dX3_seemAlike_47 rfl ?_
  refine V_icmp_gt (tgt := 70) (q := 51) dX3_seemAlike_48 (by decide) rfl (fun c_48 => ?_) (fun c_48 => ?_)
  · refine V_iconst (q := 71) (v := 0) dX3_seemAlike_70 (by decide) rfl ?_
    refine V_top (vB (sDays (Ar 33 a) (Ar 34 a) (Ar 33 b) (Ar 34 b))) (vB_f (fun h => v_nlt c_48 h.1)).symm ?_
    refine V_istore (q := 73) dX3_seemAlike_71 (Nat.le_of_ble_eq_true rfl) rfl rfl ?_
    exact st_seem3 hκ ha hb
  · refine V_aload_n (q := 52) dX3_seemAlike_51 rfl rfl ?_
    refine V_getR (q := 55) (n := 33) 5 2 kf_X3_18 (by decide) (by decide) rfl (by decide) dX3_seemAlike_52 rfl ?_
    refine V_iload_n (q := 56) dX3_seemAlike_55 rfl rfl ?_
    refine V_ild (q := 57) (b) 8 rfl hb (by decide) (by omega) (by decide) rfl (by decide) dX3_seemAlike_56 rfl ?_
    refine V_aload_n (q := 58) dX3_seemAlike_57 rfl rfl ?_
    refine V_getR (q := 61) (n := 34) 5 3 kf_X3_21 (by decide) (by decide) rfl (by decide) dX3_seemAlike_58 rfl ?_
    refine V_iload_n (q := 62) dX3_seemAlike_61 rfl rfl ?_
    refine V_ild (q := 63) (a) 8 rfl ha (by decide) (by omega) (by decide) rfl (by decide) dX3_seemAlike_62 rfl ?_
    refine V_icmp_gt (tgt := 70) (q := 66) dX3_seemAlike_63 (by decide) rfl (fun c_63 => ?_) (fun c_63 => ?_)
    · refine V_iconst (q := 71) (v := 0) dX3_seemAlike_70 (by decide) rfl ?_
      refine V_top (vB (sDays (Ar 33 a) (Ar 34 a) (Ar 33 b) (Ar 34 b))) (vB_f (fun h => v_nlt c_63 h.2)).symm ?_
      refine V_istore (q := 73) dX3_seemAlike_71 (Nat.le_of_ble_eq_true rfl) rfl rfl ?_
      exact st_seem3 hκ ha hb
    · refine V_iconst (q := 67) (v := 1) dX3_seemAlike_66 (by decide) rfl ?_
      refine V_goto (q := 71) dX3_seemAlike_67 (by decide) ?_
      refine V_top (vB (sDays (Ar 33 a) (Ar 34 a) (Ar 33 b) (Ar 34 b))) (vB_t ⟨v_nle c_48, v_nle c_63⟩).symm ?_
      refine V_istore (q := 73) dX3_seemAlike_71 (Nat.le_of_ble_eq_true rfl) rfl rfl ?_
      exact st_seem3 hκ ha hb
theorem tX3_seemAlike {F : vFt} {Ar : vAt} {x : vXt} {a b : Nat} (ha : a < 8) (hb : b < 8) : C0 mX3_seemAlike 0 [.ref 5, .int (nI a), .int (nI b)] F Ar x (vEq (some (.int (vB (sAl Ar a b)))) F Ar) := by
  refine C0_of (by decide +kernel) (Nat.le_of_ble_eq_true rfl) (fun κ hκ => ?_)
  show V κ mX3_seemAlike 0 [.ref 5, .int (nI a), .int (nI b), .null, .null, .null] [] F Ar x
  refine V_aload_n (q := 1) dX3_seemAlike_0 rfl rfl ?_
  refine V_getR (q := 4) (n := 31) 5 0 kf_X3_11 (by decide) (by decide) rfl (by decide) dX3_seemAlike_1 rfl ?_
  refine V_iload_n (q := 5) dX3_seemAlike_4 rfl rfl ?_
  refine V_ild (q := 6) (a) 8 rfl ha (by decide) (by omega) (by decide) rfl (by decide) dX3_seemAlike_5 rfl ?_
  refine V_aload_n (q := 7) dX3_seemAlike_6 rfl rfl ?_
  refine V_getR (q := 10) (n := 32) 5 1 kf_X3_15 (by decide) (by decide) rfl (by decide) dX3_seemAlike_7 rfl ?_
  refine V_iload_n (q := 11) dX3_seemAlike_10 rfl rfl ?_
  refine V_ild (q := 12) (b) 8 rfl hb (by decide) (by omega) (by decide) rfl (by decide) dX3_seemAlike_11 rfl ?_
  refine V_icmp_gt (tgt := 34) (q := 15) dX3_seemAlike_12 (by decide) rfl (fun c_12 => ?_) (fun c_12 => ?_)
  · refine V_iconst (q := 35) (v := 0) dX3_seemAlike_34 (by decide) rfl ?_
    refine V_top (vB (sDays (Ar 31 a) (Ar 32 a) (Ar 31 b) (Ar 32 b))) (vB_f (fun h => v_nlt c_12 h.1)).symm ?_
    refine V_istore_n (q := 36) dX3_seemAlike_35 (Nat.le_of_ble_eq_true rfl) rfl rfl ?_
    exact st_seem2 hκ ha hb
  · refine V_aload_n (q := 16) dX3_seemAlike_15 rfl rfl ?_
    refine V_getR (q := 19) (n := 31) 5 0 kf_X3_11 (by decide) (by decide) rfl (by decide) dX3_seemAlike_16 rfl ?_
    refine V_iload_n (q := 20) dX3_seemAlike_19 rfl rfl ?_
    refine V_ild (q := 21) (b) 8 rfl hb (by decide) (by omega) (by decide) rfl (by decide) dX3_seemAlike_20 rfl ?_
    refine V_aload_n (q := 22) dX3_seemAlike_21 rfl rfl ?_
    refine V_getR (q := 25) (n := 32) 5 1 kf_X3_15 (by decide) (by decide) rfl (by decide) dX3_seemAlike_22 rfl ?_
    refine V_iload_n (q := 26) dX3_seemAlike_25 rfl rfl ?_
    refine V_ild (q := 27) (a) 8 rfl ha (by decide) (by omega) (by decide) rfl (by decide) dX3_seemAlike_26 rfl ?_
    refine V_icmp_gt (tgt := 34) (q := 30) dX3_seemAlike_27 (by decide) rfl (fun c_27 => ?_) (fun c_27 => ?_)
    · refine V_iconst (q := 35) (v := 0) dX3_seemAlike_34 (by decide) rfl ?_
      refine V_top (vB (sDays (Ar 31 a) (Ar 32 a) (Ar 31 b) (Ar 32 b))) (vB_f (fun h => v_nlt c_27 h.2)).symm ?_
      refine V_istore_n (q := 36) dX3_seemAlike_35 (Nat.le_of_ble_eq_true rfl) rfl rfl ?_
      exact st_seem2 hκ ha hb
    · refine V_iconst (q := 31) (v := 1) dX3_seemAlike_30 (by decide) rfl ?_
      refine V_goto (q := 35) dX3_seemAlike_31 (by decide) ?_
      refine V_top (vB (sDays (Ar 31 a) (Ar 32 a) (Ar 31 b) (Ar 32 b))) (vB_t ⟨v_nle c_12, v_nle c_27⟩).symm ?_
      refine V_istore_n (q := 36) dX3_seemAlike_35 (Nat.le_of_ble_eq_true rfl) rfl rfl ?_
      exact st_seem2 hκ ha hb
end
section
def vFst {α : Type} (f : Nat → Option α) : Nat → Nat → Option α
  | _, 0 => none
  | c, m + 1 => match f c with
    | some r => some r
    | none => vFst f (c + 1) m
theorem vFst_some {α : Type} {f : Nat → Option α} {c m : Nat} {r : α} (h : f c = some r) : vFst f c (m + 1) = some r := by
  simp [vFst, h]
theorem vFst_none {α : Type} {f : Nat → Option α} {c m : Nat} (h : f c = none) : vFst f c (m + 1) = vFst f (c + 1) m := by
  simp [vFst, h]
def updN (g : Nat → Nat) (k v : Nat) : Nat → Nat := fun j => if j = k then v else g j
theorem updN_at {g : Nat → Nat} {k v : Nat} : updN g k v k = v := if_pos rfl
theorem updN_ne {g : Nat → Nat} {k v j : Nat} (h : j ≠ k) : updN g k v j = g j := if_neg h
/-- may paper q come into group c -/
def srOk (L : Nat → Nat → Bool) (g : Nat → Nat) (q c : Nat) : Bool := (List.range q).all (fun i => !(g i == c) || L i q)
theorem srOk_iff {L : Nat → Nat → Bool} {g : Nat → Nat} {q c : Nat} : srOk L g q c = true ↔ ∀ i, i < q → g i = c → L i q = true := by
  unfold srOk
  rw [List.all_eq_true]
  constructor
  · intro h i hi hg
    have := h i (List.mem_range.mpr hi)
    simpa [hg] using this
  · intro h i hi
    have := h i (List.mem_range.mp hi)
    by_cases hg : g i = c
    · simp [this hg]
    · simp [hg]
/-- the first joining with at most so many groups that goes on from g -/
def srch (L : Nat → Nat → Bool) (most : Nat) : Nat → Nat → Nat → (Nat → Nat) → Option (Nat → Nat)
  | 0, _, _, g => some g
  | k + 1, q, used, g => vFst (fun c => if srOk L g q c = true then srch L most k (q + 1) (max used (c + 1)) (updN g q c) else none) 0 (min used (most - 1) + 1)
theorem srch_keep {L : Nat → Nat → Bool} {most : Nat} : ∀ k q used g g', srch L most k q used g = some g' → ∀ i, i < q → g' i = g i := by
  intro k
  induction k with
  | zero =>
    intro q used g g' h i hi
    cases h
    rfl
  | succ k ih =>
    intro q used g g' h i hi
    unfold srch at h
    generalize min used (most - 1) + 1 = m at h
    generalize (0 : Nat) = c at h
    induction m generalizing c with
    | zero => cases h
    | succ m ihm =>
      unfold vFst at h
      split at h
      · rename_i r hr
        cases h
        split at hr
        · have := ih (q + 1) _ _ _ hr i (by omega)
          rw [this, updN_ne (by omega)]
        · cases hr
      · exact ihm _ h
def Lk (Ar : vAt) : Nat → Nat → Bool := fun i q => bitI (Ar 36 q) i
def plPre (Ar : vAt) (q : Nat) (g : Nat → Nat) : Prop := (∀ c, c < 8 → ∀ i, i < 32 → bitI (Ar 39 c) i = decide (i < q ∧ g i = c)) ∧ (∀ i, i < q → Ar 38 i = nI (g i))
def plQ (n q : Nat) (F : vFt) (Ar : vAt) (res : Option (Nat → Nat)) : Option Value → vFt → vAt → Prop := fun r F' Ar' => F' = F ∧ (∀ b, b ≠ 38 → b ≠ 39 → Ar' b = Ar b) ∧ match res with
  | some g' => r = some (.int 1) ∧ ∀ i, i < n → Ar' 38 i = nI (g' i)
  | none => r = some (.int 0) ∧ Ar' 39 = Ar 39 ∧ ∀ i, i < q → Ar' 38 i = Ar 38 i
theorem pl_ok {Ar : vAt} {q c : Nat} {g : Nat → Nat} (h : plPre Ar q g) (hq : q < 8) (hc : c < 8) : (Ar 39 c &&& (Ar 36 q ^^^ (-1))) = 0 ↔ srOk (Lk Ar) g q c = true := by
  rw [srOk_iff]
  constructor
  · intro h0 i hi hg
    have h1 : bitI (Ar 39 c &&& (Ar 36 q ^^^ (-1))) i = false := by rw [h0]; exact bitI_0 i
    rw [bitI_and, bitI_not _ _ (by omega), h.1 c hc i (by omega)] at h1
    simpa [hi, hg, Lk] using h1
  · intro h0
    apply bitI_ext
    intro i hi
    rw [bitI_0, bitI_and, bitI_not _ _ hi, h.1 c hc i hi]
    by_cases hg : i < q ∧ g i = c
    · have := h0 i hg.1 hg.2
      simp only [Lk] at this
      simp [hg, this]
    · simp [hg]
def plIn (Ar : vAt) (q c : Nat) : vAt := vS (vS Ar 39 (upd (Ar 39) c (stBit (Ar 39 c) q true))) 38 (upd (Ar 38) q (nI c))
theorem pl_in {Ar : vAt} {q c : Nat} {g : Nat → Nat} (h : plPre Ar q g) (hq : q < 8) (hc : c < 8) : plPre (plIn Ar q c) (q + 1) (updN g q c) := by
  constructor
  · intro c' hc' i hi
    show bitI (upd (Ar 39) c (stBit (Ar 39 c) q true) c') i = _
    by_cases hcc : c' = c
    · subst hcc
      rw [upd_at, stBit_bit _ _ hq hi]
      by_cases hiq : i = q
      · subst hiq
        simp [updN]
      · rw [if_neg hiq, h.1 c' hc' i hi, updN_ne hiq]
        have : (i < q + 1) ↔ (i < q) := by omega
        simp [this]
    · rw [upd_ne hcc, h.1 c' hc' i hi]
      by_cases hiq : i = q
      · subst hiq
        simp [updN]
        exact fun e => hcc e.symm
      · rw [updN_ne hiq]
        have : (i < q + 1) ↔ (i < q) := by omega
        simp [this]
  · intro i hi
    show upd (Ar 38) q (nI c) i = _
    by_cases hiq : i = q
    · subst hiq
      rw [upd_at, updN_at]
    · rw [upd_ne hiq, updN_ne hiq]
      exact h.2 i (by omega)
theorem stBit_back {m : Int32} {q : Nat} (hq : q < 8) (h : bitI m q = false) : stBit (stBit m q true) q false = m := by
  apply bitI_ext
  intro i hi
  rw [stBit_bit _ _ hq hi, stBit_bit _ _ hq hi]
  by_cases e : i = q
  · subst e
    simp [h]
  · simp [e]
theorem v_max (a b : Nat) (ha : a < 2 ^ 31) (hb : b < 2 ^ 31) : (if nI a < nI b then nI b else nI a) = nI (max a b) := by
  by_cases h : a < b
  · rw [if_pos ((nI_ltI ha hb).mpr h), Nat.max_eq_right (by omega)]
  · rw [if_neg (fun q => h ((nI_ltI ha hb).mp q)), Nat.max_eq_left (by omega)]
theorem v_min (a b : Nat) (ha : a < 2 ^ 31) (hb : b < 2 ^ 31) : (if nI b < nI a then nI b else nI a) = nI (min a b) := by
  by_cases h : b < a
  · rw [if_pos ((nI_ltI hb ha).mpr h), Nat.min_eq_right (by omega)]
  · rw [if_neg (fun q => h ((nI_ltI hb ha).mp q)), Nat.min_eq_left (by omega)]
set_option maxHeartbeats 2000000 in
theorem pl_into {n most k : Nat} {F : vFt} {x : vXt} (hn8 : n ≤ 8) (hm1 : 1 ≤ most) (hm8 : most ≤ 8) (hF : F 325 = nI n) (ih : (∀ (Ar : vAt) (q used : Nat) (g : Nat → Nat), q + k = n → used ≤ q → plPre Ar q g → C0 mX3_placeFrom (2 * k + 1) [.ref 5, .int (nI q), .int (nI used), .int (nI most)] F Ar x (plQ n q F Ar (srch (Lk Ar) most k q used g)))) : (∀ (Ar : vAt) (q used c : Nat) (g : Nat → Nat), q + (k + 1) = n → used ≤ q → c ≤ used → plPre Ar q g → C0 mX3_placeInto (2 * k + 2) [.ref 5, .int (nI c), .int (nI q), .int (nI used), .int (nI most)] F Ar x (plQ n q F Ar (if srOk (Lk Ar) g q c = true then srch (Lk Ar) most k (q + 1) (max used (c + 1)) (updN g q c) else none))) := by
  intro Ar q used c g hq hu hc hp
  refine C0_of (by decide +kernel) (Nat.le_of_ble_eq_true rfl) (fun κ hκ => ?_)
  show V κ mX3_placeInto 0 [.ref 5, .int (nI c), .int (nI q), .int (nI used), .int (nI most)] [] F Ar x
  refine V_aload_n (q := 1) dX3_placeInto_0 rfl rfl ?_
  refine V_getR (q := 4) (n := 39) 5 10 kf_X3_36 (by decide) (by decide) rfl (by decide) dX3_placeInto_1 rfl ?_
  refine V_iload_n (q := 5) dX3_placeInto_4 rfl rfl ?_
  refine V_ild (q := 6) (c) 8 rfl (by omega) (by decide) (by omega) (by decide) rfl (by decide) dX3_placeInto_5 rfl ?_
  refine V_aload_n (q := 7) dX3_placeInto_6 rfl rfl ?_
  refine V_getR (q := 10) (n := 36) 5 6 kf_X3_27 (by decide) (by decide) rfl (by decide) dX3_placeInto_7 rfl ?_
  refine V_iload_n (q := 11) dX3_placeInto_10 rfl rfl ?_
  refine V_ild (q := 12) (q) 8 rfl (by omega) (by decide) (by omega) (by decide) rfl (by decide) dX3_placeInto_11 rfl ?_
  refine V_iconst (q := 13) (v := (-1)) dX3_placeInto_12 (by decide) rfl ?_
  refine V_ixor (q := 14) dX3_placeInto_13 rfl ?_
  refine V_iand (q := 15) dX3_placeInto_14 rfl ?_
  refine V_if_eq (tgt := 20) (q := 18) dX3_placeInto_15 (by decide) rfl (fun c_15 => ?_) (fun c_15 => ?_)
  · refine V_aload_n (q := 21) dX3_placeInto_20 rfl rfl ?_
    refine V_getR (q := 24) (n := 39) 5 10 kf_X3_36 (by decide) (by decide) rfl (by decide) dX3_placeInto_21 rfl ?_
    refine V_iload_n (q := 25) dX3_placeInto_24 rfl rfl ?_
    refine V_dup2 (q := 26) dX3_placeInto_25 rfl rfl rfl ?_
    refine V_ild (q := 27) (c) 8 rfl (by omega) (by decide) (by omega) (by decide) rfl (by decide) dX3_placeInto_26 rfl ?_
    refine V_iconst (q := 28) (v := 1) dX3_placeInto_27 (by decide) rfl ?_
    refine V_iload_n (q := 29) dX3_placeInto_28 rfl rfl ?_
    refine V_ishl (q := 30) dX3_placeInto_29 rfl ?_
    refine V_ior (q := 31) dX3_placeInto_30 rfl ?_
    refine V_ist (q := 32) (c) 8 rfl (by omega) (by decide) (by omega) (by decide) rfl (by decide) dX3_placeInto_31 rfl ?_
    refine V_aload_n (q := 33) dX3_placeInto_32 rfl rfl ?_
    refine V_getR (q := 36) (n := 38) 5 9 kf_X3_33 (by decide) (by decide) rfl (by decide) dX3_placeInto_33 rfl ?_
    refine V_iload_n (q := 37) dX3_placeInto_36 rfl rfl ?_
    refine V_iload_n (q := 38) dX3_placeInto_37 rfl rfl ?_
    refine V_ist (q := 39) (q) 8 rfl (by omega) (by decide) (by omega) (by decide) rfl (by decide) dX3_placeInto_38 rfl ?_
    refine V_ar (plIn Ar q c) rfl ?_
    have hok : srOk (Lk Ar) g q c = true := (pl_ok hp (by omega) (by omega)).mp c_15
    have e1 : nI q + 1 = nI (q + 1) := nI_1 q
    have e2 : (if nI used < nI c + 1 then nI c + 1 else nI used) = nI (max used (c + 1)) := by rw [nI_1, v_max _ _ (by omega) (by omega)]
    refine V_aload_n (q := 40) dX3_placeInto_39 rfl rfl ?_
    refine V_iload_n (q := 41) dX3_placeInto_40 rfl rfl ?_
    refine V_iconst (q := 42) (v := 1) dX3_placeInto_41 (by decide) rfl ?_
    refine V_iadd (q := 43) dX3_placeInto_42 rfl ?_
    refine V_iload_n (q := 44) dX3_placeInto_43 rfl rfl ?_
    refine V_iload_n (q := 45) dX3_placeInto_44 rfl rfl ?_
    refine V_iconst (q := 46) (v := 1) dX3_placeInto_45 (by decide) rfl ?_
    refine V_iadd (q := 47) dX3_placeInto_46 rfl ?_
    refine V_max (q := 50) hκ.big (by omega) kl_X3_90 (Nat.le_of_ble_eq_true rfl) dX3_placeInto_47 rfl ?_
    refine V_iload (q := 52) dX3_placeInto_50 rfl rfl ?_
    rw [e1, e2]
    refine V_cV3 (q := 55) (o := 5) (N := mX3_placeFrom) (ih (plIn Ar q c) (q + 1) (max used (c + 1)) (updN g q c) (by omega) (by omega) (pl_in hp (by omega) (by omega))) hκ.big (by omega) gX3_placeFrom kl_X3_77 ki_X3_placeFrom ks_X3_placeFrom (by decide) rfl (Nat.le_of_ble_eq_true rfl) dX3_placeInto_52 rfl (fun r F9 Ar9 h9 => ?_)
    obtain ⟨rfl, hfr, hres⟩ := h9
    have hL : Lk (plIn Ar q c) = Lk Ar := rfl
    rw [hL] at hres
    cases hs : srch (Lk Ar) most k (q + 1) (max used (c + 1)) (updN g q c) with
    | none =>
      rw [hs] at hres
      obtain ⟨rfl, hm, hg⟩ := hres
      show V κ mX3_placeInto 55 [.ref 5, .int (nI c), .int (nI q), .int (nI used), .int (nI most)] [.int 0] _ _ x
      refine V_if_eq (tgt := 60) (q := 58) dX3_placeInto_55 (by decide) rfl (fun c_55 => ?_) (fun c_55 => absurd rfl c_55)
      refine V_aload_n (q := 61) dX3_placeInto_60 rfl rfl ?_
      refine V_getR (q := 64) (n := 39) 5 10 kf_X3_36 (by decide) (by decide) rfl (by decide) dX3_placeInto_61 rfl ?_
      refine V_iload_n (q := 65) dX3_placeInto_64 rfl rfl ?_
      refine V_dup2 (q := 66) dX3_placeInto_65 rfl rfl rfl ?_
      refine V_ild (q := 67) (c) 8 rfl (by omega) (by decide) (by omega) (by decide) rfl (by decide) dX3_placeInto_66 rfl ?_
      refine V_iconst (q := 68) (v := 1) dX3_placeInto_67 (by decide) rfl ?_
      refine V_iload_n (q := 69) dX3_placeInto_68 rfl rfl ?_
      refine V_ishl (q := 70) dX3_placeInto_69 rfl ?_
      refine V_iconst (q := 71) (v := (-1)) dX3_placeInto_70 (by decide) rfl ?_
      refine V_ixor (q := 72) dX3_placeInto_71 rfl ?_
      refine V_iand (q := 73) dX3_placeInto_72 rfl ?_
      refine V_ist (q := 74) (c) 8 rfl (by omega) (by decide) (by omega) (by decide) rfl (by decide) dX3_placeInto_73 rfl ?_
      refine V_ar (vS Ar9 39 (Ar 39)) (by
        congr 1
        rw [hm]
        show upd (upd (Ar 39) c (stBit (Ar 39 c) q true)) c (stBit (upd (Ar 39) c (stBit (Ar 39 c) q true) c) q false) = Ar 39
        rw [upd_at, upd_upd, stBit_back (by omega) (by rw [hp.1 c (by omega) q (by omega)]; simp)]
        exact upd_self) ?_
      refine V_iconst (q := 75) (v := 0) dX3_placeInto_74 (by decide) rfl ?_
      exact V_iret hκ rfl (by first | rfl | exact vB_nar) dX3_placeInto_75 ⟨rfl, fun b h1 h2 => by rw [vS_ne h2, hfr b h1 h2]; show vS (vS Ar 39 _) 38 _ b = _; rw [vS_ne h1, vS_ne h2], by rw [if_pos hok, hs]; exact ⟨rfl, rfl, fun i hi => by rw [vS_ne (by decide), hg i (by omega)]; show upd (Ar 38) q (nI c) i = _; rw [upd_ne (by omega)]⟩⟩
    | some g' =>
      rw [hs] at hres
      obtain ⟨rfl, hg⟩ := hres
      show V κ mX3_placeInto 55 [.ref 5, .int (nI c), .int (nI q), .int (nI used), .int (nI most)] [.int 1] _ _ x
      refine V_if_eq (tgt := 60) (q := 58) dX3_placeInto_55 (by decide) rfl (fun c_55 => absurd c_55 (by decide)) (fun c_55 => ?_)
      refine V_iconst (q := 59) (v := 1) dX3_placeInto_58 (by decide) rfl ?_
      exact V_iret hκ rfl (by first | rfl | exact vB_nar) dX3_placeInto_59 ⟨rfl, fun b h1 h2 => by rw [hfr b h1 h2]; show vS (vS Ar 39 _) 38 _ b = _; rw [vS_ne h1, vS_ne h2], by rw [if_pos hok, hs]; exact ⟨rfl, hg⟩⟩
    
  · refine V_iconst (q := 19) (v := 0) dX3_placeInto_18 (by decide) rfl ?_
    exact V_iret hκ rfl (by first | rfl | exact vB_nar) dX3_placeInto_19 ⟨rfl, fun _ _ _ => rfl, by rw [if_neg (fun h => c_15 ((pl_ok hp (by omega) (by omega)).mpr h))]; exact ⟨rfl, rfl, fun _ _ => rfl⟩⟩
end
section
set_option maxHeartbeats 2000000 in
theorem pl_loop {n most k : Nat} {F : vFt} {x : vXt} (hn8 : n ≤ 8) (hm1 : 1 ≤ most) (hm8 : most ≤ 8) (hF : F 325 = nI n) (into : (∀ (Ar : vAt) (q used c : Nat) (g : Nat → Nat), q + (k + 1) = n → used ≤ q → c ≤ used → plPre Ar q g → C0 mX3_placeInto (2 * k + 2) [.ref 5, .int (nI c), .int (nI q), .int (nI used), .int (nI most)] F Ar x (plQ n q F Ar (if srOk (Lk Ar) g q c = true then srch (Lk Ar) most k (q + 1) (max used (c + 1)) (updN g q c) else none)))) {Ar : vAt} {q used : Nat} {g : Nat → Nat} (hq : q + (k + 1) = n) (hu : used ≤ q) (hp : plPre Ar q g) {κ : vK} (hκ : vStd κ (2 * (k + 1) + 1) x (plQ n q F Ar (srch (Lk Ar) most (k + 1) q used g))) : ∀ m c (Ar' : vAt), c + m = min used (most - 1) + 1 → (∀ b, b ≠ 38 → Ar' b = Ar b) → (∀ i, i < q → Ar' 38 i = Ar 38 i) → srch (Lk Ar) most (k + 1) q used g = vFst (fun c => if srOk (Lk Ar) g q c = true then srch (Lk Ar) most k (q + 1) (max used (c + 1)) (updN g q c) else none) c m → V κ mX3_placeFrom 22 [.ref 5, .int (nI q), .int (nI used), .int (nI most), .int (nI (min used (most - 1))), .int (nI c)] [] F Ar' x := by
  intro m
  induction m with
  | zero =>
    intro c Ar' hc hfr hgr hres
    refine V_iload (q := 24) dX3_placeFrom_22 rfl rfl ?_
    refine V_iload (q := 26) dX3_placeFrom_24 rfl rfl ?_
    refine V_icmp_gt (tgt := 49) (q := 29) dX3_placeFrom_26 (by decide) rfl (fun c_26 => ?_) (fun c_26 => absurd ((nI_ltI (by omega) (by omega)).mpr (by omega)) c_26)
    refine V_iconst (q := 50) (v := 0) dX3_placeFrom_49 (by decide) rfl ?_
    exact V_iret hκ rfl (by first | rfl | exact vB_nar) dX3_placeFrom_50 ⟨rfl, fun b h1 _ => hfr b h1, by rw [hres]; exact ⟨rfl, hfr 39 (by decide), hgr⟩⟩
  | succ m ihm =>
    intro c Ar' hc hfr hgr hres
    have hL : Lk Ar' = Lk Ar := by unfold Lk; rw [hfr 36 (by decide)]
    have hp2 : plPre Ar' q g := ⟨fun c9 h9 i hi => by rw [hfr 39 (by decide)]; exact hp.1 c9 h9 i hi, fun i hi => by rw [hgr i hi]; exact hp.2 i hi⟩
    refine V_iload (q := 24) dX3_placeFrom_22 rfl rfl ?_
    refine V_iload (q := 26) dX3_placeFrom_24 rfl rfl ?_
    refine V_icmp_gt (tgt := 49) (q := 29) dX3_placeFrom_26 (by decide) rfl (fun c_26 => absurd c_26 (fun z => by rw [nI_ltI (by omega) (by omega)] at z; omega)) (fun c_26 => ?_)
    refine V_aload_n (q := 30) dX3_placeFrom_29 rfl rfl ?_
    refine V_iload (q := 32) dX3_placeFrom_30 rfl rfl ?_
    refine V_iload_n (q := 33) dX3_placeFrom_32 rfl rfl ?_
    refine V_iload_n (q := 34) dX3_placeFrom_33 rfl rfl ?_
    refine V_iload_n (q := 35) dX3_placeFrom_34 rfl rfl ?_
    refine V_cV4 (q := 38) (o := 5) (N := mX3_placeInto) (into Ar' q used c g hq hu (by omega) hp2) hκ.big (by omega) gX3_placeInto kl_X3_86 ki_X3_placeInto ks_X3_placeInto (by decide) rfl (Nat.le_of_ble_eq_true rfl) dX3_placeFrom_35 rfl (fun r F9 Ar9 h9 => ?_)
    obtain ⟨rfl, hfr9, hres9⟩ := h9
    rw [hL] at hres9
    cases hs : (fun c => if srOk (Lk Ar) g q c = true then srch (Lk Ar) most k (q + 1) (max used (c + 1)) (updN g q c) else none) c with
    | none =>
      simp only [] at hs
      rw [hs] at hres9
      obtain ⟨rfl, hm9, hg9⟩ := hres9
      show V κ mX3_placeFrom 38 [.ref 5, .int (nI q), .int (nI used), .int (nI most), .int (nI (min used (most - 1))), .int (nI c)] [.int 0] _ _ x
      refine V_if_eq (tgt := 43) (q := 41) dX3_placeFrom_38 (by decide) rfl (fun c_38 => ?_) (fun c_38 => absurd rfl c_38)
      refine V_iincN (q := 46) dX3_placeFrom_43 rfl (Nat.le_of_ble_eq_true rfl) rfl rfl ?_
      refine V_goto (q := 22) dX3_placeFrom_46 (by decide) ?_
      exact ihm (c + 1) Ar9 (by omega) (fun b h1 => by
        by_cases h2 : b = 39
        · subst h2
          rw [hm9, hfr 39 (by decide)]
        · rw [hfr9 b h1 h2, hfr b h1]) (fun i hi => by rw [hg9 i hi, hgr i hi]) (by rw [hres, vFst_none (f := (fun c => if srOk (Lk Ar) g q c = true then srch (Lk Ar) most k (q + 1) (max used (c + 1)) (updN g q c) else none)) hs])
    | some g' =>
      simp only [] at hs
      rw [hs] at hres9
      obtain ⟨rfl, hg9⟩ := hres9
      show V κ mX3_placeFrom 38 [.ref 5, .int (nI q), .int (nI used), .int (nI most), .int (nI (min used (most - 1))), .int (nI c)] [.int 1] _ _ x
      refine V_if_eq (tgt := 43) (q := 41) dX3_placeFrom_38 (by decide) rfl (fun c_38 => absurd c_38 (by decide)) (fun c_38 => ?_)
      refine V_iconst (q := 42) (v := 1) dX3_placeFrom_41 (by decide) rfl ?_
      exact V_iret hκ rfl (by first | rfl | exact vB_nar) dX3_placeFrom_42 ⟨rfl, fun b h1 h2 => by rw [hfr9 b h1 h2, hfr b h1], by rw [hres, vFst_some (f := (fun c => if srOk (Lk Ar) g q c = true then srch (Lk Ar) most k (q + 1) (max used (c + 1)) (updN g q c) else none)) hs]; exact ⟨rfl, hg9⟩⟩
    
theorem pl_from_s {n most k : Nat} {F : vFt} {x : vXt} (hn8 : n ≤ 8) (hm1 : 1 ≤ most) (hm8 : most ≤ 8) (hF : F 325 = nI n) (into : (∀ (Ar : vAt) (q used c : Nat) (g : Nat → Nat), q + (k + 1) = n → used ≤ q → c ≤ used → plPre Ar q g → C0 mX3_placeInto (2 * k + 2) [.ref 5, .int (nI c), .int (nI q), .int (nI used), .int (nI most)] F Ar x (plQ n q F Ar (if srOk (Lk Ar) g q c = true then srch (Lk Ar) most k (q + 1) (max used (c + 1)) (updN g q c) else none)))) : (∀ (Ar : vAt) (q used : Nat) (g : Nat → Nat), q + (k + 1) = n → used ≤ q → plPre Ar q g → C0 mX3_placeFrom (2 * (k + 1) + 1) [.ref 5, .int (nI q), .int (nI used), .int (nI most)] F Ar x (plQ n q F Ar (srch (Lk Ar) most (k + 1) q used g))) := by
  intro Ar q used g hq hu hp
  refine C0_of (by decide +kernel) (Nat.le_of_ble_eq_true rfl) (fun κ hκ => ?_)
  show V κ mX3_placeFrom 0 [.ref 5, .int (nI q), .int (nI used), .int (nI most), .null, .null] [] F Ar x
  refine V_iload_n (q := 1) dX3_placeFrom_0 rfl rfl ?_
  refine V_aload_n (q := 2) dX3_placeFrom_1 rfl rfl ?_
  refine V_getI (q := 5) (n := 325) 5 5 kf_X3_39 (by decide) (by decide) rfl rfl dX3_placeFrom_2 rfl ?_
  rw [hF]
  refine V_icmp_lt (tgt := 10) (q := 8) dX3_placeFrom_5 (by decide) rfl (fun c_5 => ?_) (fun c_5 => absurd ((nI_ltI (by omega) (by omega)).mpr (by omega)) c_5)
  refine V_iload_n (q := 11) dX3_placeFrom_10 rfl rfl ?_
  refine V_iload_n (q := 12) dX3_placeFrom_11 rfl rfl ?_
  refine V_iconst (q := 13) (v := 1) dX3_placeFrom_12 (by decide) rfl ?_
  refine V_isub (q := 14) dX3_placeFrom_13 rfl ?_
  refine V_min (q := 17) hκ.big (by omega) kl_X3_80 (Nat.le_of_ble_eq_true rfl) dX3_placeFrom_14 rfl ?_
  refine V_top (nI (min used (most - 1))) (by rw [v_sub1 hm1, v_min _ _ (by omega) (by omega)]) ?_
  refine V_istore (q := 19) dX3_placeFrom_17 (Nat.le_of_ble_eq_true rfl) rfl rfl ?_
  refine V_iconst (q := 20) (v := 0) dX3_placeFrom_19 (by decide) rfl ?_
  refine V_istore (q := 22) dX3_placeFrom_20 (Nat.le_of_ble_eq_true rfl) rfl rfl ?_
  exact pl_loop hn8 hm1 hm8 hF into hq hu hp hκ (min used (most - 1) + 1) 0 Ar (by omega) (fun _ _ => rfl) (fun _ _ => rfl) rfl
theorem pl_from_0 {n most k : Nat} {F : vFt} {x : vXt} (hn8 : n ≤ 8) (hm1 : 1 ≤ most) (hm8 : most ≤ 8) (hF : F 325 = nI n) : (∀ (Ar : vAt) (q used : Nat) (g : Nat → Nat), q + 0 = n → used ≤ q → plPre Ar q g → C0 mX3_placeFrom (2 * 0 + 1) [.ref 5, .int (nI q), .int (nI used), .int (nI most)] F Ar x (plQ n q F Ar (srch (Lk Ar) most 0 q used g))) := by
  intro Ar q used g hq hu hp
  refine C0_of (by decide +kernel) (Nat.le_of_ble_eq_true rfl) (fun κ hκ => ?_)
  show V κ mX3_placeFrom 0 [.ref 5, .int (nI q), .int (nI used), .int (nI most), .null, .null] [] F Ar x
  refine V_iload_n (q := 1) dX3_placeFrom_0 rfl rfl ?_
  refine V_aload_n (q := 2) dX3_placeFrom_1 rfl rfl ?_
  refine V_getI (q := 5) (n := 325) 5 5 kf_X3_39 (by decide) (by decide) rfl rfl dX3_placeFrom_2 rfl ?_
  rw [hF]
  refine V_icmp_lt (tgt := 10) (q := 8) dX3_placeFrom_5 (by decide) rfl (fun c_5 => absurd c_5 (fun z => by rw [nI_ltI (by omega) (by omega)] at z; omega)) (fun c_5 => ?_)
  refine V_iconst (q := 9) (v := 1) dX3_placeFrom_8 (by decide) rfl ?_
  exact V_iret hκ rfl (by first | rfl | exact vB_nar) dX3_placeFrom_9 ⟨rfl, fun _ _ _ => rfl, rfl, fun i hi => hp.2 i (by omega)⟩
theorem pl_from {n most : Nat} {F : vFt} {x : vXt} (hn8 : n ≤ 8) (hm1 : 1 ≤ most) (hm8 : most ≤ 8) (hF : F 325 = nI n) : ∀ k, (∀ (Ar : vAt) (q used : Nat) (g : Nat → Nat), q + k = n → used ≤ q → plPre Ar q g → C0 mX3_placeFrom (2 * k + 1) [.ref 5, .int (nI q), .int (nI used), .int (nI most)] F Ar x (plQ n q F Ar (srch (Lk Ar) most k q used g))) := by
  intro k
  induction k with
  | zero => exact pl_from_0 (k := 0) hn8 hm1 hm8 hF
  | succ k ih => exact pl_from_s hn8 hm1 hm8 hF (pl_into hn8 hm1 hm8 hF ih)
/-- the joining with the fewest groups: the least most for which there is one -/
def jnd (L : Nat → Nat → Bool) (n : Nat) : Nat → Nat → Option (Nat × (Nat → Nat))
  | _, 0 => none
  | most, m + 1 => match srch L most n 0 0 (fun _ => 0) with
    | some g => some (most, g)
    | none => jnd L n (most + 1) m
end
section
theorem vFst_ex {α : Type} {f : Nat → Option α} : ∀ (m c j : Nat), c ≤ j → j < c + m → (f j).isSome = true → (vFst f c m).isSome = true := by
  intro m
  induction m with
  | zero => intro c j h1 h2; omega
  | succ m ih =>
    intro c j h1 h2 h3
    cases hf : f c with
    | some r => rw [vFst_some hf]; rfl
    | none =>
      rw [vFst_none hf]
      by_cases e : c = j
      · subst e
        rw [hf] at h3
        cases h3
      · exact ih (c + 1) j (by omega) (by omega) h3
theorem srch_ex {L : Nat → Nat → Bool} {most : Nat} : ∀ k q used g, (∀ i, i < q → g i < used) → used + k ≤ most → (srch L most k q used g).isSome = true := by
  intro k
  induction k with
  | zero => intro q used g _ _; rfl
  | succ k ih =>
    intro q used g hg hm
    unfold srch
    refine vFst_ex _ 0 used (by omega) (by omega) ?_
    have hok : srOk L g q used = true := srOk_iff.mpr (fun i hi e => by have := hg i hi; omega)
    rw [if_pos hok]
    refine ih (q + 1) (max used (used + 1)) (updN g q used) (fun i hi => ?_) (by omega)
    by_cases e : i = q
    · subst e
      rw [updN_at]
      omega
    · rw [updN_ne e]
      have := hg i (by omega)
      omega
theorem jnd_ex {L : Nat → Nat → Bool} {n : Nat} : ∀ m most, most + m = n + 1 → 0 < m → (jnd L n most m).isSome = true := by
  intro m
  induction m with
  | zero => intro most _ h; omega
  | succ m ih =>
    intro most h _
    unfold jnd
    cases hs : srch L most n 0 0 (fun _ => 0) with
    | some g => rfl
    | none =>
      rcases Nat.eq_zero_or_pos m with h0 | h0
      · subst h0
        have := srch_ex (L := L) (most := most) n 0 0 (fun _ => 0) (fun i hi => by omega) (by omega)
        rw [hs] at this
        cases this
      · exact ih (most + 1) (by omega) h0
/-- the joining: how many groups, and which -/
def jM (L : Nat → Nat → Bool) (n : Nat) : Nat := ((jnd L n 1 n).getD (0, fun _ => 0)).1
def jG (L : Nat → Nat → Bool) (n : Nat) : Nat → Nat := ((jnd L n 1 n).getD (0, fun _ => 0)).2
theorem jnd_le {L : Nat → Nat → Bool} {n : Nat} : ∀ m most r, jnd L n most m = some r → r.1 < most + m := by
  intro m
  induction m with
  | zero => intro most r h; cases h
  | succ m ih =>
    intro most r h
    unfold jnd at h
    split at h
    · cases h
      show most < most + (m + 1)
      omega
    · have := ih _ _ h
      omega
theorem jM_le {L : Nat → Nat → Bool} {n : Nat} : jM L n ≤ n := by
  unfold jM
  cases h : jnd L n 1 n with
  | none => exact Nat.zero_le n
  | some r =>
    have := jnd_le _ _ _ h
    show r.1 ≤ n
    omega
def jQ (n : Nat) (F : vFt) (Ar : vAt) : Option Value → vFt → vAt → Prop := fun r F' Ar' => r = none ∧ F' = upd F 331 (nI (jM (Lk Ar) n)) ∧ (∀ b, b ≠ 38 → b ≠ 39 → Ar' b = Ar b) ∧ ∀ i, i < n → Ar' 38 i = nI (jG (Lk Ar) n i)
theorem lp_X3_join {F : vFt} {Ar : vAt} {x : vXt} {n : Nat} {κ : vK} (hκ : vStd κ 20 x (jQ n F Ar)) (hF : F 325 = nI n) (hn1 : 1 ≤ n) (hn8 : n ≤ 8) : ∀ m most (Ar' : vAt), most + m = n + 1 → 1 ≤ most → (∀ b, b ≠ 38 → b ≠ 39 → Ar' b = Ar b) → jnd (Lk Ar) n 1 n = jnd (Lk Ar) n most m → V κ mX3_joinAnew 2 [.ref 5, .int (nI most)] [] F Ar' x := by
  intro m
  induction m with
  | zero =>
    intro most Ar' hm h1 hfr hres
    have := jnd_ex (L := Lk Ar) (n := n) n 1 (by omega) (by omega)
    rw [hres] at this
    cases this
  | succ m ih =>
    intro most Ar' hm h1 hfr hres
    refine V_iload_n (q := 3) dX3_joinAnew_2 rfl rfl ?_
    refine V_aload_n (q := 4) dX3_joinAnew_3 rfl rfl ?_
    refine V_getI (q := 7) (n := 325) 5 5 kf_X3_39 (by decide) (by decide) rfl rfl dX3_joinAnew_4 rfl ?_
    rw [hF]
    refine V_icmp_gt (tgt := 40) (q := 10) dX3_joinAnew_7 (by decide) rfl (fun c_7 => absurd c_7 (fun z => by rw [nI_ltI (by omega) (by omega)] at z; omega)) (fun c_7 => ?_)
    refine V_aload_n (q := 11) dX3_joinAnew_10 rfl rfl ?_
    refine V_getR (q := 14) (n := 39) 5 10 kf_X3_36 (by decide) (by decide) rfl (by decide) dX3_joinAnew_11 rfl ?_
    refine V_iconst (q := 15) (v := 0) dX3_joinAnew_14 (by decide) rfl ?_
    refine V_cS2U (q := 18) (N := mJ7_fill_53178) (tJ7_fill_53178 (n := 8) (by decide) (by omega) (by decide) rfl (by decide)) hκ.big (by omega) gJ7_fill_53178 kl_X3_71 kt_J7_fill_53178 (Nat.le_of_ble_eq_true rfl) dX3_joinAnew_15 rfl ?_
    refine V_aload_n (q := 19) dX3_joinAnew_18 rfl rfl ?_
    refine V_iconst (q := 20) (v := 0) dX3_joinAnew_19 (by decide) rfl ?_
    refine V_iconst (q := 21) (v := 0) dX3_joinAnew_20 (by decide) rfl ?_
    refine V_iload_n (q := 22) dX3_joinAnew_21 rfl rfl ?_
    refine V_cV3 (q := 25) (o := 5) (N := mX3_placeFrom) (pl_from hn8 h1 (by omega) hF n (vS Ar' 39 (vFill (Ar' 39) 8 0)) 0 0 (fun _ => 0) (by omega) (Nat.le_refl 0) ⟨fun c hc i hi => by rw [vS_at, show vFill (Ar' 39) 8 0 c = 0 from if_pos hc, bitI_0]; simp, fun i hi => by omega⟩) hκ.big (by omega) gX3_placeFrom kl_X3_77 ki_X3_placeFrom ks_X3_placeFrom (by decide) rfl (Nat.le_of_ble_eq_true rfl) dX3_joinAnew_22 rfl (fun r F9 Ar9 h9 => ?_)
    obtain ⟨rfl, hfr9, hres9⟩ := h9
    have hL : Lk (vS Ar' 39 (vFill (Ar' 39) 8 0)) = Lk Ar := by unfold Lk; rw [vS_ne (by decide), hfr 36 (by decide) (by decide)]
    rw [hL] at hres9
    cases hs : srch (Lk Ar) most n 0 0 (fun _ => 0) with
    | none =>
      rw [hs] at hres9
      obtain ⟨rfl, hm9, hg9⟩ := hres9
      show V κ mX3_joinAnew 25 [.ref 5, .int (nI most)] [.int 0] _ _ x
      refine V_if_eq (tgt := 34) (q := 28) dX3_joinAnew_25 (by decide) rfl (fun c_25 => ?_) (fun c_25 => absurd rfl c_25)
      refine V_iincN (q := 37) dX3_joinAnew_34 rfl (Nat.le_of_ble_eq_true rfl) rfl rfl ?_
      refine V_goto (q := 2) dX3_joinAnew_37 (by decide) ?_
      exact ih (most + 1) Ar9 (by omega) (by omega) (fun b h1 h2 => by rw [hfr9 b h1 h2, vS_ne h2, hfr b h1 h2]) (by rw [hres, jnd, hs])
    | some g' =>
      rw [hs] at hres9
      obtain ⟨rfl, hg9⟩ := hres9
      have hj : jnd (Lk Ar) n 1 n = some (most, g') := by rw [hres, jnd, hs]
      have hj1 : jM (Lk Ar) n = most := by unfold jM; rw [hj]; rfl
      have hj2 : jG (Lk Ar) n = g' := by unfold jG; rw [hj]; rfl
      show V κ mX3_joinAnew 25 [.ref 5, .int (nI most)] [.int 1] _ _ x
      refine V_if_eq (tgt := 34) (q := 28) dX3_joinAnew_25 (by decide) rfl (fun c_25 => absurd c_25 (by decide)) (fun c_25 => ?_)
      refine V_aload_n (q := 29) dX3_joinAnew_28 rfl rfl ?_
      refine V_iload_n (q := 30) dX3_joinAnew_29 rfl rfl ?_
      refine V_putI (q := 33) (n := 331) 5 11 kf_X3_58 (by decide) (by decide) rfl rfl dX3_joinAnew_30 rfl ?_
      exact V_vret hκ rfl dX3_joinAnew_33 ⟨rfl, by rw [hj1], fun b h1 h2 => by rw [hfr9 b h1 h2, vS_ne h2, hfr b h1 h2], fun i hi => by rw [hg9 i hi, hj2]⟩
    
theorem tX3_joinAnew {F : vFt} {Ar : vAt} {x : vXt} {n : Nat} (hF : F 325 = nI n) (hn1 : 1 ≤ n) (hn8 : n ≤ 8) : C0 mX3_joinAnew 20 [.ref 5] F Ar x (jQ n F Ar) := by
  refine C0_of (by decide +kernel) (Nat.le_of_ble_eq_true rfl) (fun κ hκ => ?_)
  show V κ mX3_joinAnew 0 [.ref 5, .null] [] F Ar x
  refine V_iconst (q := 1) (v := 1) dX3_joinAnew_0 (by decide) rfl ?_
  refine V_istore_n (q := 2) dX3_joinAnew_1 (Nat.le_of_ble_eq_true rfl) rfl rfl ?_
  exact lp_X3_join hκ hF hn1 hn8 n 1 Ar (by omega) (Nat.le_refl 1) (fun _ _ _ => rfl) rfl
def wSet (f : Nat → Int32) (a b : Nat) : Nat → Int32 := upd (upd f a (stBit (f a) b true)) b (stBit (f b) a true)
def lSet (f : Nat → Int32) (a b : Nat) (yes : Bool) : Nat → Int32 := upd (upd f a (stBit (f a) b yes)) b (stBit (f b) a yes)
/-- what a witness leaves ahead of the joining -/
def hearA (Ar : vAt) (a b : Nat) (yes : Bool) : vAt := vS (vS Ar 37 (wSet (Ar 37) a b)) 36 (lSet (Ar 36) a b yes)
def hearQ (n w a b : Nat) (yes : Bool) (F : vFt) (Ar : vAt) : Option Value → vFt → vAt → Prop := fun r F' Ar' =>
  if bitI (Ar 37 a) b = true then vEq (some (.int (-3))) F Ar r F' Ar' else if ¬ w < 6 then vEq (some (.int (-2))) F Ar r F' Ar'
  else r = some (.int (nI (w + 1))) ∧ F' = upd (upd F 328 (nI (w + 1))) 331 (nI (jM (Lk (hearA Ar a b yes)) n)) ∧ (∀ z, z ≠ 38 → z ≠ 39 → Ar' z = hearA Ar a b yes z) ∧ ∀ i, i < n → Ar' 38 i = nI (jG (Lk (hearA Ar a b yes)) n i)
theorem tX3_hear {F : vFt} {Ar : vAt} {x : vXt} {n w a b : Nat} {yes : Bool} (hF : F 325 = nI n) (hn8 : n ≤ 8) (hw : F 328 = nI w) (hw6 : w ≤ 6) (ha : a < n) (hb : b < n) (hab : a ≠ b) : C0 mX3_hear 21 [.ref 5, .int (nI a), .int (nI b), .int (if yes then 1 else 0)] F Ar x (hearQ n w a b yes F Ar) := by
  refine C0_of (by decide +kernel) (Nat.le_of_ble_eq_true rfl) (fun κ hκ => ?_)
  show V κ mX3_hear 0 [.ref 5, .int (nI a), .int (nI b), .int (if yes then 1 else 0)] [] F Ar x
  refine V_iload_n (q := 1) dX3_hear_0 rfl rfl ?_
  refine V_aload_n (q := 2) dX3_hear_1 rfl rfl ?_
  refine V_getR (q := 5) (n := 37) 5 7 kf_X3_30 (by decide) (by decide) rfl (by decide) dX3_hear_2 rfl ?_
  refine V_iload_n (q := 6) dX3_hear_5 rfl rfl ?_
  refine V_ild (q := 7) (a) 8 rfl (by omega) (by decide) (by omega) (by decide) rfl (by decide) dX3_hear_6 rfl ?_
  refine V_cS2I (q := 10) (N := mX3_isIn) (tX3_isIn (by omega)) hκ.big (by decide) gX3_isIn kl_X3_54 kt_X3_isIn (Nat.le_of_ble_eq_true rfl) dX3_hear_7 rfl ?_
  refine V_if_eq (tgt := 16) (q := 13) dX3_hear_10 (by decide) rfl (fun c_10 => ?_) (fun c_10 => ?_)
  · refine V_aload_n (q := 17) dX3_hear_16 rfl rfl ?_
    refine V_getI (q := 20) (n := 328) 5 8 kf_X3_43 (by decide) (by decide) rfl rfl dX3_hear_17 rfl ?_
    refine V_bipush (q := 22) (v := 6) dX3_hear_20 (by decide) rfl ?_
    have h6 : nI w < nI 6 ↔ w < 6 := nI_ltI (by omega) (by decide)
    rw [hw]
    refine V_icmp_lt (tgt := 28) (q := 25) dX3_hear_22 (by decide) rfl (fun c_22 => ?_) (fun c_22 => ?_)
    · refine V_aload_n (q := 29) dX3_hear_28 rfl rfl ?_
      refine V_getR (q := 32) (n := 37) 5 7 kf_X3_30 (by decide) (by decide) rfl (by decide) dX3_hear_29 rfl ?_
      refine V_iload_n (q := 33) dX3_hear_32 rfl rfl ?_
      refine V_dup2 (q := 34) dX3_hear_33 rfl rfl rfl ?_
      refine V_ild (q := 35) (a) 8 rfl (by omega) (by decide) (by omega) (by decide) rfl (by decide) dX3_hear_34 rfl ?_
      refine V_iconst (q := 36) (v := 1) dX3_hear_35 (by decide) rfl ?_
      refine V_iload_n (q := 37) dX3_hear_36 rfl rfl ?_
      refine V_ishl (q := 38) dX3_hear_37 rfl ?_
      refine V_ior (q := 39) dX3_hear_38 rfl ?_
      refine V_ist (q := 40) (a) 8 rfl (by omega) (by decide) (by omega) (by decide) rfl (by decide) dX3_hear_39 rfl ?_
      refine V_aload_n (q := 41) dX3_hear_40 rfl rfl ?_
      refine V_getR (q := 44) (n := 37) 5 7 kf_X3_30 (by decide) (by decide) rfl (by decide) dX3_hear_41 rfl ?_
      refine V_iload_n (q := 45) dX3_hear_44 rfl rfl ?_
      refine V_dup2 (q := 46) dX3_hear_45 rfl rfl rfl ?_
      refine V_ild (q := 47) (b) 8 rfl (by omega) (by decide) (by omega) (by decide) rfl (by decide) dX3_hear_46 rfl ?_
      refine V_iconst (q := 48) (v := 1) dX3_hear_47 (by decide) rfl ?_
      refine V_iload_n (q := 49) dX3_hear_48 rfl rfl ?_
      refine V_ishl (q := 50) dX3_hear_49 rfl ?_
      refine V_ior (q := 51) dX3_hear_50 rfl ?_
      refine V_ist (q := 52) (b) 8 rfl (by omega) (by decide) (by omega) (by decide) rfl (by decide) dX3_hear_51 rfl ?_
      refine V_aload_n (q := 53) dX3_hear_52 rfl rfl ?_
      refine V_dup (q := 54) dX3_hear_53 rfl rfl ?_
      refine V_getI (q := 57) (n := 328) 5 8 kf_X3_43 (by decide) (by decide) rfl rfl dX3_hear_54 rfl ?_
      refine V_iconst (q := 58) (v := 1) dX3_hear_57 (by decide) rfl ?_
      refine V_iadd (q := 59) dX3_hear_58 rfl ?_
      refine V_putI (q := 62) (n := 328) 5 8 kf_X3_43 (by decide) (by decide) rfl rfl dX3_hear_59 rfl ?_
      refine V_fl (upd F 328 (nI (w + 1))) (by rw [hw, nI_1]) ?_
      refine V_aload_n (q := 63) dX3_hear_62 rfl rfl ?_
      refine V_iload_n (q := 64) dX3_hear_63 rfl rfl ?_
      refine V_iload_n (q := 65) dX3_hear_64 rfl rfl ?_
      refine V_iload_n (q := 66) dX3_hear_65 rfl rfl ?_
      refine V_cV3U (q := 69) (o := 5) (N := mX3_setLike) (tX3_setLike (by omega) (by omega) hab) hκ.big (by decide) gX3_setLike kl_X3_64 ki_X3_setLike ks_X3_setLike (by decide) rfl (Nat.le_of_ble_eq_true rfl) dX3_hear_66 rfl ?_
      refine V_ar (hearA Ar a b yes) (by unfold hearA wSet lSet; simp only [vS_vS, vS_at]; rw [upd_ne (fun h => hab h.symm)]; rfl) ?_
      refine V_aload_n (q := 70) dX3_hear_69 rfl rfl ?_
      refine V_cV0 (q := 73) (o := 5) (N := mX3_joinAnew) (tX3_joinAnew hF (by omega) hn8) hκ.big (by decide) gX3_joinAnew kl_X3_68 ki_X3_joinAnew ks_X3_joinAnew (by decide) rfl (Nat.le_of_ble_eq_true rfl) dX3_hear_70 rfl (fun r F9 Ar9 h9 => ?_)
      obtain ⟨rfl, rfl, hfr9, hg9⟩ := h9
      show V κ mX3_hear 73 [.ref 5, .int (nI a), .int (nI b), .int (if yes then 1 else 0)] [] _ _ x
      refine V_aload_n (q := 74) dX3_hear_73 rfl rfl ?_
      refine V_getI (q := 77) (n := 328) 5 8 kf_X3_43 (by decide) (by decide) rfl rfl dX3_hear_74 rfl ?_
      exact V_iret hκ rfl rfl dX3_hear_77 (by unfold hearQ; rw [if_neg (vB_0.mp c_10), if_neg (fun h => h (h6.mp c_22))]; exact ⟨rfl, rfl, hfr9, hg9⟩)
    · refine V_bipush (q := 27) (v := (-2)) dX3_hear_25 (by decide) rfl ?_
      exact V_iret hκ rfl rfl dX3_hear_27 (by unfold hearQ; rw [if_neg (vB_0.mp c_10), if_pos (fun h => c_22 (h6.mpr h))]; exact vEq.rf)
  · refine V_bipush (q := 15) (v := (-3)) dX3_hear_13 (by decide) rfl ?_
    exact V_iret hκ rfl rfl dX3_hear_15 (by unfold hearQ; rw [if_pos (vB_n0.mp c_10)]; exact vEq.rf)
end
section
def padA (Ar : vAt) (n : Nat) (a b c d m : Int32) : vAt := vS (vS (vS (vS (vS Ar 31 (upd (Ar 31) n a)) 32 (upd (Ar 32) n b)) 33 (upd (Ar 33) n c)) 34 (upd (Ar 34) n d)) 35 (upd (Ar 35) n m)
/-- who is alike with paper n, of the first i -/
def adLk (Ar : vAt) (n : Nat) : Nat → Nat → Int32
  | 0 => Ar 36
  | i + 1 => lSet (adLk Ar n i) i n (decide (sAl Ar i n))
def addP (Ar : vAt) (n : Nat) (a b c d m : Int32) (i : Nat) : vAt := vS (padA Ar n a b c d m) 36 (adLk (padA Ar n a b c d m) n i)
def paddQ (n : Nat) (a b c d m : Int32) (F : vFt) (Ar : vAt) : Option Value → vFt → vAt → Prop := fun r F' Ar' =>
  if ¬ n < 8 then vEq (some (.int (-2))) F Ar r F' Ar'
  else r = some (.int (nI n)) ∧ F' = upd (upd F 325 (nI (n + 1))) 331 (nI (jM (Lk (addP Ar n a b c d m n)) (n + 1))) ∧ (∀ z, z ≠ 38 → z ≠ 39 → Ar' z = addP Ar n a b c d m n z) ∧ ∀ i, i < n + 1 → Ar' 38 i = nI (jG (Lk (addP Ar n a b c d m n)) (n + 1) i)
theorem vB_dec {p : Prop} [Decidable p] : vB p = (if decide p = true then 1 else 0) := by
  unfold vB
  by_cases h : p <;> simp [h]
theorem lp_X3_add {F : vFt} {Ar : vAt} {x : vXt} {n : Nat} {a b c d m : Int32} {κ : vK} (hκ : vStd κ 21 x (paddQ n a b c d m F Ar)) (hF : F 325 = nI n) (hn8 : n < 8) : ∀ k i, i + k = n → V κ mX3_add 67 [.ref 5, .int a, .int b, .int c, .int d, .int m, .int (nI i)] [] F (addP Ar n a b c d m i) x := by
  intro k
  induction k with
  | zero =>
    intro i hi
    obtain rfl : i = n := by omega
    refine V_iload (q := 69) dX3_add_67 rfl rfl ?_
    refine V_aload_n (q := 70) dX3_add_69 rfl rfl ?_
    refine V_getI (q := 73) (n := 325) 5 5 kf_X3_39 (by decide) (by decide) rfl rfl dX3_add_70 rfl ?_
    rw [hF]
    refine V_icmp_ge (tgt := 102) (q := 76) dX3_add_73 (by decide) rfl (fun c_73 => ?_) (fun c_73 => absurd c_73 (v_gt (by omega) (by omega) (Nat.le_refl _)))
    refine V_aload_n (q := 103) dX3_add_102 rfl rfl ?_
    refine V_dup (q := 104) dX3_add_103 rfl rfl ?_
    refine V_getI (q := 107) (n := 325) 5 5 kf_X3_39 (by decide) (by decide) rfl rfl dX3_add_104 rfl ?_
    refine V_iconst (q := 108) (v := 1) dX3_add_107 (by decide) rfl ?_
    refine V_iadd (q := 109) dX3_add_108 rfl ?_
    refine V_putI (q := 112) (n := 325) 5 5 kf_X3_39 (by decide) (by decide) rfl rfl dX3_add_109 rfl ?_
    refine V_fl (upd F 325 (nI (i + 1))) (by rw [hF, nI_1]) ?_
    refine V_aload_n (q := 113) dX3_add_112 rfl rfl ?_
    refine V_cV0 (q := 116) (o := 5) (N := mX3_joinAnew) (tX3_joinAnew (n := i + 1) rfl (by omega) (by omega)) hκ.big (by decide) gX3_joinAnew kl_X3_68 ki_X3_joinAnew ks_X3_joinAnew (by decide) rfl (Nat.le_of_ble_eq_true rfl) dX3_add_113 rfl (fun r F9 Ar9 h9 => ?_)
    obtain ⟨rfl, rfl, hfr9, hg9⟩ := h9
    show V κ mX3_add 116 [.ref 5, .int a, .int b, .int c, .int d, .int m, .int (nI i)] [] _ _ x
    refine V_aload_n (q := 117) dX3_add_116 rfl rfl ?_
    refine V_getI (q := 120) (n := 325) 5 5 kf_X3_39 (by decide) (by decide) rfl rfl dX3_add_117 rfl ?_
    refine V_iconst (q := 121) (v := 1) dX3_add_120 (by decide) rfl ?_
    refine V_isub (q := 122) dX3_add_121 rfl ?_
    exact V_iret hκ rfl rfl dX3_add_122 (by unfold paddQ; rw [if_neg (fun h => h hn8)]; exact ⟨congrArg (fun z => some (Value.int z)) (nI_pred i), rfl, hfr9, hg9⟩)
  | succ k ih =>
    intro i hi
    refine V_iload (q := 69) dX3_add_67 rfl rfl ?_
    refine V_aload_n (q := 70) dX3_add_69 rfl rfl ?_
    refine V_getI (q := 73) (n := 325) 5 5 kf_X3_39 (by decide) (by decide) rfl rfl dX3_add_70 rfl ?_
    rw [hF]
    refine V_icmp_ge (tgt := 102) (q := 76) dX3_add_73 (by decide) rfl (fun c_73 => absurd c_73 (v_gf (by omega) (by omega) (by omega))) (fun c_73 => ?_)
    refine V_aload_n (q := 77) dX3_add_76 rfl rfl ?_
    refine V_iload (q := 79) dX3_add_77 rfl rfl ?_
    refine V_aload_n (q := 80) dX3_add_79 rfl rfl ?_
    refine V_getI (q := 83) (n := 325) 5 5 kf_X3_39 (by decide) (by decide) rfl rfl dX3_add_80 rfl ?_
    rw [hF]
    refine V_aload_n (q := 84) dX3_add_83 rfl rfl ?_
    refine V_iload (q := 86) dX3_add_84 rfl rfl ?_
    refine V_aload_n (q := 87) dX3_add_86 rfl rfl ?_
    refine V_getI (q := 90) (n := 325) 5 5 kf_X3_39 (by decide) (by decide) rfl rfl dX3_add_87 rfl ?_
    rw [hF]
    refine V_cV2I (q := 93) (o := 5) (N := mX3_seemAlike) (tX3_seemAlike (a := i) (b := n) (by omega) (by omega)) hκ.big (by decide) gX3_seemAlike kl_X3_61 ki_X3_seemAlike ks_X3_seemAlike (by decide) rfl (Nat.le_of_ble_eq_true rfl) dX3_add_90 rfl ?_
    refine V_top (if decide (sAl (padA Ar n a b c d m) i n) = true then 1 else 0) vB_dec ?_
    refine V_cV3U (q := 96) (o := 5) (N := mX3_setLike) (tX3_setLike (a := i) (b := n) (yes := decide (sAl (padA Ar n a b c d m) i n)) (by omega) (by omega) (by omega)) hκ.big (by decide) gX3_setLike kl_X3_64 ki_X3_setLike ks_X3_setLike (by decide) rfl (Nat.le_of_ble_eq_true rfl) dX3_add_93 rfl ?_
    refine V_iincN (q := 99) dX3_add_96 rfl (Nat.le_of_ble_eq_true rfl) rfl rfl ?_
    refine V_goto (q := 67) dX3_add_99 (by decide) ?_
    refine V_ar (addP Ar n a b c d m (i + 1)) (by unfold addP; rw [vS_vS, vS_at]; rfl) ?_
    exact ih (i + 1) (by omega)
theorem tX3_add {F : vFt} {Ar : vAt} {x : vXt} {n : Nat} {a b c d m : Int32} (hF : F 325 = nI n) (hn8 : n ≤ 8) : C0 mX3_add 21 [.ref 5, .int a, .int b, .int c, .int d, .int m] F Ar x (paddQ n a b c d m F Ar) := by
  refine C0_of (by decide +kernel) (Nat.le_of_ble_eq_true rfl) (fun κ hκ => ?_)
  show V κ mX3_add 0 [.ref 5, .int a, .int b, .int c, .int d, .int m, .null] [] F Ar x
  refine V_aload_n (q := 1) dX3_add_0 rfl rfl ?_
  refine V_getI (q := 4) (n := 325) 5 5 kf_X3_39 (by decide) (by decide) rfl rfl dX3_add_1 rfl ?_
  refine V_bipush (q := 6) (v := 8) dX3_add_4 (by decide) rfl ?_
  have h6 : nI n < nI 8 ↔ n < 8 := nI_ltI (by omega) (by decide)
  rw [hF]
  refine V_icmp_lt (tgt := 12) (q := 9) dX3_add_6 (by decide) rfl (fun c_6 => ?_) (fun c_6 => ?_)
  · refine V_aload_n (q := 13) dX3_add_12 rfl rfl ?_
    refine V_getR (q := 16) (n := 31) 5 0 kf_X3_11 (by decide) (by decide) rfl (by decide) dX3_add_13 rfl ?_
    refine V_aload_n (q := 17) dX3_add_16 rfl rfl ?_
    refine V_getI (q := 20) (n := 325) 5 5 kf_X3_39 (by decide) (by decide) rfl rfl dX3_add_17 rfl ?_
    rw [hF]
    refine V_iload_n (q := 21) dX3_add_20 rfl rfl ?_
    refine V_ist (q := 22) (n) 8 rfl (h6.mp c_6) (by decide) (by omega) (by decide) rfl (by decide) dX3_add_21 rfl ?_
    refine V_aload_n (q := 23) dX3_add_22 rfl rfl ?_
    refine V_getR (q := 26) (n := 32) 5 1 kf_X3_15 (by decide) (by decide) rfl (by decide) dX3_add_23 rfl ?_
    refine V_aload_n (q := 27) dX3_add_26 rfl rfl ?_
    refine V_getI (q := 30) (n := 325) 5 5 kf_X3_39 (by decide) (by decide) rfl rfl dX3_add_27 rfl ?_
    rw [hF]
    refine V_iload_n (q := 31) dX3_add_30 rfl rfl ?_
    refine V_ist (q := 32) (n) 8 rfl (h6.mp c_6) (by decide) (by omega) (by decide) rfl (by decide) dX3_add_31 rfl ?_
    refine V_aload_n (q := 33) dX3_add_32 rfl rfl ?_
    refine V_getR (q := 36) (n := 33) 5 2 kf_X3_18 (by decide) (by decide) rfl (by decide) dX3_add_33 rfl ?_
    refine V_aload_n (q := 37) dX3_add_36 rfl rfl ?_
    refine V_getI (q := 40) (n := 325) 5 5 kf_X3_39 (by decide) (by decide) rfl rfl dX3_add_37 rfl ?_
    rw [hF]
    refine V_iload_n (q := 41) dX3_add_40 rfl rfl ?_
    refine V_ist (q := 42) (n) 8 rfl (h6.mp c_6) (by decide) (by omega) (by decide) rfl (by decide) dX3_add_41 rfl ?_
    refine V_aload_n (q := 43) dX3_add_42 rfl rfl ?_
    refine V_getR (q := 46) (n := 34) 5 3 kf_X3_21 (by decide) (by decide) rfl (by decide) dX3_add_43 rfl ?_
    refine V_aload_n (q := 47) dX3_add_46 rfl rfl ?_
    refine V_getI (q := 50) (n := 325) 5 5 kf_X3_39 (by decide) (by decide) rfl rfl dX3_add_47 rfl ?_
    rw [hF]
    refine V_iload (q := 52) dX3_add_50 rfl rfl ?_
    refine V_ist (q := 53) (n) 8 rfl (h6.mp c_6) (by decide) (by omega) (by decide) rfl (by decide) dX3_add_52 rfl ?_
    refine V_aload_n (q := 54) dX3_add_53 rfl rfl ?_
    refine V_getR (q := 57) (n := 35) 5 4 kf_X3_24 (by decide) (by decide) rfl (by decide) dX3_add_54 rfl ?_
    refine V_aload_n (q := 58) dX3_add_57 rfl rfl ?_
    refine V_getI (q := 61) (n := 325) 5 5 kf_X3_39 (by decide) (by decide) rfl rfl dX3_add_58 rfl ?_
    rw [hF]
    refine V_iload (q := 63) dX3_add_61 rfl rfl ?_
    refine V_ist (q := 64) (n) 8 rfl (h6.mp c_6) (by decide) (by omega) (by decide) rfl (by decide) dX3_add_63 rfl ?_
    refine V_iconst (q := 65) (v := 0) dX3_add_64 (by decide) rfl ?_
    refine V_istore (q := 67) dX3_add_65 (Nat.le_of_ble_eq_true rfl) rfl rfl ?_
    refine V_ar (addP Ar n a b c d m 0) (by unfold addP adLk; exact (vS_self (Ar := padA Ar n a b c d m) (a := 36)).symm) ?_
    exact lp_X3_add hκ hF (h6.mp c_6) n 0 (by omega)
  · refine V_bipush (q := 11) (v := (-2)) dX3_add_9 (by decide) rfl ?_
    exact V_iret hκ rfl rfl dX3_add_11 (by unfold paddQ; rw [if_pos (fun h => c_6 (h6.mpr h))]; exact vEq.rf)
end
section
def jn (c : Int32) (a b : Int64) : Int64 := if c = 43 then a + b else if c = 45 then a - b else if c = 42 then a * b else if b = 0 then 0 else a / b
def bnd (v : Int64) : Int32 := if v ≤ 999999 then (if -999999 ≤ v then v.toInt32 else -999999) else 999999
theorem lg_cmp_z (x y : Int64) : lg_cmp x y = 0 ↔ x = y := by
  unfold lg_cmp
  split
  · rename_i h
    constructor
    · intro q; exact absurd q (by decide)
    · intro q; subst q; exact absurd h (by rw [gt_iff_lt, Int64.lt_iff_toInt_lt]; omega)
  · split
    · simp_all
    · simp_all
theorem tX4_joined {F : vFt} {Ar : vAt} {x : vXt} {c : Int32} {a b : Int64}  : C0 mX4_joined 0 [.int c, .long a, .long b] F Ar x (vEq (some (.long (jn c a b))) F Ar) := by
  refine C0_of (by decide +kernel) (Nat.le_of_ble_eq_true rfl) (fun κ hκ => ?_)
  show V κ mX4_joined 0 [.int c, .long a, .null, .long b, .null] [] F Ar x
  refine V_iload_n (q := 1) dX4_joined_0 rfl rfl ?_
  by_cases e_1_42 : c = 42
  · refine V_tableIn (q := 40) (off := 39) dX4_joined_1 (by rw [e_1_42]; decide) (by rw [e_1_42]; decide) (by rw [e_1_42]; decide) (by decide) ?_
    refine V_lload_n (q := 41) dX4_joined_40 rfl rfl ?_
    refine V_lload_n (q := 42) dX4_joined_41 rfl rfl ?_
    refine V_lmul (q := 43) dX4_joined_42 rfl ?_
    exact V_lret hκ rfl dX4_joined_43 ⟨by simp [jn, e_1_42], rfl, rfl⟩
  by_cases e_1_43 : c = 43
  · refine V_tableIn (q := 32) (off := 31) dX4_joined_1 (by rw [e_1_43]; decide) (by rw [e_1_43]; decide) (by rw [e_1_43]; decide) (by decide) ?_
    refine V_lload_n (q := 33) dX4_joined_32 rfl rfl ?_
    refine V_lload_n (q := 34) dX4_joined_33 rfl rfl ?_
    refine V_ladd (q := 35) dX4_joined_34 rfl ?_
    exact V_lret hκ rfl dX4_joined_35 ⟨by simp [jn, e_1_43], rfl, rfl⟩
  by_cases e_1_44 : c = 44
  · refine V_tableIn (q := 44) (off := 43) dX4_joined_1 (by rw [e_1_44]; decide) (by rw [e_1_44]; decide) (by rw [e_1_44]; decide) (by decide) ?_
    refine V_lload_n (q := 45) dX4_joined_44 rfl rfl ?_
    refine V_lconst (q := 46) (v := 0) dX4_joined_45 (by decide) rfl ?_
    refine V_lcmp (q := 47) dX4_joined_46 rfl ?_
    refine V_if_ne (tgt := 54) (q := 50) dX4_joined_47 (by decide) rfl (fun c_47 => ?_) (fun c_47 => ?_)
    · refine V_lload_n (q := 55) dX4_joined_54 rfl rfl ?_
      refine V_lload_n (q := 56) dX4_joined_55 rfl rfl ?_
      refine V_ldiv (q := 57) dX4_joined_56 (fun q => c_47 ((lg_cmp_z b 0).mpr q)) rfl ?_
      exact V_lret hκ rfl dX4_joined_57 ⟨by simp [jn, e_1_44, show ¬ b = 0 from fun q => c_47 ((lg_cmp_z b 0).mpr q)], rfl, rfl⟩
    · refine V_lconst (q := 51) (v := 0) dX4_joined_50 (by decide) rfl ?_
      refine V_goto (q := 57) dX4_joined_51 (by decide) ?_
      exact V_lret hκ rfl dX4_joined_57 ⟨by simp [jn, e_1_44, (lg_cmp_z b 0).mp c_47], rfl, rfl⟩
  by_cases e_1_45 : c = 45
  · refine V_tableIn (q := 36) (off := 35) dX4_joined_1 (by rw [e_1_45]; decide) (by rw [e_1_45]; decide) (by rw [e_1_45]; decide) (by decide) ?_
    refine V_lload_n (q := 37) dX4_joined_36 rfl rfl ?_
    refine V_lload_n (q := 38) dX4_joined_37 rfl rfl ?_
    refine V_lsub (q := 39) dX4_joined_38 rfl ?_
    exact V_lret hκ rfl dX4_joined_39 ⟨by simp [jn, e_1_45], rfl, rfl⟩
  refine V_tableOut (q := 44) dX4_joined_1 (by have h42 := lv_neT e_1_42 (a := 42) (by decide); have h43 := lv_neT e_1_43 (a := 43) (by decide); have h44 := lv_neT e_1_44 (a := 44) (by decide); have h45 := lv_neT e_1_45 (a := 45) (by decide); omega) (by decide) ?_
  refine V_lload_n (q := 45) dX4_joined_44 rfl rfl ?_
  refine V_lconst (q := 46) (v := 0) dX4_joined_45 (by decide) rfl ?_
  refine V_lcmp (q := 47) dX4_joined_46 rfl ?_
  refine V_if_ne (tgt := 54) (q := 50) dX4_joined_47 (by decide) rfl (fun c_47 => ?_) (fun c_47 => ?_)
  · refine V_lload_n (q := 55) dX4_joined_54 rfl rfl ?_
    refine V_lload_n (q := 56) dX4_joined_55 rfl rfl ?_
    refine V_ldiv (q := 57) dX4_joined_56 (fun q => c_47 ((lg_cmp_z b 0).mpr q)) rfl ?_
    exact V_lret hκ rfl dX4_joined_57 ⟨by simp [jn, e_1_42, e_1_43, e_1_45, show ¬ b = 0 from fun q => c_47 ((lg_cmp_z b 0).mpr q)], rfl, rfl⟩
  · refine V_lconst (q := 51) (v := 0) dX4_joined_50 (by decide) rfl ?_
    refine V_goto (q := 57) dX4_joined_51 (by decide) ?_
    exact V_lret hκ rfl dX4_joined_57 ⟨by simp [jn, e_1_42, e_1_43, e_1_45, (lg_cmp_z b 0).mp c_47], rfl, rfl⟩
theorem tX4_bounded {F : vFt} {Ar : vAt} {x : vXt} {v : Int64}  : C0 mX4_bounded 0 [.long v] F Ar x (vEq (some (.int (bnd v))) F Ar) := by
  refine C0_of (by decide +kernel) (Nat.le_of_ble_eq_true rfl) (fun κ hκ => ?_)
  show V κ mX4_bounded 0 [.long v, .null] [] F Ar x
  refine V_lload_n (q := 1) dX4_bounded_0 rfl rfl ?_
  refine V_ldc2 (q := 4) dX4_bounded_1 kc_X4_70 rfl ?_
  refine V_lcmp (q := 5) dX4_bounded_4 rfl ?_
  refine V_if_le (tgt := 11) (q := 8) dX4_bounded_5 (by decide) rfl (fun c_5 => ?_) (fun c_5 => ?_)
  · refine V_lload_n (q := 12) dX4_bounded_11 rfl rfl ?_
    refine V_ldc2 (q := 15) dX4_bounded_12 kc_X4_73 rfl ?_
    refine V_lcmp (q := 16) dX4_bounded_15 rfl ?_
    refine V_if_ge (tgt := 24) (q := 19) dX4_bounded_16 (by decide) rfl (fun c_16 => ?_) (fun c_16 => ?_)
    · refine V_lload_n (q := 25) dX4_bounded_24 rfl rfl ?_
      refine V_l2i (q := 26) dX4_bounded_25 rfl ?_
      exact V_iret hκ rfl rfl dX4_bounded_26 ⟨by rw [lg_cmp_le] at c_5; rw [lg_cmp_ge] at c_16; simp only [bnd, if_pos c_5, if_pos c_16], rfl, rfl⟩
    · refine V_ldc (q := 21) dX4_bounded_19 kc_X4_75 rfl ?_
      refine V_goto (q := 26) dX4_bounded_21 (by decide) ?_
      exact V_iret hκ rfl rfl dX4_bounded_26 ⟨by rw [lg_cmp_le] at c_5; rw [lg_cmp_ge] at c_16; simp only [bnd, if_pos c_5, if_neg c_16], rfl, rfl⟩
  · refine V_ldc (q := 10) dX4_bounded_8 kc_X4_72 rfl ?_
    exact V_iret hκ rfl rfl dX4_bounded_10 ⟨by rw [lg_cmp_le] at c_5; simp only [bnd, if_neg c_5], rfl, rfl⟩
abbrev rS : Type := (Nat → Int32) × Nat × Nat
def rF (F : vFt) (s : rS) : vFt := upd (upd F 129 (nI s.2.1)) 130 (nI s.2.2)
def rA (Ar : vAt) (s : rS) : vAt := vS Ar 21 s.1
theorem rF_h {F : vFt} {s : rS} {h : Nat} : upd (rF F s) 129 (nI h) = rF F (s.1, h, s.2.2) := by
  unfold rF
  rw [upd_comm (by decide), upd_upd]
theorem rF_g {F : vFt} {s : rS} {g : Nat} : upd (rF F s) 130 (nI g) = rF F (s.1, s.2.1, g) := by
  unfold rF
  rw [upd_upd]
theorem rA_p {Ar : vAt} {s : rS} {f : Nat → Int32} : vS (rA Ar s) 21 f = rA Ar (f, s.2) := by
  unfold rA
  rw [vS_vS]
def rPush (v : Int32) (s : rS) : Bool × rS := if s.2.1 < 40 then (true, upd s.1 s.2.1 v, s.2.1 + 1, s.2.2) else (false, s)
def rFig (v : Int32) (s : rS) : Bool × rS := if s.2.2 = 0 then rPush v (s.1, s.2.1, 1) else if 4 < s.2.2 + 1 ∨ s.2.1 = 0 then (false, s.1, s.2.1, s.2.2 + 1) else (true, upd s.1 (s.2.1 - 1) (s.1 (s.2.1 - 1) * 10 + v), s.2.1, s.2.2 + 1)
def rLift (s : rS) : Bool × rS := if s.2.1 = 0 then (false, s) else (true, upd s.1 (s.2.1 - 1) (if s.1 (s.2.1 - 1) < 0 then 0 else s.1 (s.2.1 - 1)), s.2.1, s.2.2)
def rJoin (c : Int32) (s : rS) : Bool × rS := if s.2.1 < 2 then (false, s) else (true, upd s.1 (s.2.1 - 2) (bnd (jn c (s.1 (s.2.1 - 2)).toInt64 (s.1 (s.2.1 - 1)).toInt64)), s.2.1 - 1, s.2.2)
theorem tX4_push {F : vFt} {Ar : vAt} {x : vXt} {v : Int32} {s : rS} (hh : s.2.1 ≤ 40) : C0 mX4_push 0 [.ref 2, .int v] (rF F s) (rA Ar s) x (vEq (some (.int (if (rPush v s).1 = true then 1 else 0))) (rF F (rPush v s).2) (rA Ar (rPush v s).2)) := by
  refine C0_of (by decide +kernel) (Nat.le_of_ble_eq_true rfl) (fun κ hκ => ?_)
  show V κ mX4_push 0 [.ref 2, .int v] [] (rF F s) (rA Ar s) x
  have h40 : nI s.2.1 < nI 40 ↔ s.2.1 < 40 := nI_ltI (by omega) (by decide)
  refine V_aload_n (q := 1) dX4_push_0 rfl rfl ?_
  refine V_getI (q := 4) (n := 129) 2 1 kf_X4_28 (by decide) (by decide) rfl rfl dX4_push_1 rfl ?_
  refine V_aload_n (q := 5) dX4_push_4 rfl rfl ?_
  refine V_getR (q := 8) (n := 21) 2 0 kf_X4_11 (by decide) (by decide) rfl (by decide) dX4_push_5 rfl ?_
  refine V_alen (q := 9) (by decide) (by omega) rfl dX4_push_8 rfl ?_
  refine V_icmp_lt (tgt := 14) (q := 12) dX4_push_9 (by decide) rfl (fun c_9 => ?_) (fun c_9 => ?_)
  · refine V_aload_n (q := 15) dX4_push_14 rfl rfl ?_
    refine V_getR (q := 18) (n := 21) 2 0 kf_X4_11 (by decide) (by decide) rfl (by decide) dX4_push_15 rfl ?_
    refine V_aload_n (q := 19) dX4_push_18 rfl rfl ?_
    refine V_getI (q := 22) (n := 129) 2 1 kf_X4_28 (by decide) (by decide) rfl rfl dX4_push_19 rfl ?_
    refine V_iload_n (q := 23) dX4_push_22 rfl rfl ?_
    refine V_ist (q := 24) (s.2.1) 40 rfl (h40.mp c_9) (by decide) (by omega) (by decide) rfl (by decide) dX4_push_23 rfl ?_
    refine V_aload_n (q := 25) dX4_push_24 rfl rfl ?_
    refine V_dup (q := 26) dX4_push_25 rfl rfl ?_
    refine V_getI (q := 29) (n := 129) 2 1 kf_X4_28 (by decide) (by decide) rfl rfl dX4_push_26 rfl ?_
    refine V_iconst (q := 30) (v := 1) dX4_push_29 (by decide) rfl ?_
    refine V_iadd (q := 31) dX4_push_30 rfl ?_
    refine V_putI (q := 34) (n := 129) 2 1 kf_X4_28 (by decide) (by decide) rfl rfl dX4_push_31 rfl ?_
    refine V_iconst (q := 35) (v := 1) dX4_push_34 (by decide) rfl ?_
    exact V_iret hκ rfl rfl dX4_push_35 (by have k := h40.mp c_9; simp only [rPush, if_pos k]; exact ⟨rfl, (congrArg (upd (rF F s) 129) (nI_1 s.2.1)).trans rF_h, rA_p⟩)
  · refine V_iconst (q := 13) (v := 0) dX4_push_12 (by decide) rfl ?_
    exact V_iret hκ rfl rfl dX4_push_13 (by have k : ¬ s.2.1 < 40 := fun h => c_9 (h40.mpr h); simp only [rPush, if_neg k]; exact vEq.rf)
theorem tX4_readFigure {F : vFt} {Ar : vAt} {x : vXt} {v : Int32} {s : rS} (hh : s.2.1 ≤ 40) (hg : s.2.2 ≤ 40) : C0 mX4_readFigure 1 [.ref 2, .int v] (rF F s) (rA Ar s) x (vEq (some (.int (if (rFig v s).1 = true then 1 else 0))) (rF F (rFig v s).2) (rA Ar (rFig v s).2)) := by
  refine C0_of (by decide +kernel) (Nat.le_of_ble_eq_true rfl) (fun κ hκ => ?_)
  show V κ mX4_readFigure 0 [.ref 2, .int v] [] (rF F s) (rA Ar s) x
  refine V_aload_n (q := 1) dX4_readFigure_0 rfl rfl ?_
  refine V_dup (q := 2) dX4_readFigure_1 rfl rfl ?_
  refine V_getI (q := 5) (n := 130) 2 2 kf_X4_31 (by decide) (by decide) rfl rfl dX4_readFigure_2 rfl ?_
  refine V_iconst (q := 6) (v := 1) dX4_readFigure_5 (by decide) rfl ?_
  refine V_iadd (q := 7) dX4_readFigure_6 rfl ?_
  refine V_putI (q := 10) (n := 130) 2 2 kf_X4_31 (by decide) (by decide) rfl rfl dX4_readFigure_7 rfl ?_
  refine V_fl (rF F (s.1, s.2.1, s.2.2 + 1)) ((congrArg (upd (rF F s) 130) (nI_1 s.2.2)).trans rF_g) ?_
  have g1 : nI (s.2.2 + 1) = nI 1 ↔ s.2.2 + 1 = 1 := nI_eq (by omega) (by decide)
  have g4 : nI 4 < nI (s.2.2 + 1) ↔ 4 < s.2.2 + 1 := nI_ltI (by decide) (by omega)
  have h1 : nI 1 ≤ nI s.2.1 ↔ 1 ≤ s.2.1 := nI_leI (by decide) (by omega)
  refine V_aload_n (q := 11) dX4_readFigure_10 rfl rfl ?_
  refine V_getI (q := 14) (n := 130) 2 2 kf_X4_31 (by decide) (by decide) rfl rfl dX4_readFigure_11 rfl ?_
  refine V_iconst (q := 15) (v := 1) dX4_readFigure_14 (by decide) rfl ?_
  refine V_icmp_ne (tgt := 24) (q := 18) dX4_readFigure_15 (by decide) rfl (fun c_15 => ?_) (fun c_15 => ?_)
  · refine V_aload_n (q := 25) dX4_readFigure_24 rfl rfl ?_
    refine V_getI (q := 28) (n := 130) 2 2 kf_X4_31 (by decide) (by decide) rfl rfl dX4_readFigure_25 rfl ?_
    refine V_iconst (q := 29) (v := 4) dX4_readFigure_28 (by decide) rfl ?_
    refine V_icmp_gt (tgt := 40) (q := 32) dX4_readFigure_29 (by decide) rfl (fun c_29 => ?_) (fun c_29 => ?_)
    · refine V_iconst (q := 41) (v := 0) dX4_readFigure_40 (by decide) rfl ?_
      exact V_iret hκ rfl rfl dX4_readFigure_41 (by have k0 : ¬ s.2.2 = 0 := fun h => c_15 (g1.mpr (by omega)); simp only [rFig, if_neg k0, if_pos (show 4 < s.2.2 + 1 ∨ s.2.1 = 0 from Or.inl (g4.mp c_29))]; exact vEq.rf)
    · refine V_aload_n (q := 33) dX4_readFigure_32 rfl rfl ?_
      refine V_getI (q := 36) (n := 129) 2 1 kf_X4_28 (by decide) (by decide) rfl rfl dX4_readFigure_33 rfl ?_
      refine V_iconst (q := 37) (v := 1) dX4_readFigure_36 (by decide) rfl ?_
      refine V_icmp_ge (tgt := 42) (q := 40) dX4_readFigure_37 (by decide) rfl (fun c_37 => ?_) (fun c_37 => ?_)
      · refine V_aload_n (q := 43) dX4_readFigure_42 rfl rfl ?_
        refine V_getR (q := 46) (n := 21) 2 0 kf_X4_11 (by decide) (by decide) rfl (by decide) dX4_readFigure_43 rfl ?_
        refine V_aload_n (q := 47) dX4_readFigure_46 rfl rfl ?_
        refine V_getI (q := 50) (n := 129) 2 1 kf_X4_28 (by decide) (by decide) rfl rfl dX4_readFigure_47 rfl ?_
        refine V_iconst (q := 51) (v := 1) dX4_readFigure_50 (by decide) rfl ?_
        refine V_isub (q := 52) dX4_readFigure_51 rfl ?_
        refine V_aload_n (q := 53) dX4_readFigure_52 rfl rfl ?_
        refine V_getR (q := 56) (n := 21) 2 0 kf_X4_11 (by decide) (by decide) rfl (by decide) dX4_readFigure_53 rfl ?_
        refine V_aload_n (q := 57) dX4_readFigure_56 rfl rfl ?_
        refine V_getI (q := 60) (n := 129) 2 1 kf_X4_28 (by decide) (by decide) rfl rfl dX4_readFigure_57 rfl ?_
        refine V_iconst (q := 61) (v := 1) dX4_readFigure_60 (by decide) rfl ?_
        refine V_isub (q := 62) dX4_readFigure_61 rfl ?_
        refine V_ild (q := 63) (s.2.1 - 1) 40 (v_sub1 (h1.mp c_37)) (by have := h1.mp c_37; show s.2.1 - 1 < 40; omega) (by decide) (by omega) (by decide) rfl (by decide) dX4_readFigure_62 rfl ?_
        refine V_bipush (q := 65) (v := 10) dX4_readFigure_63 (by decide) rfl ?_
        refine V_imul (q := 66) dX4_readFigure_65 rfl ?_
        refine V_iload_n (q := 67) dX4_readFigure_66 rfl rfl ?_
        refine V_iadd (q := 68) dX4_readFigure_67 rfl ?_
        refine V_ist (q := 69) (s.2.1 - 1) 40 (v_sub1 (h1.mp c_37)) (by have := h1.mp c_37; show s.2.1 - 1 < 40; omega) (by decide) (by omega) (by decide) rfl (by decide) dX4_readFigure_68 rfl ?_
        refine V_iconst (q := 70) (v := 1) dX4_readFigure_69 (by decide) rfl ?_
        exact V_iret hκ rfl rfl dX4_readFigure_70 (by have k0 : ¬ s.2.2 = 0 := fun h => c_15 (g1.mpr (by omega)); have k1 : ¬ (4 < s.2.2 + 1 ∨ s.2.1 = 0) := fun h => h.elim (fun q => c_29 (g4.mpr q)) (fun q => by have := h1.mp c_37; omega); simp only [rFig, if_neg k0, if_neg k1]; exact ⟨rfl, rfl, rA_p⟩)
      · refine V_iconst (q := 41) (v := 0) dX4_readFigure_40 (by decide) rfl ?_
        exact V_iret hκ rfl rfl dX4_readFigure_41 (by have k0 : ¬ s.2.2 = 0 := fun h => c_15 (g1.mpr (by omega)); have k1 : s.2.1 = 0 := (by have : ¬ 1 ≤ s.2.1 := fun h => c_37 (h1.mpr h); omega); simp only [rFig, if_neg k0, if_pos (show 4 < s.2.2 + 1 ∨ s.2.1 = 0 from Or.inr k1)]; exact vEq.rf)
  · refine V_aload_n (q := 19) dX4_readFigure_18 rfl rfl ?_
    refine V_iload_n (q := 20) dX4_readFigure_19 rfl rfl ?_
    have k0 : s.2.2 = 0 := by have := g1.mp c_15; omega
    refine V_fl (rF F (s.1, s.2.1, 1)) (by rw [k0]) ?_
    refine V_cV1I (q := 23) (o := 2) (N := mX4_push) (tX4_push (s := (s.1, s.2.1, 1)) hh) hκ.big (by decide) gX4_push kl_X4_46 ki_X4_push ks_X4_push (by decide) rfl (Nat.le_of_ble_eq_true rfl) dX4_readFigure_20 rfl ?_
    exact V_iret hκ rfl (by split <;> rfl) dX4_readFigure_23 (by simp only [rFig, if_pos k0]; exact vEq.rf)
theorem tX4_liftToZero {F : vFt} {Ar : vAt} {x : vXt} {s : rS} (hh : s.2.1 ≤ 40) : C0 mX4_liftToZero 1 [.ref 2] (rF F s) (rA Ar s) x (vEq (some (.int (if (rLift s).1 = true then 1 else 0))) (rF F (rLift s).2) (rA Ar (rLift s).2)) := by
  refine C0_of (by decide +kernel) (Nat.le_of_ble_eq_true rfl) (fun κ hκ => ?_)
  show V κ mX4_liftToZero 0 [.ref 2] [] (rF F s) (rA Ar s) x
  have h1 : nI 1 ≤ nI s.2.1 ↔ 1 ≤ s.2.1 := nI_leI (by decide) (by omega)
  refine V_aload_n (q := 1) dX4_liftToZero_0 rfl rfl ?_
  refine V_getI (q := 4) (n := 129) 2 1 kf_X4_28 (by decide) (by decide) rfl rfl dX4_liftToZero_1 rfl ?_
  refine V_iconst (q := 5) (v := 1) dX4_liftToZero_4 (by decide) rfl ?_
  refine V_icmp_ge (tgt := 10) (q := 8) dX4_liftToZero_5 (by decide) rfl (fun c_5 => ?_) (fun c_5 => ?_)
  · refine V_aload_n (q := 11) dX4_liftToZero_10 rfl rfl ?_
    refine V_getR (q := 14) (n := 21) 2 0 kf_X4_11 (by decide) (by decide) rfl (by decide) dX4_liftToZero_11 rfl ?_
    refine V_aload_n (q := 15) dX4_liftToZero_14 rfl rfl ?_
    refine V_getI (q := 18) (n := 129) 2 1 kf_X4_28 (by decide) (by decide) rfl rfl dX4_liftToZero_15 rfl ?_
    refine V_iconst (q := 19) (v := 1) dX4_liftToZero_18 (by decide) rfl ?_
    refine V_isub (q := 20) dX4_liftToZero_19 rfl ?_
    refine V_aload_n (q := 21) dX4_liftToZero_20 rfl rfl ?_
    refine V_getR (q := 24) (n := 21) 2 0 kf_X4_11 (by decide) (by decide) rfl (by decide) dX4_liftToZero_21 rfl ?_
    refine V_aload_n (q := 25) dX4_liftToZero_24 rfl rfl ?_
    refine V_getI (q := 28) (n := 129) 2 1 kf_X4_28 (by decide) (by decide) rfl rfl dX4_liftToZero_25 rfl ?_
    refine V_iconst (q := 29) (v := 1) dX4_liftToZero_28 (by decide) rfl ?_
    refine V_isub (q := 30) dX4_liftToZero_29 rfl ?_
    refine V_ild (q := 31) (s.2.1 - 1) 40 (v_sub1 (h1.mp c_5)) (by have := h1.mp c_5; show s.2.1 - 1 < 40; omega) (by decide) (by omega) (by decide) rfl (by decide) dX4_liftToZero_30 rfl ?_
    refine V_iconst (q := 32) (v := 0) dX4_liftToZero_31 (by decide) rfl ?_
    refine V_max (q := 35) hκ.big (by decide) kl_X4_56 (Nat.le_of_ble_eq_true rfl) dX4_liftToZero_32 rfl ?_
    refine V_ist (q := 36) (s.2.1 - 1) 40 (v_sub1 (h1.mp c_5)) (by have := h1.mp c_5; show s.2.1 - 1 < 40; omega) (by decide) (by omega) (by decide) rfl (by decide) dX4_liftToZero_35 rfl ?_
    refine V_iconst (q := 37) (v := 1) dX4_liftToZero_36 (by decide) rfl ?_
    exact V_iret hκ rfl rfl dX4_liftToZero_37 (by have k : ¬ s.2.1 = 0 := (by have := h1.mp c_5; omega); simp only [rLift, if_neg k]; exact ⟨rfl, rfl, rA_p⟩)
  · refine V_iconst (q := 9) (v := 0) dX4_liftToZero_8 (by decide) rfl ?_
    exact V_iret hκ rfl rfl dX4_liftToZero_9 (by have k : s.2.1 = 0 := (by have : ¬ 1 ≤ s.2.1 := fun h => c_5 (h1.mpr h); omega); simp only [rLift, if_pos k]; exact vEq.rf)
theorem tX4_joinTwo {F : vFt} {Ar : vAt} {x : vXt} {c : Int32} {s : rS} (hh : s.2.1 ≤ 40) : C0 mX4_joinTwo 1 [.ref 2, .int c] (rF F s) (rA Ar s) x (vEq (some (.int (if (rJoin c s).1 = true then 1 else 0))) (rF F (rJoin c s).2) (rA Ar (rJoin c s).2)) := by
  refine C0_of (by decide +kernel) (Nat.le_of_ble_eq_true rfl) (fun κ hκ => ?_)
  show V κ mX4_joinTwo 0 [.ref 2, .int c] [] (rF F s) (rA Ar s) x
  have h2 : nI 2 ≤ nI s.2.1 ↔ 2 ≤ s.2.1 := nI_leI (by decide) (by omega)
  refine V_aload_n (q := 1) dX4_joinTwo_0 rfl rfl ?_
  refine V_getI (q := 4) (n := 129) 2 1 kf_X4_28 (by decide) (by decide) rfl rfl dX4_joinTwo_1 rfl ?_
  refine V_iconst (q := 5) (v := 2) dX4_joinTwo_4 (by decide) rfl ?_
  refine V_icmp_ge (tgt := 10) (q := 8) dX4_joinTwo_5 (by decide) rfl (fun c_5 => ?_) (fun c_5 => ?_)
  · refine V_aload_n (q := 11) dX4_joinTwo_10 rfl rfl ?_
    refine V_dup (q := 12) dX4_joinTwo_11 rfl rfl ?_
    refine V_getI (q := 15) (n := 129) 2 1 kf_X4_28 (by decide) (by decide) rfl rfl dX4_joinTwo_12 rfl ?_
    refine V_iconst (q := 16) (v := 1) dX4_joinTwo_15 (by decide) rfl ?_
    refine V_isub (q := 17) dX4_joinTwo_16 rfl ?_
    refine V_putI (q := 20) (n := 129) 2 1 kf_X4_28 (by decide) (by decide) rfl rfl dX4_joinTwo_17 rfl ?_
    have k := h2.mp c_5
    have e1 : nI (s.2.1 - 1) - 1 = nI (s.2.1 - 2) := v_sub1 (by omega)
    refine V_fl (rF F (s.1, s.2.1 - 1, s.2.2)) ((congrArg (upd (rF F s) 129) (v_sub1 (by omega : 0 < s.2.1))).trans rF_h) ?_
    refine V_aload_n (q := 21) dX4_joinTwo_20 rfl rfl ?_
    refine V_getR (q := 24) (n := 21) 2 0 kf_X4_11 (by decide) (by decide) rfl (by decide) dX4_joinTwo_21 rfl ?_
    refine V_aload_n (q := 25) dX4_joinTwo_24 rfl rfl ?_
    refine V_getI (q := 28) (n := 129) 2 1 kf_X4_28 (by decide) (by decide) rfl rfl dX4_joinTwo_25 rfl ?_
    refine V_iconst (q := 29) (v := 1) dX4_joinTwo_28 (by decide) rfl ?_
    refine V_isub (q := 30) dX4_joinTwo_29 rfl ?_
    refine V_iload_n (q := 31) dX4_joinTwo_30 rfl rfl ?_
    refine V_aload_n (q := 32) dX4_joinTwo_31 rfl rfl ?_
    refine V_getR (q := 35) (n := 21) 2 0 kf_X4_11 (by decide) (by decide) rfl (by decide) dX4_joinTwo_32 rfl ?_
    refine V_aload_n (q := 36) dX4_joinTwo_35 rfl rfl ?_
    refine V_getI (q := 39) (n := 129) 2 1 kf_X4_28 (by decide) (by decide) rfl rfl dX4_joinTwo_36 rfl ?_
    refine V_iconst (q := 40) (v := 1) dX4_joinTwo_39 (by decide) rfl ?_
    refine V_isub (q := 41) dX4_joinTwo_40 rfl ?_
    refine V_ild (q := 42) (s.2.1 - 2) 40 e1 (by show s.2.1 - 2 < 40; omega) (by decide) (by omega) (by decide) rfl (by decide) dX4_joinTwo_41 rfl ?_
    refine V_i2l (q := 43) dX4_joinTwo_42 rfl ?_
    refine V_aload_n (q := 44) dX4_joinTwo_43 rfl rfl ?_
    refine V_getR (q := 47) (n := 21) 2 0 kf_X4_11 (by decide) (by decide) rfl (by decide) dX4_joinTwo_44 rfl ?_
    refine V_aload_n (q := 48) dX4_joinTwo_47 rfl rfl ?_
    refine V_getI (q := 51) (n := 129) 2 1 kf_X4_28 (by decide) (by decide) rfl rfl dX4_joinTwo_48 rfl ?_
    refine V_ild (q := 52) (s.2.1 - 1) 40 rfl (by show s.2.1 - 1 < 40; omega) (by decide) (by omega) (by decide) rfl (by decide) dX4_joinTwo_51 rfl ?_
    refine V_i2l (q := 53) dX4_joinTwo_52 rfl ?_
    refine V_cS3L (q := 56) (N := mX4_joined) tX4_joined hκ.big (by decide) gX4_joined kl_X4_62 kt_X4_joined (Nat.le_of_ble_eq_true rfl) dX4_joinTwo_53 rfl ?_
    refine V_cS1I (q := 59) (N := mX4_bounded) tX4_bounded hκ.big (by decide) gX4_bounded kl_X4_66 kt_X4_bounded (Nat.le_of_ble_eq_true rfl) dX4_joinTwo_56 rfl ?_
    refine V_ist (q := 60) (s.2.1 - 2) 40 e1 (by show s.2.1 - 2 < 40; omega) (by decide) (by omega) (by decide) rfl (by decide) dX4_joinTwo_59 rfl ?_
    refine V_iconst (q := 61) (v := 1) dX4_joinTwo_60 (by decide) rfl ?_
    exact V_iret hκ rfl rfl dX4_joinTwo_61 (by simp only [rJoin, if_neg (show ¬ s.2.1 < 2 by omega)]; exact ⟨rfl, rfl, rA_p⟩)
  · refine V_iconst (q := 9) (v := 0) dX4_joinTwo_8 (by decide) rfl ?_
    exact V_iret hκ rfl rfl dX4_joinTwo_9 (by have k : s.2.1 < 2 := (by have : ¬ 2 ≤ s.2.1 := fun h => c_5 (h2.mpr h); omega); simp only [rJoin, if_pos k]; exact vEq.rf)
end
section
def rStep (l b d r c : Int32) (s : rS) : Bool × rS := if 48 ≤ c ∧ c ≤ 57 then rFig (c - 48) s
  else if c = 32 then (true, s.1, s.2.1, 0)
  else if c = 33 then rLift (s.1, s.2.1, 0)
  else if c = 42 ∨ c = 43 ∨ c = 45 ∨ c = 47 then rJoin c (s.1, s.2.1, 0)
  else if c = 98 then rPush b (s.1, s.2.1, 0)
  else if c = 100 then rPush d (s.1, s.2.1, 0)
  else if c = 108 then rPush l (s.1, s.2.1, 0)
  else if c = 114 then rPush r (s.1, s.2.1, 0)
  else (false, s.1, s.2.1, 0)
theorem rPush_le {v : Int32} {s : rS} : (rPush v s).2.2.1 ≤ s.2.1 + 1 ∧ (rPush v s).2.2.2 ≤ s.2.2 := by
  unfold rPush
  split
  · exact ⟨Nat.le_refl _, Nat.le_refl _⟩
  · exact ⟨Nat.le_succ _, Nat.le_refl _⟩
theorem rStep_le {l b d r c : Int32} {s : rS} : (rStep l b d r c s).2.2.1 ≤ s.2.1 + 1 ∧ (rStep l b d r c s).2.2.2 ≤ s.2.2 + 1 := by
  have hP : ∀ v g, (rPush v (s.1, s.2.1, g)).2.2.1 ≤ s.2.1 + 1 ∧ (rPush v (s.1, s.2.1, g)).2.2.2 ≤ g := fun v g => rPush_le
  unfold rStep
  split
  · unfold rFig
    split
    · have := hP (c - 48) 1
      exact ⟨this.1, by omega⟩
    · split
      · exact ⟨Nat.le_succ _, Nat.le_refl _⟩
      · exact ⟨Nat.le_succ _, Nat.le_refl _⟩
  · split
    · exact ⟨Nat.le_succ _, Nat.zero_le _⟩
    · split
      · unfold rLift
        split <;> exact ⟨Nat.le_succ _, Nat.zero_le _⟩
      · split
        · unfold rJoin
          split
          · exact ⟨Nat.le_succ _, Nat.zero_le _⟩
          · refine ⟨?_, Nat.zero_le _⟩
            show s.2.1 - 1 ≤ s.2.1 + 1
            omega
        · split
          · have := hP b 0; exact ⟨this.1, by omega⟩
          · split
            · have := hP d 0; exact ⟨this.1, by omega⟩
            · split
              · have := hP l 0; exact ⟨this.1, by omega⟩
              · split
                · have := hP r 0; exact ⟨this.1, by omega⟩
                · exact ⟨Nat.le_succ _, Nat.zero_le _⟩
theorem tX4_read {F : vFt} {Ar : vAt} {x : vXt} {c : Int32} {s : rS} (hh : s.2.1 ≤ 40) (hg : s.2.2 ≤ 40) : C0 mX4_read 2 [.ref 2, .int c] (rF F s) (rA Ar s) x (vEq (some (.int (if (rStep (F 131) (F 132) (F 133) (F 134) c s).1 = true then 1 else 0))) (rF F (rStep (F 131) (F 132) (F 133) (F 134) c s).2) (rA Ar (rStep (F 131) (F 132) (F 133) (F 134) c s).2)) := by
  refine C0_of (by decide +kernel) (Nat.le_of_ble_eq_true rfl) (fun κ hκ => ?_)
  show V κ mX4_read 0 [.ref 2, .int c] [] (rF F s) (rA Ar s) x
  refine V_iload_n (q := 1) dX4_read_0 rfl rfl ?_
  refine V_bipush (q := 3) (v := 48) dX4_read_1 (by decide) rfl ?_
  refine V_bipush (q := 5) (v := 57) dX4_read_3 (by decide) rfl ?_
  refine V_cSN3I (q := 8) (N := mX5_isWithin) tX5_isWithin hκ.big (by decide) gX5_isWithin (by decide +kernel) kt_X5_isWithin (Nat.le_of_ble_eq_true rfl) dX4_read_5 rfl ?_
  refine V_if_eq (tgt := 20) (q := 11) dX4_read_8 (by decide) rfl (fun c_8 => ?_) (fun c_8 => ?_)
  · refine V_aload_n (q := 21) dX4_read_20 rfl rfl ?_
    refine V_iconst (q := 22) (v := 0) dX4_read_21 (by decide) rfl ?_
    refine V_putI (q := 25) (n := 130) 2 2 kf_X4_31 (by decide) (by decide) rfl rfl dX4_read_22 rfl ?_
    refine V_fl (rF F (s.1, s.2.1, 0)) (rF_g (g := 0)) ?_
    refine V_ar (rA Ar (s.1, s.2.1, 0)) rfl ?_
    refine V_iload_n (q := 26) dX4_read_25 rfl rfl ?_
    by_cases e_26_32 : c = 32
    · refine V_lookup (q := 116) (off := 90) dX4_read_26 (by decide) (by rw [e_26_32]; decide) (by decide) ?_
      refine V_iconst (q := 117) (v := 1) dX4_read_116 (by decide) rfl ?_
      exact V_iret hκ rfl rfl dX4_read_117 (by simp only [rStep, if_neg (vB_0.mp c_8), if_pos e_26_32]; exact vEq.rf)
    by_cases e_26_33 : c = 33
    · refine V_lookup (q := 154) (off := 128) dX4_read_26 (by decide) (by rw [e_26_33]; decide) (by decide) ?_
      refine V_aload_n (q := 155) dX4_read_154 rfl rfl ?_
      refine V_cV0I (q := 158) (o := 2) (N := mX4_liftToZero) (tX4_liftToZero (s := (s.1, s.2.1, 0)) hh) hκ.big (by decide) gX4_liftToZero kl_X4_49 ki_X4_liftToZero ks_X4_liftToZero (by decide) rfl (Nat.le_of_ble_eq_true rfl) dX4_read_155 rfl ?_
      exact V_iret hκ rfl (by split <;> rfl) dX4_read_158 (by simp only [rStep, if_neg (vB_0.mp c_8), if_neg e_26_32, if_pos e_26_33]; exact vEq.rf)
    by_cases e_26_42 : c = 42
    · refine V_lookup (q := 159) (off := 133) dX4_read_26 (by decide) (by rw [e_26_42]; decide) (by decide) ?_
      refine V_aload_n (q := 160) dX4_read_159 rfl rfl ?_
      refine V_iload_n (q := 161) dX4_read_160 rfl rfl ?_
      refine V_cV1I (q := 164) (o := 2) (N := mX4_joinTwo) (tX4_joinTwo (s := (s.1, s.2.1, 0)) hh) hκ.big (by decide) gX4_joinTwo kl_X4_53 ki_X4_joinTwo ks_X4_joinTwo (by decide) rfl (Nat.le_of_ble_eq_true rfl) dX4_read_161 rfl ?_
      exact V_iret hκ rfl (by split <;> rfl) dX4_read_164 (by have hj : c = 42 ∨ c = 43 ∨ c = 45 ∨ c = 47 := Or.inl e_26_42; simp only [rStep, if_neg (vB_0.mp c_8), if_neg e_26_32, if_neg e_26_33, if_pos hj]; exact vEq.rf)
    by_cases e_26_43 : c = 43
    · refine V_lookup (q := 159) (off := 133) dX4_read_26 (by decide) (by rw [e_26_43]; decide) (by decide) ?_
      refine V_aload_n (q := 160) dX4_read_159 rfl rfl ?_
      refine V_iload_n (q := 161) dX4_read_160 rfl rfl ?_
      refine V_cV1I (q := 164) (o := 2) (N := mX4_joinTwo) (tX4_joinTwo (s := (s.1, s.2.1, 0)) hh) hκ.big (by decide) gX4_joinTwo kl_X4_53 ki_X4_joinTwo ks_X4_joinTwo (by decide) rfl (Nat.le_of_ble_eq_true rfl) dX4_read_161 rfl ?_
      exact V_iret hκ rfl (by split <;> rfl) dX4_read_164 (by have hj : c = 42 ∨ c = 43 ∨ c = 45 ∨ c = 47 := Or.inr (Or.inl e_26_43); simp only [rStep, if_neg (vB_0.mp c_8), if_neg e_26_32, if_neg e_26_33, if_pos hj]; exact vEq.rf)
    by_cases e_26_45 : c = 45
    · refine V_lookup (q := 159) (off := 133) dX4_read_26 (by decide) (by rw [e_26_45]; decide) (by decide) ?_
      refine V_aload_n (q := 160) dX4_read_159 rfl rfl ?_
      refine V_iload_n (q := 161) dX4_read_160 rfl rfl ?_
      refine V_cV1I (q := 164) (o := 2) (N := mX4_joinTwo) (tX4_joinTwo (s := (s.1, s.2.1, 0)) hh) hκ.big (by decide) gX4_joinTwo kl_X4_53 ki_X4_joinTwo ks_X4_joinTwo (by decide) rfl (Nat.le_of_ble_eq_true rfl) dX4_read_161 rfl ?_
      exact V_iret hκ rfl (by split <;> rfl) dX4_read_164 (by have hj : c = 42 ∨ c = 43 ∨ c = 45 ∨ c = 47 := Or.inr (Or.inr (Or.inl e_26_45)); simp only [rStep, if_neg (vB_0.mp c_8), if_neg e_26_32, if_neg e_26_33, if_pos hj]; exact vEq.rf)
    by_cases e_26_47 : c = 47
    · refine V_lookup (q := 159) (off := 133) dX4_read_26 (by decide) (by rw [e_26_47]; decide) (by decide) ?_
      refine V_aload_n (q := 160) dX4_read_159 rfl rfl ?_
      refine V_iload_n (q := 161) dX4_read_160 rfl rfl ?_
      refine V_cV1I (q := 164) (o := 2) (N := mX4_joinTwo) (tX4_joinTwo (s := (s.1, s.2.1, 0)) hh) hκ.big (by decide) gX4_joinTwo kl_X4_53 ki_X4_joinTwo ks_X4_joinTwo (by decide) rfl (Nat.le_of_ble_eq_true rfl) dX4_read_161 rfl ?_
      exact V_iret hκ rfl (by split <;> rfl) dX4_read_164 (by have hj : c = 42 ∨ c = 43 ∨ c = 45 ∨ c = 47 := Or.inr (Or.inr (Or.inr e_26_47)); simp only [rStep, if_neg (vB_0.mp c_8), if_neg e_26_32, if_neg e_26_33, if_pos hj]; exact vEq.rf)
    by_cases e_26_98 : c = 98
    · refine V_lookup (q := 127) (off := 101) dX4_read_26 (by decide) (by rw [e_26_98]; decide) (by decide) ?_
      refine V_aload_n (q := 128) dX4_read_127 rfl rfl ?_
      refine V_aload_n (q := 129) dX4_read_128 rfl rfl ?_
      refine V_getI (q := 132) (n := 132) 2 4 kf_X4_19 (by decide) (by decide) rfl rfl dX4_read_129 rfl ?_
      refine V_cV1I (q := 135) (o := 2) (N := mX4_push) (tX4_push (s := (s.1, s.2.1, 0)) hh) hκ.big (by decide) gX4_push kl_X4_46 ki_X4_push ks_X4_push (by decide) rfl (Nat.le_of_ble_eq_true rfl) dX4_read_132 rfl ?_
      exact V_iret hκ rfl (by split <;> rfl) dX4_read_135 (by have hj : ¬ (c = 42 ∨ c = 43 ∨ c = 45 ∨ c = 47) := fun h => h.elim e_26_42 (fun h => h.elim e_26_43 (fun h => h.elim e_26_45 e_26_47)); simp only [rStep, if_neg (vB_0.mp c_8), if_neg hj, if_neg e_26_32, if_neg e_26_33, if_pos e_26_98]; exact vEq.rf)
    by_cases e_26_100 : c = 100
    · refine V_lookup (q := 136) (off := 110) dX4_read_26 (by decide) (by rw [e_26_100]; decide) (by decide) ?_
      refine V_aload_n (q := 137) dX4_read_136 rfl rfl ?_
      refine V_aload_n (q := 138) dX4_read_137 rfl rfl ?_
      refine V_getI (q := 141) (n := 133) 2 5 kf_X4_22 (by decide) (by decide) rfl rfl dX4_read_138 rfl ?_
      refine V_cV1I (q := 144) (o := 2) (N := mX4_push) (tX4_push (s := (s.1, s.2.1, 0)) hh) hκ.big (by decide) gX4_push kl_X4_46 ki_X4_push ks_X4_push (by decide) rfl (Nat.le_of_ble_eq_true rfl) dX4_read_141 rfl ?_
      exact V_iret hκ rfl (by split <;> rfl) dX4_read_144 (by have hj : ¬ (c = 42 ∨ c = 43 ∨ c = 45 ∨ c = 47) := fun h => h.elim e_26_42 (fun h => h.elim e_26_43 (fun h => h.elim e_26_45 e_26_47)); simp only [rStep, if_neg (vB_0.mp c_8), if_neg hj, if_neg e_26_32, if_neg e_26_33, if_neg e_26_98, if_pos e_26_100]; exact vEq.rf)
    by_cases e_26_108 : c = 108
    · refine V_lookup (q := 118) (off := 92) dX4_read_26 (by decide) (by rw [e_26_108]; decide) (by decide) ?_
      refine V_aload_n (q := 119) dX4_read_118 rfl rfl ?_
      refine V_aload_n (q := 120) dX4_read_119 rfl rfl ?_
      refine V_getI (q := 123) (n := 131) 2 3 kf_X4_15 (by decide) (by decide) rfl rfl dX4_read_120 rfl ?_
      refine V_cV1I (q := 126) (o := 2) (N := mX4_push) (tX4_push (s := (s.1, s.2.1, 0)) hh) hκ.big (by decide) gX4_push kl_X4_46 ki_X4_push ks_X4_push (by decide) rfl (Nat.le_of_ble_eq_true rfl) dX4_read_123 rfl ?_
      exact V_iret hκ rfl (by split <;> rfl) dX4_read_126 (by have hj : ¬ (c = 42 ∨ c = 43 ∨ c = 45 ∨ c = 47) := fun h => h.elim e_26_42 (fun h => h.elim e_26_43 (fun h => h.elim e_26_45 e_26_47)); simp only [rStep, if_neg (vB_0.mp c_8), if_neg hj, if_neg e_26_32, if_neg e_26_33, if_neg e_26_98, if_neg e_26_100, if_pos e_26_108]; exact vEq.rf)
    by_cases e_26_114 : c = 114
    · refine V_lookup (q := 145) (off := 119) dX4_read_26 (by decide) (by rw [e_26_114]; decide) (by decide) ?_
      refine V_aload_n (q := 146) dX4_read_145 rfl rfl ?_
      refine V_aload_n (q := 147) dX4_read_146 rfl rfl ?_
      refine V_getI (q := 150) (n := 134) 2 6 kf_X4_25 (by decide) (by decide) rfl rfl dX4_read_147 rfl ?_
      refine V_cV1I (q := 153) (o := 2) (N := mX4_push) (tX4_push (s := (s.1, s.2.1, 0)) hh) hκ.big (by decide) gX4_push kl_X4_46 ki_X4_push ks_X4_push (by decide) rfl (Nat.le_of_ble_eq_true rfl) dX4_read_150 rfl ?_
      exact V_iret hκ rfl (by split <;> rfl) dX4_read_153 (by have hj : ¬ (c = 42 ∨ c = 43 ∨ c = 45 ∨ c = 47) := fun h => h.elim e_26_42 (fun h => h.elim e_26_43 (fun h => h.elim e_26_45 e_26_47)); simp only [rStep, if_neg (vB_0.mp c_8), if_neg hj, if_neg e_26_32, if_neg e_26_33, if_neg e_26_98, if_neg e_26_100, if_neg e_26_108, if_pos e_26_114]; exact vEq.rf)
    refine V_lookup (q := 165) (off := 139) dX4_read_26 (by decide) (by show Op.lookupswitch.offset [(32, 90), (33, 128), (42, 133), (43, 133), (45, 133), (47, 133), (98, 101), (100, 110), (108, 92), (114, 119)] 139 _ = _; rw [lv_osw e_26_32 (by decide), lv_osw e_26_33 (by decide), lv_osw e_26_42 (by decide), lv_osw e_26_43 (by decide), lv_osw e_26_45 (by decide), lv_osw e_26_47 (by decide), lv_osw e_26_98 (by decide), lv_osw e_26_100 (by decide), lv_osw e_26_108 (by decide), lv_osw e_26_114 (by decide)]; rfl) (by decide) ?_
    refine V_iconst (q := 166) (v := 0) dX4_read_165 (by decide) rfl ?_
    exact V_iret hκ rfl rfl dX4_read_166 (by have hj : ¬ (c = 42 ∨ c = 43 ∨ c = 45 ∨ c = 47) := fun h => h.elim e_26_42 (fun h => h.elim e_26_43 (fun h => h.elim e_26_45 e_26_47)); simp only [rStep, if_neg (vB_0.mp c_8), if_neg hj, if_neg e_26_32, if_neg e_26_33, if_neg e_26_98, if_neg e_26_100, if_neg e_26_108, if_neg e_26_114]; exact vEq.rf)
  · refine V_aload_n (q := 12) dX4_read_11 rfl rfl ?_
    refine V_iload_n (q := 13) dX4_read_12 rfl rfl ?_
    refine V_bipush (q := 15) (v := 48) dX4_read_13 (by decide) rfl ?_
    refine V_isub (q := 16) dX4_read_15 rfl ?_
    refine V_cV1I (q := 19) (o := 2) (N := mX4_readFigure) (tX4_readFigure hh hg) hκ.big (by decide) gX4_readFigure kl_X4_43 ki_X4_readFigure ks_X4_readFigure (by decide) rfl (Nat.le_of_ble_eq_true rfl) dX4_read_16 rfl ?_
    exact V_iret hκ rfl (by split <;> rfl) dX4_read_19 (by simp only [rStep, if_pos (vB_n0.mp c_8)]; exact vEq.rf)
def rRun (l b d r : Int32) (t : Nat → Int32) : Nat → Nat → rS → Option rS
  | 0, _, s => some s
  | m + 1, i, s => if t i = 0 then some s else if (rStep l b d r (t i) s).1 = true then rRun l b d r t m (i + 1) (rStep l b d r (t i) s).2 else none
def rVal (o : Option rS) : Int32 := match o with
  | some s => if s.2.1 = 1 then s.1 0 else -10000000
  | none => -10000000
def rkQ (v : Int32) (F : vFt) (Ar : vAt) : Option Value → vFt → vAt → Prop := fun r F' Ar' => r = some (.int v) ∧ ∃ s : rS, F' = rF F s ∧ Ar' = rA Ar s
theorem st_reckon {F : vFt} {Ar : vAt} {x : vXt} {a : Nat} {κ : vK} (hκ : vStd κ 3 x (rkQ (rVal (rRun (F 131) (F 132) (F 133) (F 134) (Ar a) 40 0 (Ar 21, 0, 0))) F Ar)) (h9 : 9 ≤ a) (ha : a < 66 + x.1) (ht : vTyA a = 0) (hn : vLen a = 40) (h21 : a ≠ 21) (s : rS) (hs : s.2.1 ≤ 40) (l4 l5 : Value) (hv : (rVal (rRun (F 131) (F 132) (F 133) (F 134) (Ar a) 40 0 (Ar 21, 0, 0))) = rVal (some s)) : V κ mX4_reckon 56 [.ref 2, .ref a, .ref a, .int (nI 40), l4, l5] [] (rF F s) (rA Ar s) x := by
  have h1 : nI s.2.1 = nI 1 ↔ s.2.1 = 1 := nI_eq (by omega) (by decide)
  refine V_aload_n (q := 57) dX4_reckon_56 rfl rfl ?_
  refine V_getI (q := 60) (n := 129) 2 1 kf_X4_28 (by decide) (by decide) rfl rfl dX4_reckon_57 rfl ?_
  refine V_iconst (q := 61) (v := 1) dX4_reckon_60 (by decide) rfl ?_
  refine V_icmp_ne (tgt := 73) (q := 64) dX4_reckon_61 (by decide) rfl (fun c_61 => ?_) (fun c_61 => ?_)
  · refine V_ldc (q := 75) dX4_reckon_73 kc_X4_38 rfl ?_
    exact V_iret hκ rfl rfl dX4_reckon_75 ⟨by rw [hv]; unfold rVal; simp only [if_neg (fun h => c_61 (h1.mpr h))], s, rfl, rfl⟩
  · refine V_aload_n (q := 65) dX4_reckon_64 rfl rfl ?_
    refine V_getR (q := 68) (n := 21) 2 0 kf_X4_11 (by decide) (by decide) rfl (by decide) dX4_reckon_65 rfl ?_
    refine V_iconst (q := 69) (v := 0) dX4_reckon_68 (by decide) rfl ?_
    refine V_ild (q := 70) (0) 40 rfl (by decide) (by decide) (by omega) (by decide) rfl (by decide) dX4_reckon_69 rfl ?_
    refine V_goto (q := 75) dX4_reckon_70 (by decide) ?_
    exact V_iret hκ rfl rfl dX4_reckon_75 ⟨by rw [hv]; unfold rVal; simp only [if_pos (h1.mp c_61)]; rfl, s, rfl, rfl⟩
theorem lp_reckon {F : vFt} {Ar : vAt} {x : vXt} {a : Nat} {κ : vK} (hκ : vStd κ 3 x (rkQ (rVal (rRun (F 131) (F 132) (F 133) (F 134) (Ar a) 40 0 (Ar 21, 0, 0))) F Ar)) (h9 : 9 ≤ a) (ha : a < 66 + x.1) (ht : vTyA a = 0) (hn : vLen a = 40) (h21 : a ≠ 21) : ∀ m i (s : rS) (l5 : Value), i + m = 40 → s.2.1 ≤ i → s.2.2 ≤ i → (rVal (rRun (F 131) (F 132) (F 133) (F 134) (Ar a) 40 0 (Ar 21, 0, 0))) = rVal (rRun (F 131) (F 132) (F 133) (F 134) (Ar a) m i s) → V κ mX4_reckon 18 [.ref 2, .ref a, .ref a, .int (nI 40), .int (nI i), l5] [] (rF F s) (rA Ar s) x := by
  intro m
  induction m with
  | zero =>
    intro i s l5 hi h1 h2 hv
    obtain rfl : i = 40 := by omega
    refine V_iload (q := 20) dX4_reckon_18 rfl rfl ?_
    refine V_iload_n (q := 21) dX4_reckon_20 rfl rfl ?_
    refine V_icmp_ge (tgt := 56) (q := 24) dX4_reckon_21 (by decide) rfl (fun c_21 => ?_) (fun c_21 => absurd c_21 (v_gt (i := 40) (n := 40) (by decide) (by decide) (Nat.le_refl _)))
    exact st_reckon hκ h9 ha ht hn h21 s h1 _ _ hv
  | succ m ih =>
    intro i s l5 hi h1 h2 hv
    have hra : rA Ar s a = Ar a := vS_ne h21
    have hle := rStep_le (l := F 131) (b := F 132) (d := F 133) (r := F 134) (c := Ar a i) (s := s)
    refine V_iload (q := 20) dX4_reckon_18 rfl rfl ?_
    refine V_iload_n (q := 21) dX4_reckon_20 rfl rfl ?_
    refine V_icmp_ge (tgt := 56) (q := 24) dX4_reckon_21 (by decide) rfl (fun c_21 => absurd c_21 (v_gf (n := 40) (by omega) (by decide) (by omega))) (fun c_21 => ?_)
    refine V_aload_n (q := 25) dX4_reckon_24 rfl rfl ?_
    refine V_iload (q := 27) dX4_reckon_25 rfl rfl ?_
    refine V_ild (q := 28) (i) 40 rfl (by omega) h9 ha ht hn (by decide) dX4_reckon_27 rfl ?_
    rw [hra]
    refine V_istore (q := 30) dX4_reckon_28 (Nat.le_of_ble_eq_true rfl) rfl rfl ?_
    refine V_iload (q := 32) dX4_reckon_30 rfl rfl ?_
    refine V_if_ne (tgt := 38) (q := 35) dX4_reckon_32 (by decide) rfl (fun c_32 => ?_) (fun c_32 => ?_)
    · have k0 : ¬ Ar a i = 0 := c_32
      refine V_aload_n (q := 39) dX4_reckon_38 rfl rfl ?_
      refine V_iload (q := 41) dX4_reckon_39 rfl rfl ?_
      refine V_cV1I (q := 44) (o := 2) (N := mX4_read) (tX4_read (c := Ar a i) (s := s) (by omega) (by omega)) hκ.big (by decide) gX4_read kl_X4_34 ki_X4_read ks_X4_read (by decide) rfl (Nat.le_of_ble_eq_true rfl) dX4_reckon_41 rfl ?_
      refine V_if_ne (tgt := 50) (q := 47) dX4_reckon_44 (by decide) rfl (fun c_44 => ?_) (fun c_44 => ?_)
      · refine V_iincN (q := 53) dX4_reckon_50 rfl (Nat.le_of_ble_eq_true rfl) rfl rfl ?_
        refine V_goto (q := 18) dX4_reckon_53 (by decide) ?_
        rw [vB_ite] at c_44
        exact ih (i + 1) _ _ (by omega) (by omega) (by omega) (by rw [hv, rRun, if_neg k0, if_pos (vB_n0.mp c_44)])
      · refine V_ldc (q := 49) dX4_reckon_47 kc_X4_38 rfl ?_
        exact V_iret hκ rfl rfl dX4_reckon_49 (by rw [vB_ite] at c_44; exact ⟨by rw [hv, rRun, if_neg k0, if_neg (vB_0.mp c_44)]; rfl, _, rfl, rfl⟩)
    · have k0 : Ar a i = 0 := c_32
      refine V_goto (q := 56) dX4_reckon_35 (by decide) ?_
      exact st_reckon hκ h9 ha ht hn h21 s (by omega) _ _ (by rw [hv, rRun, if_pos k0])
theorem tX4_reckon {F : vFt} {Ar : vAt} {x : vXt} {a : Nat} (h9 : 9 ≤ a) (ha : a < 66 + x.1) (ht : vTyA a = 0) (hn : vLen a = 40) (h21 : a ≠ 21) : C0 mX4_reckon 3 [.ref 2, .ref a] F Ar x (rkQ (rVal (rRun (F 131) (F 132) (F 133) (F 134) (Ar a) 40 0 (Ar 21, 0, 0))) F Ar) := by
  refine C0_of (by decide +kernel) (Nat.le_of_ble_eq_true rfl) (fun κ hκ => ?_)
  show V κ mX4_reckon 0 [.ref 2, .ref a, .null, .null, .null, .null] [] F Ar x
  refine V_aload_n (q := 1) dX4_reckon_0 rfl rfl ?_
  refine V_iconst (q := 2) (v := 0) dX4_reckon_1 (by decide) rfl ?_
  refine V_putI (q := 5) (n := 129) 2 1 kf_X4_28 (by decide) (by decide) rfl rfl dX4_reckon_2 rfl ?_
  refine V_aload_n (q := 6) dX4_reckon_5 rfl rfl ?_
  refine V_iconst (q := 7) (v := 0) dX4_reckon_6 (by decide) rfl ?_
  refine V_putI (q := 10) (n := 130) 2 2 kf_X4_31 (by decide) (by decide) rfl rfl dX4_reckon_7 rfl ?_
  refine V_aload_n (q := 11) dX4_reckon_10 rfl rfl ?_
  refine V_astore_n (q := 12) dX4_reckon_11 (Nat.le_of_ble_eq_true rfl) rfl rfl ?_
  refine V_aload_n (q := 13) dX4_reckon_12 rfl rfl ?_
  refine V_alen (q := 14) h9 ha hn dX4_reckon_13 rfl ?_
  refine V_istore_n (q := 15) dX4_reckon_14 (Nat.le_of_ble_eq_true rfl) rfl rfl ?_
  refine V_iconst (q := 16) (v := 0) dX4_reckon_15 (by decide) rfl ?_
  refine V_istore (q := 18) dX4_reckon_16 (Nat.le_of_ble_eq_true rfl) rfl rfl ?_
  refine V_ar (rA Ar (Ar 21, 0, 0)) (vS_self (Ar := Ar) (a := 21)).symm ?_
  exact lp_reckon hκ h9 ha ht hn h21 40 0 (Ar 21, 0, 0) .null rfl (Nat.le_refl 0) (Nat.le_refl 0) rfl
theorem tX4_setSizes {F : vFt} {Ar : vAt} {x : vXt} {l b d r : Int32}  : C0 mX4_setSizes 0 [.ref 2, .int l, .int b, .int d, .int r] F Ar x (vEq none (upd (upd (upd (upd F 131 l) 132 b) 133 d) 134 r) Ar) := by
  refine C0_of (by decide +kernel) (Nat.le_of_ble_eq_true rfl) (fun κ hκ => ?_)
  show V κ mX4_setSizes 0 [.ref 2, .int l, .int b, .int d, .int r] [] F Ar x
  refine V_aload_n (q := 1) dX4_setSizes_0 rfl rfl ?_
  refine V_iload_n (q := 2) dX4_setSizes_1 rfl rfl ?_
  refine V_putI (q := 5) (n := 131) 2 3 kf_X4_15 (by decide) (by decide) rfl rfl dX4_setSizes_2 rfl ?_
  refine V_aload_n (q := 6) dX4_setSizes_5 rfl rfl ?_
  refine V_iload_n (q := 7) dX4_setSizes_6 rfl rfl ?_
  refine V_putI (q := 10) (n := 132) 2 4 kf_X4_19 (by decide) (by decide) rfl rfl dX4_setSizes_7 rfl ?_
  refine V_aload_n (q := 11) dX4_setSizes_10 rfl rfl ?_
  refine V_iload_n (q := 12) dX4_setSizes_11 rfl rfl ?_
  refine V_putI (q := 15) (n := 133) 2 5 kf_X4_22 (by decide) (by decide) rfl rfl dX4_setSizes_12 rfl ?_
  refine V_aload_n (q := 16) dX4_setSizes_15 rfl rfl ?_
  refine V_iload (q := 18) dX4_setSizes_16 rfl rfl ?_
  refine V_putI (q := 21) (n := 134) 2 6 kf_X4_25 (by decide) (by decide) rfl rfl dX4_setSizes_18 rfl ?_
  exact V_vret hκ rfl dX4_setSizes_21 vEq.rf
end
section
/-- the byte of v at a place -/
def vByte (v : Int32) (n : Nat) : Int32 := (v >>> ((8 * nI n) &&& 31)) &&& 255
theorem byte_a1 : ∀ n, n < 4 → (((8 * nI n) &&& 31).toBitVec.smod 32).toNat = 8 * n := by decide +kernel
theorem byte_a2 : ∀ n, n < 4 → (((8 * nI n).toUInt32 &&& Int32.toUInt32 31).toBitVec % 32).toNat = 8 * n := by decide +kernel
theorem byte_eq (v : Int32) {n : Nat} (hn : n < 4) : ((v.toUInt32 >>> ((8 * nI n).toUInt32 &&& Int32.toUInt32 31)).toInt32 &&& 255) = vByte v n := by
  unfold vByte
  rw [pk_and _ 8 (by decide), pk_and _ 8 (by decide), pk_ushr v _ (8 * n) (byte_a2 n hn)]
  congr 1
  have h := pk_shr v ((8 * nI n) &&& 31) (8 * n) (byte_a1 n hn)
  have h1 : (v >>> ((8 * nI n) &&& 31)).toInt = (v >>> ((8 * nI n) &&& 31)).toBitVec.toInt := rfl
  have h2 : v.toInt = v.toBitVec.toInt := rfl
  rw [h1, h2, BitVec.toInt_eq_toNat_cond, BitVec.toInt_eq_toNat_cond, Int.shiftRight_eq_div_pow] at h
  have hb1 := (v >>> ((8 * nI n) &&& 31)).toBitVec.isLt
  have hb2 := v.toBitVec.isLt
  generalize (v >>> ((8 * nI n) &&& 31)).toBitVec.toNat = y at *
  generalize v.toBitVec.toNat = w at *
  match n, hn with
  | 0, _ => simp at h ⊢; split at h <;> split at h <;> omega
  | 1, _ => simp at h ⊢; split at h <;> split at h <;> omega
  | 2, _ => simp at h ⊢; split at h <;> split at h <;> omega
  | 3, _ => simp at h ⊢; split at h <;> split at h <;> omega
def nLetF (v : Int32) : Nat → Nat → Nat
  | 0, n => n
  | m + 1, n => if vByte v n = 0 then n else nLetF v m (n + 1)
/-- how many letters v has -/
def nLet (v : Int32) : Nat := nLetF v 4 0
theorem nLetF_le (v : Int32) : ∀ m n, nLetF v m n ≤ n + m := by
  intro m
  induction m with
  | zero => intro n; exact Nat.le_refl _
  | succ m ih =>
    intro n
    unfold nLetF
    split
    · omega
    · have := ih (n + 1)
      omega
theorem nLet_le (v : Int32) : nLet v ≤ 4 := nLetF_le v 4 0
/-- the letters of v come behind c others -/
def fdA (f : Nat → Int32) (c : Nat) (v : Int32) : Nat → Nat → Int32
  | 0 => f
  | i + 1 => upd (fdA f c v i) (c + i) (vByte v i)
theorem tX0_lettersFed {F : vFt} {Ar : vAt} {x : vXt}   : C0 mX0_lettersFed 0 [.ref 1] F Ar x (vEq (some (.int (F 65))) F Ar) := by
  refine C0_of (by decide +kernel) (Nat.le_of_ble_eq_true rfl) (fun κ hκ => ?_)
  show V κ mX0_lettersFed 0 [.ref 1] [] F Ar x
  refine V_aload_n (q := 1) dX0_lettersFed_0 rfl rfl ?_
  refine V_getI (q := 4) (n := 65) 1 1 kf_X0_41 (by decide) (by decide) rfl rfl dX0_lettersFed_1 rfl ?_
  exact V_iret hκ rfl rfl dX0_lettersFed_4 vEq.rf
theorem tX0_letterAt {F : vFt} {Ar : vAt} {x : vXt} {v : Int32} {n : Nat} (hn : n < 4) : C0 mX0_letterAt 0 [.int v, .int (nI n)] F Ar x (vEq (some (.int (vByte v n))) F Ar) := by
  refine C0_of (by decide +kernel) (Nat.le_of_ble_eq_true rfl) (fun κ hκ => ?_)
  show V κ mX0_letterAt 0 [.int v, .int (nI n)] [] F Ar x
  refine V_iload_n (q := 1) dX0_letterAt_0 rfl rfl ?_
  refine V_bipush (q := 3) (v := 8) dX0_letterAt_1 (by decide) rfl ?_
  refine V_iload_n (q := 4) dX0_letterAt_3 rfl rfl ?_
  refine V_imul (q := 5) dX0_letterAt_4 rfl ?_
  refine V_iushr (q := 6) dX0_letterAt_5 rfl ?_
  refine V_sipush (q := 9) (v := 255) dX0_letterAt_6 (by decide) rfl ?_
  refine V_iand (q := 10) dX0_letterAt_9 rfl ?_
  exact V_iret hκ rfl rfl dX0_letterAt_10 ⟨congrArg (fun z => some (Value.int z)) (byte_eq v hn), rfl, rfl⟩
theorem lp_X0_in {F : vFt} {Ar : vAt} {x : vXt} {v : Int32} {κ : vK} (hκ : vStd κ 1 x (vEq (some (.int (nI (nLet v)))) F Ar)) : ∀ m n, n + m = 4 → nLet v = nLetF v m n → V κ mX0_lettersIn 2 [.int v, .int (nI n)] [] F Ar x := by
  intro m
  induction m with
  | zero =>
    intro n hn hv
    obtain rfl : n = 4 := by omega
    refine V_iload_n (q := 3) dX0_lettersIn_2 rfl rfl ?_
    refine V_iconst (q := 4) (v := 4) dX0_lettersIn_3 (by decide) rfl ?_
    refine V_icmp_ge (tgt := 21) (q := 7) dX0_lettersIn_4 (by decide) rfl (fun c_4 => ?_) (fun c_4 => absurd c_4 (v_gt (i := 4) (n := 4) (by decide) (by decide) (Nat.le_refl _)))
    refine V_iload_n (q := 22) dX0_lettersIn_21 rfl rfl ?_
    exact V_iret hκ rfl rfl dX0_lettersIn_22 ⟨by rw [hv]; rfl, rfl, rfl⟩
  | succ m ih =>
    intro n hn hv
    refine V_iload_n (q := 3) dX0_lettersIn_2 rfl rfl ?_
    refine V_iconst (q := 4) (v := 4) dX0_lettersIn_3 (by decide) rfl ?_
    refine V_icmp_ge (tgt := 21) (q := 7) dX0_lettersIn_4 (by decide) rfl (fun c_4 => absurd c_4 (v_gf (n := 4) (by omega) (by decide) (by omega))) (fun c_4 => ?_)
    refine V_iload_n (q := 8) dX0_lettersIn_7 rfl rfl ?_
    refine V_iload_n (q := 9) dX0_lettersIn_8 rfl rfl ?_
    refine V_cS2I (q := 12) (N := mX0_letterAt) (tX0_letterAt (by omega)) hκ.big (by decide) gX0_letterAt kl_X0_48 kt_X0_letterAt (Nat.le_of_ble_eq_true rfl) dX0_lettersIn_9 rfl ?_
    refine V_if_eq (tgt := 21) (q := 15) dX0_lettersIn_12 (by decide) rfl (fun c_12 => ?_) (fun c_12 => ?_)
    · refine V_iload_n (q := 22) dX0_lettersIn_21 rfl rfl ?_
      exact V_iret hκ rfl rfl dX0_lettersIn_22 ⟨by rw [hv, nLetF, if_pos c_12], rfl, rfl⟩
    · refine V_iincN (q := 18) dX0_lettersIn_15 rfl (Nat.le_of_ble_eq_true rfl) rfl rfl ?_
      refine V_goto (q := 2) dX0_lettersIn_18 (by decide) ?_
      exact ih (n + 1) (by omega) (by rw [hv, nLetF, if_neg c_12])
theorem tX0_lettersIn {F : vFt} {Ar : vAt} {x : vXt} {v : Int32}  : C0 mX0_lettersIn 1 [.int v] F Ar x (vEq (some (.int (nI (nLet v)))) F Ar) := by
  refine C0_of (by decide +kernel) (Nat.le_of_ble_eq_true rfl) (fun κ hκ => ?_)
  show V κ mX0_lettersIn 0 [.int v, .null] [] F Ar x
  refine V_iconst (q := 1) (v := 0) dX0_lettersIn_0 (by decide) rfl ?_
  refine V_istore_n (q := 2) dX0_lettersIn_1 (Nat.le_of_ble_eq_true rfl) rfl rfl ?_
  exact lp_X0_in hκ 4 0 rfl rfl
theorem lp_X0_take {F : vFt} {Ar : vAt} {x : vXt} {v : Int32} {c : Nat} {κ : vK} (hκ : vStd κ 2 x (vEq (some (.int (if c + nLet v ≤ 40 then nI (c + nLet v) else -2))) (if c + nLet v ≤ 40 then upd F 65 (nI (c + nLet v)) else F) (if c + nLet v ≤ 40 then vS Ar 9 (fdA (Ar 9) c v (nLet v)) else Ar))) (hc : F 65 = nI c) (hc40 : c + nLet v ≤ 40) : ∀ k i, i + k = nLet v → V κ mX0_takeLetters 21 [.ref 1, .int v, .int (nI (nLet v)), .int (nI i)] [] F (vS Ar 9 (fdA (Ar 9) c v i)) x := by
  intro k
  induction k with
  | zero =>
    intro i hi
    have h4 := nLet_le v
    have hi2 : i = nLet v := by omega
    refine V_iload_n (q := 22) dX0_takeLetters_21 rfl rfl ?_
    refine V_iload_n (q := 23) dX0_takeLetters_22 rfl rfl ?_
    refine V_icmp_ge (tgt := 48) (q := 26) dX0_takeLetters_23 (by decide) rfl (fun c_23 => ?_) (fun c_23 => absurd c_23 (v_gt (by omega) (by omega) (by omega)))
    refine V_aload_n (q := 49) dX0_takeLetters_48 rfl rfl ?_
    refine V_dup (q := 50) dX0_takeLetters_49 rfl rfl ?_
    refine V_getI (q := 53) (n := 65) 1 1 kf_X0_41 (by decide) (by decide) rfl rfl dX0_takeLetters_50 rfl ?_
    refine V_iload_n (q := 54) dX0_takeLetters_53 rfl rfl ?_
    refine V_iadd (q := 55) dX0_takeLetters_54 rfl ?_
    refine V_putI (q := 58) (n := 65) 1 1 kf_X0_41 (by decide) (by decide) rfl rfl dX0_takeLetters_55 rfl ?_
    refine V_aload_n (q := 59) dX0_takeLetters_58 rfl rfl ?_
    refine V_getI (q := 62) (n := 65) 1 1 kf_X0_41 (by decide) (by decide) rfl rfl dX0_takeLetters_59 rfl ?_
    exact V_iret hκ rfl rfl dX0_takeLetters_62 (by simp only [if_pos hc40]; exact ⟨by show some (Value.int (F 65 + _)) = _; rw [hc, nI_add], by rw [hc, nI_add], by rw [hi2]⟩)
  | succ k ih =>
    intro i hi
    have h4 := nLet_le v
    refine V_iload_n (q := 22) dX0_takeLetters_21 rfl rfl ?_
    refine V_iload_n (q := 23) dX0_takeLetters_22 rfl rfl ?_
    refine V_icmp_ge (tgt := 48) (q := 26) dX0_takeLetters_23 (by decide) rfl (fun c_23 => absurd c_23 (v_gf (by omega) (by omega) (by omega))) (fun c_23 => ?_)
    refine V_aload_n (q := 27) dX0_takeLetters_26 rfl rfl ?_
    refine V_getR (q := 30) (n := 9) 1 0 kf_X0_13 (by decide) (by decide) rfl (by decide) dX0_takeLetters_27 rfl ?_
    refine V_aload_n (q := 31) dX0_takeLetters_30 rfl rfl ?_
    refine V_getI (q := 34) (n := 65) 1 1 kf_X0_41 (by decide) (by decide) rfl rfl dX0_takeLetters_31 rfl ?_
    refine V_iload_n (q := 35) dX0_takeLetters_34 rfl rfl ?_
    refine V_iadd (q := 36) dX0_takeLetters_35 rfl ?_
    refine V_iload_n (q := 37) dX0_takeLetters_36 rfl rfl ?_
    refine V_iload_n (q := 38) dX0_takeLetters_37 rfl rfl ?_
    refine V_cS2I (q := 41) (N := mX0_letterAt) (tX0_letterAt (by omega)) hκ.big (by decide) gX0_letterAt kl_X0_48 kt_X0_letterAt (Nat.le_of_ble_eq_true rfl) dX0_takeLetters_38 rfl ?_
    refine V_ist (q := 42) (c + i) 40 (by rw [hc, nI_add]) (by omega) (by decide) (by omega) (by decide) rfl (by decide) dX0_takeLetters_41 rfl ?_
    refine V_iincN (q := 45) dX0_takeLetters_42 rfl (Nat.le_of_ble_eq_true rfl) rfl rfl ?_
    refine V_goto (q := 21) dX0_takeLetters_45 (by decide) ?_
    refine V_ar (vS Ar 9 (fdA (Ar 9) c v (i + 1))) (by rw [vS_vS, vS_at]; rfl) ?_
    exact ih (i + 1) (by omega)
theorem tX0_takeLetters {F : vFt} {Ar : vAt} {x : vXt} {v : Int32} {c : Nat} (hc : F 65 = nI c) (hc4 : c ≤ 40) : C0 mX0_takeLetters 2 [.ref 1, .int v] F Ar x (vEq (some (.int (if c + nLet v ≤ 40 then nI (c + nLet v) else -2))) (if c + nLet v ≤ 40 then upd F 65 (nI (c + nLet v)) else F) (if c + nLet v ≤ 40 then vS Ar 9 (fdA (Ar 9) c v (nLet v)) else Ar)) := by
  refine C0_of (by decide +kernel) (Nat.le_of_ble_eq_true rfl) (fun κ hκ => ?_)
  show V κ mX0_takeLetters 0 [.ref 1, .int v, .null, .null] [] F Ar x
  refine V_iload_n (q := 1) dX0_takeLetters_0 rfl rfl ?_
  refine V_cS1I (q := 4) (N := mX0_lettersIn) tX0_lettersIn hκ.big (by decide) gX0_lettersIn kl_X0_44 kt_X0_lettersIn (Nat.le_of_ble_eq_true rfl) dX0_takeLetters_1 rfl ?_
  refine V_istore_n (q := 5) dX0_takeLetters_4 (Nat.le_of_ble_eq_true rfl) rfl rfl ?_
  refine V_aload_n (q := 6) dX0_takeLetters_5 rfl rfl ?_
  refine V_getI (q := 9) (n := 65) 1 1 kf_X0_41 (by decide) (by decide) rfl rfl dX0_takeLetters_6 rfl ?_
  refine V_iload_n (q := 10) dX0_takeLetters_9 rfl rfl ?_
  refine V_iadd (q := 11) dX0_takeLetters_10 rfl ?_
  have h4 := nLet_le v
  have h40 : nI (c + nLet v) ≤ nI 40 ↔ c + nLet v ≤ 40 := nI_leI (by omega) (by decide)
  refine V_top (nI (c + nLet v)) (by rw [hc, nI_add]) ?_
  refine V_bipush (q := 13) (v := 40) dX0_takeLetters_11 (by decide) rfl ?_
  refine V_icmp_le (tgt := 19) (q := 16) dX0_takeLetters_13 (by decide) rfl (fun c_13 => ?_) (fun c_13 => ?_)
  · refine V_iconst (q := 20) (v := 0) dX0_takeLetters_19 (by decide) rfl ?_
    refine V_istore_n (q := 21) dX0_takeLetters_20 (Nat.le_of_ble_eq_true rfl) rfl rfl ?_
    refine V_ar (vS Ar 9 (fdA (Ar 9) c v 0)) (vS_self (Ar := Ar) (a := 9)).symm ?_
    exact lp_X0_take hκ hc (h40.mp c_13) (nLet v) 0 (by omega)
  · refine V_bipush (q := 18) (v := (-2)) dX0_takeLetters_16 (by decide) rfl ?_
    exact V_iret hκ rfl rfl dX0_takeLetters_18 (by simp only [if_neg (fun h => c_13 (h40.mpr h) : ¬ c + nLet v ≤ 40)]; exact vEq.rf)
theorem tX0_dropLetters {F : vFt} {Ar : vAt} {x : vXt}   : C0 mX0_dropLetters 1 [.ref 1] F Ar x (vEq (some (.int (F 65))) (upd F 65 0) (vS Ar 9 (vFill (Ar 9) 40 0))) := by
  refine C0_of (by decide +kernel) (Nat.le_of_ble_eq_true rfl) (fun κ hκ => ?_)
  show V κ mX0_dropLetters 0 [.ref 1, .null] [] F Ar x
  refine V_aload_n (q := 1) dX0_dropLetters_0 rfl rfl ?_
  refine V_getI (q := 4) (n := 65) 1 1 kf_X0_41 (by decide) (by decide) rfl rfl dX0_dropLetters_1 rfl ?_
  refine V_istore_n (q := 5) dX0_dropLetters_4 (Nat.le_of_ble_eq_true rfl) rfl rfl ?_
  refine V_aload_n (q := 6) dX0_dropLetters_5 rfl rfl ?_
  refine V_getR (q := 9) (n := 9) 1 0 kf_X0_13 (by decide) (by decide) rfl (by decide) dX0_dropLetters_6 rfl ?_
  refine V_iconst (q := 10) (v := 0) dX0_dropLetters_9 (by decide) rfl ?_
  refine V_cS2U (q := 13) (N := mJ7_fill_53178) (tJ7_fill_53178 (n := 40) (by decide) (by omega) (by decide) rfl (by decide)) hκ.big (by decide) gJ7_fill_53178 kl_X0_52 kt_J7_fill_53178 (Nat.le_of_ble_eq_true rfl) dX0_dropLetters_10 rfl ?_
  refine V_aload_n (q := 14) dX0_dropLetters_13 rfl rfl ?_
  refine V_iconst (q := 15) (v := 0) dX0_dropLetters_14 (by decide) rfl ?_
  refine V_putI (q := 18) (n := 65) 1 1 kf_X0_41 (by decide) (by decide) rfl rfl dX0_dropLetters_15 rfl ?_
  refine V_iload_n (q := 19) dX0_dropLetters_18 rfl rfl ?_
  exact V_iret hκ rfl rfl dX0_dropLetters_19 vEq.rf
/-- the act in force: of the first i -/
def onD (dy : Nat → Int32) (day : Int32) : Nat → Option Nat
  | 0 => none
  | i + 1 => if dy i ≤ day then (match onD dy day i with
    | none => some i
    | some j => if dy j ≤ dy i then some i else some j) else onD dy day i
theorem onD_lt {dy : Nat → Int32} {day : Int32} : ∀ i j, onD dy day i = some j → j < i := by
  intro i
  induction i with
  | zero => intro j h; cases h
  | succ i ih =>
    intro j h
    unfold onD at h
    split at h
    · split at h
      · cases h; omega
      · rename_i j' hj
        have := ih j' hj
        split at h <;> (cases h; omega)
    · have := ih j h
      omega
def oI (o : Option Nat) : Int32 := match o with
  | none => -4
  | some j => nI j
theorem lp_X0_on {F : vFt} {Ar : vAt} {x : vXt} {n : Nat} {day : Int32} {κ : vK} (hκ : vStd κ 0 x (vEq (some (.int (oI (onD (Ar 15) day n)))) F Ar)) (hn : F 68 = nI n) (hn5 : n ≤ 5) : ∀ k i, i + k = n → V κ mX0_onDay 5 [.ref 1, .int day, .int (oI (onD (Ar 15) day i)), .int (nI i)] [] F Ar x := by
  intro k
  induction k with
  | zero =>
    intro i hi
    obtain rfl : i = n := by omega
    refine V_iload_n (q := 6) dX0_onDay_5 rfl rfl ?_
    refine V_aload_n (q := 7) dX0_onDay_6 rfl rfl ?_
    refine V_getI (q := 10) (n := 68) 1 4 kf_X0_33 (by decide) (by decide) rfl rfl dX0_onDay_7 rfl ?_
    rw [hn]
    refine V_icmp_ge (tgt := 50) (q := 13) dX0_onDay_10 (by decide) rfl (fun c_10 => ?_) (fun c_10 => absurd c_10 (v_gt (by omega) (by omega) (Nat.le_refl _)))
    refine V_iload_n (q := 51) dX0_onDay_50 rfl rfl ?_
    exact V_iret hκ rfl rfl dX0_onDay_51 vEq.rf
  | succ k ih =>
    intro i hi
    have ih2 := ih (i + 1) (by omega)
    unfold onD at ih2
    cases ho : onD (Ar 15) day i with
    | none =>
      rw [ho] at ih2
      show V κ mX0_onDay 5 [.ref 1, .int day, .int (-4), .int (nI i)] [] F Ar x
      refine V_iload_n (q := 6) dX0_onDay_5 rfl rfl ?_
      refine V_aload_n (q := 7) dX0_onDay_6 rfl rfl ?_
      refine V_getI (q := 10) (n := 68) 1 4 kf_X0_33 (by decide) (by decide) rfl rfl dX0_onDay_7 rfl ?_
      rw [hn]
      refine V_icmp_ge (tgt := 50) (q := 13) dX0_onDay_10 (by decide) rfl (fun c_10 => absurd c_10 (v_gf (by omega) (by omega) (by omega))) (fun c_10 => ?_)
      refine V_aload_n (q := 14) dX0_onDay_13 rfl rfl ?_
      refine V_getR (q := 17) (n := 15) 1 3 kf_X0_22 (by decide) (by decide) rfl (by decide) dX0_onDay_14 rfl ?_
      refine V_iload_n (q := 18) dX0_onDay_17 rfl rfl ?_
      refine V_ild (q := 19) (i) 5 rfl (by omega) (by decide) (by omega) (by decide) rfl (by decide) dX0_onDay_18 rfl ?_
      refine V_iload_n (q := 20) dX0_onDay_19 rfl rfl ?_
      refine V_icmp_gt (tgt := 44) (q := 23) dX0_onDay_20 (by decide) rfl (fun c_20 => ?_) (fun c_20 => ?_)
      · refine V_iincN (q := 47) dX0_onDay_44 rfl (Nat.le_of_ble_eq_true rfl) rfl rfl ?_
        refine V_goto (q := 5) dX0_onDay_47 (by decide) ?_
        rw [if_neg (v_nlt c_20)] at ih2
        exact ih2
      · refine V_iload_n (q := 24) dX0_onDay_23 rfl rfl ?_
        refine V_if_lt (tgt := 42) (q := 27) dX0_onDay_24 (by decide) rfl (fun c_24 => ?_) (fun c_24 => absurd (by decide : (-4 : Int32) < 0) c_24)
        refine V_iload_n (q := 43) dX0_onDay_42 rfl rfl ?_
        refine V_istore_n (q := 44) dX0_onDay_43 (Nat.le_of_ble_eq_true rfl) rfl rfl ?_
        refine V_iincN (q := 47) dX0_onDay_44 rfl (Nat.le_of_ble_eq_true rfl) rfl rfl ?_
        refine V_goto (q := 5) dX0_onDay_47 (by decide) ?_
        rw [if_pos (v_nle c_20)] at ih2
        exact ih2
    | some j =>
      rw [ho] at ih2
      have hj := onD_lt _ _ ho
      show V κ mX0_onDay 5 [.ref 1, .int day, .int (nI j), .int (nI i)] [] F Ar x
      simp only [] at ih2
      refine V_iload_n (q := 6) dX0_onDay_5 rfl rfl ?_
      refine V_aload_n (q := 7) dX0_onDay_6 rfl rfl ?_
      refine V_getI (q := 10) (n := 68) 1 4 kf_X0_33 (by decide) (by decide) rfl rfl dX0_onDay_7 rfl ?_
      rw [hn]
      refine V_icmp_ge (tgt := 50) (q := 13) dX0_onDay_10 (by decide) rfl (fun c_10 => absurd c_10 (v_gf (by omega) (by omega) (by omega))) (fun c_10 => ?_)
      refine V_aload_n (q := 14) dX0_onDay_13 rfl rfl ?_
      refine V_getR (q := 17) (n := 15) 1 3 kf_X0_22 (by decide) (by decide) rfl (by decide) dX0_onDay_14 rfl ?_
      refine V_iload_n (q := 18) dX0_onDay_17 rfl rfl ?_
      refine V_ild (q := 19) (i) 5 rfl (by omega) (by decide) (by omega) (by decide) rfl (by decide) dX0_onDay_18 rfl ?_
      refine V_iload_n (q := 20) dX0_onDay_19 rfl rfl ?_
      refine V_icmp_gt (tgt := 44) (q := 23) dX0_onDay_20 (by decide) rfl (fun c_20 => ?_) (fun c_20 => ?_)
      · refine V_iincN (q := 47) dX0_onDay_44 rfl (Nat.le_of_ble_eq_true rfl) rfl rfl ?_
        refine V_goto (q := 5) dX0_onDay_47 (by decide) ?_
        rw [if_neg (v_nlt c_20)] at ih2
        exact ih2
      · refine V_iload_n (q := 24) dX0_onDay_23 rfl rfl ?_
        refine V_if_lt (tgt := 42) (q := 27) dX0_onDay_24 (by decide) rfl (fun c_24 => absurd c_24 (nI_pos (by omega))) (fun c_24 => ?_)
        refine V_aload_n (q := 28) dX0_onDay_27 rfl rfl ?_
        refine V_getR (q := 31) (n := 15) 1 3 kf_X0_22 (by decide) (by decide) rfl (by decide) dX0_onDay_28 rfl ?_
        refine V_iload_n (q := 32) dX0_onDay_31 rfl rfl ?_
        refine V_ild (q := 33) (i) 5 rfl (by omega) (by decide) (by omega) (by decide) rfl (by decide) dX0_onDay_32 rfl ?_
        refine V_aload_n (q := 34) dX0_onDay_33 rfl rfl ?_
        refine V_getR (q := 37) (n := 15) 1 3 kf_X0_22 (by decide) (by decide) rfl (by decide) dX0_onDay_34 rfl ?_
        refine V_iload_n (q := 38) dX0_onDay_37 rfl rfl ?_
        refine V_ild (q := 39) (j) 5 rfl (by omega) (by decide) (by omega) (by decide) rfl (by decide) dX0_onDay_38 rfl ?_
        refine V_icmp_lt (tgt := 44) (q := 42) dX0_onDay_39 (by decide) rfl (fun c_39 => ?_) (fun c_39 => ?_)
        · refine V_iincN (q := 47) dX0_onDay_44 rfl (Nat.le_of_ble_eq_true rfl) rfl rfl ?_
          refine V_goto (q := 5) dX0_onDay_47 (by decide) ?_
          rw [if_pos (v_nle c_20), if_neg (v_nlt c_39)] at ih2
          exact ih2
        · refine V_iload_n (q := 43) dX0_onDay_42 rfl rfl ?_
          refine V_istore_n (q := 44) dX0_onDay_43 (Nat.le_of_ble_eq_true rfl) rfl rfl ?_
          refine V_iincN (q := 47) dX0_onDay_44 rfl (Nat.le_of_ble_eq_true rfl) rfl rfl ?_
          refine V_goto (q := 5) dX0_onDay_47 (by decide) ?_
          rw [if_pos (v_nle c_20), if_pos (v_nle c_39)] at ih2
          exact ih2
theorem tX0_onDay {F : vFt} {Ar : vAt} {x : vXt} {n : Nat} {day : Int32} (hn : F 68 = nI n) (hn5 : n ≤ 5) : C0 mX0_onDay 0 [.ref 1, .int day] F Ar x (vEq (some (.int (oI (onD (Ar 15) day n)))) F Ar) := by
  refine C0_of (by decide +kernel) (Nat.le_of_ble_eq_true rfl) (fun κ hκ => ?_)
  show V κ mX0_onDay 0 [.ref 1, .int day, .null, .null] [] F Ar x
  refine V_bipush (q := 2) (v := (-4)) dX0_onDay_0 (by decide) rfl ?_
  refine V_istore_n (q := 3) dX0_onDay_2 (Nat.le_of_ble_eq_true rfl) rfl rfl ?_
  refine V_iconst (q := 4) (v := 0) dX0_onDay_3 (by decide) rfl ?_
  refine V_istore_n (q := 5) dX0_onDay_4 (Nat.le_of_ble_eq_true rfl) rfl rfl ?_
  exact lp_X0_on hκ hn hn5 n 0 (by omega)
end
