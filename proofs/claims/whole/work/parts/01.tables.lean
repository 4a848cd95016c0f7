/-! PART A of the skeleton; then the good words of the tables, one list for every method, and each word by its place -/
/-- a private method of a class that the tables say can be made, by its rows of tables_1 -/
def lw_okq (q : MethodName × Nat) : Prop := (q.1.cls ≠ "java/lang/invoke/MethodHandle" ∧ q.1.cls ≠ "java/lang/invoke/VarHandle") ∧ Cond.instantiable q.1.cls q.2 ∈ tables_1 ∧ Cond.privateMethod q.1 ∈ tables_1 ∧ Cond.instanceMethod q.1 ∈ tables_1
theorem lw_p0 : lw_okq (⟨"PushStick", "isEffect", "(I)Z"⟩, 16) := ⟨⟨by decide +kernel, by decide +kernel⟩, List.mem_of_getElem? (i := 9) (by decide +kernel), List.mem_of_getElem? (i := 181) (by decide +kernel), List.mem_of_getElem? (i := 182) (by decide +kernel)⟩
theorem lw_p1 : lw_okq (⟨"PushStick", "takeOut", "(LPushStick$Effect;)V"⟩, 16) := ⟨⟨by decide +kernel, by decide +kernel⟩, List.mem_of_getElem? (i := 9) (by decide +kernel), List.mem_of_getElem? (i := 199) (by decide +kernel), List.mem_of_getElem? (i := 200) (by decide +kernel)⟩
theorem lw_p2 : lw_okq (⟨"PushStick", "bringIn", "(LPushStick$Effect;)I"⟩, 16) := ⟨⟨by decide +kernel, by decide +kernel⟩, List.mem_of_getElem? (i := 9) (by decide +kernel), List.mem_of_getElem? (i := 244) (by decide +kernel), List.mem_of_getElem? (i := 245) (by decide +kernel)⟩
theorem lw_p3 : lw_okq (⟨"PushStick", "leastFreeSlot", "()I"⟩, 16) := ⟨⟨by decide +kernel, by decide +kernel⟩, List.mem_of_getElem? (i := 9) (by decide +kernel), List.mem_of_getElem? (i := 248) (by decide +kernel), List.mem_of_getElem? (i := 249) (by decide +kernel)⟩
theorem lw_p4 : lw_okq (⟨"PushStick", "whichGoes", "(I)LPushStick$Effect;"⟩, 16) := ⟨⟨by decide +kernel, by decide +kernel⟩, List.mem_of_getElem? (i := 9) (by decide +kernel), List.mem_of_getElem? (i := 252) (by decide +kernel), List.mem_of_getElem? (i := 253) (by decide +kernel)⟩
theorem lw_p5 : lw_okq (⟨"PushStick", "letGo", "(I)V"⟩, 16) := ⟨⟨by decide +kernel, by decide +kernel⟩, List.mem_of_getElem? (i := 9) (by decide +kernel), List.mem_of_getElem? (i := 279) (by decide +kernel), List.mem_of_getElem? (i := 280) (by decide +kernel)⟩
theorem lw_p6 : lw_okq (⟨"PushStick", "lossAt", "()I"⟩, 16) := ⟨⟨by decide +kernel, by decide +kernel⟩, List.mem_of_getElem? (i := 9) (by decide +kernel), List.mem_of_getElem? (i := 288) (by decide +kernel), List.mem_of_getElem? (i := 289) (by decide +kernel)⟩
theorem lw_p7 : lw_okq (⟨"PushStick", "beginAgainUpTo", "(I)V"⟩, 16) := ⟨⟨by decide +kernel, by decide +kernel⟩, List.mem_of_getElem? (i := 9) (by decide +kernel), List.mem_of_getElem? (i := 296) (by decide +kernel), List.mem_of_getElem? (i := 297) (by decide +kernel)⟩
theorem lw_p8 : lw_okq (⟨"PushStick", "startBy", "(LPushStick$Effect;I)I"⟩, 16) := ⟨⟨by decide +kernel, by decide +kernel⟩, List.mem_of_getElem? (i := 9) (by decide +kernel), List.mem_of_getElem? (i := 300) (by decide +kernel), List.mem_of_getElem? (i := 301) (by decide +kernel)⟩
theorem lw_p9 : lw_okq (⟨"PushStick", "loseHostAt", "(I)V"⟩, 16) := ⟨⟨by decide +kernel, by decide +kernel⟩, List.mem_of_getElem? (i := 9) (by decide +kernel), List.mem_of_getElem? (i := 307) (by decide +kernel), List.mem_of_getElem? (i := 308) (by decide +kernel)⟩
theorem lw_p10 : lw_okq (⟨"PushStick", "howManyPlay", "()I"⟩, 16) := ⟨⟨by decide +kernel, by decide +kernel⟩, List.mem_of_getElem? (i := 9) (by decide +kernel), List.mem_of_getElem? (i := 311) (by decide +kernel), List.mem_of_getElem? (i := 312) (by decide +kernel)⟩
theorem lw_p11 : lw_okq (⟨"PushStick", "rawAt", "(ILPushStick$Axis;)I"⟩, 16) := ⟨⟨by decide +kernel, by decide +kernel⟩, List.mem_of_getElem? (i := 9) (by decide +kernel), List.mem_of_getElem? (i := 392) (by decide +kernel), List.mem_of_getElem? (i := 393) (by decide +kernel)⟩
theorem lw_p12 : lw_okq (⟨"PushStick", "endOfPush", "(I)I"⟩, 16) := ⟨⟨by decide +kernel, by decide +kernel⟩, List.mem_of_getElem? (i := 9) (by decide +kernel), List.mem_of_getElem? (i := 417) (by decide +kernel), List.mem_of_getElem? (i := 418) (by decide +kernel)⟩
theorem lw_p13 : lw_okq (⟨"PushStick", "gatherPlaying", "()I"⟩, 16) := ⟨⟨by decide +kernel, by decide +kernel⟩, List.mem_of_getElem? (i := 9) (by decide +kernel), List.mem_of_getElem? (i := 433) (by decide +kernel), List.mem_of_getElem? (i := 434) (by decide +kernel)⟩
theorem lw_p14 : lw_okq (⟨"PushStick", "markHeldBack", "(ILPushStick$Axis;I)V"⟩, 16) := ⟨⟨by decide +kernel, by decide +kernel⟩, List.mem_of_getElem? (i := 9) (by decide +kernel), List.mem_of_getElem? (i := 437) (by decide +kernel), List.mem_of_getElem? (i := 438) (by decide +kernel)⟩
theorem lw_p15 : lw_okq (⟨"PushStick", "lackAt", "(LPushStick$Effect;ILPushStick$Axis;)I"⟩, 16) := ⟨⟨by decide +kernel, by decide +kernel⟩, List.mem_of_getElem? (i := 9) (by decide +kernel), List.mem_of_getElem? (i := 441) (by decide +kernel), List.mem_of_getElem? (i := 442) (by decide +kernel)⟩
def lw_privs_1 : List (MethodName × Nat) := [(⟨"PushStick", "isEffect", "(I)Z"⟩, 16), (⟨"PushStick", "takeOut", "(LPushStick$Effect;)V"⟩, 16), (⟨"PushStick", "bringIn", "(LPushStick$Effect;)I"⟩, 16), (⟨"PushStick", "leastFreeSlot", "()I"⟩, 16), (⟨"PushStick", "whichGoes", "(I)LPushStick$Effect;"⟩, 16), (⟨"PushStick", "letGo", "(I)V"⟩, 16), (⟨"PushStick", "lossAt", "()I"⟩, 16), (⟨"PushStick", "beginAgainUpTo", "(I)V"⟩, 16), (⟨"PushStick", "startBy", "(LPushStick$Effect;I)I"⟩, 16), (⟨"PushStick", "loseHostAt", "(I)V"⟩, 16), (⟨"PushStick", "howManyPlay", "()I"⟩, 16), (⟨"PushStick", "rawAt", "(ILPushStick$Axis;)I"⟩, 16), (⟨"PushStick", "endOfPush", "(I)I"⟩, 16), (⟨"PushStick", "gatherPlaying", "()I"⟩, 16), (⟨"PushStick", "markHeldBack", "(ILPushStick$Axis;I)V"⟩, 16), (⟨"PushStick", "lackAt", "(LPushStick$Effect;ILPushStick$Axis;)I"⟩, 16)]
theorem lw_r1 : ∀ q ∈ lw_privs_1, lw_okq q := List.forall_mem_cons.mpr ⟨lw_p0, List.forall_mem_cons.mpr ⟨lw_p1, List.forall_mem_cons.mpr ⟨lw_p2, List.forall_mem_cons.mpr ⟨lw_p3, List.forall_mem_cons.mpr ⟨lw_p4, List.forall_mem_cons.mpr ⟨lw_p5, List.forall_mem_cons.mpr ⟨lw_p6, List.forall_mem_cons.mpr ⟨lw_p7, List.forall_mem_cons.mpr ⟨lw_p8, List.forall_mem_cons.mpr ⟨lw_p9, List.forall_mem_cons.mpr ⟨lw_p10, List.forall_mem_cons.mpr ⟨lw_p11, List.forall_mem_cons.mpr ⟨lw_p12, List.forall_mem_cons.mpr ⟨lw_p13, List.forall_mem_cons.mpr ⟨lw_p14, List.forall_mem_cons.mpr ⟨lw_p15, fun _ h => absurd h List.not_mem_nil⟩⟩⟩⟩⟩⟩⟩⟩⟩⟩⟩⟩⟩⟩⟩⟩
theorem lw_p16 : lw_okq (⟨"PushStick", "fewestNotHeldBack", "(I)I"⟩, 16) := ⟨⟨by decide +kernel, by decide +kernel⟩, List.mem_of_getElem? (i := 9) (by decide +kernel), List.mem_of_getElem? (i := 445) (by decide +kernel), List.mem_of_getElem? (i := 446) (by decide +kernel)⟩
theorem lw_p17 : lw_okq (⟨"PushStick", "asEffects", "(II)I"⟩, 16) := ⟨⟨by decide +kernel, by decide +kernel⟩, List.mem_of_getElem? (i := 9) (by decide +kernel), List.mem_of_getElem? (i := 455) (by decide +kernel), List.mem_of_getElem? (i := 456) (by decide +kernel)⟩
theorem lw_p18 : lw_okq (⟨"PushStick", "howManyLoaded", "()I"⟩, 16) := ⟨⟨by decide +kernel, by decide +kernel⟩, List.mem_of_getElem? (i := 9) (by decide +kernel), List.mem_of_getElem? (i := 463) (by decide +kernel), List.mem_of_getElem? (i := 464) (by decide +kernel)⟩
theorem lw_p19 : lw_okq (⟨"PushStick", "howManyOn", "()I"⟩, 16) := ⟨⟨by decide +kernel, by decide +kernel⟩, List.mem_of_getElem? (i := 9) (by decide +kernel), List.mem_of_getElem? (i := 467) (by decide +kernel), List.mem_of_getElem? (i := 468) (by decide +kernel)⟩
theorem lw_p20 : lw_okq (⟨"PushStick", "howManyHeld", "()I"⟩, 16) := ⟨⟨by decide +kernel, by decide +kernel⟩, List.mem_of_getElem? (i := 9) (by decide +kernel), List.mem_of_getElem? (i := 471) (by decide +kernel), List.mem_of_getElem? (i := 472) (by decide +kernel)⟩
theorem lw_p21 : lw_okq (⟨"PushStickModel", "isEffect", "(I)Z"⟩, 21) := ⟨⟨by decide +kernel, by decide +kernel⟩, List.mem_of_getElem? (i := 475) (by decide +kernel), List.mem_of_getElem? (i := 559) (by decide +kernel), List.mem_of_getElem? (i := 560) (by decide +kernel)⟩
theorem lw_p22 : lw_okq (⟨"PushStickModel", "tellNumber", "(II)I"⟩, 21) := ⟨⟨by decide +kernel, by decide +kernel⟩, List.mem_of_getElem? (i := 475) (by decide +kernel), List.mem_of_getElem? (i := 570) (by decide +kernel), List.mem_of_getElem? (i := 571) (by decide +kernel)⟩
theorem lw_p23 : lw_okq (⟨"PushStickModel", "numberOf", "(II)I"⟩, 21) := ⟨⟨by decide +kernel, by decide +kernel⟩, List.mem_of_getElem? (i := 475) (by decide +kernel), List.mem_of_getElem? (i := 574) (by decide +kernel), List.mem_of_getElem? (i := 575) (by decide +kernel)⟩
theorem lw_p24 : lw_okq (⟨"PushStickModel", "goes", "(I)V"⟩, 21) := ⟨⟨by decide +kernel, by decide +kernel⟩, List.mem_of_getElem? (i := 475) (by decide +kernel), List.mem_of_getElem? (i := 582) (by decide +kernel), List.mem_of_getElem? (i := 583) (by decide +kernel)⟩
theorem lw_p25 : lw_okq (⟨"PushStickModel", "slotOf", "(I)I"⟩, 21) := ⟨⟨by decide +kernel, by decide +kernel⟩, List.mem_of_getElem? (i := 475) (by decide +kernel), List.mem_of_getElem? (i := 586) (by decide +kernel), List.mem_of_getElem? (i := 587) (by decide +kernel)⟩
theorem lw_p26 : lw_okq (⟨"PushStickModel", "moves", "(II)V"⟩, 21) := ⟨⟨by decide +kernel, by decide +kernel⟩, List.mem_of_getElem? (i := 475) (by decide +kernel), List.mem_of_getElem? (i := 594) (by decide +kernel), List.mem_of_getElem? (i := 595) (by decide +kernel)⟩
theorem lw_p27 : lw_okq (⟨"PushStickModel", "doesPlay", "(III)Z"⟩, 21) := ⟨⟨by decide +kernel, by decide +kernel⟩, List.mem_of_getElem? (i := 475) (by decide +kernel), List.mem_of_getElem? (i := 610) (by decide +kernel), List.mem_of_getElem? (i := 611) (by decide +kernel)⟩
theorem lw_p28 : lw_okq (⟨"PushStickModel", "isOn", "(III)Z"⟩, 21) := ⟨⟨by decide +kernel, by decide +kernel⟩, List.mem_of_getElem? (i := 475) (by decide +kernel), List.mem_of_getElem? (i := 614) (by decide +kernel), List.mem_of_getElem? (i := 615) (by decide +kernel)⟩
theorem lw_p29 : lw_okq (⟨"PushStickModel", "loads", "(I)I"⟩, 21) := ⟨⟨by decide +kernel, by decide +kernel⟩, List.mem_of_getElem? (i := 475) (by decide +kernel), List.mem_of_getElem? (i := 630) (by decide +kernel), List.mem_of_getElem? (i := 631) (by decide +kernel)⟩
theorem lw_p30 : lw_okq (⟨"PushStickModel", "freeSlot", "()I"⟩, 21) := ⟨⟨by decide +kernel, by decide +kernel⟩, List.mem_of_getElem? (i := 475) (by decide +kernel), List.mem_of_getElem? (i := 634) (by decide +kernel), List.mem_of_getElem? (i := 635) (by decide +kernel)⟩
theorem lw_p31 : lw_okq (⟨"PushStickModel", "firstToGo", "(ZI)I"⟩, 21) := ⟨⟨by decide +kernel, by decide +kernel⟩, List.mem_of_getElem? (i := 475) (by decide +kernel), List.mem_of_getElem? (i := 638) (by decide +kernel), List.mem_of_getElem? (i := 639) (by decide +kernel)⟩
def lw_privs_2 : List (MethodName × Nat) := [(⟨"PushStick", "fewestNotHeldBack", "(I)I"⟩, 16), (⟨"PushStick", "asEffects", "(II)I"⟩, 16), (⟨"PushStick", "howManyLoaded", "()I"⟩, 16), (⟨"PushStick", "howManyOn", "()I"⟩, 16), (⟨"PushStick", "howManyHeld", "()I"⟩, 16), (⟨"PushStickModel", "isEffect", "(I)Z"⟩, 21), (⟨"PushStickModel", "tellNumber", "(II)I"⟩, 21), (⟨"PushStickModel", "numberOf", "(II)I"⟩, 21), (⟨"PushStickModel", "goes", "(I)V"⟩, 21), (⟨"PushStickModel", "slotOf", "(I)I"⟩, 21), (⟨"PushStickModel", "moves", "(II)V"⟩, 21), (⟨"PushStickModel", "doesPlay", "(III)Z"⟩, 21), (⟨"PushStickModel", "isOn", "(III)Z"⟩, 21), (⟨"PushStickModel", "loads", "(I)I"⟩, 21), (⟨"PushStickModel", "freeSlot", "()I"⟩, 21), (⟨"PushStickModel", "firstToGo", "(ZI)I"⟩, 21)]
theorem lw_r2 : ∀ q ∈ lw_privs_2, lw_okq q := List.forall_mem_cons.mpr ⟨lw_p16, List.forall_mem_cons.mpr ⟨lw_p17, List.forall_mem_cons.mpr ⟨lw_p18, List.forall_mem_cons.mpr ⟨lw_p19, List.forall_mem_cons.mpr ⟨lw_p20, List.forall_mem_cons.mpr ⟨lw_p21, List.forall_mem_cons.mpr ⟨lw_p22, List.forall_mem_cons.mpr ⟨lw_p23, List.forall_mem_cons.mpr ⟨lw_p24, List.forall_mem_cons.mpr ⟨lw_p25, List.forall_mem_cons.mpr ⟨lw_p26, List.forall_mem_cons.mpr ⟨lw_p27, List.forall_mem_cons.mpr ⟨lw_p28, List.forall_mem_cons.mpr ⟨lw_p29, List.forall_mem_cons.mpr ⟨lw_p30, List.forall_mem_cons.mpr ⟨lw_p31, fun _ h => absurd h List.not_mem_nil⟩⟩⟩⟩⟩⟩⟩⟩⟩⟩⟩⟩⟩⟩⟩⟩
theorem lw_p32 : lw_okq (⟨"PushStickModel", "comesUp", "(I)V"⟩, 21) := ⟨⟨by decide +kernel, by decide +kernel⟩, List.mem_of_getElem? (i := 475) (by decide +kernel), List.mem_of_getElem? (i := 662) (by decide +kernel), List.mem_of_getElem? (i := 663) (by decide +kernel)⟩
theorem lw_p33 : lw_okq (⟨"PushStickModel", "isLostBy", "(I)Z"⟩, 21) := ⟨⟨by decide +kernel, by decide +kernel⟩, List.mem_of_getElem? (i := 475) (by decide +kernel), List.mem_of_getElem? (i := 671) (by decide +kernel), List.mem_of_getElem? (i := 672) (by decide +kernel)⟩
theorem lw_p34 : lw_okq (⟨"PushStickModel", "getsLost", "(I)V"⟩, 21) := ⟨⟨by decide +kernel, by decide +kernel⟩, List.mem_of_getElem? (i := 475) (by decide +kernel), List.mem_of_getElem? (i := 675) (by decide +kernel), List.mem_of_getElem? (i := 676) (by decide +kernel)⟩
theorem lw_p35 : lw_okq (⟨"PushStickModel", "startAt", "(III)I"⟩, 21) := ⟨⟨by decide +kernel, by decide +kernel⟩, List.mem_of_getElem? (i := 475) (by decide +kernel), List.mem_of_getElem? (i := 679) (by decide +kernel), List.mem_of_getElem? (i := 680) (by decide +kernel)⟩
theorem lw_p36 : lw_okq (⟨"PushStickModel", "manyPlay", "()I"⟩, 21) := ⟨⟨by decide +kernel, by decide +kernel⟩, List.mem_of_getElem? (i := 475) (by decide +kernel), List.mem_of_getElem? (i := 683) (by decide +kernel), List.mem_of_getElem? (i := 684) (by decide +kernel)⟩
theorem lw_p37 : lw_okq (⟨"PushStickModel", "partAt", "(IIII)I"⟩, 21) := ⟨⟨by decide +kernel, by decide +kernel⟩, List.mem_of_getElem? (i := 475) (by decide +kernel), List.mem_of_getElem? (i := 703) (by decide +kernel), List.mem_of_getElem? (i := 704) (by decide +kernel)⟩
theorem lw_p38 : lw_okq (⟨"PushStickModel", "waveAt", "(II)I"⟩, 21) := ⟨⟨by decide +kernel, by decide +kernel⟩, List.mem_of_getElem? (i := 475) (by decide +kernel), List.mem_of_getElem? (i := 707) (by decide +kernel), List.mem_of_getElem? (i := 708) (by decide +kernel)⟩
theorem lw_p39 : lw_okq (⟨"PushStickModel", "envelopeAt", "(II)I"⟩, 21) := ⟨⟨by decide +kernel, by decide +kernel⟩, List.mem_of_getElem? (i := 475) (by decide +kernel), List.mem_of_getElem? (i := 711) (by decide +kernel), List.mem_of_getElem? (i := 712) (by decide +kernel)⟩
theorem lw_p40 : lw_okq (⟨"PushStickModel", "byHand", "(II)I"⟩, 21) := ⟨⟨by decide +kernel, by decide +kernel⟩, List.mem_of_getElem? (i := 475) (by decide +kernel), List.mem_of_getElem? (i := 718) (by decide +kernel), List.mem_of_getElem? (i := 719) (by decide +kernel)⟩
theorem lw_p41 : lw_okq (⟨"PushStickModel", "rawAt", "(III)I"⟩, 21) := ⟨⟨by decide +kernel, by decide +kernel⟩, List.mem_of_getElem? (i := 475) (by decide +kernel), List.mem_of_getElem? (i := 739) (by decide +kernel), List.mem_of_getElem? (i := 740) (by decide +kernel)⟩
theorem lw_p42 : lw_okq (⟨"PushStickModel", "isHeldBack", "(II)Z"⟩, 21) := ⟨⟨by decide +kernel, by decide +kernel⟩, List.mem_of_getElem? (i := 475) (by decide +kernel), List.mem_of_getElem? (i := 765) (by decide +kernel), List.mem_of_getElem? (i := 766) (by decide +kernel)⟩
theorem lw_p43 : lw_okq (⟨"PushStickModel", "isQuiet", "(II)Z"⟩, 21) := ⟨⟨by decide +kernel, by decide +kernel⟩, List.mem_of_getElem? (i := 475) (by decide +kernel), List.mem_of_getElem? (i := 776) (by decide +kernel), List.mem_of_getElem? (i := 777) (by decide +kernel)⟩
theorem lw_p44 : lw_okq (⟨"PushStickModel", "manyLoaded", "()I"⟩, 21) := ⟨⟨by decide +kernel, by decide +kernel⟩, List.mem_of_getElem? (i := 475) (by decide +kernel), List.mem_of_getElem? (i := 784) (by decide +kernel), List.mem_of_getElem? (i := 785) (by decide +kernel)⟩
theorem lw_p45 : lw_okq (⟨"PushStickModel", "manyOn", "()I"⟩, 21) := ⟨⟨by decide +kernel, by decide +kernel⟩, List.mem_of_getElem? (i := 475) (by decide +kernel), List.mem_of_getElem? (i := 788) (by decide +kernel), List.mem_of_getElem? (i := 789) (by decide +kernel)⟩
theorem lw_p46 : lw_okq (⟨"PushStickModel", "manyHeld", "()I"⟩, 21) := ⟨⟨by decide +kernel, by decide +kernel⟩, List.mem_of_getElem? (i := 475) (by decide +kernel), List.mem_of_getElem? (i := 792) (by decide +kernel), List.mem_of_getElem? (i := 793) (by decide +kernel)⟩
def lw_privs_3 : List (MethodName × Nat) := [(⟨"PushStickModel", "comesUp", "(I)V"⟩, 21), (⟨"PushStickModel", "isLostBy", "(I)Z"⟩, 21), (⟨"PushStickModel", "getsLost", "(I)V"⟩, 21), (⟨"PushStickModel", "startAt", "(III)I"⟩, 21), (⟨"PushStickModel", "manyPlay", "()I"⟩, 21), (⟨"PushStickModel", "partAt", "(IIII)I"⟩, 21), (⟨"PushStickModel", "waveAt", "(II)I"⟩, 21), (⟨"PushStickModel", "envelopeAt", "(II)I"⟩, 21), (⟨"PushStickModel", "byHand", "(II)I"⟩, 21), (⟨"PushStickModel", "rawAt", "(III)I"⟩, 21), (⟨"PushStickModel", "isHeldBack", "(II)Z"⟩, 21), (⟨"PushStickModel", "isQuiet", "(II)Z"⟩, 21), (⟨"PushStickModel", "manyLoaded", "()I"⟩, 21), (⟨"PushStickModel", "manyOn", "()I"⟩, 21), (⟨"PushStickModel", "manyHeld", "()I"⟩, 21)]
theorem lw_r3 : ∀ q ∈ lw_privs_3, lw_okq q := List.forall_mem_cons.mpr ⟨lw_p32, List.forall_mem_cons.mpr ⟨lw_p33, List.forall_mem_cons.mpr ⟨lw_p34, List.forall_mem_cons.mpr ⟨lw_p35, List.forall_mem_cons.mpr ⟨lw_p36, List.forall_mem_cons.mpr ⟨lw_p37, List.forall_mem_cons.mpr ⟨lw_p38, List.forall_mem_cons.mpr ⟨lw_p39, List.forall_mem_cons.mpr ⟨lw_p40, List.forall_mem_cons.mpr ⟨lw_p41, List.forall_mem_cons.mpr ⟨lw_p42, List.forall_mem_cons.mpr ⟨lw_p43, List.forall_mem_cons.mpr ⟨lw_p44, List.forall_mem_cons.mpr ⟨lw_p45, List.forall_mem_cons.mpr ⟨lw_p46, fun _ h => absurd h List.not_mem_nil⟩⟩⟩⟩⟩⟩⟩⟩⟩⟩⟩⟩⟩⟩⟩
def lw_privs : List (MethodName × Nat) := lw_privs_1 ++ (lw_privs_2 ++ (lw_privs_3))
def lw_tbl : List Cond := k2_sels lw_privs ++ tables_1
theorem lw_privs_ok : ∀ q ∈ lw_privs, lw_okq q := by
  show ∀ q ∈ lw_privs_1 ++ (lw_privs_2 ++ (lw_privs_3)), lw_okq q
  exact List.forall_mem_append.mpr ⟨lw_r1, List.forall_mem_append.mpr ⟨lw_r2, lw_r3⟩⟩

def wT : List Cond := lw_tbl.filter goodWord
theorem wT_i1 {w : Cond} (i : Nat) (h : tables_1_1[i]? = some w) (g : goodWord w = true) : w ∈ wT := List.mem_filter.mpr ⟨List.mem_append_right _ (List.mem_append_left _ (List.mem_of_getElem? h)), g⟩
theorem wT_i2 {w : Cond} (i : Nat) (h : tables_1_2[i]? = some w) (g : goodWord w = true) : w ∈ wT := List.mem_filter.mpr ⟨List.mem_append_right _ (List.mem_append_right _ (List.mem_append_left _ (List.mem_of_getElem? h))), g⟩
theorem wT_i3 {w : Cond} (i : Nat) (h : tables_1_3[i]? = some w) (g : goodWord w = true) : w ∈ wT := List.mem_filter.mpr ⟨List.mem_append_right _ (List.mem_append_right _ (List.mem_append_right _ (List.mem_append_left _ (List.mem_of_getElem? h)))), g⟩
theorem wT_i4 {w : Cond} (i : Nat) (h : tables_1_4[i]? = some w) (g : goodWord w = true) : w ∈ wT := List.mem_filter.mpr ⟨List.mem_append_right _ (List.mem_append_right _ (List.mem_append_right _ (List.mem_append_right _ (List.mem_of_getElem? h)))), g⟩
theorem wT_sel {w : Cond} (i : Nat) (h : (k2_sels lw_privs)[i]? = some w) (g : goodWord w = true) : w ∈ wT := List.mem_filter.mpr ⟨List.mem_append_left _ (List.mem_of_getElem? h), g⟩
theorem wT_good : GoodIn wT wT := fun w h => ⟨h, good_of_word (List.mem_filter.mp h).2⟩
theorem wT_tbl : ∀ w ∈ wT, w ∈ lw_tbl := fun _ h => (List.mem_filter.mp h).1
theorem kw_0 : (Jvm.Cond.initialized "PushStickLaw") ∈ wT := wT_i1 0 rfl rfl
theorem kw_1 : (Jvm.Cond.initialized "PushStick") ∈ wT := wT_i1 1 rfl rfl
theorem kw_2 : (Jvm.Cond.initialized "PushStick$Effect") ∈ wT := wT_i1 2 rfl rfl
theorem kw_3 : (Jvm.Cond.initialized "PushStick$Axis") ∈ wT := wT_i1 3 rfl rfl
theorem kw_4 : (Jvm.Cond.initialized "PushStick$Button") ∈ wT := wT_i1 4 rfl rfl
theorem kw_5 : (Jvm.Cond.initialized "PushStickModel") ∈ wT := wT_i1 5 rfl rfl
theorem kw_6 : (Jvm.Cond.initialized "java/lang/Math") ∈ wT := wT_i1 6 rfl rfl
theorem kw_7 : (Jvm.Cond.initialized "java/lang/Integer") ∈ wT := wT_i1 7 rfl rfl
theorem kw_8 : (Jvm.Cond.classLink "PushStickLaw" (7 : Nat) "PushStick") ∈ wT := wT_i1 8 rfl rfl
theorem kw_9 : (Jvm.Cond.instantiable "PushStick" (16 : Nat)) ∈ wT := wT_i1 9 rfl rfl
theorem kw_10 : (Jvm.Cond.methodLink "PushStickLaw" (9 : Nat) ({ cls := "PushStick", name := "<init>", desc := "()V" } : Jvm.MethodName)) ∈ wT := wT_i1 10 rfl rfl
theorem kw_11 : (Jvm.Cond.instanceMethod ({ cls := "PushStick", name := "<init>", desc := "()V" } : Jvm.MethodName)) ∈ wT := wT_i1 11 rfl rfl
theorem kw_12 : (Jvm.Cond.code ({ cls := "PushStick", name := "<init>", desc := "()V" } : Jvm.MethodName) prog_1_method_1_code (2 : Nat) (Option.none : Option Jvm.ClassFile.FieldType)) ∈ wT := wT_i1 12 rfl rfl
theorem kw_13 : (Jvm.Cond.methodLink "PushStick" (1 : Nat) ({ cls := "java/lang/Object", name := "<init>", desc := "()V" } : Jvm.MethodName)) ∈ wT := wT_i1 13 rfl rfl
theorem kw_14 : (Jvm.Cond.instanceMethod ({ cls := "java/lang/Object", name := "<init>", desc := "()V" } : Jvm.MethodName)) ∈ wT := wT_i1 14 rfl rfl
theorem kw_15 : (Jvm.Cond.code ({ cls := "java/lang/Object", name := "<init>", desc := "()V" } : Jvm.MethodName) object_method_1_code (1 : Nat) (Option.none : Option Jvm.ClassFile.FieldType)) ∈ wT := wT_i1 15 rfl rfl
theorem kw_16 : (Jvm.Cond.classLink "PushStick" (9 : Nat) "PushStick$Effect") ∈ wT := wT_i1 16 rfl rfl
theorem kw_18 : (Jvm.Cond.classLink "PushStick" (25 : Nat) "PushStick$Axis") ∈ wT := wT_i1 18 rfl rfl
theorem kw_20 : (Jvm.Cond.classLink "PushStick" (34 : Nat) "PushStick$Button") ∈ wT := wT_i1 20 rfl rfl
theorem kw_22 : (Jvm.Cond.instantiable "PushStick$Effect" (10 : Nat)) ∈ wT := wT_i1 22 rfl rfl
theorem kw_23 : (Jvm.Cond.methodLink "PushStick" (70 : Nat) ({ cls := "PushStick$Effect", name := "<init>", desc := "(I)V" } : Jvm.MethodName)) ∈ wT := wT_i1 23 rfl rfl
theorem kw_24 : (Jvm.Cond.instanceMethod ({ cls := "PushStick$Effect", name := "<init>", desc := "(I)V" } : Jvm.MethodName)) ∈ wT := wT_i1 24 rfl rfl
theorem kw_25 : (Jvm.Cond.code ({ cls := "PushStick$Effect", name := "<init>", desc := "(I)V" } : Jvm.MethodName) prog_4_method_1_code (2 : Nat) (Option.none : Option Jvm.ClassFile.FieldType)) ∈ wT := wT_i1 25 rfl rfl
theorem kw_26 : (Jvm.Cond.methodLink "PushStick$Effect" (3 : Nat) ({ cls := "java/lang/Object", name := "<init>", desc := "()V" } : Jvm.MethodName)) ∈ wT := wT_i1 26 rfl rfl
theorem kw_27 : (Jvm.Cond.fieldLink "PushStick$Effect" (40 : Nat) "PushStick$Effect" "number" "I") ∈ wT := wT_i1 27 rfl rfl
theorem kw_28 : (Jvm.Cond.fieldLink "PushStick" (147 : Nat) "PushStick$Effect" "number" "I") ∈ wT := wT_i1 28 rfl rfl
theorem kw_29 : (Jvm.Cond.fieldLink "PushStick$Effect" (9 : Nat) "PushStick$Effect" "kind" "I") ∈ wT := wT_i1 29 rfl rfl
theorem kw_30 : (Jvm.Cond.fieldLink "PushStick" (120 : Nat) "PushStick$Effect" "kind" "I") ∈ wT := wT_i1 30 rfl rfl
theorem kw_31 : (Jvm.Cond.fieldLink "PushStick$Effect" (15 : Nat) "PushStick$Effect" "a" "I") ∈ wT := wT_i1 31 rfl rfl
theorem kw_32 : (Jvm.Cond.fieldLink "PushStick" (123 : Nat) "PushStick$Effect" "a" "I") ∈ wT := wT_i1 32 rfl rfl
theorem kw_33 : (Jvm.Cond.fieldLink "PushStick$Effect" (18 : Nat) "PushStick$Effect" "b" "I") ∈ wT := wT_i1 33 rfl rfl
theorem kw_34 : (Jvm.Cond.fieldLink "PushStick" (126 : Nat) "PushStick$Effect" "b" "I") ∈ wT := wT_i1 34 rfl rfl
theorem kw_35 : (Jvm.Cond.fieldLink "PushStick$Effect" (21 : Nat) "PushStick$Effect" "c" "I") ∈ wT := wT_i1 35 rfl rfl
theorem kw_36 : (Jvm.Cond.fieldLink "PushStick" (129 : Nat) "PushStick$Effect" "c" "I") ∈ wT := wT_i1 36 rfl rfl
theorem kw_37 : (Jvm.Cond.fieldLink "PushStick$Effect" (24 : Nat) "PushStick$Effect" "d" "I") ∈ wT := wT_i1 37 rfl rfl
theorem kw_38 : (Jvm.Cond.fieldLink "PushStick" (132 : Nat) "PushStick$Effect" "d" "I") ∈ wT := wT_i1 38 rfl rfl
theorem kw_39 : (Jvm.Cond.fieldLink "PushStick$Effect" (27 : Nat) "PushStick$Effect" "numbers" "[I") ∈ wT := wT_i1 39 rfl rfl
theorem kw_40 : (Jvm.Cond.fieldLink "PushStick" (95 : Nat) "PushStick$Effect" "numbers" "[I") ∈ wT := wT_i1 40 rfl rfl
theorem kw_41 : (Jvm.Cond.fieldLink "PushStick$Effect" (31 : Nat) "PushStick$Effect" "slotNumber" "I") ∈ wT := wT_i1 41 rfl rfl
theorem kw_42 : (Jvm.Cond.fieldLink "PushStick" (135 : Nat) "PushStick$Effect" "slotNumber" "I") ∈ wT := wT_i1 42 rfl rfl
theorem kw_43 : (Jvm.Cond.fieldLink "PushStick$Effect" (34 : Nat) "PushStick$Effect" "start" "I") ∈ wT := wT_i1 43 rfl rfl
theorem kw_44 : (Jvm.Cond.fieldLink "PushStick" (138 : Nat) "PushStick$Effect" "start" "I") ∈ wT := wT_i1 44 rfl rfl
theorem kw_45 : (Jvm.Cond.fieldLink "PushStick$Effect" (37 : Nat) "PushStick$Effect" "beats" "[I") ∈ wT := wT_i1 45 rfl rfl
theorem kw_46 : (Jvm.Cond.fieldLink "PushStick" (163 : Nat) "PushStick$Effect" "beats" "[I") ∈ wT := wT_i1 46 rfl rfl
theorem kw_47 : (Jvm.Cond.laysFinal "PushStick$Effect" "PushStick$Effect" "number" "I") ∈ wT := wT_i1 47 rfl rfl
theorem kw_49 : (Jvm.Cond.lays "PushStick$Effect" "PushStick$Effect" "kind" "I") ∈ wT := wT_i1 49 rfl rfl
theorem kw_51 : (Jvm.Cond.lays "PushStick$Effect" "PushStick$Effect" "a" "I") ∈ wT := wT_i1 51 rfl rfl
theorem kw_53 : (Jvm.Cond.lays "PushStick$Effect" "PushStick$Effect" "b" "I") ∈ wT := wT_i1 53 rfl rfl
theorem kw_55 : (Jvm.Cond.lays "PushStick$Effect" "PushStick$Effect" "c" "I") ∈ wT := wT_i1 55 rfl rfl
theorem kw_57 : (Jvm.Cond.lays "PushStick$Effect" "PushStick$Effect" "d" "I") ∈ wT := wT_i1 57 rfl rfl
theorem kw_59 : (Jvm.Cond.laysFinal "PushStick$Effect" "PushStick$Effect" "numbers" "[I") ∈ wT := wT_i1 59 rfl rfl
theorem kw_61 : (Jvm.Cond.lays "PushStick$Effect" "PushStick$Effect" "slotNumber" "I") ∈ wT := wT_i1 61 rfl rfl
theorem kw_63 : (Jvm.Cond.lays "PushStick$Effect" "PushStick$Effect" "start" "I") ∈ wT := wT_i1 63 rfl rfl
theorem kw_65 : (Jvm.Cond.laysFinal "PushStick$Effect" "PushStick$Effect" "beats" "[I") ∈ wT := wT_i1 65 rfl rfl
theorem kw_67 : (Jvm.Cond.superclass "PushStick$Effect" "java/lang/Object") ∈ wT := wT_i1 67 rfl rfl
theorem kw_68 : (Jvm.Cond.arrayClass Jvm.ClassFile.FieldType.int) ∈ wT := wT_i1 68 rfl rfl
theorem kw_69 : (Jvm.Cond.arrayClass Jvm.ClassFile.FieldType.boolean) ∈ wT := wT_i1 69 rfl rfl
theorem kw_70 : (Jvm.Cond.instantiable "PushStick$Axis" (3 : Nat)) ∈ wT := wT_i1 70 rfl rfl
theorem kw_71 : (Jvm.Cond.methodLink "PushStick" (73 : Nat) ({ cls := "PushStick$Axis", name := "<init>", desc := "(I)V" } : Jvm.MethodName)) ∈ wT := wT_i1 71 rfl rfl
theorem kw_72 : (Jvm.Cond.instanceMethod ({ cls := "PushStick$Axis", name := "<init>", desc := "(I)V" } : Jvm.MethodName)) ∈ wT := wT_i1 72 rfl rfl
theorem kw_73 : (Jvm.Cond.code ({ cls := "PushStick$Axis", name := "<init>", desc := "(I)V" } : Jvm.MethodName) prog_2_method_1_code (2 : Nat) (Option.none : Option Jvm.ClassFile.FieldType)) ∈ wT := wT_i1 73 rfl rfl
theorem kw_74 : (Jvm.Cond.methodLink "PushStick$Axis" (1 : Nat) ({ cls := "java/lang/Object", name := "<init>", desc := "()V" } : Jvm.MethodName)) ∈ wT := wT_i1 74 rfl rfl
theorem kw_75 : (Jvm.Cond.fieldLink "PushStick$Axis" (16 : Nat) "PushStick$Axis" "aim" "I") ∈ wT := wT_i1 75 rfl rfl
theorem kw_76 : (Jvm.Cond.fieldLink "PushStick$Effect" (70 : Nat) "PushStick$Axis" "aim" "I") ∈ wT := wT_i1 76 rfl rfl
theorem kw_77 : (Jvm.Cond.fieldLink "PushStick$Axis" (7 : Nat) "PushStick$Axis" "place" "I") ∈ wT := wT_i1 77 rfl rfl
theorem kw_78 : (Jvm.Cond.fieldLink "PushStick" (114 : Nat) "PushStick$Axis" "place" "I") ∈ wT := wT_i1 78 rfl rfl
theorem kw_79 : (Jvm.Cond.fieldLink "PushStick$Effect" (75 : Nat) "PushStick$Axis" "place" "I") ∈ wT := wT_i1 79 rfl rfl
theorem kw_80 : (Jvm.Cond.fieldLink "PushStick$Axis" (13 : Nat) "PushStick$Axis" "speed" "I") ∈ wT := wT_i1 80 rfl rfl
theorem kw_81 : (Jvm.Cond.fieldLink "PushStick" (117 : Nat) "PushStick$Axis" "speed" "I") ∈ wT := wT_i1 81 rfl rfl
theorem kw_82 : (Jvm.Cond.fieldLink "PushStick$Effect" (81 : Nat) "PushStick$Axis" "speed" "I") ∈ wT := wT_i1 82 rfl rfl
theorem kw_83 : (Jvm.Cond.laysFinal "PushStick$Axis" "PushStick$Axis" "aim" "I") ∈ wT := wT_i1 83 rfl rfl
theorem kw_85 : (Jvm.Cond.lays "PushStick$Axis" "PushStick$Axis" "place" "I") ∈ wT := wT_i1 85 rfl rfl
theorem kw_87 : (Jvm.Cond.lays "PushStick$Axis" "PushStick$Axis" "speed" "I") ∈ wT := wT_i1 87 rfl rfl
theorem kw_89 : (Jvm.Cond.superclass "PushStick$Axis" "java/lang/Object") ∈ wT := wT_i1 89 rfl rfl
theorem kw_90 : (Jvm.Cond.instantiable "PushStick$Button" (2 : Nat)) ∈ wT := wT_i1 90 rfl rfl
theorem kw_92 : (Jvm.Cond.instanceMethod ({ cls := "PushStick$Button", name := "<init>", desc := "()V" } : Jvm.MethodName)) ∈ wT := wT_i1 92 rfl rfl
theorem kw_93 : (Jvm.Cond.code ({ cls := "PushStick$Button", name := "<init>", desc := "()V" } : Jvm.MethodName) prog_3_method_1_code (1 : Nat) (Option.none : Option Jvm.ClassFile.FieldType)) ∈ wT := wT_i1 93 rfl rfl
theorem kw_94 : (Jvm.Cond.methodLink "PushStick$Button" (1 : Nat) ({ cls := "java/lang/Object", name := "<init>", desc := "()V" } : Jvm.MethodName)) ∈ wT := wT_i1 94 rfl rfl
theorem kw_95 : (Jvm.Cond.fieldLink "PushStick$Button" (7 : Nat) "PushStick$Button" "held" "Z") ∈ wT := wT_i1 95 rfl rfl
theorem kw_96 : (Jvm.Cond.fieldLink "PushStick" (157 : Nat) "PushStick$Button" "held" "Z") ∈ wT := wT_i1 96 rfl rfl
theorem kw_97 : (Jvm.Cond.fieldLink "PushStick$Button" (13 : Nat) "PushStick$Button" "since" "I") ∈ wT := wT_i1 97 rfl rfl
theorem kw_98 : (Jvm.Cond.fieldLink "PushStick" (160 : Nat) "PushStick$Button" "since" "I") ∈ wT := wT_i1 98 rfl rfl
theorem kw_99 : (Jvm.Cond.lays "PushStick$Button" "PushStick$Button" "held" "Z") ∈ wT := wT_i1 99 rfl rfl
theorem kw_101 : (Jvm.Cond.lays "PushStick$Button" "PushStick$Button" "since" "I") ∈ wT := wT_i1 101 rfl rfl
theorem kw_103 : (Jvm.Cond.superclass "PushStick$Button" "java/lang/Object") ∈ wT := wT_i1 103 rfl rfl
theorem kw_104 : (Jvm.Cond.fieldLink "PushStick" (11 : Nat) "PushStick" "effects" "[LPushStick$Effect;") ∈ wT := wT_i1 104 rfl rfl
theorem kw_105 : (Jvm.Cond.fieldLink "PushStick" (15 : Nat) "PushStick" "effectCount" "I") ∈ wT := wT_i1 105 rfl rfl
theorem kw_106 : (Jvm.Cond.fieldLink "PushStick" (19 : Nat) "PushStick" "inSlot" "[LPushStick$Effect;") ∈ wT := wT_i1 106 rfl rfl
theorem kw_107 : (Jvm.Cond.fieldLink "PushStick" (22 : Nat) "PushStick" "slotCount" "I") ∈ wT := wT_i1 107 rfl rfl
theorem kw_108 : (Jvm.Cond.fieldLink "PushStick" (27 : Nat) "PushStick" "axes" "[LPushStick$Axis;") ∈ wT := wT_i1 108 rfl rfl
theorem kw_109 : (Jvm.Cond.fieldLink "PushStick" (31 : Nat) "PushStick" "movedAt" "I") ∈ wT := wT_i1 109 rfl rfl
theorem kw_110 : (Jvm.Cond.fieldLink "PushStick" (36 : Nat) "PushStick" "buttons" "[LPushStick$Button;") ∈ wT := wT_i1 110 rfl rfl
theorem kw_111 : (Jvm.Cond.fieldLink "PushStick" (40 : Nat) "PushStick" "now" "I") ∈ wT := wT_i1 111 rfl rfl
theorem kw_112 : (Jvm.Cond.fieldLink "PushStick" (43 : Nat) "PushStick" "watchTime" "I") ∈ wT := wT_i1 112 rfl rfl
theorem kw_113 : (Jvm.Cond.fieldLink "PushStick" (46 : Nat) "PushStick" "helloAt" "I") ∈ wT := wT_i1 113 rfl rfl
theorem kw_114 : (Jvm.Cond.fieldLink "PushStick" (49 : Nat) "PushStick" "lost" "Z") ∈ wT := wT_i1 114 rfl rfl
theorem kw_115 : (Jvm.Cond.fieldLink "PushStick" (53 : Nat) "PushStick" "masterGain" "I") ∈ wT := wT_i1 115 rfl rfl
theorem kw_116 : (Jvm.Cond.fieldLink "PushStick" (56 : Nat) "PushStick" "frameRate" "I") ∈ wT := wT_i1 116 rfl rfl
theorem kw_117 : (Jvm.Cond.fieldLink "PushStick" (59 : Nat) "PushStick" "playing" "[LPushStick$Effect;") ∈ wT := wT_i1 117 rfl rfl
theorem kw_118 : (Jvm.Cond.fieldLink "PushStick" (62 : Nat) "PushStick" "leftBySet" "[I") ∈ wT := wT_i1 118 rfl rfl
theorem kw_119 : (Jvm.Cond.fieldLink "PushStick" (66 : Nat) "PushStick" "heldBackBySet" "[Z") ∈ wT := wT_i1 119 rfl rfl
theorem kw_120 : (Jvm.Cond.laysFinal "PushStick" "PushStick" "effects" "[LPushStick$Effect;") ∈ wT := wT_i1 120 rfl rfl
theorem kw_122 : (Jvm.Cond.lays "PushStick" "PushStick" "effectCount" "I") ∈ wT := wT_i1 122 rfl rfl
theorem kw_124 : (Jvm.Cond.laysFinal "PushStick" "PushStick" "inSlot" "[LPushStick$Effect;") ∈ wT := wT_i1 124 rfl rfl
theorem kw_126 : (Jvm.Cond.lays "PushStick" "PushStick" "slotCount" "I") ∈ wT := wT_i1 126 rfl rfl
theorem kw_128 : (Jvm.Cond.laysFinal "PushStick" "PushStick" "axes" "[LPushStick$Axis;") ∈ wT := wT_i1 128 rfl rfl
theorem kw_130 : (Jvm.Cond.lays "PushStick" "PushStick" "movedAt" "I") ∈ wT := wT_i1 130 rfl rfl
theorem kw_132 : (Jvm.Cond.laysFinal "PushStick" "PushStick" "buttons" "[LPushStick$Button;") ∈ wT := wT_i1 132 rfl rfl
theorem kw_134 : (Jvm.Cond.lays "PushStick" "PushStick" "now" "I") ∈ wT := wT_i1 134 rfl rfl
theorem kw_136 : (Jvm.Cond.lays "PushStick" "PushStick" "watchTime" "I") ∈ wT := wT_i1 136 rfl rfl
theorem kw_138 : (Jvm.Cond.lays "PushStick" "PushStick" "helloAt" "I") ∈ wT := wT_i1 138 rfl rfl
theorem kw_140 : (Jvm.Cond.lays "PushStick" "PushStick" "lost" "Z") ∈ wT := wT_i1 140 rfl rfl
theorem kw_142 : (Jvm.Cond.lays "PushStick" "PushStick" "masterGain" "I") ∈ wT := wT_i1 142 rfl rfl
theorem kw_144 : (Jvm.Cond.lays "PushStick" "PushStick" "frameRate" "I") ∈ wT := wT_i1 144 rfl rfl
theorem kw_146 : (Jvm.Cond.laysFinal "PushStick" "PushStick" "playing" "[LPushStick$Effect;") ∈ wT := wT_i1 146 rfl rfl
theorem kw_148 : (Jvm.Cond.laysFinal "PushStick" "PushStick" "leftBySet" "[I") ∈ wT := wT_i1 148 rfl rfl
theorem kw_150 : (Jvm.Cond.laysFinal "PushStick" "PushStick" "heldBackBySet" "[Z") ∈ wT := wT_i1 150 rfl rfl
theorem kw_152 : (Jvm.Cond.superclass "PushStick" "java/lang/Object") ∈ wT := wT_i1 152 rfl rfl
theorem kw_153 : (Jvm.Cond.methodLink "PushStickLaw" (13 : Nat) ({ cls := "PushStick", name := "effect", desc := "(IIIII)I" } : Jvm.MethodName)) ∈ wT := wT_i1 153 rfl rfl
theorem kw_154 : (Jvm.Cond.instanceMethod ({ cls := "PushStick", name := "effect", desc := "(IIIII)I" } : Jvm.MethodName)) ∈ wT := wT_i1 154 rfl rfl
theorem kw_155 : (Jvm.Cond.selects "PushStick" ({ cls := "PushStick", name := "effect", desc := "(IIIII)I" } : Jvm.MethodName) ({ cls := "PushStick", name := "effect", desc := "(IIIII)I" } : Jvm.MethodName)) ∈ wT := wT_i1 155 rfl rfl
theorem kw_156 : (Jvm.Cond.code ({ cls := "PushStick", name := "effect", desc := "(IIIII)I" } : Jvm.MethodName) prog_1_method_2_code (7 : Nat) (Option.some Jvm.ClassFile.FieldType.int)) ∈ wT := wT_i1 156 rfl rfl
theorem kw_157 : (Jvm.Cond.methodLink "PushStick" (75 : Nat) ({ cls := "PushStick", name := "isShape", desc := "(IIIII)Z" } : Jvm.MethodName)) ∈ wT := wT_i1 157 rfl rfl
theorem kw_158 : (Jvm.Cond.static ({ cls := "PushStick", name := "isShape", desc := "(IIIII)Z" } : Jvm.MethodName)) ∈ wT := wT_i1 158 rfl rfl
theorem kw_159 : (Jvm.Cond.code ({ cls := "PushStick", name := "isShape", desc := "(IIIII)Z" } : Jvm.MethodName) prog_1_method_34_code (6 : Nat) (Option.some Jvm.ClassFile.FieldType.boolean)) ∈ wT := wT_i1 159 rfl rfl
theorem kw_160 : (Jvm.Cond.methodLink "PushStick" (250 : Nat) ({ cls := "PushStick", name := "isShapeNumber", desc := "(III)Z" } : Jvm.MethodName)) ∈ wT := wT_i1 160 rfl rfl
theorem kw_161 : (Jvm.Cond.static ({ cls := "PushStick", name := "isShapeNumber", desc := "(III)Z" } : Jvm.MethodName)) ∈ wT := wT_i1 161 rfl rfl
theorem kw_162 : (Jvm.Cond.code ({ cls := "PushStick", name := "isShapeNumber", desc := "(III)Z" } : Jvm.MethodName) prog_1_method_35_code (4 : Nat) (Option.some Jvm.ClassFile.FieldType.boolean)) ∈ wT := wT_i1 162 rfl rfl
theorem kw_163 : (Jvm.Cond.fieldLink "PushStick" (253 : Nat) "PushStick" "SHAPE_LEAST" "[I") ∈ wT := wT_i1 163 rfl rfl
theorem kw_165 : (Jvm.Cond.fieldLink "PushStick" (256 : Nat) "PushStick" "SHAPE_MOST" "[I") ∈ wT := wT_i1 165 rfl rfl
theorem kw_167 : (Jvm.Cond.methodLink "PushStick" (102 : Nat) ({ cls := "PushStick", name := "isWithin", desc := "(III)Z" } : Jvm.MethodName)) ∈ wT := wT_i1 167 rfl rfl
theorem kw_168 : (Jvm.Cond.static ({ cls := "PushStick", name := "isWithin", desc := "(III)Z" } : Jvm.MethodName)) ∈ wT := wT_i1 168 rfl rfl
theorem kw_169 : (Jvm.Cond.code ({ cls := "PushStick", name := "isWithin", desc := "(III)Z" } : Jvm.MethodName) prog_1_method_30_code (3 : Nat) (Option.some Jvm.ClassFile.FieldType.boolean)) ∈ wT := wT_i1 169 rfl rfl
theorem kw_170 : (Jvm.Cond.methodLink "PushStick" (79 : Nat) ({ cls := "PushStick$Effect", name := "become", desc := "(IIIII)V" } : Jvm.MethodName)) ∈ wT := wT_i1 170 rfl rfl
theorem kw_171 : (Jvm.Cond.instanceMethod ({ cls := "PushStick$Effect", name := "become", desc := "(IIIII)V" } : Jvm.MethodName)) ∈ wT := wT_i1 171 rfl rfl
theorem kw_172 : (Jvm.Cond.selects "PushStick$Effect" ({ cls := "PushStick$Effect", name := "become", desc := "(IIIII)V" } : Jvm.MethodName) ({ cls := "PushStick$Effect", name := "become", desc := "(IIIII)V" } : Jvm.MethodName)) ∈ wT := wT_i1 172 rfl rfl
theorem kw_173 : (Jvm.Cond.code ({ cls := "PushStick$Effect", name := "become", desc := "(IIIII)V" } : Jvm.MethodName) prog_4_method_2_code (7 : Nat) (Option.none : Option Jvm.ClassFile.FieldType)) ∈ wT := wT_i1 173 rfl rfl
theorem kw_176 : (Jvm.Cond.methodLink "PushStickLaw" (18 : Nat) ({ cls := "PushStick", name := "set", desc := "(III)I" } : Jvm.MethodName)) ∈ wT := wT_i1 176 rfl rfl
theorem kw_177 : (Jvm.Cond.instanceMethod ({ cls := "PushStick", name := "set", desc := "(III)I" } : Jvm.MethodName)) ∈ wT := wT_i1 177 rfl rfl
theorem kw_178 : (Jvm.Cond.selects "PushStick" ({ cls := "PushStick", name := "set", desc := "(III)I" } : Jvm.MethodName) ({ cls := "PushStick", name := "set", desc := "(III)I" } : Jvm.MethodName)) ∈ wT := wT_i1 178 rfl rfl
theorem kw_179 : (Jvm.Cond.code ({ cls := "PushStick", name := "set", desc := "(III)I" } : Jvm.MethodName) prog_1_method_3_code (5 : Nat) (Option.some Jvm.ClassFile.FieldType.int)) ∈ wT := wT_i1 179 rfl rfl
theorem kw_180 : (Jvm.Cond.methodLink "PushStick" (83 : Nat) ({ cls := "PushStick", name := "isEffect", desc := "(I)Z" } : Jvm.MethodName)) ∈ wT := wT_i1 180 rfl rfl
theorem kw_182 : (Jvm.Cond.instanceMethod ({ cls := "PushStick", name := "isEffect", desc := "(I)Z" } : Jvm.MethodName)) ∈ wT := wT_i1 182 rfl rfl
theorem kw_183 : (Jvm.Cond.code ({ cls := "PushStick", name := "isEffect", desc := "(I)Z" } : Jvm.MethodName) prog_1_method_31_code (2 : Nat) (Option.some Jvm.ClassFile.FieldType.boolean)) ∈ wT := wT_i1 183 rfl rfl
theorem kw_184 : (Jvm.Cond.methodLink "PushStick" (87 : Nat) ({ cls := "PushStick", name := "isNumber", desc := "(II)Z" } : Jvm.MethodName)) ∈ wT := wT_i1 184 rfl rfl
theorem kw_185 : (Jvm.Cond.static ({ cls := "PushStick", name := "isNumber", desc := "(II)Z" } : Jvm.MethodName)) ∈ wT := wT_i1 185 rfl rfl
theorem kw_186 : (Jvm.Cond.code ({ cls := "PushStick", name := "isNumber", desc := "(II)Z" } : Jvm.MethodName) prog_1_method_36_code (2 : Nat) (Option.some Jvm.ClassFile.FieldType.boolean)) ∈ wT := wT_i1 186 rfl rfl
theorem kw_187 : (Jvm.Cond.fieldLink "PushStick" (259 : Nat) "PushStick" "NUMBER_LEAST" "[I") ∈ wT := wT_i1 187 rfl rfl
theorem kw_189 : (Jvm.Cond.fieldLink "PushStick" (262 : Nat) "PushStick" "NUMBER_MOST" "[I") ∈ wT := wT_i1 189 rfl rfl
theorem kw_191 : (Jvm.Cond.methodLink "PushStick" (91 : Nat) ({ cls := "PushStick", name := "toldNumber", desc := "(LPushStick$Effect;I)I" } : Jvm.MethodName)) ∈ wT := wT_i1 191 rfl rfl
theorem kw_192 : (Jvm.Cond.static ({ cls := "PushStick", name := "toldNumber", desc := "(LPushStick$Effect;I)I" } : Jvm.MethodName)) ∈ wT := wT_i1 192 rfl rfl
theorem kw_193 : (Jvm.Cond.code ({ cls := "PushStick", name := "toldNumber", desc := "(LPushStick$Effect;I)I" } : Jvm.MethodName) prog_1_method_37_code (2 : Nat) (Option.some Jvm.ClassFile.FieldType.int)) ∈ wT := wT_i1 193 rfl rfl
theorem kw_194 : (Jvm.Cond.methodLink "PushStickLaw" (23 : Nat) ({ cls := "PushStick", name := "drop", desc := "()I" } : Jvm.MethodName)) ∈ wT := wT_i1 194 rfl rfl
theorem kw_195 : (Jvm.Cond.instanceMethod ({ cls := "PushStick", name := "drop", desc := "()I" } : Jvm.MethodName)) ∈ wT := wT_i1 195 rfl rfl
theorem kw_196 : (Jvm.Cond.selects "PushStick" ({ cls := "PushStick", name := "drop", desc := "()I" } : Jvm.MethodName) ({ cls := "PushStick", name := "drop", desc := "()I" } : Jvm.MethodName)) ∈ wT := wT_i1 196 rfl rfl
theorem kw_197 : (Jvm.Cond.code ({ cls := "PushStick", name := "drop", desc := "()I" } : Jvm.MethodName) prog_1_method_4_code (1 : Nat) (Option.some Jvm.ClassFile.FieldType.int)) ∈ wT := wT_i1 197 rfl rfl
theorem kw_198 : (Jvm.Cond.methodLink "PushStick" (98 : Nat) ({ cls := "PushStick", name := "takeOut", desc := "(LPushStick$Effect;)V" } : Jvm.MethodName)) ∈ wT := wT_i1 198 rfl rfl
theorem kw_200 : (Jvm.Cond.instanceMethod ({ cls := "PushStick", name := "takeOut", desc := "(LPushStick$Effect;)V" } : Jvm.MethodName)) ∈ wT := wT_i1 200 rfl rfl
theorem kw_201 : (Jvm.Cond.code ({ cls := "PushStick", name := "takeOut", desc := "(LPushStick$Effect;)V" } : Jvm.MethodName) prog_1_method_44_code (4 : Nat) (Option.none : Option Jvm.ClassFile.FieldType)) ∈ wT := wT_i1 201 rfl rfl
theorem kw_202 : (Jvm.Cond.methodLink "PushStickLaw" (28 : Nat) ({ cls := "PushStick", name := "hand", desc := "(II)I" } : Jvm.MethodName)) ∈ wT := wT_i1 202 rfl rfl
theorem kw_203 : (Jvm.Cond.instanceMethod ({ cls := "PushStick", name := "hand", desc := "(II)I" } : Jvm.MethodName)) ∈ wT := wT_i1 203 rfl rfl
theorem kw_204 : (Jvm.Cond.selects "PushStick" ({ cls := "PushStick", name := "hand", desc := "(II)I" } : Jvm.MethodName) ({ cls := "PushStick", name := "hand", desc := "(II)I" } : Jvm.MethodName)) ∈ wT := wT_i1 204 rfl rfl
theorem kw_205 : (Jvm.Cond.code ({ cls := "PushStick", name := "hand", desc := "(II)I" } : Jvm.MethodName) prog_1_method_5_code (4 : Nat) (Option.some Jvm.ClassFile.FieldType.int)) ∈ wT := wT_i1 205 rfl rfl
theorem kw_206 : (Jvm.Cond.methodLink "PushStick" (106 : Nat) ({ cls := "PushStick$Axis", name := "moveTo", desc := "(II)V" } : Jvm.MethodName)) ∈ wT := wT_i1 206 rfl rfl
theorem kw_207 : (Jvm.Cond.instanceMethod ({ cls := "PushStick$Axis", name := "moveTo", desc := "(II)V" } : Jvm.MethodName)) ∈ wT := wT_i1 207 rfl rfl
theorem kw_208 : (Jvm.Cond.selects "PushStick$Axis" ({ cls := "PushStick$Axis", name := "moveTo", desc := "(II)V" } : Jvm.MethodName) ({ cls := "PushStick$Axis", name := "moveTo", desc := "(II)V" } : Jvm.MethodName)) ∈ wT := wT_i1 208 rfl rfl
theorem kw_209 : (Jvm.Cond.code ({ cls := "PushStick$Axis", name := "moveTo", desc := "(II)V" } : Jvm.MethodName) prog_2_method_2_code (3 : Nat) (Option.none : Option Jvm.ClassFile.FieldType)) ∈ wT := wT_i1 209 rfl rfl
theorem kw_210 : (Jvm.Cond.methodLink "PushStickLaw" (33 : Nat) ({ cls := "PushStick", name := "ofAxis", desc := "(II)I" } : Jvm.MethodName)) ∈ wT := wT_i1 210 rfl rfl
theorem kw_211 : (Jvm.Cond.instanceMethod ({ cls := "PushStick", name := "ofAxis", desc := "(II)I" } : Jvm.MethodName)) ∈ wT := wT_i1 211 rfl rfl
theorem kw_212 : (Jvm.Cond.selects "PushStick" ({ cls := "PushStick", name := "ofAxis", desc := "(II)I" } : Jvm.MethodName) ({ cls := "PushStick", name := "ofAxis", desc := "(II)I" } : Jvm.MethodName)) ∈ wT := wT_i1 212 rfl rfl
theorem kw_213 : (Jvm.Cond.code ({ cls := "PushStick", name := "ofAxis", desc := "(II)I" } : Jvm.MethodName) prog_1_method_6_code (3 : Nat) (Option.some Jvm.ClassFile.FieldType.int)) ∈ wT := wT_i1 213 rfl rfl
theorem kw_214 : (Jvm.Cond.methodLink "PushStick" (110 : Nat) ({ cls := "PushStick", name := "isAxis", desc := "(I)Z" } : Jvm.MethodName)) ∈ wT := wT_i1 214 rfl rfl
theorem kw_215 : (Jvm.Cond.static ({ cls := "PushStick", name := "isAxis", desc := "(I)Z" } : Jvm.MethodName)) ∈ wT := wT_i1 215 rfl rfl
theorem kw_216 : (Jvm.Cond.code ({ cls := "PushStick", name := "isAxis", desc := "(I)Z" } : Jvm.MethodName) prog_1_method_32_code (1 : Nat) (Option.some Jvm.ClassFile.FieldType.boolean)) ∈ wT := wT_i1 216 rfl rfl
theorem kw_217 : (Jvm.Cond.constant "PushStick" (113 : Nat) (10000000 : Int32)) ∈ wT := wT_i1 217 rfl rfl
theorem kw_218 : (Jvm.Cond.methodLink "PushStickLaw" (37 : Nat) ({ cls := "PushStick", name := "ofEffect", desc := "(II)I" } : Jvm.MethodName)) ∈ wT := wT_i1 218 rfl rfl
theorem kw_219 : (Jvm.Cond.instanceMethod ({ cls := "PushStick", name := "ofEffect", desc := "(II)I" } : Jvm.MethodName)) ∈ wT := wT_i1 219 rfl rfl
theorem kw_220 : (Jvm.Cond.selects "PushStick" ({ cls := "PushStick", name := "ofEffect", desc := "(II)I" } : Jvm.MethodName) ({ cls := "PushStick", name := "ofEffect", desc := "(II)I" } : Jvm.MethodName)) ∈ wT := wT_i1 220 rfl rfl
theorem kw_221 : (Jvm.Cond.code ({ cls := "PushStick", name := "ofEffect", desc := "(II)I" } : Jvm.MethodName) prog_1_method_7_code (4 : Nat) (Option.some Jvm.ClassFile.FieldType.int)) ∈ wT := wT_i1 221 rfl rfl
theorem kw_222 : (Jvm.Cond.methodLink "PushStick" (141 : Nat) ({ cls := "PushStick$Effect", name := "playsAt", desc := "(II)Z" } : Jvm.MethodName)) ∈ wT := wT_i1 222 rfl rfl
theorem kw_223 : (Jvm.Cond.instanceMethod ({ cls := "PushStick$Effect", name := "playsAt", desc := "(II)Z" } : Jvm.MethodName)) ∈ wT := wT_i1 223 rfl rfl
theorem kw_224 : (Jvm.Cond.selects "PushStick$Effect" ({ cls := "PushStick$Effect", name := "playsAt", desc := "(II)Z" } : Jvm.MethodName) ({ cls := "PushStick$Effect", name := "playsAt", desc := "(II)Z" } : Jvm.MethodName)) ∈ wT := wT_i1 224 rfl rfl
theorem kw_225 : (Jvm.Cond.code ({ cls := "PushStick$Effect", name := "playsAt", desc := "(II)Z" } : Jvm.MethodName) prog_4_method_3_code (4 : Nat) (Option.some Jvm.ClassFile.FieldType.boolean)) ∈ wT := wT_i1 225 rfl rfl
theorem kw_226 : (Jvm.Cond.methodLink "PushStick" (144 : Nat) ({ cls := "PushStick$Effect", name := "isOnAt", desc := "(II)Z" } : Jvm.MethodName)) ∈ wT := wT_i1 226 rfl rfl
theorem kw_227 : (Jvm.Cond.instanceMethod ({ cls := "PushStick$Effect", name := "isOnAt", desc := "(II)Z" } : Jvm.MethodName)) ∈ wT := wT_i1 227 rfl rfl
theorem kw_228 : (Jvm.Cond.selects "PushStick$Effect" ({ cls := "PushStick$Effect", name := "isOnAt", desc := "(II)Z" } : Jvm.MethodName) ({ cls := "PushStick$Effect", name := "isOnAt", desc := "(II)Z" } : Jvm.MethodName)) ∈ wT := wT_i1 228 rfl rfl
theorem kw_229 : (Jvm.Cond.code ({ cls := "PushStick$Effect", name := "isOnAt", desc := "(II)Z" } : Jvm.MethodName) prog_4_method_4_code (3 : Nat) (Option.some Jvm.ClassFile.FieldType.boolean)) ∈ wT := wT_i1 229 rfl rfl
theorem kw_230 : (Jvm.Cond.methodLink "PushStick$Effect" (46 : Nat) ({ cls := "PushStick$Effect", name := "playsAt", desc := "(II)Z" } : Jvm.MethodName)) ∈ wT := wT_i1 230 rfl rfl
theorem kw_231 : (Jvm.Cond.methodLink "PushStickLaw" (41 : Nat) ({ cls := "PushStick", name := "slots", desc := "(I)I" } : Jvm.MethodName)) ∈ wT := wT_i1 231 rfl rfl
theorem kw_232 : (Jvm.Cond.instanceMethod ({ cls := "PushStick", name := "slots", desc := "(I)I" } : Jvm.MethodName)) ∈ wT := wT_i1 232 rfl rfl
theorem kw_233 : (Jvm.Cond.selects "PushStick" ({ cls := "PushStick", name := "slots", desc := "(I)I" } : Jvm.MethodName) ({ cls := "PushStick", name := "slots", desc := "(I)I" } : Jvm.MethodName)) ∈ wT := wT_i1 233 rfl rfl
theorem kw_234 : (Jvm.Cond.code ({ cls := "PushStick", name := "slots", desc := "(I)I" } : Jvm.MethodName) prog_1_method_8_code (3 : Nat) (Option.some Jvm.ClassFile.FieldType.int)) ∈ wT := wT_i1 234 rfl rfl
theorem kw_235 : (Jvm.Cond.methodLink "PushStickLaw" (46 : Nat) ({ cls := "PushStick", name := "slot", desc := "(I)I" } : Jvm.MethodName)) ∈ wT := wT_i1 235 rfl rfl
theorem kw_236 : (Jvm.Cond.instanceMethod ({ cls := "PushStick", name := "slot", desc := "(I)I" } : Jvm.MethodName)) ∈ wT := wT_i1 236 rfl rfl
theorem kw_237 : (Jvm.Cond.selects "PushStick" ({ cls := "PushStick", name := "slot", desc := "(I)I" } : Jvm.MethodName) ({ cls := "PushStick", name := "slot", desc := "(I)I" } : Jvm.MethodName)) ∈ wT := wT_i1 237 rfl rfl
theorem kw_238 : (Jvm.Cond.code ({ cls := "PushStick", name := "slot", desc := "(I)I" } : Jvm.MethodName) prog_1_method_9_code (3 : Nat) (Option.some Jvm.ClassFile.FieldType.int)) ∈ wT := wT_i1 238 rfl rfl
theorem kw_239 : (Jvm.Cond.methodLink "PushStickLaw" (50 : Nat) ({ cls := "PushStick", name := "load", desc := "(I)I" } : Jvm.MethodName)) ∈ wT := wT_i1 239 rfl rfl
theorem kw_240 : (Jvm.Cond.instanceMethod ({ cls := "PushStick", name := "load", desc := "(I)I" } : Jvm.MethodName)) ∈ wT := wT_i2 0 rfl rfl
theorem kw_241 : (Jvm.Cond.selects "PushStick" ({ cls := "PushStick", name := "load", desc := "(I)I" } : Jvm.MethodName) ({ cls := "PushStick", name := "load", desc := "(I)I" } : Jvm.MethodName)) ∈ wT := wT_i2 1 rfl rfl
theorem kw_242 : (Jvm.Cond.code ({ cls := "PushStick", name := "load", desc := "(I)I" } : Jvm.MethodName) prog_1_method_10_code (2 : Nat) (Option.some Jvm.ClassFile.FieldType.int)) ∈ wT := wT_i2 2 rfl rfl
theorem kw_243 : (Jvm.Cond.methodLink "PushStick" (150 : Nat) ({ cls := "PushStick", name := "bringIn", desc := "(LPushStick$Effect;)I" } : Jvm.MethodName)) ∈ wT := wT_i2 3 rfl rfl
theorem kw_245 : (Jvm.Cond.instanceMethod ({ cls := "PushStick", name := "bringIn", desc := "(LPushStick$Effect;)I" } : Jvm.MethodName)) ∈ wT := wT_i2 5 rfl rfl
theorem kw_246 : (Jvm.Cond.code ({ cls := "PushStick", name := "bringIn", desc := "(LPushStick$Effect;)I" } : Jvm.MethodName) prog_1_method_41_code (4 : Nat) (Option.some Jvm.ClassFile.FieldType.int)) ∈ wT := wT_i2 6 rfl rfl
theorem kw_247 : (Jvm.Cond.methodLink "PushStick" (265 : Nat) ({ cls := "PushStick", name := "leastFreeSlot", desc := "()I" } : Jvm.MethodName)) ∈ wT := wT_i2 7 rfl rfl
theorem kw_249 : (Jvm.Cond.instanceMethod ({ cls := "PushStick", name := "leastFreeSlot", desc := "()I" } : Jvm.MethodName)) ∈ wT := wT_i2 9 rfl rfl
theorem kw_250 : (Jvm.Cond.code ({ cls := "PushStick", name := "leastFreeSlot", desc := "()I" } : Jvm.MethodName) prog_1_method_42_code (2 : Nat) (Option.some Jvm.ClassFile.FieldType.int)) ∈ wT := wT_i2 10 rfl rfl
theorem kw_251 : (Jvm.Cond.methodLink "PushStick" (268 : Nat) ({ cls := "PushStick", name := "whichGoes", desc := "(I)LPushStick$Effect;" } : Jvm.MethodName)) ∈ wT := wT_i2 11 rfl rfl
theorem kw_253 : (Jvm.Cond.instanceMethod ({ cls := "PushStick", name := "whichGoes", desc := "(I)LPushStick$Effect;" } : Jvm.MethodName)) ∈ wT := wT_i2 13 rfl rfl
theorem kw_254 : (Jvm.Cond.code ({ cls := "PushStick", name := "whichGoes", desc := "(I)LPushStick$Effect;" } : Jvm.MethodName) prog_1_method_43_code (7 : Nat) (Option.some (Jvm.ClassFile.FieldType.object "PushStick$Effect"))) ∈ wT := wT_i2 14 rfl rfl
theorem kw_255 : (Jvm.Cond.methodLink "PushStickLaw" (54 : Nat) ({ cls := "PushStick", name := "unload", desc := "(I)I" } : Jvm.MethodName)) ∈ wT := wT_i2 15 rfl rfl
theorem kw_256 : (Jvm.Cond.instanceMethod ({ cls := "PushStick", name := "unload", desc := "(I)I" } : Jvm.MethodName)) ∈ wT := wT_i2 16 rfl rfl
theorem kw_257 : (Jvm.Cond.selects "PushStick" ({ cls := "PushStick", name := "unload", desc := "(I)I" } : Jvm.MethodName) ({ cls := "PushStick", name := "unload", desc := "(I)I" } : Jvm.MethodName)) ∈ wT := wT_i2 17 rfl rfl
theorem kw_258 : (Jvm.Cond.code ({ cls := "PushStick", name := "unload", desc := "(I)I" } : Jvm.MethodName) prog_1_method_11_code (3 : Nat) (Option.some Jvm.ClassFile.FieldType.int)) ∈ wT := wT_i2 18 rfl rfl
theorem kw_259 : (Jvm.Cond.methodLink "PushStickLaw" (58 : Nat) ({ cls := "PushStick", name := "play", desc := "(I)I" } : Jvm.MethodName)) ∈ wT := wT_i2 19 rfl rfl
theorem kw_260 : (Jvm.Cond.instanceMethod ({ cls := "PushStick", name := "play", desc := "(I)I" } : Jvm.MethodName)) ∈ wT := wT_i2 20 rfl rfl
theorem kw_261 : (Jvm.Cond.selects "PushStick" ({ cls := "PushStick", name := "play", desc := "(I)I" } : Jvm.MethodName) ({ cls := "PushStick", name := "play", desc := "(I)I" } : Jvm.MethodName)) ∈ wT := wT_i2 21 rfl rfl
theorem kw_262 : (Jvm.Cond.code ({ cls := "PushStick", name := "play", desc := "(I)I" } : Jvm.MethodName) prog_1_method_12_code (3 : Nat) (Option.some Jvm.ClassFile.FieldType.int)) ∈ wT := wT_i2 22 rfl rfl
theorem kw_263 : (Jvm.Cond.methodLink "PushStickLaw" (62 : Nat) ({ cls := "PushStick", name := "stop", desc := "(I)I" } : Jvm.MethodName)) ∈ wT := wT_i2 23 rfl rfl
theorem kw_264 : (Jvm.Cond.instanceMethod ({ cls := "PushStick", name := "stop", desc := "(I)I" } : Jvm.MethodName)) ∈ wT := wT_i2 24 rfl rfl
theorem kw_265 : (Jvm.Cond.selects "PushStick" ({ cls := "PushStick", name := "stop", desc := "(I)I" } : Jvm.MethodName) ({ cls := "PushStick", name := "stop", desc := "(I)I" } : Jvm.MethodName)) ∈ wT := wT_i2 25 rfl rfl
theorem kw_266 : (Jvm.Cond.code ({ cls := "PushStick", name := "stop", desc := "(I)I" } : Jvm.MethodName) prog_1_method_13_code (4 : Nat) (Option.some Jvm.ClassFile.FieldType.int)) ∈ wT := wT_i2 26 rfl rfl
theorem kw_267 : (Jvm.Cond.methodLink "PushStickLaw" (66 : Nat) ({ cls := "PushStick", name := "press", desc := "(I)I" } : Jvm.MethodName)) ∈ wT := wT_i2 27 rfl rfl
theorem kw_268 : (Jvm.Cond.instanceMethod ({ cls := "PushStick", name := "press", desc := "(I)I" } : Jvm.MethodName)) ∈ wT := wT_i2 28 rfl rfl
theorem kw_269 : (Jvm.Cond.selects "PushStick" ({ cls := "PushStick", name := "press", desc := "(I)I" } : Jvm.MethodName) ({ cls := "PushStick", name := "press", desc := "(I)I" } : Jvm.MethodName)) ∈ wT := wT_i2 29 rfl rfl
theorem kw_270 : (Jvm.Cond.code ({ cls := "PushStick", name := "press", desc := "(I)I" } : Jvm.MethodName) prog_1_method_14_code (5 : Nat) (Option.some Jvm.ClassFile.FieldType.int)) ∈ wT := wT_i2 30 rfl rfl
theorem kw_271 : (Jvm.Cond.methodLink "PushStick" (154 : Nat) ({ cls := "PushStick", name := "isButton", desc := "(I)Z" } : Jvm.MethodName)) ∈ wT := wT_i2 31 rfl rfl
theorem kw_272 : (Jvm.Cond.static ({ cls := "PushStick", name := "isButton", desc := "(I)Z" } : Jvm.MethodName)) ∈ wT := wT_i2 32 rfl rfl
theorem kw_273 : (Jvm.Cond.code ({ cls := "PushStick", name := "isButton", desc := "(I)Z" } : Jvm.MethodName) prog_1_method_33_code (1 : Nat) (Option.some Jvm.ClassFile.FieldType.boolean)) ∈ wT := wT_i2 33 rfl rfl
theorem kw_274 : (Jvm.Cond.methodLink "PushStickLaw" (70 : Nat) ({ cls := "PushStick", name := "free", desc := "(I)I" } : Jvm.MethodName)) ∈ wT := wT_i2 34 rfl rfl
theorem kw_275 : (Jvm.Cond.instanceMethod ({ cls := "PushStick", name := "free", desc := "(I)I" } : Jvm.MethodName)) ∈ wT := wT_i2 35 rfl rfl
theorem kw_276 : (Jvm.Cond.selects "PushStick" ({ cls := "PushStick", name := "free", desc := "(I)I" } : Jvm.MethodName) ({ cls := "PushStick", name := "free", desc := "(I)I" } : Jvm.MethodName)) ∈ wT := wT_i2 36 rfl rfl
theorem kw_277 : (Jvm.Cond.code ({ cls := "PushStick", name := "free", desc := "(I)I" } : Jvm.MethodName) prog_1_method_15_code (2 : Nat) (Option.some Jvm.ClassFile.FieldType.int)) ∈ wT := wT_i2 37 rfl rfl
theorem kw_278 : (Jvm.Cond.methodLink "PushStick" (166 : Nat) ({ cls := "PushStick", name := "letGo", desc := "(I)V" } : Jvm.MethodName)) ∈ wT := wT_i2 38 rfl rfl
theorem kw_280 : (Jvm.Cond.instanceMethod ({ cls := "PushStick", name := "letGo", desc := "(I)V" } : Jvm.MethodName)) ∈ wT := wT_i2 40 rfl rfl
theorem kw_281 : (Jvm.Cond.code ({ cls := "PushStick", name := "letGo", desc := "(I)V" } : Jvm.MethodName) prog_1_method_45_code (3 : Nat) (Option.none : Option Jvm.ClassFile.FieldType)) ∈ wT := wT_i2 41 rfl rfl
theorem kw_282 : (Jvm.Cond.methodLink "PushStickLaw" (74 : Nat) ({ cls := "PushStick", name := "pass", desc := "(I)I" } : Jvm.MethodName)) ∈ wT := wT_i2 42 rfl rfl
theorem kw_283 : (Jvm.Cond.instanceMethod ({ cls := "PushStick", name := "pass", desc := "(I)I" } : Jvm.MethodName)) ∈ wT := wT_i2 43 rfl rfl
theorem kw_284 : (Jvm.Cond.selects "PushStick" ({ cls := "PushStick", name := "pass", desc := "(I)I" } : Jvm.MethodName) ({ cls := "PushStick", name := "pass", desc := "(I)I" } : Jvm.MethodName)) ∈ wT := wT_i2 44 rfl rfl
theorem kw_285 : (Jvm.Cond.code ({ cls := "PushStick", name := "pass", desc := "(I)I" } : Jvm.MethodName) prog_1_method_16_code (4 : Nat) (Option.some Jvm.ClassFile.FieldType.int)) ∈ wT := wT_i2 45 rfl rfl
theorem kw_286 : (Jvm.Cond.constant "PushStick" (169 : Nat) (100000 : Int32)) ∈ wT := wT_i2 46 rfl rfl
theorem kw_287 : (Jvm.Cond.methodLink "PushStick" (170 : Nat) ({ cls := "PushStick", name := "lossAt", desc := "()I" } : Jvm.MethodName)) ∈ wT := wT_i2 47 rfl rfl
theorem kw_289 : (Jvm.Cond.instanceMethod ({ cls := "PushStick", name := "lossAt", desc := "()I" } : Jvm.MethodName)) ∈ wT := wT_i2 49 rfl rfl
theorem kw_290 : (Jvm.Cond.code ({ cls := "PushStick", name := "lossAt", desc := "()I" } : Jvm.MethodName) prog_1_method_46_code (1 : Nat) (Option.some Jvm.ClassFile.FieldType.int)) ∈ wT := wT_i2 50 rfl rfl
theorem kw_291 : (Jvm.Cond.constant "PushStick" (272 : Nat) (1000000000 : Int32)) ∈ wT := wT_i2 51 rfl rfl
theorem kw_292 : (Jvm.Cond.methodLink "PushStick" (174 : Nat) ({ cls := "java/lang/Math", name := "min", desc := "(II)I" } : Jvm.MethodName)) ∈ wT := wT_i2 52 rfl rfl
theorem kw_293 : (Jvm.Cond.static ({ cls := "java/lang/Math", name := "min", desc := "(II)I" } : Jvm.MethodName)) ∈ wT := wT_i2 53 rfl rfl
theorem kw_294 : (Jvm.Cond.code ({ cls := "java/lang/Math", name := "min", desc := "(II)I" } : Jvm.MethodName) prog_8_method_69_code (2 : Nat) (Option.some Jvm.ClassFile.FieldType.int)) ∈ wT := wT_i2 54 rfl rfl
theorem kw_295 : (Jvm.Cond.methodLink "PushStick" (180 : Nat) ({ cls := "PushStick", name := "beginAgainUpTo", desc := "(I)V" } : Jvm.MethodName)) ∈ wT := wT_i2 55 rfl rfl
theorem kw_297 : (Jvm.Cond.instanceMethod ({ cls := "PushStick", name := "beginAgainUpTo", desc := "(I)V" } : Jvm.MethodName)) ∈ wT := wT_i2 57 rfl rfl
theorem kw_298 : (Jvm.Cond.code ({ cls := "PushStick", name := "beginAgainUpTo", desc := "(I)V" } : Jvm.MethodName) prog_1_method_48_code (4 : Nat) (Option.none : Option Jvm.ClassFile.FieldType)) ∈ wT := wT_i2 58 rfl rfl
theorem kw_299 : (Jvm.Cond.methodLink "PushStick" (276 : Nat) ({ cls := "PushStick", name := "startBy", desc := "(LPushStick$Effect;I)I" } : Jvm.MethodName)) ∈ wT := wT_i2 59 rfl rfl
theorem kw_301 : (Jvm.Cond.instanceMethod ({ cls := "PushStick", name := "startBy", desc := "(LPushStick$Effect;I)I" } : Jvm.MethodName)) ∈ wT := wT_i2 61 rfl rfl
theorem kw_302 : (Jvm.Cond.code ({ cls := "PushStick", name := "startBy", desc := "(LPushStick$Effect;I)I" } : Jvm.MethodName) prog_1_method_47_code (7 : Nat) (Option.some Jvm.ClassFile.FieldType.int)) ∈ wT := wT_i2 62 rfl rfl
theorem kw_303 : (Jvm.Cond.methodLink "PushStick" (273 : Nat) ({ cls := "PushStick", name := "remainder", desc := "(II)I" } : Jvm.MethodName)) ∈ wT := wT_i2 63 rfl rfl
theorem kw_304 : (Jvm.Cond.static ({ cls := "PushStick", name := "remainder", desc := "(II)I" } : Jvm.MethodName)) ∈ wT := wT_i2 64 rfl rfl
theorem kw_305 : (Jvm.Cond.code ({ cls := "PushStick", name := "remainder", desc := "(II)I" } : Jvm.MethodName) prog_1_method_39_code (2 : Nat) (Option.some Jvm.ClassFile.FieldType.int)) ∈ wT := wT_i2 65 rfl rfl
theorem kw_306 : (Jvm.Cond.methodLink "PushStick" (183 : Nat) ({ cls := "PushStick", name := "loseHostAt", desc := "(I)V" } : Jvm.MethodName)) ∈ wT := wT_i2 66 rfl rfl
theorem kw_308 : (Jvm.Cond.instanceMethod ({ cls := "PushStick", name := "loseHostAt", desc := "(I)V" } : Jvm.MethodName)) ∈ wT := wT_i2 68 rfl rfl
theorem kw_309 : (Jvm.Cond.code ({ cls := "PushStick", name := "loseHostAt", desc := "(I)V" } : Jvm.MethodName) prog_1_method_49_code (4 : Nat) (Option.none : Option Jvm.ClassFile.FieldType)) ∈ wT := wT_i2 69 rfl rfl
theorem kw_310 : (Jvm.Cond.methodLink "PushStick" (186 : Nat) ({ cls := "PushStick", name := "howManyPlay", desc := "()I" } : Jvm.MethodName)) ∈ wT := wT_i2 70 rfl rfl
theorem kw_312 : (Jvm.Cond.instanceMethod ({ cls := "PushStick", name := "howManyPlay", desc := "()I" } : Jvm.MethodName)) ∈ wT := wT_i2 72 rfl rfl
theorem kw_313 : (Jvm.Cond.code ({ cls := "PushStick", name := "howManyPlay", desc := "()I" } : Jvm.MethodName) prog_1_method_51_code (4 : Nat) (Option.some Jvm.ClassFile.FieldType.int)) ∈ wT := wT_i2 73 rfl rfl
theorem kw_314 : (Jvm.Cond.methodLink "PushStickLaw" (78 : Nat) ({ cls := "PushStick", name := "hello", desc := "()I" } : Jvm.MethodName)) ∈ wT := wT_i2 74 rfl rfl
theorem kw_315 : (Jvm.Cond.instanceMethod ({ cls := "PushStick", name := "hello", desc := "()I" } : Jvm.MethodName)) ∈ wT := wT_i2 75 rfl rfl
theorem kw_316 : (Jvm.Cond.selects "PushStick" ({ cls := "PushStick", name := "hello", desc := "()I" } : Jvm.MethodName) ({ cls := "PushStick", name := "hello", desc := "()I" } : Jvm.MethodName)) ∈ wT := wT_i2 76 rfl rfl
theorem kw_317 : (Jvm.Cond.code ({ cls := "PushStick", name := "hello", desc := "()I" } : Jvm.MethodName) prog_1_method_17_code (2 : Nat) (Option.some Jvm.ClassFile.FieldType.int)) ∈ wT := wT_i2 77 rfl rfl
theorem kw_318 : (Jvm.Cond.methodLink "PushStickLaw" (82 : Nat) ({ cls := "PushStick", name := "watch", desc := "(I)I" } : Jvm.MethodName)) ∈ wT := wT_i2 78 rfl rfl
theorem kw_319 : (Jvm.Cond.instanceMethod ({ cls := "PushStick", name := "watch", desc := "(I)I" } : Jvm.MethodName)) ∈ wT := wT_i2 79 rfl rfl
theorem kw_320 : (Jvm.Cond.selects "PushStick" ({ cls := "PushStick", name := "watch", desc := "(I)I" } : Jvm.MethodName) ({ cls := "PushStick", name := "watch", desc := "(I)I" } : Jvm.MethodName)) ∈ wT := wT_i2 80 rfl rfl
theorem kw_321 : (Jvm.Cond.code ({ cls := "PushStick", name := "watch", desc := "(I)I" } : Jvm.MethodName) prog_1_method_18_code (3 : Nat) (Option.some Jvm.ClassFile.FieldType.int)) ∈ wT := wT_i2 81 rfl rfl
theorem kw_322 : (Jvm.Cond.methodLink "PushStickLaw" (86 : Nat) ({ cls := "PushStick", name := "master", desc := "(I)I" } : Jvm.MethodName)) ∈ wT := wT_i2 82 rfl rfl
theorem kw_323 : (Jvm.Cond.instanceMethod ({ cls := "PushStick", name := "master", desc := "(I)I" } : Jvm.MethodName)) ∈ wT := wT_i2 83 rfl rfl
theorem kw_324 : (Jvm.Cond.selects "PushStick" ({ cls := "PushStick", name := "master", desc := "(I)I" } : Jvm.MethodName) ({ cls := "PushStick", name := "master", desc := "(I)I" } : Jvm.MethodName)) ∈ wT := wT_i2 84 rfl rfl
theorem kw_325 : (Jvm.Cond.code ({ cls := "PushStick", name := "master", desc := "(I)I" } : Jvm.MethodName) prog_1_method_19_code (3 : Nat) (Option.some Jvm.ClassFile.FieldType.int)) ∈ wT := wT_i2 85 rfl rfl
theorem kw_326 : (Jvm.Cond.methodLink "PushStickLaw" (90 : Nat) ({ cls := "PushStick", name := "part", desc := "(II)I" } : Jvm.MethodName)) ∈ wT := wT_i2 86 rfl rfl
theorem kw_327 : (Jvm.Cond.instanceMethod ({ cls := "PushStick", name := "part", desc := "(II)I" } : Jvm.MethodName)) ∈ wT := wT_i2 87 rfl rfl
theorem kw_328 : (Jvm.Cond.selects "PushStick" ({ cls := "PushStick", name := "part", desc := "(II)I" } : Jvm.MethodName) ({ cls := "PushStick", name := "part", desc := "(II)I" } : Jvm.MethodName)) ∈ wT := wT_i2 88 rfl rfl
theorem kw_329 : (Jvm.Cond.code ({ cls := "PushStick", name := "part", desc := "(II)I" } : Jvm.MethodName) prog_1_method_20_code (4 : Nat) (Option.some Jvm.ClassFile.FieldType.int)) ∈ wT := wT_i2 89 rfl rfl
theorem kw_330 : (Jvm.Cond.methodLink "PushStick" (189 : Nat) ({ cls := "PushStick$Effect", name := "partAt", desc := "(IILPushStick$Axis;)I" } : Jvm.MethodName)) ∈ wT := wT_i2 90 rfl rfl
theorem kw_331 : (Jvm.Cond.instanceMethod ({ cls := "PushStick$Effect", name := "partAt", desc := "(IILPushStick$Axis;)I" } : Jvm.MethodName)) ∈ wT := wT_i2 91 rfl rfl
theorem kw_332 : (Jvm.Cond.selects "PushStick$Effect" ({ cls := "PushStick$Effect", name := "partAt", desc := "(IILPushStick$Axis;)I" } : Jvm.MethodName) ({ cls := "PushStick$Effect", name := "partAt", desc := "(IILPushStick$Axis;)I" } : Jvm.MethodName)) ∈ wT := wT_i2 92 rfl rfl
theorem kw_333 : (Jvm.Cond.code ({ cls := "PushStick$Effect", name := "partAt", desc := "(IILPushStick$Axis;)I" } : Jvm.MethodName) prog_4_method_9_code (5 : Nat) (Option.some Jvm.ClassFile.FieldType.int)) ∈ wT := wT_i2 93 rfl rfl
theorem kw_334 : (Jvm.Cond.methodLink "PushStick$Effect" (60 : Nat) ({ cls := "PushStick$Effect", name := "isOnAt", desc := "(II)Z" } : Jvm.MethodName)) ∈ wT := wT_i2 94 rfl rfl
theorem kw_335 : (Jvm.Cond.methodLink "PushStick$Effect" (63 : Nat) ({ cls := "PushStick$Effect", name := "sinceDelay", desc := "(II)I" } : Jvm.MethodName)) ∈ wT := wT_i2 95 rfl rfl
theorem kw_336 : (Jvm.Cond.instanceMethod ({ cls := "PushStick$Effect", name := "sinceDelay", desc := "(II)I" } : Jvm.MethodName)) ∈ wT := wT_i2 96 rfl rfl
theorem kw_337 : (Jvm.Cond.selects "PushStick$Effect" ({ cls := "PushStick$Effect", name := "sinceDelay", desc := "(II)I" } : Jvm.MethodName) ({ cls := "PushStick$Effect", name := "sinceDelay", desc := "(II)I" } : Jvm.MethodName)) ∈ wT := wT_i2 97 rfl rfl
theorem kw_338 : (Jvm.Cond.code ({ cls := "PushStick$Effect", name := "sinceDelay", desc := "(II)I" } : Jvm.MethodName) prog_4_method_5_code (3 : Nat) (Option.some Jvm.ClassFile.FieldType.int)) ∈ wT := wT_i2 98 rfl rfl
theorem kw_339 : (Jvm.Cond.methodLink "PushStick$Effect" (66 : Nat) ({ cls := "PushStick$Effect", name := "valueAt", desc := "(ILPushStick$Axis;)I" } : Jvm.MethodName)) ∈ wT := wT_i2 99 rfl rfl
theorem kw_340 : (Jvm.Cond.instanceMethod ({ cls := "PushStick$Effect", name := "valueAt", desc := "(ILPushStick$Axis;)I" } : Jvm.MethodName)) ∈ wT := wT_i2 100 rfl rfl
theorem kw_341 : (Jvm.Cond.selects "PushStick$Effect" ({ cls := "PushStick$Effect", name := "valueAt", desc := "(ILPushStick$Axis;)I" } : Jvm.MethodName) ({ cls := "PushStick$Effect", name := "valueAt", desc := "(ILPushStick$Axis;)I" } : Jvm.MethodName)) ∈ wT := wT_i2 101 rfl rfl
theorem kw_342 : (Jvm.Cond.code ({ cls := "PushStick$Effect", name := "valueAt", desc := "(ILPushStick$Axis;)I" } : Jvm.MethodName) prog_4_method_10_code (3 : Nat) (Option.some Jvm.ClassFile.FieldType.int)) ∈ wT := wT_i2 102 rfl rfl
theorem kw_343 : (Jvm.Cond.methodLink "PushStick$Effect" (78 : Nat) ({ cls := "PushStick$Effect", name := "awayFrom", desc := "(II)I" } : Jvm.MethodName)) ∈ wT := wT_i2 103 rfl rfl
theorem kw_344 : (Jvm.Cond.instanceMethod ({ cls := "PushStick$Effect", name := "awayFrom", desc := "(II)I" } : Jvm.MethodName)) ∈ wT := wT_i2 104 rfl rfl
theorem kw_345 : (Jvm.Cond.selects "PushStick$Effect" ({ cls := "PushStick$Effect", name := "awayFrom", desc := "(II)I" } : Jvm.MethodName) ({ cls := "PushStick$Effect", name := "awayFrom", desc := "(II)I" } : Jvm.MethodName)) ∈ wT := wT_i2 105 rfl rfl
theorem kw_346 : (Jvm.Cond.code ({ cls := "PushStick$Effect", name := "awayFrom", desc := "(II)I" } : Jvm.MethodName) prog_4_method_13_code (4 : Nat) (Option.some Jvm.ClassFile.FieldType.int)) ∈ wT := wT_i2 106 rfl rfl
theorem kw_347 : (Jvm.Cond.methodLink "PushStick$Effect" (103 : Nat) ({ cls := "java/lang/Math", name := "abs", desc := "(I)I" } : Jvm.MethodName)) ∈ wT := wT_i2 107 rfl rfl
theorem kw_348 : (Jvm.Cond.static ({ cls := "java/lang/Math", name := "abs", desc := "(I)I" } : Jvm.MethodName)) ∈ wT := wT_i2 108 rfl rfl
theorem kw_349 : (Jvm.Cond.code ({ cls := "java/lang/Math", name := "abs", desc := "(I)I" } : Jvm.MethodName) prog_8_method_59_code (1 : Nat) (Option.some Jvm.ClassFile.FieldType.int)) ∈ wT := wT_i2 109 rfl rfl
theorem kw_351 : (Jvm.Cond.static ({ cls := "PushStick", name := "quotient", desc := "(II)I" } : Jvm.MethodName)) ∈ wT := wT_i2 111 rfl rfl
theorem kw_352 : (Jvm.Cond.code ({ cls := "PushStick", name := "quotient", desc := "(II)I" } : Jvm.MethodName) prog_1_method_38_code (2 : Nat) (Option.some Jvm.ClassFile.FieldType.int)) ∈ wT := wT_i2 112 rfl rfl
theorem kw_354 : (Jvm.Cond.static ({ cls := "PushStick", name := "noFarther", desc := "(II)I" } : Jvm.MethodName)) ∈ wT := wT_i2 114 rfl rfl
theorem kw_355 : (Jvm.Cond.code ({ cls := "PushStick", name := "noFarther", desc := "(II)I" } : Jvm.MethodName) prog_1_method_40_code (2 : Nat) (Option.some Jvm.ClassFile.FieldType.int)) ∈ wT := wT_i2 115 rfl rfl
theorem kw_356 : (Jvm.Cond.methodLink "PushStick$Effect" (84 : Nat) ({ cls := "PushStick$Effect", name := "wallAt", desc := "(I)I" } : Jvm.MethodName)) ∈ wT := wT_i2 116 rfl rfl
theorem kw_357 : (Jvm.Cond.instanceMethod ({ cls := "PushStick$Effect", name := "wallAt", desc := "(I)I" } : Jvm.MethodName)) ∈ wT := wT_i2 117 rfl rfl
theorem kw_358 : (Jvm.Cond.selects "PushStick$Effect" ({ cls := "PushStick$Effect", name := "wallAt", desc := "(I)I" } : Jvm.MethodName) ({ cls := "PushStick$Effect", name := "wallAt", desc := "(I)I" } : Jvm.MethodName)) ∈ wT := wT_i2 118 rfl rfl
theorem kw_359 : (Jvm.Cond.code ({ cls := "PushStick$Effect", name := "wallAt", desc := "(I)I" } : Jvm.MethodName) prog_4_method_14_code (4 : Nat) (Option.some Jvm.ClassFile.FieldType.int)) ∈ wT := wT_i2 119 rfl rfl
theorem kw_360 : (Jvm.Cond.methodLink "PushStick$Effect" (88 : Nat) ({ cls := "PushStick$Effect", name := "waveAt", desc := "(I)I" } : Jvm.MethodName)) ∈ wT := wT_i2 120 rfl rfl
theorem kw_361 : (Jvm.Cond.instanceMethod ({ cls := "PushStick$Effect", name := "waveAt", desc := "(I)I" } : Jvm.MethodName)) ∈ wT := wT_i2 121 rfl rfl
theorem kw_362 : (Jvm.Cond.selects "PushStick$Effect" ({ cls := "PushStick$Effect", name := "waveAt", desc := "(I)I" } : Jvm.MethodName) ({ cls := "PushStick$Effect", name := "waveAt", desc := "(I)I" } : Jvm.MethodName)) ∈ wT := wT_i2 122 rfl rfl
theorem kw_363 : (Jvm.Cond.code ({ cls := "PushStick$Effect", name := "waveAt", desc := "(I)I" } : Jvm.MethodName) prog_4_method_11_code (2 : Nat) (Option.some Jvm.ClassFile.FieldType.int)) ∈ wT := wT_i2 123 rfl rfl
theorem kw_365 : (Jvm.Cond.methodLink "PushStick$Effect" (97 : Nat) ({ cls := "PushStick$Effect", name := "riseAt", desc := "(I)I" } : Jvm.MethodName)) ∈ wT := wT_i2 125 rfl rfl
theorem kw_366 : (Jvm.Cond.instanceMethod ({ cls := "PushStick$Effect", name := "riseAt", desc := "(I)I" } : Jvm.MethodName)) ∈ wT := wT_i2 126 rfl rfl
theorem kw_367 : (Jvm.Cond.selects "PushStick$Effect" ({ cls := "PushStick$Effect", name := "riseAt", desc := "(I)I" } : Jvm.MethodName) ({ cls := "PushStick$Effect", name := "riseAt", desc := "(I)I" } : Jvm.MethodName)) ∈ wT := wT_i2 127 rfl rfl
theorem kw_368 : (Jvm.Cond.code ({ cls := "PushStick$Effect", name := "riseAt", desc := "(I)I" } : Jvm.MethodName) prog_4_method_12_code (2 : Nat) (Option.some Jvm.ClassFile.FieldType.int)) ∈ wT := wT_i2 128 rfl rfl
theorem kw_369 : (Jvm.Cond.methodLink "PushStick$Effect" (91 : Nat) ({ cls := "PushStick$Effect", name := "envelopeAt", desc := "(I)I" } : Jvm.MethodName)) ∈ wT := wT_i2 129 rfl rfl
theorem kw_370 : (Jvm.Cond.instanceMethod ({ cls := "PushStick$Effect", name := "envelopeAt", desc := "(I)I" } : Jvm.MethodName)) ∈ wT := wT_i2 130 rfl rfl
theorem kw_371 : (Jvm.Cond.selects "PushStick$Effect" ({ cls := "PushStick$Effect", name := "envelopeAt", desc := "(I)I" } : Jvm.MethodName) ({ cls := "PushStick$Effect", name := "envelopeAt", desc := "(I)I" } : Jvm.MethodName)) ∈ wT := wT_i2 131 rfl rfl
theorem kw_372 : (Jvm.Cond.code ({ cls := "PushStick$Effect", name := "envelopeAt", desc := "(I)I" } : Jvm.MethodName) prog_4_method_7_code (4 : Nat) (Option.some Jvm.ClassFile.FieldType.int)) ∈ wT := wT_i2 132 rfl rfl
theorem kw_373 : (Jvm.Cond.methodLink "PushStick$Effect" (50 : Nat) ({ cls := "PushStick$Effect", name := "levelAt", desc := "(III)I" } : Jvm.MethodName)) ∈ wT := wT_i2 133 rfl rfl
theorem kw_374 : (Jvm.Cond.static ({ cls := "PushStick$Effect", name := "levelAt", desc := "(III)I" } : Jvm.MethodName)) ∈ wT := wT_i2 134 rfl rfl
theorem kw_375 : (Jvm.Cond.code ({ cls := "PushStick$Effect", name := "levelAt", desc := "(III)I" } : Jvm.MethodName) prog_4_method_8_code (3 : Nat) (Option.some Jvm.ClassFile.FieldType.int)) ∈ wT := wT_i2 135 rfl rfl
theorem kw_376 : (Jvm.Cond.methodLink "PushStick$Effect" (54 : Nat) ({ cls := "java/lang/Math", name := "min", desc := "(II)I" } : Jvm.MethodName)) ∈ wT := wT_i2 136 rfl rfl
theorem kw_377 : (Jvm.Cond.methodLink "PushStickLaw" (94 : Nat) ({ cls := "PushStick", name := "envelope", desc := "(I)I" } : Jvm.MethodName)) ∈ wT := wT_i2 137 rfl rfl
theorem kw_378 : (Jvm.Cond.instanceMethod ({ cls := "PushStick", name := "envelope", desc := "(I)I" } : Jvm.MethodName)) ∈ wT := wT_i2 138 rfl rfl
theorem kw_379 : (Jvm.Cond.selects "PushStick" ({ cls := "PushStick", name := "envelope", desc := "(I)I" } : Jvm.MethodName) ({ cls := "PushStick", name := "envelope", desc := "(I)I" } : Jvm.MethodName)) ∈ wT := wT_i2 139 rfl rfl
theorem kw_380 : (Jvm.Cond.code ({ cls := "PushStick", name := "envelope", desc := "(I)I" } : Jvm.MethodName) prog_1_method_21_code (3 : Nat) (Option.some Jvm.ClassFile.FieldType.int)) ∈ wT := wT_i2 140 rfl rfl
theorem kw_381 : (Jvm.Cond.methodLink "PushStick" (193 : Nat) ({ cls := "PushStick$Effect", name := "hasEnvelope", desc := "()Z" } : Jvm.MethodName)) ∈ wT := wT_i2 141 rfl rfl
theorem kw_382 : (Jvm.Cond.instanceMethod ({ cls := "PushStick$Effect", name := "hasEnvelope", desc := "()Z" } : Jvm.MethodName)) ∈ wT := wT_i2 142 rfl rfl
theorem kw_383 : (Jvm.Cond.selects "PushStick$Effect" ({ cls := "PushStick$Effect", name := "hasEnvelope", desc := "()Z" } : Jvm.MethodName) ({ cls := "PushStick$Effect", name := "hasEnvelope", desc := "()Z" } : Jvm.MethodName)) ∈ wT := wT_i2 143 rfl rfl
theorem kw_384 : (Jvm.Cond.code ({ cls := "PushStick$Effect", name := "hasEnvelope", desc := "()Z" } : Jvm.MethodName) prog_4_method_6_code (1 : Nat) (Option.some Jvm.ClassFile.FieldType.boolean)) ∈ wT := wT_i2 144 rfl rfl
theorem kw_385 : (Jvm.Cond.methodLink "PushStick" (197 : Nat) ({ cls := "PushStick$Effect", name := "sinceDelay", desc := "(II)I" } : Jvm.MethodName)) ∈ wT := wT_i2 145 rfl rfl
theorem kw_386 : (Jvm.Cond.methodLink "PushStick" (200 : Nat) ({ cls := "PushStick$Effect", name := "envelopeAt", desc := "(I)I" } : Jvm.MethodName)) ∈ wT := wT_i2 146 rfl rfl
theorem kw_387 : (Jvm.Cond.methodLink "PushStickLaw" (98 : Nat) ({ cls := "PushStick", name := "force", desc := "(II)I" } : Jvm.MethodName)) ∈ wT := wT_i2 147 rfl rfl
theorem kw_388 : (Jvm.Cond.instanceMethod ({ cls := "PushStick", name := "force", desc := "(II)I" } : Jvm.MethodName)) ∈ wT := wT_i2 148 rfl rfl
theorem kw_389 : (Jvm.Cond.selects "PushStick" ({ cls := "PushStick", name := "force", desc := "(II)I" } : Jvm.MethodName) ({ cls := "PushStick", name := "force", desc := "(II)I" } : Jvm.MethodName)) ∈ wT := wT_i2 149 rfl rfl
theorem kw_390 : (Jvm.Cond.code ({ cls := "PushStick", name := "force", desc := "(II)I" } : Jvm.MethodName) prog_1_method_22_code (4 : Nat) (Option.some Jvm.ClassFile.FieldType.int)) ∈ wT := wT_i2 150 rfl rfl
theorem kw_391 : (Jvm.Cond.methodLink "PushStick" (204 : Nat) ({ cls := "PushStick", name := "rawAt", desc := "(ILPushStick$Axis;)I" } : Jvm.MethodName)) ∈ wT := wT_i2 151 rfl rfl
theorem kw_393 : (Jvm.Cond.instanceMethod ({ cls := "PushStick", name := "rawAt", desc := "(ILPushStick$Axis;)I" } : Jvm.MethodName)) ∈ wT := wT_i2 153 rfl rfl
theorem kw_394 : (Jvm.Cond.code ({ cls := "PushStick", name := "rawAt", desc := "(ILPushStick$Axis;)I" } : Jvm.MethodName) prog_1_method_55_code (6 : Nat) (Option.some Jvm.ClassFile.FieldType.int)) ∈ wT := wT_i2 154 rfl rfl
theorem kw_395 : (Jvm.Cond.methodLink "PushStick" (208 : Nat) ({ cls := "PushStick", name := "noFarther", desc := "(II)I" } : Jvm.MethodName)) ∈ wT := wT_i2 155 rfl rfl
theorem kw_396 : (Jvm.Cond.methodLink "PushStickLaw" (102 : Nat) ({ cls := "PushStick", name := "rate", desc := "(I)I" } : Jvm.MethodName)) ∈ wT := wT_i2 156 rfl rfl
theorem kw_397 : (Jvm.Cond.instanceMethod ({ cls := "PushStick", name := "rate", desc := "(I)I" } : Jvm.MethodName)) ∈ wT := wT_i2 157 rfl rfl
theorem kw_398 : (Jvm.Cond.selects "PushStick" ({ cls := "PushStick", name := "rate", desc := "(I)I" } : Jvm.MethodName) ({ cls := "PushStick", name := "rate", desc := "(I)I" } : Jvm.MethodName)) ∈ wT := wT_i2 158 rfl rfl
theorem kw_399 : (Jvm.Cond.code ({ cls := "PushStick", name := "rate", desc := "(I)I" } : Jvm.MethodName) prog_1_method_23_code (3 : Nat) (Option.some Jvm.ClassFile.FieldType.int)) ∈ wT := wT_i2 159 rfl rfl
theorem kw_400 : (Jvm.Cond.methodLink "PushStickLaw" (106 : Nat) ({ cls := "PushStick", name := "frame", desc := "(I)I" } : Jvm.MethodName)) ∈ wT := wT_i2 160 rfl rfl
theorem kw_401 : (Jvm.Cond.instanceMethod ({ cls := "PushStick", name := "frame", desc := "(I)I" } : Jvm.MethodName)) ∈ wT := wT_i2 161 rfl rfl
theorem kw_402 : (Jvm.Cond.selects "PushStick" ({ cls := "PushStick", name := "frame", desc := "(I)I" } : Jvm.MethodName) ({ cls := "PushStick", name := "frame", desc := "(I)I" } : Jvm.MethodName)) ∈ wT := wT_i2 162 rfl rfl
theorem kw_403 : (Jvm.Cond.code ({ cls := "PushStick", name := "frame", desc := "(I)I" } : Jvm.MethodName) prog_1_method_24_code (2 : Nat) (Option.some Jvm.ClassFile.FieldType.int)) ∈ wT := wT_i2 163 rfl rfl
theorem kw_404 : (Jvm.Cond.constant "PushStick" (211 : Nat) (1000000 : Int32)) ∈ wT := wT_i2 164 rfl rfl
theorem kw_405 : (Jvm.Cond.methodLink "PushStick" (212 : Nat) ({ cls := "PushStick", name := "quotient", desc := "(II)I" } : Jvm.MethodName)) ∈ wT := wT_i2 165 rfl rfl
theorem kw_406 : (Jvm.Cond.methodLink "PushStickLaw" (110 : Nat) ({ cls := "PushStick", name := "frames", desc := "()I" } : Jvm.MethodName)) ∈ wT := wT_i2 166 rfl rfl
theorem kw_407 : (Jvm.Cond.instanceMethod ({ cls := "PushStick", name := "frames", desc := "()I" } : Jvm.MethodName)) ∈ wT := wT_i2 167 rfl rfl
theorem kw_408 : (Jvm.Cond.selects "PushStick" ({ cls := "PushStick", name := "frames", desc := "()I" } : Jvm.MethodName) ({ cls := "PushStick", name := "frames", desc := "()I" } : Jvm.MethodName)) ∈ wT := wT_i2 168 rfl rfl
theorem kw_409 : (Jvm.Cond.code ({ cls := "PushStick", name := "frames", desc := "()I" } : Jvm.MethodName) prog_1_method_25_code (3 : Nat) (Option.some Jvm.ClassFile.FieldType.int)) ∈ wT := wT_i2 169 rfl rfl
theorem kw_410 : (Jvm.Cond.constantLong "PushStick" (215 : Nat) (999 : Int64)) ∈ wT := wT_i2 170 rfl rfl
theorem kw_411 : (Jvm.Cond.constantLong "PushStick" (217 : Nat) (1000 : Int64)) ∈ wT := wT_i2 171 rfl rfl
theorem kw_412 : (Jvm.Cond.methodLink "PushStickLaw" (114 : Nat) ({ cls := "PushStick", name := "peak", desc := "(III)I" } : Jvm.MethodName)) ∈ wT := wT_i2 172 rfl rfl
theorem kw_413 : (Jvm.Cond.instanceMethod ({ cls := "PushStick", name := "peak", desc := "(III)I" } : Jvm.MethodName)) ∈ wT := wT_i2 173 rfl rfl
theorem kw_414 : (Jvm.Cond.selects "PushStick" ({ cls := "PushStick", name := "peak", desc := "(III)I" } : Jvm.MethodName) ({ cls := "PushStick", name := "peak", desc := "(III)I" } : Jvm.MethodName)) ∈ wT := wT_i2 174 rfl rfl
theorem kw_415 : (Jvm.Cond.code ({ cls := "PushStick", name := "peak", desc := "(III)I" } : Jvm.MethodName) prog_1_method_26_code (9 : Nat) (Option.some Jvm.ClassFile.FieldType.int)) ∈ wT := wT_i2 175 rfl rfl
theorem kw_416 : (Jvm.Cond.methodLink "PushStick" (219 : Nat) ({ cls := "PushStick", name := "endOfPush", desc := "(I)I" } : Jvm.MethodName)) ∈ wT := wT_i2 176 rfl rfl
theorem kw_418 : (Jvm.Cond.instanceMethod ({ cls := "PushStick", name := "endOfPush", desc := "(I)I" } : Jvm.MethodName)) ∈ wT := wT_i2 178 rfl rfl
theorem kw_419 : (Jvm.Cond.code ({ cls := "PushStick", name := "endOfPush", desc := "(I)I" } : Jvm.MethodName) prog_1_method_54_code (2 : Nat) (Option.some Jvm.ClassFile.FieldType.int)) ∈ wT := wT_i2 179 rfl rfl
theorem kw_420 : (Jvm.Cond.methodLink "PushStick" (222 : Nat) ({ cls := "java/lang/Math", name := "abs", desc := "(I)I" } : Jvm.MethodName)) ∈ wT := wT_i2 180 rfl rfl
theorem kw_421 : (Jvm.Cond.methodLink "PushStickLaw" (118 : Nat) ({ cls := "PushStick", name := "soLong", desc := "(I)I" } : Jvm.MethodName)) ∈ wT := wT_i2 181 rfl rfl
theorem kw_422 : (Jvm.Cond.instanceMethod ({ cls := "PushStick", name := "soLong", desc := "(I)I" } : Jvm.MethodName)) ∈ wT := wT_i2 182 rfl rfl
theorem kw_423 : (Jvm.Cond.selects "PushStick" ({ cls := "PushStick", name := "soLong", desc := "(I)I" } : Jvm.MethodName) ({ cls := "PushStick", name := "soLong", desc := "(I)I" } : Jvm.MethodName)) ∈ wT := wT_i2 183 rfl rfl
theorem kw_424 : (Jvm.Cond.code ({ cls := "PushStick", name := "soLong", desc := "(I)I" } : Jvm.MethodName) prog_1_method_27_code (5 : Nat) (Option.some Jvm.ClassFile.FieldType.int)) ∈ wT := wT_i2 184 rfl rfl
theorem kw_425 : (Jvm.Cond.methodLink "PushStick" (225 : Nat) ({ cls := "PushStick", name := "isHeldBack", desc := "(I)Z" } : Jvm.MethodName)) ∈ wT := wT_i2 185 rfl rfl
theorem kw_426 : (Jvm.Cond.static ({ cls := "PushStick", name := "isHeldBack", desc := "(I)Z" } : Jvm.MethodName)) ∈ wT := wT_i2 186 rfl rfl
theorem kw_427 : (Jvm.Cond.code ({ cls := "PushStick", name := "isHeldBack", desc := "(I)Z" } : Jvm.MethodName) prog_1_method_56_code (1 : Nat) (Option.some Jvm.ClassFile.FieldType.boolean)) ∈ wT := wT_i2 187 rfl rfl
theorem kw_428 : (Jvm.Cond.methodLink "PushStickLaw" (122 : Nat) ({ cls := "PushStick", name := "quiet", desc := "(I)I" } : Jvm.MethodName)) ∈ wT := wT_i2 188 rfl rfl
theorem kw_429 : (Jvm.Cond.instanceMethod ({ cls := "PushStick", name := "quiet", desc := "(I)I" } : Jvm.MethodName)) ∈ wT := wT_i2 189 rfl rfl
theorem kw_430 : (Jvm.Cond.selects "PushStick" ({ cls := "PushStick", name := "quiet", desc := "(I)I" } : Jvm.MethodName) ({ cls := "PushStick", name := "quiet", desc := "(I)I" } : Jvm.MethodName)) ∈ wT := wT_i2 190 rfl rfl
theorem kw_431 : (Jvm.Cond.code ({ cls := "PushStick", name := "quiet", desc := "(I)I" } : Jvm.MethodName) prog_1_method_28_code (6 : Nat) (Option.some Jvm.ClassFile.FieldType.int)) ∈ wT := wT_i2 191 rfl rfl
theorem kw_432 : (Jvm.Cond.methodLink "PushStick" (228 : Nat) ({ cls := "PushStick", name := "gatherPlaying", desc := "()I" } : Jvm.MethodName)) ∈ wT := wT_i2 192 rfl rfl
theorem kw_434 : (Jvm.Cond.instanceMethod ({ cls := "PushStick", name := "gatherPlaying", desc := "()I" } : Jvm.MethodName)) ∈ wT := wT_i2 194 rfl rfl
theorem kw_435 : (Jvm.Cond.code ({ cls := "PushStick", name := "gatherPlaying", desc := "()I" } : Jvm.MethodName) prog_1_method_57_code (4 : Nat) (Option.some Jvm.ClassFile.FieldType.int)) ∈ wT := wT_i2 195 rfl rfl
theorem kw_436 : (Jvm.Cond.methodLink "PushStick" (231 : Nat) ({ cls := "PushStick", name := "markHeldBack", desc := "(ILPushStick$Axis;I)V" } : Jvm.MethodName)) ∈ wT := wT_i2 196 rfl rfl
theorem kw_438 : (Jvm.Cond.instanceMethod ({ cls := "PushStick", name := "markHeldBack", desc := "(ILPushStick$Axis;I)V" } : Jvm.MethodName)) ∈ wT := wT_i2 198 rfl rfl
theorem kw_439 : (Jvm.Cond.code ({ cls := "PushStick", name := "markHeldBack", desc := "(ILPushStick$Axis;I)V" } : Jvm.MethodName) prog_1_method_58_code (8 : Nat) (Option.none : Option Jvm.ClassFile.FieldType)) ∈ wT := wT_i2 199 rfl rfl
theorem kw_440 : (Jvm.Cond.methodLink "PushStick" (279 : Nat) ({ cls := "PushStick", name := "lackAt", desc := "(LPushStick$Effect;ILPushStick$Axis;)I" } : Jvm.MethodName)) ∈ wT := wT_i2 200 rfl rfl
theorem kw_442 : (Jvm.Cond.instanceMethod ({ cls := "PushStick", name := "lackAt", desc := "(LPushStick$Effect;ILPushStick$Axis;)I" } : Jvm.MethodName)) ∈ wT := wT_i2 202 rfl rfl
theorem kw_443 : (Jvm.Cond.code ({ cls := "PushStick", name := "lackAt", desc := "(LPushStick$Effect;ILPushStick$Axis;)I" } : Jvm.MethodName) prog_1_method_59_code (5 : Nat) (Option.some Jvm.ClassFile.FieldType.int)) ∈ wT := wT_i2 203 rfl rfl
theorem kw_444 : (Jvm.Cond.methodLink "PushStick" (235 : Nat) ({ cls := "PushStick", name := "fewestNotHeldBack", desc := "(I)I" } : Jvm.MethodName)) ∈ wT := wT_i2 204 rfl rfl
theorem kw_446 : (Jvm.Cond.instanceMethod ({ cls := "PushStick", name := "fewestNotHeldBack", desc := "(I)I" } : Jvm.MethodName)) ∈ wT := wT_i2 206 rfl rfl
theorem kw_447 : (Jvm.Cond.code ({ cls := "PushStick", name := "fewestNotHeldBack", desc := "(I)I" } : Jvm.MethodName) prog_1_method_60_code (5 : Nat) (Option.some Jvm.ClassFile.FieldType.int)) ∈ wT := wT_i2 207 rfl rfl
theorem kw_448 : (Jvm.Cond.methodLink "PushStick" (283 : Nat) ({ cls := "java/lang/Integer", name := "bitCount", desc := "(I)I" } : Jvm.MethodName)) ∈ wT := wT_i2 208 rfl rfl
theorem kw_449 : (Jvm.Cond.static ({ cls := "java/lang/Integer", name := "bitCount", desc := "(I)I" } : Jvm.MethodName)) ∈ wT := wT_i2 209 rfl rfl
theorem kw_450 : (Jvm.Cond.code ({ cls := "java/lang/Integer", name := "bitCount", desc := "(I)I" } : Jvm.MethodName) prog_7_method_49_code (1 : Nat) (Option.some Jvm.ClassFile.FieldType.int)) ∈ wT := wT_i2 210 rfl rfl
theorem kw_451 : (Jvm.Cond.constant "java/lang/Integer" (265 : Nat) (1431655765 : Int32)) ∈ wT := wT_i2 211 rfl rfl
theorem kw_452 : (Jvm.Cond.constant "java/lang/Integer" (266 : Nat) (858993459 : Int32)) ∈ wT := wT_i2 212 rfl rfl
theorem kw_453 : (Jvm.Cond.constant "java/lang/Integer" (267 : Nat) (252645135 : Int32)) ∈ wT := wT_i2 213 rfl rfl
theorem kw_454 : (Jvm.Cond.methodLink "PushStick" (238 : Nat) ({ cls := "PushStick", name := "asEffects", desc := "(II)I" } : Jvm.MethodName)) ∈ wT := wT_i2 214 rfl rfl
theorem kw_456 : (Jvm.Cond.instanceMethod ({ cls := "PushStick", name := "asEffects", desc := "(II)I" } : Jvm.MethodName)) ∈ wT := wT_i2 216 rfl rfl
theorem kw_457 : (Jvm.Cond.code ({ cls := "PushStick", name := "asEffects", desc := "(II)I" } : Jvm.MethodName) prog_1_method_61_code (6 : Nat) (Option.some Jvm.ClassFile.FieldType.int)) ∈ wT := wT_i2 217 rfl rfl
theorem kw_458 : (Jvm.Cond.methodLink "PushStickLaw" (126 : Nat) ({ cls := "PushStick", name := "many", desc := "(I)I" } : Jvm.MethodName)) ∈ wT := wT_i2 218 rfl rfl
theorem kw_459 : (Jvm.Cond.instanceMethod ({ cls := "PushStick", name := "many", desc := "(I)I" } : Jvm.MethodName)) ∈ wT := wT_i2 219 rfl rfl
theorem kw_460 : (Jvm.Cond.selects "PushStick" ({ cls := "PushStick", name := "many", desc := "(I)I" } : Jvm.MethodName) ({ cls := "PushStick", name := "many", desc := "(I)I" } : Jvm.MethodName)) ∈ wT := wT_i2 220 rfl rfl
theorem kw_461 : (Jvm.Cond.code ({ cls := "PushStick", name := "many", desc := "(I)I" } : Jvm.MethodName) prog_1_method_29_code (2 : Nat) (Option.some Jvm.ClassFile.FieldType.int)) ∈ wT := wT_i2 221 rfl rfl
theorem kw_462 : (Jvm.Cond.methodLink "PushStick" (241 : Nat) ({ cls := "PushStick", name := "howManyLoaded", desc := "()I" } : Jvm.MethodName)) ∈ wT := wT_i2 222 rfl rfl
theorem kw_464 : (Jvm.Cond.instanceMethod ({ cls := "PushStick", name := "howManyLoaded", desc := "()I" } : Jvm.MethodName)) ∈ wT := wT_i2 224 rfl rfl
theorem kw_465 : (Jvm.Cond.code ({ cls := "PushStick", name := "howManyLoaded", desc := "()I" } : Jvm.MethodName) prog_1_method_50_code (3 : Nat) (Option.some Jvm.ClassFile.FieldType.int)) ∈ wT := wT_i2 225 rfl rfl
theorem kw_466 : (Jvm.Cond.methodLink "PushStick" (244 : Nat) ({ cls := "PushStick", name := "howManyOn", desc := "()I" } : Jvm.MethodName)) ∈ wT := wT_i2 226 rfl rfl
theorem kw_468 : (Jvm.Cond.instanceMethod ({ cls := "PushStick", name := "howManyOn", desc := "()I" } : Jvm.MethodName)) ∈ wT := wT_i2 228 rfl rfl
theorem kw_469 : (Jvm.Cond.code ({ cls := "PushStick", name := "howManyOn", desc := "()I" } : Jvm.MethodName) prog_1_method_52_code (4 : Nat) (Option.some Jvm.ClassFile.FieldType.int)) ∈ wT := wT_i2 229 rfl rfl
theorem kw_470 : (Jvm.Cond.methodLink "PushStick" (247 : Nat) ({ cls := "PushStick", name := "howManyHeld", desc := "()I" } : Jvm.MethodName)) ∈ wT := wT_i2 230 rfl rfl
theorem kw_472 : (Jvm.Cond.instanceMethod ({ cls := "PushStick", name := "howManyHeld", desc := "()I" } : Jvm.MethodName)) ∈ wT := wT_i2 232 rfl rfl
theorem kw_473 : (Jvm.Cond.code ({ cls := "PushStick", name := "howManyHeld", desc := "()I" } : Jvm.MethodName) prog_1_method_53_code (3 : Nat) (Option.some Jvm.ClassFile.FieldType.int)) ∈ wT := wT_i2 233 rfl rfl
theorem kw_474 : (Jvm.Cond.classLink "PushStickLaw" (10 : Nat) "PushStickModel") ∈ wT := wT_i2 234 rfl rfl
theorem kw_475 : (Jvm.Cond.instantiable "PushStickModel" (21 : Nat)) ∈ wT := wT_i2 235 rfl rfl
theorem kw_476 : (Jvm.Cond.methodLink "PushStickLaw" (12 : Nat) ({ cls := "PushStickModel", name := "<init>", desc := "()V" } : Jvm.MethodName)) ∈ wT := wT_i2 236 rfl rfl
theorem kw_477 : (Jvm.Cond.instanceMethod ({ cls := "PushStickModel", name := "<init>", desc := "()V" } : Jvm.MethodName)) ∈ wT := wT_i2 237 rfl rfl
theorem kw_478 : (Jvm.Cond.code ({ cls := "PushStickModel", name := "<init>", desc := "()V" } : Jvm.MethodName) prog_6_method_1_code (2 : Nat) (Option.none : Option Jvm.ClassFile.FieldType)) ∈ wT := wT_i2 238 rfl rfl
theorem kw_479 : (Jvm.Cond.methodLink "PushStickModel" (1 : Nat) ({ cls := "java/lang/Object", name := "<init>", desc := "()V" } : Jvm.MethodName)) ∈ wT := wT_i2 239 rfl rfl
theorem kw_480 : (Jvm.Cond.fieldLink "PushStickModel" (91 : Nat) "PushStickModel" "now" "I") ∈ wT := wT_i3 0 rfl rfl
theorem kw_481 : (Jvm.Cond.fieldLink "PushStickModel" (94 : Nat) "PushStickModel" "movedAt" "I") ∈ wT := wT_i3 1 rfl rfl
theorem kw_482 : (Jvm.Cond.fieldLink "PushStickModel" (7 : Nat) "PushStickModel" "placeAt" "[I") ∈ wT := wT_i3 2 rfl rfl
theorem kw_483 : (Jvm.Cond.fieldLink "PushStickModel" (13 : Nat) "PushStickModel" "speedAt" "[I") ∈ wT := wT_i3 3 rfl rfl
theorem kw_484 : (Jvm.Cond.fieldLink "PushStickModel" (56 : Nat) "PushStickModel" "effects" "I") ∈ wT := wT_i3 4 rfl rfl
theorem kw_485 : (Jvm.Cond.fieldLink "PushStickModel" (16 : Nat) "PushStickModel" "kindOf" "[I") ∈ wT := wT_i3 5 rfl rfl
theorem kw_486 : (Jvm.Cond.fieldLink "PushStickModel" (19 : Nat) "PushStickModel" "aOf" "[I") ∈ wT := wT_i3 6 rfl rfl
theorem kw_487 : (Jvm.Cond.fieldLink "PushStickModel" (22 : Nat) "PushStickModel" "bOf" "[I") ∈ wT := wT_i3 7 rfl rfl
theorem kw_488 : (Jvm.Cond.fieldLink "PushStickModel" (25 : Nat) "PushStickModel" "cOf" "[I") ∈ wT := wT_i3 8 rfl rfl
theorem kw_489 : (Jvm.Cond.fieldLink "PushStickModel" (28 : Nat) "PushStickModel" "dOf" "[I") ∈ wT := wT_i3 9 rfl rfl
theorem kw_490 : (Jvm.Cond.fieldLink "PushStickModel" (31 : Nat) "PushStickModel" "numbers" "[I") ∈ wT := wT_i3 10 rfl rfl
theorem kw_491 : (Jvm.Cond.fieldLink "PushStickModel" (34 : Nat) "PushStickModel" "startOf" "[I") ∈ wT := wT_i3 11 rfl rfl
theorem kw_492 : (Jvm.Cond.fieldLink "PushStickModel" (37 : Nat) "PushStickModel" "slotsNow" "I") ∈ wT := wT_i3 12 rfl rfl
theorem kw_493 : (Jvm.Cond.fieldLink "PushStickModel" (41 : Nat) "PushStickModel" "slotHas" "[I") ∈ wT := wT_i3 13 rfl rfl
theorem kw_494 : (Jvm.Cond.fieldLink "PushStickModel" (44 : Nat) "PushStickModel" "pressedAt" "[I") ∈ wT := wT_i3 14 rfl rfl
theorem kw_495 : (Jvm.Cond.fieldLink "PushStickModel" (47 : Nat) "PushStickModel" "againBy" "[I") ∈ wT := wT_i3 15 rfl rfl
theorem kw_496 : (Jvm.Cond.fieldLink "PushStickModel" (132 : Nat) "PushStickModel" "watchNow" "I") ∈ wT := wT_i3 16 rfl rfl
theorem kw_497 : (Jvm.Cond.fieldLink "PushStickModel" (135 : Nat) "PushStickModel" "helloAt" "I") ∈ wT := wT_i3 17 rfl rfl
theorem kw_498 : (Jvm.Cond.fieldLink "PushStickModel" (125 : Nat) "PushStickModel" "isLost" "Z") ∈ wT := wT_i3 18 rfl rfl
theorem kw_499 : (Jvm.Cond.fieldLink "PushStickModel" (50 : Nat) "PushStickModel" "masterNow" "I") ∈ wT := wT_i3 19 rfl rfl
theorem kw_500 : (Jvm.Cond.fieldLink "PushStickModel" (53 : Nat) "PushStickModel" "rateNow" "I") ∈ wT := wT_i3 20 rfl rfl
theorem kw_501 : (Jvm.Cond.lays "PushStickModel" "PushStickModel" "now" "I") ∈ wT := wT_i3 21 rfl rfl
theorem kw_503 : (Jvm.Cond.lays "PushStickModel" "PushStickModel" "movedAt" "I") ∈ wT := wT_i3 23 rfl rfl
theorem kw_505 : (Jvm.Cond.laysFinal "PushStickModel" "PushStickModel" "placeAt" "[I") ∈ wT := wT_i3 25 rfl rfl
theorem kw_507 : (Jvm.Cond.laysFinal "PushStickModel" "PushStickModel" "speedAt" "[I") ∈ wT := wT_i3 27 rfl rfl
theorem kw_509 : (Jvm.Cond.lays "PushStickModel" "PushStickModel" "effects" "I") ∈ wT := wT_i3 29 rfl rfl
theorem kw_511 : (Jvm.Cond.laysFinal "PushStickModel" "PushStickModel" "kindOf" "[I") ∈ wT := wT_i3 31 rfl rfl
theorem kw_513 : (Jvm.Cond.laysFinal "PushStickModel" "PushStickModel" "aOf" "[I") ∈ wT := wT_i3 33 rfl rfl
theorem kw_515 : (Jvm.Cond.laysFinal "PushStickModel" "PushStickModel" "bOf" "[I") ∈ wT := wT_i3 35 rfl rfl
theorem kw_517 : (Jvm.Cond.laysFinal "PushStickModel" "PushStickModel" "cOf" "[I") ∈ wT := wT_i3 37 rfl rfl
theorem kw_519 : (Jvm.Cond.laysFinal "PushStickModel" "PushStickModel" "dOf" "[I") ∈ wT := wT_i3 39 rfl rfl
theorem kw_521 : (Jvm.Cond.laysFinal "PushStickModel" "PushStickModel" "numbers" "[I") ∈ wT := wT_i3 41 rfl rfl
theorem kw_523 : (Jvm.Cond.laysFinal "PushStickModel" "PushStickModel" "startOf" "[I") ∈ wT := wT_i3 43 rfl rfl
theorem kw_525 : (Jvm.Cond.lays "PushStickModel" "PushStickModel" "slotsNow" "I") ∈ wT := wT_i3 45 rfl rfl
theorem kw_527 : (Jvm.Cond.laysFinal "PushStickModel" "PushStickModel" "slotHas" "[I") ∈ wT := wT_i3 47 rfl rfl
theorem kw_529 : (Jvm.Cond.laysFinal "PushStickModel" "PushStickModel" "pressedAt" "[I") ∈ wT := wT_i3 49 rfl rfl
theorem kw_531 : (Jvm.Cond.laysFinal "PushStickModel" "PushStickModel" "againBy" "[I") ∈ wT := wT_i3 51 rfl rfl
theorem kw_533 : (Jvm.Cond.lays "PushStickModel" "PushStickModel" "watchNow" "I") ∈ wT := wT_i3 53 rfl rfl
theorem kw_535 : (Jvm.Cond.lays "PushStickModel" "PushStickModel" "helloAt" "I") ∈ wT := wT_i3 55 rfl rfl
theorem kw_537 : (Jvm.Cond.lays "PushStickModel" "PushStickModel" "isLost" "Z") ∈ wT := wT_i3 57 rfl rfl
theorem kw_539 : (Jvm.Cond.lays "PushStickModel" "PushStickModel" "masterNow" "I") ∈ wT := wT_i3 59 rfl rfl
theorem kw_541 : (Jvm.Cond.lays "PushStickModel" "PushStickModel" "rateNow" "I") ∈ wT := wT_i3 61 rfl rfl
theorem kw_543 : (Jvm.Cond.superclass "PushStickModel" "java/lang/Object") ∈ wT := wT_i3 63 rfl rfl
theorem kw_544 : (Jvm.Cond.methodLink "PushStickLaw" (17 : Nat) ({ cls := "PushStickModel", name := "effect", desc := "(IIIII)I" } : Jvm.MethodName)) ∈ wT := wT_i3 64 rfl rfl
theorem kw_545 : (Jvm.Cond.instanceMethod ({ cls := "PushStickModel", name := "effect", desc := "(IIIII)I" } : Jvm.MethodName)) ∈ wT := wT_i3 65 rfl rfl
theorem kw_546 : (Jvm.Cond.selects "PushStickModel" ({ cls := "PushStickModel", name := "effect", desc := "(IIIII)I" } : Jvm.MethodName) ({ cls := "PushStickModel", name := "effect", desc := "(IIIII)I" } : Jvm.MethodName)) ∈ wT := wT_i3 66 rfl rfl
theorem kw_547 : (Jvm.Cond.code ({ cls := "PushStickModel", name := "effect", desc := "(IIIII)I" } : Jvm.MethodName) prog_6_method_9_code (8 : Nat) (Option.some Jvm.ClassFile.FieldType.int)) ∈ wT := wT_i3 67 rfl rfl
theorem kw_548 : (Jvm.Cond.methodLink "PushStickModel" (63 : Nat) ({ cls := "PushStickModel", name := "mayBe", desc := "(IIIII)Z" } : Jvm.MethodName)) ∈ wT := wT_i3 68 rfl rfl
theorem kw_549 : (Jvm.Cond.static ({ cls := "PushStickModel", name := "mayBe", desc := "(IIIII)Z" } : Jvm.MethodName)) ∈ wT := wT_i3 69 rfl rfl
theorem kw_550 : (Jvm.Cond.code ({ cls := "PushStickModel", name := "mayBe", desc := "(IIIII)Z" } : Jvm.MethodName) prog_6_method_8_code (6 : Nat) (Option.some Jvm.ClassFile.FieldType.boolean)) ∈ wT := wT_i3 70 rfl rfl
theorem kw_551 : (Jvm.Cond.methodLink "PushStickModel" (59 : Nat) ({ cls := "PushStickModel", name := "within", desc := "(III)Z" } : Jvm.MethodName)) ∈ wT := wT_i3 71 rfl rfl
theorem kw_552 : (Jvm.Cond.static ({ cls := "PushStickModel", name := "within", desc := "(III)Z" } : Jvm.MethodName)) ∈ wT := wT_i3 72 rfl rfl
theorem kw_553 : (Jvm.Cond.code ({ cls := "PushStickModel", name := "within", desc := "(III)Z" } : Jvm.MethodName) prog_6_method_2_code (3 : Nat) (Option.some Jvm.ClassFile.FieldType.boolean)) ∈ wT := wT_i3 73 rfl rfl
theorem kw_554 : (Jvm.Cond.methodLink "PushStickLaw" (22 : Nat) ({ cls := "PushStickModel", name := "set", desc := "(III)I" } : Jvm.MethodName)) ∈ wT := wT_i3 74 rfl rfl
theorem kw_555 : (Jvm.Cond.instanceMethod ({ cls := "PushStickModel", name := "set", desc := "(III)I" } : Jvm.MethodName)) ∈ wT := wT_i3 75 rfl rfl
theorem kw_556 : (Jvm.Cond.selects "PushStickModel" ({ cls := "PushStickModel", name := "set", desc := "(III)I" } : Jvm.MethodName) ({ cls := "PushStickModel", name := "set", desc := "(III)I" } : Jvm.MethodName)) ∈ wT := wT_i3 76 rfl rfl
theorem kw_557 : (Jvm.Cond.code ({ cls := "PushStickModel", name := "set", desc := "(III)I" } : Jvm.MethodName) prog_6_method_13_code (5 : Nat) (Option.some Jvm.ClassFile.FieldType.int)) ∈ wT := wT_i3 77 rfl rfl
theorem kw_558 : (Jvm.Cond.methodLink "PushStickModel" (76 : Nat) ({ cls := "PushStickModel", name := "isEffect", desc := "(I)Z" } : Jvm.MethodName)) ∈ wT := wT_i3 78 rfl rfl
theorem kw_560 : (Jvm.Cond.instanceMethod ({ cls := "PushStickModel", name := "isEffect", desc := "(I)Z" } : Jvm.MethodName)) ∈ wT := wT_i3 80 rfl rfl
theorem kw_561 : (Jvm.Cond.code ({ cls := "PushStickModel", name := "isEffect", desc := "(I)Z" } : Jvm.MethodName) prog_6_method_5_code (2 : Nat) (Option.some Jvm.ClassFile.FieldType.boolean)) ∈ wT := wT_i3 81 rfl rfl
theorem kw_562 : (Jvm.Cond.methodLink "PushStickModel" (80 : Nat) ({ cls := "PushStickModel", name := "mayBeNumber", desc := "(II)Z" } : Jvm.MethodName)) ∈ wT := wT_i3 82 rfl rfl
theorem kw_563 : (Jvm.Cond.static ({ cls := "PushStickModel", name := "mayBeNumber", desc := "(II)Z" } : Jvm.MethodName)) ∈ wT := wT_i3 83 rfl rfl
theorem kw_564 : (Jvm.Cond.code ({ cls := "PushStickModel", name := "mayBeNumber", desc := "(II)Z" } : Jvm.MethodName) prog_6_method_11_code (3 : Nat) (Option.some Jvm.ClassFile.FieldType.boolean)) ∈ wT := wT_i3 84 rfl rfl
theorem kw_565 : (Jvm.Cond.methodLink "PushStickModel" (68 : Nat) ({ cls := "PushStickModel", name := "mostOf", desc := "(I)I" } : Jvm.MethodName)) ∈ wT := wT_i3 85 rfl rfl
theorem kw_566 : (Jvm.Cond.static ({ cls := "PushStickModel", name := "mostOf", desc := "(I)I" } : Jvm.MethodName)) ∈ wT := wT_i3 86 rfl rfl
theorem kw_567 : (Jvm.Cond.code ({ cls := "PushStickModel", name := "mostOf", desc := "(I)I" } : Jvm.MethodName) prog_6_method_10_code (1 : Nat) (Option.some Jvm.ClassFile.FieldType.int)) ∈ wT := wT_i3 87 rfl rfl
theorem kw_568 : (Jvm.Cond.constant "PushStickModel" (67 : Nat) (60000 : Int32)) ∈ wT := wT_i3 88 rfl rfl
theorem kw_569 : (Jvm.Cond.methodLink "PushStickModel" (84 : Nat) ({ cls := "PushStickModel", name := "tellNumber", desc := "(II)I" } : Jvm.MethodName)) ∈ wT := wT_i3 89 rfl rfl
theorem kw_571 : (Jvm.Cond.instanceMethod ({ cls := "PushStickModel", name := "tellNumber", desc := "(II)I" } : Jvm.MethodName)) ∈ wT := wT_i3 91 rfl rfl
theorem kw_572 : (Jvm.Cond.code ({ cls := "PushStickModel", name := "tellNumber", desc := "(II)I" } : Jvm.MethodName) prog_6_method_12_code (3 : Nat) (Option.some Jvm.ClassFile.FieldType.int)) ∈ wT := wT_i3 92 rfl rfl
theorem kw_573 : (Jvm.Cond.methodLink "PushStickModel" (72 : Nat) ({ cls := "PushStickModel", name := "numberOf", desc := "(II)I" } : Jvm.MethodName)) ∈ wT := wT_i3 93 rfl rfl
theorem kw_575 : (Jvm.Cond.instanceMethod ({ cls := "PushStickModel", name := "numberOf", desc := "(II)I" } : Jvm.MethodName)) ∈ wT := wT_i3 95 rfl rfl
theorem kw_576 : (Jvm.Cond.code ({ cls := "PushStickModel", name := "numberOf", desc := "(II)I" } : Jvm.MethodName) prog_6_method_7_code (3 : Nat) (Option.some Jvm.ClassFile.FieldType.int)) ∈ wT := wT_i3 96 rfl rfl
theorem kw_577 : (Jvm.Cond.methodLink "PushStickLaw" (27 : Nat) ({ cls := "PushStickModel", name := "drop", desc := "()I" } : Jvm.MethodName)) ∈ wT := wT_i3 97 rfl rfl
theorem kw_578 : (Jvm.Cond.instanceMethod ({ cls := "PushStickModel", name := "drop", desc := "()I" } : Jvm.MethodName)) ∈ wT := wT_i3 98 rfl rfl
theorem kw_579 : (Jvm.Cond.selects "PushStickModel" ({ cls := "PushStickModel", name := "drop", desc := "()I" } : Jvm.MethodName) ({ cls := "PushStickModel", name := "drop", desc := "()I" } : Jvm.MethodName)) ∈ wT := wT_i3 99 rfl rfl
theorem kw_580 : (Jvm.Cond.code ({ cls := "PushStickModel", name := "drop", desc := "()I" } : Jvm.MethodName) prog_6_method_14_code (1 : Nat) (Option.some Jvm.ClassFile.FieldType.int)) ∈ wT := wT_i3 100 rfl rfl
theorem kw_581 : (Jvm.Cond.methodLink "PushStickModel" (87 : Nat) ({ cls := "PushStickModel", name := "goes", desc := "(I)V" } : Jvm.MethodName)) ∈ wT := wT_i3 101 rfl rfl
theorem kw_583 : (Jvm.Cond.instanceMethod ({ cls := "PushStickModel", name := "goes", desc := "(I)V" } : Jvm.MethodName)) ∈ wT := wT_i3 103 rfl rfl
theorem kw_584 : (Jvm.Cond.code ({ cls := "PushStickModel", name := "goes", desc := "(I)V" } : Jvm.MethodName) prog_6_method_22_code (4 : Nat) (Option.none : Option Jvm.ClassFile.FieldType)) ∈ wT := wT_i3 104 rfl rfl
theorem kw_585 : (Jvm.Cond.methodLink "PushStickModel" (105 : Nat) ({ cls := "PushStickModel", name := "slotOf", desc := "(I)I" } : Jvm.MethodName)) ∈ wT := wT_i3 105 rfl rfl
theorem kw_587 : (Jvm.Cond.instanceMethod ({ cls := "PushStickModel", name := "slotOf", desc := "(I)I" } : Jvm.MethodName)) ∈ wT := wT_i3 107 rfl rfl
theorem kw_588 : (Jvm.Cond.code ({ cls := "PushStickModel", name := "slotOf", desc := "(I)I" } : Jvm.MethodName) prog_6_method_19_code (3 : Nat) (Option.some Jvm.ClassFile.FieldType.int)) ∈ wT := wT_i3 108 rfl rfl
theorem kw_589 : (Jvm.Cond.methodLink "PushStickLaw" (32 : Nat) ({ cls := "PushStickModel", name := "hand", desc := "(II)I" } : Jvm.MethodName)) ∈ wT := wT_i3 109 rfl rfl
theorem kw_590 : (Jvm.Cond.instanceMethod ({ cls := "PushStickModel", name := "hand", desc := "(II)I" } : Jvm.MethodName)) ∈ wT := wT_i3 110 rfl rfl
theorem kw_591 : (Jvm.Cond.selects "PushStickModel" ({ cls := "PushStickModel", name := "hand", desc := "(II)I" } : Jvm.MethodName) ({ cls := "PushStickModel", name := "hand", desc := "(II)I" } : Jvm.MethodName)) ∈ wT := wT_i3 111 rfl rfl
theorem kw_592 : (Jvm.Cond.code ({ cls := "PushStickModel", name := "hand", desc := "(II)I" } : Jvm.MethodName) prog_6_method_16_code (3 : Nat) (Option.some Jvm.ClassFile.FieldType.int)) ∈ wT := wT_i3 112 rfl rfl
theorem kw_593 : (Jvm.Cond.methodLink "PushStickModel" (97 : Nat) ({ cls := "PushStickModel", name := "moves", desc := "(II)V" } : Jvm.MethodName)) ∈ wT := wT_i3 113 rfl rfl
theorem kw_595 : (Jvm.Cond.instanceMethod ({ cls := "PushStickModel", name := "moves", desc := "(II)V" } : Jvm.MethodName)) ∈ wT := wT_i3 115 rfl rfl
theorem kw_596 : (Jvm.Cond.code ({ cls := "PushStickModel", name := "moves", desc := "(II)V" } : Jvm.MethodName) prog_6_method_15_code (4 : Nat) (Option.none : Option Jvm.ClassFile.FieldType)) ∈ wT := wT_i3 116 rfl rfl
theorem kw_597 : (Jvm.Cond.methodLink "PushStickLaw" (36 : Nat) ({ cls := "PushStickModel", name := "ofAxis", desc := "(II)I" } : Jvm.MethodName)) ∈ wT := wT_i3 117 rfl rfl
theorem kw_598 : (Jvm.Cond.instanceMethod ({ cls := "PushStickModel", name := "ofAxis", desc := "(II)I" } : Jvm.MethodName)) ∈ wT := wT_i3 118 rfl rfl
theorem kw_599 : (Jvm.Cond.selects "PushStickModel" ({ cls := "PushStickModel", name := "ofAxis", desc := "(II)I" } : Jvm.MethodName) ({ cls := "PushStickModel", name := "ofAxis", desc := "(II)I" } : Jvm.MethodName)) ∈ wT := wT_i3 119 rfl rfl
theorem kw_600 : (Jvm.Cond.code ({ cls := "PushStickModel", name := "ofAxis", desc := "(II)I" } : Jvm.MethodName) prog_6_method_17_code (3 : Nat) (Option.some Jvm.ClassFile.FieldType.int)) ∈ wT := wT_i3 120 rfl rfl
theorem kw_601 : (Jvm.Cond.methodLink "PushStickModel" (101 : Nat) ({ cls := "PushStickModel", name := "isAxis", desc := "(I)Z" } : Jvm.MethodName)) ∈ wT := wT_i3 121 rfl rfl
theorem kw_602 : (Jvm.Cond.static ({ cls := "PushStickModel", name := "isAxis", desc := "(I)Z" } : Jvm.MethodName)) ∈ wT := wT_i3 122 rfl rfl
theorem kw_603 : (Jvm.Cond.code ({ cls := "PushStickModel", name := "isAxis", desc := "(I)Z" } : Jvm.MethodName) prog_6_method_6_code (1 : Nat) (Option.some Jvm.ClassFile.FieldType.boolean)) ∈ wT := wT_i3 123 rfl rfl
theorem kw_604 : (Jvm.Cond.constant "PushStickModel" (104 : Nat) (10000000 : Int32)) ∈ wT := wT_i3 124 rfl rfl
theorem kw_605 : (Jvm.Cond.methodLink "PushStickLaw" (40 : Nat) ({ cls := "PushStickModel", name := "ofEffect", desc := "(II)I" } : Jvm.MethodName)) ∈ wT := wT_i3 125 rfl rfl
theorem kw_606 : (Jvm.Cond.instanceMethod ({ cls := "PushStickModel", name := "ofEffect", desc := "(II)I" } : Jvm.MethodName)) ∈ wT := wT_i3 126 rfl rfl
theorem kw_607 : (Jvm.Cond.selects "PushStickModel" ({ cls := "PushStickModel", name := "ofEffect", desc := "(II)I" } : Jvm.MethodName) ({ cls := "PushStickModel", name := "ofEffect", desc := "(II)I" } : Jvm.MethodName)) ∈ wT := wT_i3 127 rfl rfl
theorem kw_608 : (Jvm.Cond.code ({ cls := "PushStickModel", name := "ofEffect", desc := "(II)I" } : Jvm.MethodName) prog_6_method_18_code (3 : Nat) (Option.some Jvm.ClassFile.FieldType.int)) ∈ wT := wT_i3 128 rfl rfl
theorem kw_609 : (Jvm.Cond.methodLink "PushStickModel" (108 : Nat) ({ cls := "PushStickModel", name := "doesPlay", desc := "(III)Z" } : Jvm.MethodName)) ∈ wT := wT_i3 129 rfl rfl
theorem kw_611 : (Jvm.Cond.instanceMethod ({ cls := "PushStickModel", name := "doesPlay", desc := "(III)Z" } : Jvm.MethodName)) ∈ wT := wT_i3 131 rfl rfl
theorem kw_612 : (Jvm.Cond.code ({ cls := "PushStickModel", name := "doesPlay", desc := "(III)Z" } : Jvm.MethodName) prog_6_method_20_code (5 : Nat) (Option.some Jvm.ClassFile.FieldType.boolean)) ∈ wT := wT_i3 132 rfl rfl
theorem kw_613 : (Jvm.Cond.methodLink "PushStickModel" (111 : Nat) ({ cls := "PushStickModel", name := "isOn", desc := "(III)Z" } : Jvm.MethodName)) ∈ wT := wT_i3 133 rfl rfl
theorem kw_615 : (Jvm.Cond.instanceMethod ({ cls := "PushStickModel", name := "isOn", desc := "(III)Z" } : Jvm.MethodName)) ∈ wT := wT_i3 135 rfl rfl
theorem kw_616 : (Jvm.Cond.code ({ cls := "PushStickModel", name := "isOn", desc := "(III)Z" } : Jvm.MethodName) prog_6_method_21_code (4 : Nat) (Option.some Jvm.ClassFile.FieldType.boolean)) ∈ wT := wT_i3 136 rfl rfl
theorem kw_617 : (Jvm.Cond.methodLink "PushStickLaw" (45 : Nat) ({ cls := "PushStickModel", name := "slots", desc := "(I)I" } : Jvm.MethodName)) ∈ wT := wT_i3 137 rfl rfl
theorem kw_618 : (Jvm.Cond.instanceMethod ({ cls := "PushStickModel", name := "slots", desc := "(I)I" } : Jvm.MethodName)) ∈ wT := wT_i3 138 rfl rfl
theorem kw_619 : (Jvm.Cond.selects "PushStickModel" ({ cls := "PushStickModel", name := "slots", desc := "(I)I" } : Jvm.MethodName) ({ cls := "PushStickModel", name := "slots", desc := "(I)I" } : Jvm.MethodName)) ∈ wT := wT_i3 139 rfl rfl
theorem kw_620 : (Jvm.Cond.code ({ cls := "PushStickModel", name := "slots", desc := "(I)I" } : Jvm.MethodName) prog_6_method_23_code (3 : Nat) (Option.some Jvm.ClassFile.FieldType.int)) ∈ wT := wT_i3 140 rfl rfl
theorem kw_621 : (Jvm.Cond.methodLink "PushStickLaw" (49 : Nat) ({ cls := "PushStickModel", name := "slot", desc := "(I)I" } : Jvm.MethodName)) ∈ wT := wT_i3 141 rfl rfl
theorem kw_622 : (Jvm.Cond.instanceMethod ({ cls := "PushStickModel", name := "slot", desc := "(I)I" } : Jvm.MethodName)) ∈ wT := wT_i3 142 rfl rfl
theorem kw_623 : (Jvm.Cond.selects "PushStickModel" ({ cls := "PushStickModel", name := "slot", desc := "(I)I" } : Jvm.MethodName) ({ cls := "PushStickModel", name := "slot", desc := "(I)I" } : Jvm.MethodName)) ∈ wT := wT_i3 143 rfl rfl
theorem kw_624 : (Jvm.Cond.code ({ cls := "PushStickModel", name := "slot", desc := "(I)I" } : Jvm.MethodName) prog_6_method_24_code (2 : Nat) (Option.some Jvm.ClassFile.FieldType.int)) ∈ wT := wT_i3 144 rfl rfl
theorem kw_625 : (Jvm.Cond.methodLink "PushStickLaw" (53 : Nat) ({ cls := "PushStickModel", name := "load", desc := "(I)I" } : Jvm.MethodName)) ∈ wT := wT_i3 145 rfl rfl
theorem kw_626 : (Jvm.Cond.instanceMethod ({ cls := "PushStickModel", name := "load", desc := "(I)I" } : Jvm.MethodName)) ∈ wT := wT_i3 146 rfl rfl
theorem kw_627 : (Jvm.Cond.selects "PushStickModel" ({ cls := "PushStickModel", name := "load", desc := "(I)I" } : Jvm.MethodName) ({ cls := "PushStickModel", name := "load", desc := "(I)I" } : Jvm.MethodName)) ∈ wT := wT_i3 147 rfl rfl
theorem kw_628 : (Jvm.Cond.code ({ cls := "PushStickModel", name := "load", desc := "(I)I" } : Jvm.MethodName) prog_6_method_28_code (3 : Nat) (Option.some Jvm.ClassFile.FieldType.int)) ∈ wT := wT_i3 148 rfl rfl
theorem kw_629 : (Jvm.Cond.methodLink "PushStickModel" (122 : Nat) ({ cls := "PushStickModel", name := "loads", desc := "(I)I" } : Jvm.MethodName)) ∈ wT := wT_i3 149 rfl rfl
theorem kw_631 : (Jvm.Cond.instanceMethod ({ cls := "PushStickModel", name := "loads", desc := "(I)I" } : Jvm.MethodName)) ∈ wT := wT_i3 151 rfl rfl
theorem kw_632 : (Jvm.Cond.code ({ cls := "PushStickModel", name := "loads", desc := "(I)I" } : Jvm.MethodName) prog_6_method_27_code (5 : Nat) (Option.some Jvm.ClassFile.FieldType.int)) ∈ wT := wT_i3 152 rfl rfl
theorem kw_633 : (Jvm.Cond.methodLink "PushStickModel" (114 : Nat) ({ cls := "PushStickModel", name := "freeSlot", desc := "()I" } : Jvm.MethodName)) ∈ wT := wT_i3 153 rfl rfl
theorem kw_635 : (Jvm.Cond.instanceMethod ({ cls := "PushStickModel", name := "freeSlot", desc := "()I" } : Jvm.MethodName)) ∈ wT := wT_i3 155 rfl rfl
theorem kw_636 : (Jvm.Cond.code ({ cls := "PushStickModel", name := "freeSlot", desc := "()I" } : Jvm.MethodName) prog_6_method_25_code (2 : Nat) (Option.some Jvm.ClassFile.FieldType.int)) ∈ wT := wT_i3 156 rfl rfl
theorem kw_637 : (Jvm.Cond.methodLink "PushStickModel" (118 : Nat) ({ cls := "PushStickModel", name := "firstToGo", desc := "(ZI)I" } : Jvm.MethodName)) ∈ wT := wT_i3 157 rfl rfl
theorem kw_639 : (Jvm.Cond.instanceMethod ({ cls := "PushStickModel", name := "firstToGo", desc := "(ZI)I" } : Jvm.MethodName)) ∈ wT := wT_i3 159 rfl rfl
theorem kw_640 : (Jvm.Cond.code ({ cls := "PushStickModel", name := "firstToGo", desc := "(ZI)I" } : Jvm.MethodName) prog_6_method_26_code (6 : Nat) (Option.some Jvm.ClassFile.FieldType.int)) ∈ wT := wT_i3 160 rfl rfl
theorem kw_641 : (Jvm.Cond.methodLink "PushStickLaw" (57 : Nat) ({ cls := "PushStickModel", name := "unload", desc := "(I)I" } : Jvm.MethodName)) ∈ wT := wT_i3 161 rfl rfl
theorem kw_642 : (Jvm.Cond.instanceMethod ({ cls := "PushStickModel", name := "unload", desc := "(I)I" } : Jvm.MethodName)) ∈ wT := wT_i3 162 rfl rfl
theorem kw_643 : (Jvm.Cond.selects "PushStickModel" ({ cls := "PushStickModel", name := "unload", desc := "(I)I" } : Jvm.MethodName) ({ cls := "PushStickModel", name := "unload", desc := "(I)I" } : Jvm.MethodName)) ∈ wT := wT_i3 163 rfl rfl
theorem kw_644 : (Jvm.Cond.code ({ cls := "PushStickModel", name := "unload", desc := "(I)I" } : Jvm.MethodName) prog_6_method_29_code (3 : Nat) (Option.some Jvm.ClassFile.FieldType.int)) ∈ wT := wT_i3 164 rfl rfl
theorem kw_645 : (Jvm.Cond.methodLink "PushStickLaw" (61 : Nat) ({ cls := "PushStickModel", name := "play", desc := "(I)I" } : Jvm.MethodName)) ∈ wT := wT_i3 165 rfl rfl
theorem kw_646 : (Jvm.Cond.instanceMethod ({ cls := "PushStickModel", name := "play", desc := "(I)I" } : Jvm.MethodName)) ∈ wT := wT_i3 166 rfl rfl
theorem kw_647 : (Jvm.Cond.selects "PushStickModel" ({ cls := "PushStickModel", name := "play", desc := "(I)I" } : Jvm.MethodName) ({ cls := "PushStickModel", name := "play", desc := "(I)I" } : Jvm.MethodName)) ∈ wT := wT_i3 167 rfl rfl
theorem kw_648 : (Jvm.Cond.code ({ cls := "PushStickModel", name := "play", desc := "(I)I" } : Jvm.MethodName) prog_6_method_30_code (3 : Nat) (Option.some Jvm.ClassFile.FieldType.int)) ∈ wT := wT_i3 168 rfl rfl
theorem kw_649 : (Jvm.Cond.methodLink "PushStickLaw" (65 : Nat) ({ cls := "PushStickModel", name := "stop", desc := "(I)I" } : Jvm.MethodName)) ∈ wT := wT_i3 169 rfl rfl
theorem kw_650 : (Jvm.Cond.instanceMethod ({ cls := "PushStickModel", name := "stop", desc := "(I)I" } : Jvm.MethodName)) ∈ wT := wT_i3 170 rfl rfl
theorem kw_651 : (Jvm.Cond.selects "PushStickModel" ({ cls := "PushStickModel", name := "stop", desc := "(I)I" } : Jvm.MethodName) ({ cls := "PushStickModel", name := "stop", desc := "(I)I" } : Jvm.MethodName)) ∈ wT := wT_i3 171 rfl rfl
theorem kw_652 : (Jvm.Cond.code ({ cls := "PushStickModel", name := "stop", desc := "(I)I" } : Jvm.MethodName) prog_6_method_31_code (3 : Nat) (Option.some Jvm.ClassFile.FieldType.int)) ∈ wT := wT_i3 172 rfl rfl
theorem kw_653 : (Jvm.Cond.methodLink "PushStickLaw" (69 : Nat) ({ cls := "PushStickModel", name := "press", desc := "(I)I" } : Jvm.MethodName)) ∈ wT := wT_i3 173 rfl rfl
theorem kw_654 : (Jvm.Cond.instanceMethod ({ cls := "PushStickModel", name := "press", desc := "(I)I" } : Jvm.MethodName)) ∈ wT := wT_i3 174 rfl rfl
theorem kw_655 : (Jvm.Cond.selects "PushStickModel" ({ cls := "PushStickModel", name := "press", desc := "(I)I" } : Jvm.MethodName) ({ cls := "PushStickModel", name := "press", desc := "(I)I" } : Jvm.MethodName)) ∈ wT := wT_i3 175 rfl rfl
theorem kw_656 : (Jvm.Cond.code ({ cls := "PushStickModel", name := "press", desc := "(I)I" } : Jvm.MethodName) prog_6_method_32_code (5 : Nat) (Option.some Jvm.ClassFile.FieldType.int)) ∈ wT := wT_i3 176 rfl rfl
theorem kw_657 : (Jvm.Cond.methodLink "PushStickLaw" (73 : Nat) ({ cls := "PushStickModel", name := "free", desc := "(I)I" } : Jvm.MethodName)) ∈ wT := wT_i3 177 rfl rfl
theorem kw_658 : (Jvm.Cond.instanceMethod ({ cls := "PushStickModel", name := "free", desc := "(I)I" } : Jvm.MethodName)) ∈ wT := wT_i3 178 rfl rfl
theorem kw_659 : (Jvm.Cond.selects "PushStickModel" ({ cls := "PushStickModel", name := "free", desc := "(I)I" } : Jvm.MethodName) ({ cls := "PushStickModel", name := "free", desc := "(I)I" } : Jvm.MethodName)) ∈ wT := wT_i3 179 rfl rfl
theorem kw_660 : (Jvm.Cond.code ({ cls := "PushStickModel", name := "free", desc := "(I)I" } : Jvm.MethodName) prog_6_method_34_code (3 : Nat) (Option.some Jvm.ClassFile.FieldType.int)) ∈ wT := wT_i3 180 rfl rfl
theorem kw_661 : (Jvm.Cond.methodLink "PushStickModel" (129 : Nat) ({ cls := "PushStickModel", name := "comesUp", desc := "(I)V" } : Jvm.MethodName)) ∈ wT := wT_i3 181 rfl rfl
theorem kw_663 : (Jvm.Cond.instanceMethod ({ cls := "PushStickModel", name := "comesUp", desc := "(I)V" } : Jvm.MethodName)) ∈ wT := wT_i3 183 rfl rfl
theorem kw_664 : (Jvm.Cond.code ({ cls := "PushStickModel", name := "comesUp", desc := "(I)V" } : Jvm.MethodName) prog_6_method_33_code (3 : Nat) (Option.none : Option Jvm.ClassFile.FieldType)) ∈ wT := wT_i3 184 rfl rfl
theorem kw_665 : (Jvm.Cond.methodLink "PushStickLaw" (77 : Nat) ({ cls := "PushStickModel", name := "pass", desc := "(I)I" } : Jvm.MethodName)) ∈ wT := wT_i3 185 rfl rfl
theorem kw_666 : (Jvm.Cond.instanceMethod ({ cls := "PushStickModel", name := "pass", desc := "(I)I" } : Jvm.MethodName)) ∈ wT := wT_i3 186 rfl rfl
theorem kw_667 : (Jvm.Cond.selects "PushStickModel" ({ cls := "PushStickModel", name := "pass", desc := "(I)I" } : Jvm.MethodName) ({ cls := "PushStickModel", name := "pass", desc := "(I)I" } : Jvm.MethodName)) ∈ wT := wT_i3 187 rfl rfl
theorem kw_668 : (Jvm.Cond.code ({ cls := "PushStickModel", name := "pass", desc := "(I)I" } : Jvm.MethodName) prog_6_method_39_code (4 : Nat) (Option.some Jvm.ClassFile.FieldType.int)) ∈ wT := wT_i3 188 rfl rfl
theorem kw_669 : (Jvm.Cond.constant "PushStickModel" (142 : Nat) (100000 : Int32)) ∈ wT := wT_i3 189 rfl rfl
theorem kw_670 : (Jvm.Cond.methodLink "PushStickModel" (143 : Nat) ({ cls := "PushStickModel", name := "isLostBy", desc := "(I)Z" } : Jvm.MethodName)) ∈ wT := wT_i3 190 rfl rfl
theorem kw_672 : (Jvm.Cond.instanceMethod ({ cls := "PushStickModel", name := "isLostBy", desc := "(I)Z" } : Jvm.MethodName)) ∈ wT := wT_i3 192 rfl rfl
theorem kw_673 : (Jvm.Cond.code ({ cls := "PushStickModel", name := "isLostBy", desc := "(I)Z" } : Jvm.MethodName) prog_6_method_35_code (2 : Nat) (Option.some Jvm.ClassFile.FieldType.boolean)) ∈ wT := wT_i3 193 rfl rfl
theorem kw_674 : (Jvm.Cond.methodLink "PushStickModel" (146 : Nat) ({ cls := "PushStickModel", name := "getsLost", desc := "(I)V" } : Jvm.MethodName)) ∈ wT := wT_i3 194 rfl rfl
theorem kw_676 : (Jvm.Cond.instanceMethod ({ cls := "PushStickModel", name := "getsLost", desc := "(I)V" } : Jvm.MethodName)) ∈ wT := wT_i3 196 rfl rfl
theorem kw_677 : (Jvm.Cond.code ({ cls := "PushStickModel", name := "getsLost", desc := "(I)V" } : Jvm.MethodName) prog_6_method_37_code (3 : Nat) (Option.none : Option Jvm.ClassFile.FieldType)) ∈ wT := wT_i3 197 rfl rfl
theorem kw_678 : (Jvm.Cond.methodLink "PushStickModel" (138 : Nat) ({ cls := "PushStickModel", name := "startAt", desc := "(III)I" } : Jvm.MethodName)) ∈ wT := wT_i3 198 rfl rfl
theorem kw_680 : (Jvm.Cond.instanceMethod ({ cls := "PushStickModel", name := "startAt", desc := "(III)I" } : Jvm.MethodName)) ∈ wT := wT_i3 200 rfl rfl
theorem kw_681 : (Jvm.Cond.code ({ cls := "PushStickModel", name := "startAt", desc := "(III)I" } : Jvm.MethodName) prog_6_method_36_code (8 : Nat) (Option.some Jvm.ClassFile.FieldType.int)) ∈ wT := wT_i3 201 rfl rfl
theorem kw_682 : (Jvm.Cond.methodLink "PushStickModel" (149 : Nat) ({ cls := "PushStickModel", name := "manyPlay", desc := "()I" } : Jvm.MethodName)) ∈ wT := wT_i3 202 rfl rfl
theorem kw_684 : (Jvm.Cond.instanceMethod ({ cls := "PushStickModel", name := "manyPlay", desc := "()I" } : Jvm.MethodName)) ∈ wT := wT_i3 204 rfl rfl
theorem kw_685 : (Jvm.Cond.code ({ cls := "PushStickModel", name := "manyPlay", desc := "()I" } : Jvm.MethodName) prog_6_method_38_code (3 : Nat) (Option.some Jvm.ClassFile.FieldType.int)) ∈ wT := wT_i3 205 rfl rfl
theorem kw_686 : (Jvm.Cond.methodLink "PushStickLaw" (81 : Nat) ({ cls := "PushStickModel", name := "hello", desc := "()I" } : Jvm.MethodName)) ∈ wT := wT_i3 206 rfl rfl
theorem kw_687 : (Jvm.Cond.instanceMethod ({ cls := "PushStickModel", name := "hello", desc := "()I" } : Jvm.MethodName)) ∈ wT := wT_i3 207 rfl rfl
theorem kw_688 : (Jvm.Cond.selects "PushStickModel" ({ cls := "PushStickModel", name := "hello", desc := "()I" } : Jvm.MethodName) ({ cls := "PushStickModel", name := "hello", desc := "()I" } : Jvm.MethodName)) ∈ wT := wT_i3 208 rfl rfl
theorem kw_689 : (Jvm.Cond.code ({ cls := "PushStickModel", name := "hello", desc := "()I" } : Jvm.MethodName) prog_6_method_40_code (2 : Nat) (Option.some Jvm.ClassFile.FieldType.int)) ∈ wT := wT_i3 209 rfl rfl
theorem kw_690 : (Jvm.Cond.methodLink "PushStickLaw" (85 : Nat) ({ cls := "PushStickModel", name := "watch", desc := "(I)I" } : Jvm.MethodName)) ∈ wT := wT_i3 210 rfl rfl
theorem kw_691 : (Jvm.Cond.instanceMethod ({ cls := "PushStickModel", name := "watch", desc := "(I)I" } : Jvm.MethodName)) ∈ wT := wT_i3 211 rfl rfl
theorem kw_692 : (Jvm.Cond.selects "PushStickModel" ({ cls := "PushStickModel", name := "watch", desc := "(I)I" } : Jvm.MethodName) ({ cls := "PushStickModel", name := "watch", desc := "(I)I" } : Jvm.MethodName)) ∈ wT := wT_i3 212 rfl rfl
theorem kw_693 : (Jvm.Cond.code ({ cls := "PushStickModel", name := "watch", desc := "(I)I" } : Jvm.MethodName) prog_6_method_41_code (3 : Nat) (Option.some Jvm.ClassFile.FieldType.int)) ∈ wT := wT_i3 213 rfl rfl
theorem kw_694 : (Jvm.Cond.methodLink "PushStickLaw" (89 : Nat) ({ cls := "PushStickModel", name := "master", desc := "(I)I" } : Jvm.MethodName)) ∈ wT := wT_i3 214 rfl rfl
theorem kw_695 : (Jvm.Cond.instanceMethod ({ cls := "PushStickModel", name := "master", desc := "(I)I" } : Jvm.MethodName)) ∈ wT := wT_i3 215 rfl rfl
theorem kw_696 : (Jvm.Cond.selects "PushStickModel" ({ cls := "PushStickModel", name := "master", desc := "(I)I" } : Jvm.MethodName) ({ cls := "PushStickModel", name := "master", desc := "(I)I" } : Jvm.MethodName)) ∈ wT := wT_i3 216 rfl rfl
theorem kw_697 : (Jvm.Cond.code ({ cls := "PushStickModel", name := "master", desc := "(I)I" } : Jvm.MethodName) prog_6_method_42_code (3 : Nat) (Option.some Jvm.ClassFile.FieldType.int)) ∈ wT := wT_i3 217 rfl rfl
theorem kw_698 : (Jvm.Cond.methodLink "PushStickLaw" (93 : Nat) ({ cls := "PushStickModel", name := "part", desc := "(II)I" } : Jvm.MethodName)) ∈ wT := wT_i3 218 rfl rfl
theorem kw_699 : (Jvm.Cond.instanceMethod ({ cls := "PushStickModel", name := "part", desc := "(II)I" } : Jvm.MethodName)) ∈ wT := wT_i3 219 rfl rfl
theorem kw_700 : (Jvm.Cond.selects "PushStickModel" ({ cls := "PushStickModel", name := "part", desc := "(II)I" } : Jvm.MethodName) ({ cls := "PushStickModel", name := "part", desc := "(II)I" } : Jvm.MethodName)) ∈ wT := wT_i3 220 rfl rfl
theorem kw_701 : (Jvm.Cond.code ({ cls := "PushStickModel", name := "part", desc := "(II)I" } : Jvm.MethodName) prog_6_method_50_code (3 : Nat) (Option.some Jvm.ClassFile.FieldType.int)) ∈ wT := wT_i3 221 rfl rfl
theorem kw_702 : (Jvm.Cond.methodLink "PushStickModel" (173 : Nat) ({ cls := "PushStickModel", name := "partAt", desc := "(IIII)I" } : Jvm.MethodName)) ∈ wT := wT_i3 222 rfl rfl
theorem kw_704 : (Jvm.Cond.instanceMethod ({ cls := "PushStickModel", name := "partAt", desc := "(IIII)I" } : Jvm.MethodName)) ∈ wT := wT_i3 224 rfl rfl
theorem kw_705 : (Jvm.Cond.code ({ cls := "PushStickModel", name := "partAt", desc := "(IIII)I" } : Jvm.MethodName) prog_6_method_48_code (7 : Nat) (Option.some Jvm.ClassFile.FieldType.int)) ∈ wT := wT_i3 225 rfl rfl
theorem kw_706 : (Jvm.Cond.methodLink "PushStickModel" (164 : Nat) ({ cls := "PushStickModel", name := "waveAt", desc := "(II)I" } : Jvm.MethodName)) ∈ wT := wT_i3 226 rfl rfl
theorem kw_708 : (Jvm.Cond.instanceMethod ({ cls := "PushStickModel", name := "waveAt", desc := "(II)I" } : Jvm.MethodName)) ∈ wT := wT_i3 228 rfl rfl
theorem kw_709 : (Jvm.Cond.code ({ cls := "PushStickModel", name := "waveAt", desc := "(II)I" } : Jvm.MethodName) prog_6_method_45_code (8 : Nat) (Option.some Jvm.ClassFile.FieldType.int)) ∈ wT := wT_i3 229 rfl rfl
theorem kw_710 : (Jvm.Cond.methodLink "PushStickModel" (167 : Nat) ({ cls := "PushStickModel", name := "envelopeAt", desc := "(II)I" } : Jvm.MethodName)) ∈ wT := wT_i3 230 rfl rfl
theorem kw_712 : (Jvm.Cond.instanceMethod ({ cls := "PushStickModel", name := "envelopeAt", desc := "(II)I" } : Jvm.MethodName)) ∈ wT := wT_i3 232 rfl rfl
theorem kw_713 : (Jvm.Cond.code ({ cls := "PushStickModel", name := "envelopeAt", desc := "(II)I" } : Jvm.MethodName) prog_6_method_44_code (9 : Nat) (Option.some Jvm.ClassFile.FieldType.int)) ∈ wT := wT_i3 233 rfl rfl
theorem kw_714 : (Jvm.Cond.methodLink "PushStickModel" (152 : Nat) ({ cls := "PushStickModel", name := "levelBy", desc := "(III)I" } : Jvm.MethodName)) ∈ wT := wT_i3 234 rfl rfl
theorem kw_715 : (Jvm.Cond.static ({ cls := "PushStickModel", name := "levelBy", desc := "(III)I" } : Jvm.MethodName)) ∈ wT := wT_i3 235 rfl rfl
theorem kw_716 : (Jvm.Cond.code ({ cls := "PushStickModel", name := "levelBy", desc := "(III)I" } : Jvm.MethodName) prog_6_method_43_code (3 : Nat) (Option.some Jvm.ClassFile.FieldType.int)) ∈ wT := wT_i3 236 rfl rfl
theorem kw_717 : (Jvm.Cond.methodLink "PushStickModel" (170 : Nat) ({ cls := "PushStickModel", name := "byHand", desc := "(II)I" } : Jvm.MethodName)) ∈ wT := wT_i3 237 rfl rfl
theorem kw_719 : (Jvm.Cond.instanceMethod ({ cls := "PushStickModel", name := "byHand", desc := "(II)I" } : Jvm.MethodName)) ∈ wT := wT_i3 239 rfl rfl
theorem kw_720 : (Jvm.Cond.code ({ cls := "PushStickModel", name := "byHand", desc := "(II)I" } : Jvm.MethodName) prog_6_method_47_code (6 : Nat) (Option.some Jvm.ClassFile.FieldType.int)) ∈ wT := wT_i4 0 rfl rfl
theorem kw_721 : (Jvm.Cond.methodLink "PushStickModel" (158 : Nat) ({ cls := "PushStickModel", name := "beyond", desc := "(II)I" } : Jvm.MethodName)) ∈ wT := wT_i4 1 rfl rfl
theorem kw_722 : (Jvm.Cond.static ({ cls := "PushStickModel", name := "beyond", desc := "(II)I" } : Jvm.MethodName)) ∈ wT := wT_i4 2 rfl rfl
theorem kw_723 : (Jvm.Cond.code ({ cls := "PushStickModel", name := "beyond", desc := "(II)I" } : Jvm.MethodName) prog_6_method_46_code (2 : Nat) (Option.some Jvm.ClassFile.FieldType.int)) ∈ wT := wT_i4 3 rfl rfl
theorem kw_724 : (Jvm.Cond.methodLink "PushStickModel" (155 : Nat) ({ cls := "PushStickModel", name := "size", desc := "(I)I" } : Jvm.MethodName)) ∈ wT := wT_i4 4 rfl rfl
theorem kw_725 : (Jvm.Cond.static ({ cls := "PushStickModel", name := "size", desc := "(I)I" } : Jvm.MethodName)) ∈ wT := wT_i4 5 rfl rfl
theorem kw_726 : (Jvm.Cond.code ({ cls := "PushStickModel", name := "size", desc := "(I)I" } : Jvm.MethodName) prog_6_method_3_code (1 : Nat) (Option.some Jvm.ClassFile.FieldType.int)) ∈ wT := wT_i4 6 rfl rfl
theorem kw_727 : (Jvm.Cond.methodLink "PushStickModel" (161 : Nat) ({ cls := "PushStickModel", name := "held", desc := "(II)I" } : Jvm.MethodName)) ∈ wT := wT_i4 7 rfl rfl
theorem kw_728 : (Jvm.Cond.static ({ cls := "PushStickModel", name := "held", desc := "(II)I" } : Jvm.MethodName)) ∈ wT := wT_i4 8 rfl rfl
theorem kw_729 : (Jvm.Cond.code ({ cls := "PushStickModel", name := "held", desc := "(II)I" } : Jvm.MethodName) prog_6_method_4_code (2 : Nat) (Option.some Jvm.ClassFile.FieldType.int)) ∈ wT := wT_i4 9 rfl rfl
theorem kw_730 : (Jvm.Cond.methodLink "PushStickLaw" (97 : Nat) ({ cls := "PushStickModel", name := "envelope", desc := "(I)I" } : Jvm.MethodName)) ∈ wT := wT_i4 10 rfl rfl
theorem kw_731 : (Jvm.Cond.instanceMethod ({ cls := "PushStickModel", name := "envelope", desc := "(I)I" } : Jvm.MethodName)) ∈ wT := wT_i4 11 rfl rfl
theorem kw_732 : (Jvm.Cond.selects "PushStickModel" ({ cls := "PushStickModel", name := "envelope", desc := "(I)I" } : Jvm.MethodName) ({ cls := "PushStickModel", name := "envelope", desc := "(I)I" } : Jvm.MethodName)) ∈ wT := wT_i4 12 rfl rfl
theorem kw_733 : (Jvm.Cond.code ({ cls := "PushStickModel", name := "envelope", desc := "(I)I" } : Jvm.MethodName) prog_6_method_51_code (3 : Nat) (Option.some Jvm.ClassFile.FieldType.int)) ∈ wT := wT_i4 13 rfl rfl
theorem kw_734 : (Jvm.Cond.methodLink "PushStickLaw" (101 : Nat) ({ cls := "PushStickModel", name := "force", desc := "(II)I" } : Jvm.MethodName)) ∈ wT := wT_i4 14 rfl rfl
theorem kw_735 : (Jvm.Cond.instanceMethod ({ cls := "PushStickModel", name := "force", desc := "(II)I" } : Jvm.MethodName)) ∈ wT := wT_i4 15 rfl rfl
theorem kw_736 : (Jvm.Cond.selects "PushStickModel" ({ cls := "PushStickModel", name := "force", desc := "(II)I" } : Jvm.MethodName) ({ cls := "PushStickModel", name := "force", desc := "(II)I" } : Jvm.MethodName)) ∈ wT := wT_i4 16 rfl rfl
theorem kw_737 : (Jvm.Cond.code ({ cls := "PushStickModel", name := "force", desc := "(II)I" } : Jvm.MethodName) prog_6_method_52_code (4 : Nat) (Option.some Jvm.ClassFile.FieldType.int)) ∈ wT := wT_i4 17 rfl rfl
theorem kw_738 : (Jvm.Cond.methodLink "PushStickModel" (177 : Nat) ({ cls := "PushStickModel", name := "rawAt", desc := "(III)I" } : Jvm.MethodName)) ∈ wT := wT_i4 18 rfl rfl
theorem kw_740 : (Jvm.Cond.instanceMethod ({ cls := "PushStickModel", name := "rawAt", desc := "(III)I" } : Jvm.MethodName)) ∈ wT := wT_i4 20 rfl rfl
theorem kw_741 : (Jvm.Cond.code ({ cls := "PushStickModel", name := "rawAt", desc := "(III)I" } : Jvm.MethodName) prog_6_method_49_code (7 : Nat) (Option.some Jvm.ClassFile.FieldType.int)) ∈ wT := wT_i4 21 rfl rfl
theorem kw_742 : (Jvm.Cond.methodLink "PushStickLaw" (105 : Nat) ({ cls := "PushStickModel", name := "rate", desc := "(I)I" } : Jvm.MethodName)) ∈ wT := wT_i4 22 rfl rfl
theorem kw_743 : (Jvm.Cond.instanceMethod ({ cls := "PushStickModel", name := "rate", desc := "(I)I" } : Jvm.MethodName)) ∈ wT := wT_i4 23 rfl rfl
theorem kw_744 : (Jvm.Cond.selects "PushStickModel" ({ cls := "PushStickModel", name := "rate", desc := "(I)I" } : Jvm.MethodName) ({ cls := "PushStickModel", name := "rate", desc := "(I)I" } : Jvm.MethodName)) ∈ wT := wT_i4 24 rfl rfl
theorem kw_745 : (Jvm.Cond.code ({ cls := "PushStickModel", name := "rate", desc := "(I)I" } : Jvm.MethodName) prog_6_method_53_code (3 : Nat) (Option.some Jvm.ClassFile.FieldType.int)) ∈ wT := wT_i4 25 rfl rfl
theorem kw_746 : (Jvm.Cond.methodLink "PushStickLaw" (109 : Nat) ({ cls := "PushStickModel", name := "frame", desc := "(I)I" } : Jvm.MethodName)) ∈ wT := wT_i4 26 rfl rfl
theorem kw_747 : (Jvm.Cond.instanceMethod ({ cls := "PushStickModel", name := "frame", desc := "(I)I" } : Jvm.MethodName)) ∈ wT := wT_i4 27 rfl rfl
theorem kw_748 : (Jvm.Cond.selects "PushStickModel" ({ cls := "PushStickModel", name := "frame", desc := "(I)I" } : Jvm.MethodName) ({ cls := "PushStickModel", name := "frame", desc := "(I)I" } : Jvm.MethodName)) ∈ wT := wT_i4 28 rfl rfl
theorem kw_749 : (Jvm.Cond.code ({ cls := "PushStickModel", name := "frame", desc := "(I)I" } : Jvm.MethodName) prog_6_method_54_code (2 : Nat) (Option.some Jvm.ClassFile.FieldType.int)) ∈ wT := wT_i4 29 rfl rfl
theorem kw_750 : (Jvm.Cond.constant "PushStickModel" (180 : Nat) (1000000 : Int32)) ∈ wT := wT_i4 30 rfl rfl
theorem kw_751 : (Jvm.Cond.methodLink "PushStickLaw" (113 : Nat) ({ cls := "PushStickModel", name := "frames", desc := "()I" } : Jvm.MethodName)) ∈ wT := wT_i4 31 rfl rfl
theorem kw_752 : (Jvm.Cond.instanceMethod ({ cls := "PushStickModel", name := "frames", desc := "()I" } : Jvm.MethodName)) ∈ wT := wT_i4 32 rfl rfl
theorem kw_753 : (Jvm.Cond.selects "PushStickModel" ({ cls := "PushStickModel", name := "frames", desc := "()I" } : Jvm.MethodName) ({ cls := "PushStickModel", name := "frames", desc := "()I" } : Jvm.MethodName)) ∈ wT := wT_i4 33 rfl rfl
theorem kw_754 : (Jvm.Cond.code ({ cls := "PushStickModel", name := "frames", desc := "()I" } : Jvm.MethodName) prog_6_method_55_code (1 : Nat) (Option.some Jvm.ClassFile.FieldType.int)) ∈ wT := wT_i4 34 rfl rfl
theorem kw_755 : (Jvm.Cond.constantLong "PushStickModel" (181 : Nat) (1000 : Int64)) ∈ wT := wT_i4 35 rfl rfl
theorem kw_756 : (Jvm.Cond.methodLink "PushStickLaw" (117 : Nat) ({ cls := "PushStickModel", name := "peak", desc := "(III)I" } : Jvm.MethodName)) ∈ wT := wT_i4 36 rfl rfl
theorem kw_757 : (Jvm.Cond.instanceMethod ({ cls := "PushStickModel", name := "peak", desc := "(III)I" } : Jvm.MethodName)) ∈ wT := wT_i4 37 rfl rfl
theorem kw_758 : (Jvm.Cond.selects "PushStickModel" ({ cls := "PushStickModel", name := "peak", desc := "(III)I" } : Jvm.MethodName) ({ cls := "PushStickModel", name := "peak", desc := "(III)I" } : Jvm.MethodName)) ∈ wT := wT_i4 38 rfl rfl
theorem kw_759 : (Jvm.Cond.code ({ cls := "PushStickModel", name := "peak", desc := "(III)I" } : Jvm.MethodName) prog_6_method_56_code (8 : Nat) (Option.some Jvm.ClassFile.FieldType.int)) ∈ wT := wT_i4 39 rfl rfl
theorem kw_760 : (Jvm.Cond.methodLink "PushStickLaw" (121 : Nat) ({ cls := "PushStickModel", name := "soLong", desc := "(I)I" } : Jvm.MethodName)) ∈ wT := wT_i4 40 rfl rfl
theorem kw_761 : (Jvm.Cond.instanceMethod ({ cls := "PushStickModel", name := "soLong", desc := "(I)I" } : Jvm.MethodName)) ∈ wT := wT_i4 41 rfl rfl
theorem kw_762 : (Jvm.Cond.selects "PushStickModel" ({ cls := "PushStickModel", name := "soLong", desc := "(I)I" } : Jvm.MethodName) ({ cls := "PushStickModel", name := "soLong", desc := "(I)I" } : Jvm.MethodName)) ∈ wT := wT_i4 42 rfl rfl
theorem kw_763 : (Jvm.Cond.code ({ cls := "PushStickModel", name := "soLong", desc := "(I)I" } : Jvm.MethodName) prog_6_method_58_code (4 : Nat) (Option.some Jvm.ClassFile.FieldType.int)) ∈ wT := wT_i4 43 rfl rfl
theorem kw_764 : (Jvm.Cond.methodLink "PushStickModel" (183 : Nat) ({ cls := "PushStickModel", name := "isHeldBack", desc := "(II)Z" } : Jvm.MethodName)) ∈ wT := wT_i4 44 rfl rfl
theorem kw_766 : (Jvm.Cond.instanceMethod ({ cls := "PushStickModel", name := "isHeldBack", desc := "(II)Z" } : Jvm.MethodName)) ∈ wT := wT_i4 46 rfl rfl
theorem kw_767 : (Jvm.Cond.code ({ cls := "PushStickModel", name := "isHeldBack", desc := "(II)Z" } : Jvm.MethodName) prog_6_method_57_code (3 : Nat) (Option.some Jvm.ClassFile.FieldType.boolean)) ∈ wT := wT_i4 47 rfl rfl
theorem kw_768 : (Jvm.Cond.methodLink "PushStickLaw" (125 : Nat) ({ cls := "PushStickModel", name := "quiet", desc := "(I)I" } : Jvm.MethodName)) ∈ wT := wT_i4 48 rfl rfl
theorem kw_769 : (Jvm.Cond.instanceMethod ({ cls := "PushStickModel", name := "quiet", desc := "(I)I" } : Jvm.MethodName)) ∈ wT := wT_i4 49 rfl rfl
theorem kw_770 : (Jvm.Cond.selects "PushStickModel" ({ cls := "PushStickModel", name := "quiet", desc := "(I)I" } : Jvm.MethodName) ({ cls := "PushStickModel", name := "quiet", desc := "(I)I" } : Jvm.MethodName)) ∈ wT := wT_i4 50 rfl rfl
theorem kw_771 : (Jvm.Cond.code ({ cls := "PushStickModel", name := "quiet", desc := "(I)I" } : Jvm.MethodName) prog_6_method_61_code (6 : Nat) (Option.some Jvm.ClassFile.FieldType.int)) ∈ wT := wT_i4 51 rfl rfl
theorem kw_772 : (Jvm.Cond.methodLink "PushStickModel" (186 : Nat) ({ cls := "PushStickModel", name := "manyOf", desc := "(I)I" } : Jvm.MethodName)) ∈ wT := wT_i4 52 rfl rfl
theorem kw_773 : (Jvm.Cond.static ({ cls := "PushStickModel", name := "manyOf", desc := "(I)I" } : Jvm.MethodName)) ∈ wT := wT_i4 53 rfl rfl
theorem kw_774 : (Jvm.Cond.code ({ cls := "PushStickModel", name := "manyOf", desc := "(I)I" } : Jvm.MethodName) prog_6_method_60_code (3 : Nat) (Option.some Jvm.ClassFile.FieldType.int)) ∈ wT := wT_i4 54 rfl rfl
theorem kw_775 : (Jvm.Cond.methodLink "PushStickModel" (189 : Nat) ({ cls := "PushStickModel", name := "isQuiet", desc := "(II)Z" } : Jvm.MethodName)) ∈ wT := wT_i4 55 rfl rfl
theorem kw_777 : (Jvm.Cond.instanceMethod ({ cls := "PushStickModel", name := "isQuiet", desc := "(II)Z" } : Jvm.MethodName)) ∈ wT := wT_i4 57 rfl rfl
theorem kw_778 : (Jvm.Cond.code ({ cls := "PushStickModel", name := "isQuiet", desc := "(II)Z" } : Jvm.MethodName) prog_6_method_59_code (4 : Nat) (Option.some Jvm.ClassFile.FieldType.boolean)) ∈ wT := wT_i4 58 rfl rfl
theorem kw_779 : (Jvm.Cond.methodLink "PushStickLaw" (129 : Nat) ({ cls := "PushStickModel", name := "many", desc := "(I)I" } : Jvm.MethodName)) ∈ wT := wT_i4 59 rfl rfl
theorem kw_780 : (Jvm.Cond.instanceMethod ({ cls := "PushStickModel", name := "many", desc := "(I)I" } : Jvm.MethodName)) ∈ wT := wT_i4 60 rfl rfl
theorem kw_781 : (Jvm.Cond.selects "PushStickModel" ({ cls := "PushStickModel", name := "many", desc := "(I)I" } : Jvm.MethodName) ({ cls := "PushStickModel", name := "many", desc := "(I)I" } : Jvm.MethodName)) ∈ wT := wT_i4 61 rfl rfl
theorem kw_782 : (Jvm.Cond.code ({ cls := "PushStickModel", name := "many", desc := "(I)I" } : Jvm.MethodName) prog_6_method_65_code (2 : Nat) (Option.some Jvm.ClassFile.FieldType.int)) ∈ wT := wT_i4 62 rfl rfl
theorem kw_783 : (Jvm.Cond.methodLink "PushStickModel" (192 : Nat) ({ cls := "PushStickModel", name := "manyLoaded", desc := "()I" } : Jvm.MethodName)) ∈ wT := wT_i4 63 rfl rfl
theorem kw_785 : (Jvm.Cond.instanceMethod ({ cls := "PushStickModel", name := "manyLoaded", desc := "()I" } : Jvm.MethodName)) ∈ wT := wT_i4 65 rfl rfl
theorem kw_786 : (Jvm.Cond.code ({ cls := "PushStickModel", name := "manyLoaded", desc := "()I" } : Jvm.MethodName) prog_6_method_63_code (3 : Nat) (Option.some Jvm.ClassFile.FieldType.int)) ∈ wT := wT_i4 66 rfl rfl
theorem kw_787 : (Jvm.Cond.methodLink "PushStickModel" (195 : Nat) ({ cls := "PushStickModel", name := "manyOn", desc := "()I" } : Jvm.MethodName)) ∈ wT := wT_i4 67 rfl rfl
theorem kw_789 : (Jvm.Cond.instanceMethod ({ cls := "PushStickModel", name := "manyOn", desc := "()I" } : Jvm.MethodName)) ∈ wT := wT_i4 69 rfl rfl
theorem kw_790 : (Jvm.Cond.code ({ cls := "PushStickModel", name := "manyOn", desc := "()I" } : Jvm.MethodName) prog_6_method_62_code (3 : Nat) (Option.some Jvm.ClassFile.FieldType.int)) ∈ wT := wT_i4 70 rfl rfl
theorem kw_791 : (Jvm.Cond.methodLink "PushStickModel" (198 : Nat) ({ cls := "PushStickModel", name := "manyHeld", desc := "()I" } : Jvm.MethodName)) ∈ wT := wT_i4 71 rfl rfl
theorem kw_793 : (Jvm.Cond.instanceMethod ({ cls := "PushStickModel", name := "manyHeld", desc := "()I" } : Jvm.MethodName)) ∈ wT := wT_i4 73 rfl rfl
theorem kw_794 : (Jvm.Cond.code ({ cls := "PushStickModel", name := "manyHeld", desc := "()I" } : Jvm.MethodName) prog_6_method_64_code (3 : Nat) (Option.some Jvm.ClassFile.FieldType.int)) ∈ wT := wT_i4 74 rfl rfl
theorem ks_0 : Cond.selects "PushStick" ⟨"PushStick", "isEffect", "(I)Z"⟩ ⟨"PushStick", "isEffect", "(I)Z"⟩ ∈ wT := wT_sel 0 rfl rfl
theorem ks_1 : Cond.selects "PushStick" ⟨"PushStick", "takeOut", "(LPushStick$Effect;)V"⟩ ⟨"PushStick", "takeOut", "(LPushStick$Effect;)V"⟩ ∈ wT := wT_sel 1 rfl rfl
theorem ks_2 : Cond.selects "PushStick" ⟨"PushStick", "bringIn", "(LPushStick$Effect;)I"⟩ ⟨"PushStick", "bringIn", "(LPushStick$Effect;)I"⟩ ∈ wT := wT_sel 2 rfl rfl
theorem ks_3 : Cond.selects "PushStick" ⟨"PushStick", "leastFreeSlot", "()I"⟩ ⟨"PushStick", "leastFreeSlot", "()I"⟩ ∈ wT := wT_sel 3 rfl rfl
theorem ks_4 : Cond.selects "PushStick" ⟨"PushStick", "whichGoes", "(I)LPushStick$Effect;"⟩ ⟨"PushStick", "whichGoes", "(I)LPushStick$Effect;"⟩ ∈ wT := wT_sel 4 rfl rfl
theorem ks_5 : Cond.selects "PushStick" ⟨"PushStick", "letGo", "(I)V"⟩ ⟨"PushStick", "letGo", "(I)V"⟩ ∈ wT := wT_sel 5 rfl rfl
theorem ks_6 : Cond.selects "PushStick" ⟨"PushStick", "lossAt", "()I"⟩ ⟨"PushStick", "lossAt", "()I"⟩ ∈ wT := wT_sel 6 rfl rfl
theorem ks_7 : Cond.selects "PushStick" ⟨"PushStick", "beginAgainUpTo", "(I)V"⟩ ⟨"PushStick", "beginAgainUpTo", "(I)V"⟩ ∈ wT := wT_sel 7 rfl rfl
theorem ks_8 : Cond.selects "PushStick" ⟨"PushStick", "startBy", "(LPushStick$Effect;I)I"⟩ ⟨"PushStick", "startBy", "(LPushStick$Effect;I)I"⟩ ∈ wT := wT_sel 8 rfl rfl
theorem ks_9 : Cond.selects "PushStick" ⟨"PushStick", "loseHostAt", "(I)V"⟩ ⟨"PushStick", "loseHostAt", "(I)V"⟩ ∈ wT := wT_sel 9 rfl rfl
theorem ks_10 : Cond.selects "PushStick" ⟨"PushStick", "howManyPlay", "()I"⟩ ⟨"PushStick", "howManyPlay", "()I"⟩ ∈ wT := wT_sel 10 rfl rfl
theorem ks_11 : Cond.selects "PushStick" ⟨"PushStick", "rawAt", "(ILPushStick$Axis;)I"⟩ ⟨"PushStick", "rawAt", "(ILPushStick$Axis;)I"⟩ ∈ wT := wT_sel 11 rfl rfl
theorem ks_12 : Cond.selects "PushStick" ⟨"PushStick", "endOfPush", "(I)I"⟩ ⟨"PushStick", "endOfPush", "(I)I"⟩ ∈ wT := wT_sel 12 rfl rfl
theorem ks_13 : Cond.selects "PushStick" ⟨"PushStick", "gatherPlaying", "()I"⟩ ⟨"PushStick", "gatherPlaying", "()I"⟩ ∈ wT := wT_sel 13 rfl rfl
theorem ks_14 : Cond.selects "PushStick" ⟨"PushStick", "markHeldBack", "(ILPushStick$Axis;I)V"⟩ ⟨"PushStick", "markHeldBack", "(ILPushStick$Axis;I)V"⟩ ∈ wT := wT_sel 14 rfl rfl
theorem ks_15 : Cond.selects "PushStick" ⟨"PushStick", "lackAt", "(LPushStick$Effect;ILPushStick$Axis;)I"⟩ ⟨"PushStick", "lackAt", "(LPushStick$Effect;ILPushStick$Axis;)I"⟩ ∈ wT := wT_sel 15 rfl rfl
theorem ks_16 : Cond.selects "PushStick" ⟨"PushStick", "fewestNotHeldBack", "(I)I"⟩ ⟨"PushStick", "fewestNotHeldBack", "(I)I"⟩ ∈ wT := wT_sel 16 rfl rfl
theorem ks_17 : Cond.selects "PushStick" ⟨"PushStick", "asEffects", "(II)I"⟩ ⟨"PushStick", "asEffects", "(II)I"⟩ ∈ wT := wT_sel 17 rfl rfl
theorem ks_18 : Cond.selects "PushStick" ⟨"PushStick", "howManyLoaded", "()I"⟩ ⟨"PushStick", "howManyLoaded", "()I"⟩ ∈ wT := wT_sel 18 rfl rfl
theorem ks_19 : Cond.selects "PushStick" ⟨"PushStick", "howManyOn", "()I"⟩ ⟨"PushStick", "howManyOn", "()I"⟩ ∈ wT := wT_sel 19 rfl rfl
theorem ks_20 : Cond.selects "PushStick" ⟨"PushStick", "howManyHeld", "()I"⟩ ⟨"PushStick", "howManyHeld", "()I"⟩ ∈ wT := wT_sel 20 rfl rfl
theorem ks_21 : Cond.selects "PushStickModel" ⟨"PushStickModel", "isEffect", "(I)Z"⟩ ⟨"PushStickModel", "isEffect", "(I)Z"⟩ ∈ wT := wT_sel 21 rfl rfl
theorem ks_22 : Cond.selects "PushStickModel" ⟨"PushStickModel", "tellNumber", "(II)I"⟩ ⟨"PushStickModel", "tellNumber", "(II)I"⟩ ∈ wT := wT_sel 22 rfl rfl
theorem ks_23 : Cond.selects "PushStickModel" ⟨"PushStickModel", "numberOf", "(II)I"⟩ ⟨"PushStickModel", "numberOf", "(II)I"⟩ ∈ wT := wT_sel 23 rfl rfl
theorem ks_24 : Cond.selects "PushStickModel" ⟨"PushStickModel", "goes", "(I)V"⟩ ⟨"PushStickModel", "goes", "(I)V"⟩ ∈ wT := wT_sel 24 rfl rfl
theorem ks_25 : Cond.selects "PushStickModel" ⟨"PushStickModel", "slotOf", "(I)I"⟩ ⟨"PushStickModel", "slotOf", "(I)I"⟩ ∈ wT := wT_sel 25 rfl rfl
theorem ks_26 : Cond.selects "PushStickModel" ⟨"PushStickModel", "moves", "(II)V"⟩ ⟨"PushStickModel", "moves", "(II)V"⟩ ∈ wT := wT_sel 26 rfl rfl
theorem ks_27 : Cond.selects "PushStickModel" ⟨"PushStickModel", "doesPlay", "(III)Z"⟩ ⟨"PushStickModel", "doesPlay", "(III)Z"⟩ ∈ wT := wT_sel 27 rfl rfl
theorem ks_28 : Cond.selects "PushStickModel" ⟨"PushStickModel", "isOn", "(III)Z"⟩ ⟨"PushStickModel", "isOn", "(III)Z"⟩ ∈ wT := wT_sel 28 rfl rfl
theorem ks_29 : Cond.selects "PushStickModel" ⟨"PushStickModel", "loads", "(I)I"⟩ ⟨"PushStickModel", "loads", "(I)I"⟩ ∈ wT := wT_sel 29 rfl rfl
theorem ks_30 : Cond.selects "PushStickModel" ⟨"PushStickModel", "freeSlot", "()I"⟩ ⟨"PushStickModel", "freeSlot", "()I"⟩ ∈ wT := wT_sel 30 rfl rfl
theorem ks_31 : Cond.selects "PushStickModel" ⟨"PushStickModel", "firstToGo", "(ZI)I"⟩ ⟨"PushStickModel", "firstToGo", "(ZI)I"⟩ ∈ wT := wT_sel 31 rfl rfl
theorem ks_32 : Cond.selects "PushStickModel" ⟨"PushStickModel", "comesUp", "(I)V"⟩ ⟨"PushStickModel", "comesUp", "(I)V"⟩ ∈ wT := wT_sel 32 rfl rfl
theorem ks_33 : Cond.selects "PushStickModel" ⟨"PushStickModel", "isLostBy", "(I)Z"⟩ ⟨"PushStickModel", "isLostBy", "(I)Z"⟩ ∈ wT := wT_sel 33 rfl rfl
theorem ks_34 : Cond.selects "PushStickModel" ⟨"PushStickModel", "getsLost", "(I)V"⟩ ⟨"PushStickModel", "getsLost", "(I)V"⟩ ∈ wT := wT_sel 34 rfl rfl
theorem ks_35 : Cond.selects "PushStickModel" ⟨"PushStickModel", "startAt", "(III)I"⟩ ⟨"PushStickModel", "startAt", "(III)I"⟩ ∈ wT := wT_sel 35 rfl rfl
theorem ks_36 : Cond.selects "PushStickModel" ⟨"PushStickModel", "manyPlay", "()I"⟩ ⟨"PushStickModel", "manyPlay", "()I"⟩ ∈ wT := wT_sel 36 rfl rfl
theorem ks_37 : Cond.selects "PushStickModel" ⟨"PushStickModel", "partAt", "(IIII)I"⟩ ⟨"PushStickModel", "partAt", "(IIII)I"⟩ ∈ wT := wT_sel 37 rfl rfl
theorem ks_38 : Cond.selects "PushStickModel" ⟨"PushStickModel", "waveAt", "(II)I"⟩ ⟨"PushStickModel", "waveAt", "(II)I"⟩ ∈ wT := wT_sel 38 rfl rfl
theorem ks_39 : Cond.selects "PushStickModel" ⟨"PushStickModel", "envelopeAt", "(II)I"⟩ ⟨"PushStickModel", "envelopeAt", "(II)I"⟩ ∈ wT := wT_sel 39 rfl rfl
theorem ks_40 : Cond.selects "PushStickModel" ⟨"PushStickModel", "byHand", "(II)I"⟩ ⟨"PushStickModel", "byHand", "(II)I"⟩ ∈ wT := wT_sel 40 rfl rfl
theorem ks_41 : Cond.selects "PushStickModel" ⟨"PushStickModel", "rawAt", "(III)I"⟩ ⟨"PushStickModel", "rawAt", "(III)I"⟩ ∈ wT := wT_sel 41 rfl rfl
theorem ks_42 : Cond.selects "PushStickModel" ⟨"PushStickModel", "isHeldBack", "(II)Z"⟩ ⟨"PushStickModel", "isHeldBack", "(II)Z"⟩ ∈ wT := wT_sel 42 rfl rfl
theorem ks_43 : Cond.selects "PushStickModel" ⟨"PushStickModel", "isQuiet", "(II)Z"⟩ ⟨"PushStickModel", "isQuiet", "(II)Z"⟩ ∈ wT := wT_sel 43 rfl rfl
theorem ks_44 : Cond.selects "PushStickModel" ⟨"PushStickModel", "manyLoaded", "()I"⟩ ⟨"PushStickModel", "manyLoaded", "()I"⟩ ∈ wT := wT_sel 44 rfl rfl
theorem ks_45 : Cond.selects "PushStickModel" ⟨"PushStickModel", "manyOn", "()I"⟩ ⟨"PushStickModel", "manyOn", "()I"⟩ ∈ wT := wT_sel 45 rfl rfl
theorem ks_46 : Cond.selects "PushStickModel" ⟨"PushStickModel", "manyHeld", "()I"⟩ ⟨"PushStickModel", "manyHeld", "()I"⟩ ∈ wT := wT_sel 46 rfl rfl
