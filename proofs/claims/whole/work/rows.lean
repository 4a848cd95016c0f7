section
/-! PART A of the skeleton; then the good words of the tables, one list for every method, and each word by its place -/
/-- a private method of a class that the tables say can be made, by its rows of tables_1 -/
def lw_okq (q : MethodName × Nat) : Prop := (q.1.cls ≠ "java/lang/invoke/MethodHandle" ∧ q.1.cls ≠ "java/lang/invoke/VarHandle") ∧ Cond.instantiable q.1.cls q.2 ∈ tables_1 ∧ Cond.privateMethod q.1 ∈ tables_1 ∧ Cond.instanceMethod q.1 ∈ tables_1
theorem lw_p0 : lw_okq (⟨"PushStick", "isEffect", "(I)Z"⟩, 16) := ⟨⟨by decide +kernel, by decide +kernel⟩, List.mem_of_getElem? (i := 9) (by decide +kernel), List.mem_of_getElem? (i := 181) (by decide +kernel), List.mem_of_getElem? (i := 182) (by decide +kernel)⟩
theorem lw_p1 : lw_okq (⟨"PushStick", "takeOut", "(LPushStick$Effect;)V"⟩, 16) := ⟨⟨by decide +kernel, by decide +kernel⟩, List.mem_of_getElem? (i := 9) (by decide +kernel), List.mem_of_getElem? (i := 199) (by decide +kernel), List.mem_of_getElem? (i := 200) (by decide +kernel)⟩
theorem lw_p2 : lw_okq (⟨"PushStick", "bringIn", "(LPushStick$Effect;)I"⟩, 16) := ⟨⟨by decide +kernel, by decide +kernel⟩, List.mem_of_getElem? (i := 9) (by decide +kernel), List.mem_of_getElem? (i := 244) (by decide +kernel), List.mem_of_getElem? (i := 245) (by decide +kernel)⟩
theorem lw_p3 : lw_okq (⟨"PushStick", "leastFreeSlot", "()I"⟩, 16) := ⟨⟨by decide +kernel, by decide +kernel⟩, List.mem_of_getElem? (i := 9) (by decide +kernel), List.mem_of_getElem? (i := 248) (by decide +kernel), List.mem_of_getElem? (i := 249) (by decide +kernel)⟩
theorem lw_p4 : lw_okq (⟨"PushStick", "whichGoes", "(I)LPushStick$Effect;"⟩, 16) := ⟨⟨by decide +kernel, by decide +kernel⟩, List.mem_of_getElem? (i := 9) (by decide +kernel), List.mem_of_getElem? (i := 252) (by decide +kernel), List.mem_of_getElem? (i := 253) (by decide +kernel)⟩
theorem lw_p5 : lw_okq (⟨"PushStick", "letGo", "(I)V"⟩, 16) := ⟨⟨by decide +kernel, by decide +kernel⟩, List.mem_of_getElem? (i := 9) (by decide +kernel), List.mem_of_getElem? (i := 279) (by decide +kernel), List.mem_of_getElem? (i := 280) (by decide +kernel)⟩
theorem lw_p6 : lw_okq (⟨"PushStick", "lossAt", "()I"⟩, 16) := ⟨⟨by decide +kernel, by decide +kernel⟩, List.mem_of_getElem? (i := 9) (by decide +kernel), List.mem_of_getElem? (i := 288) (by decide +kernel), List.mem_of_getElem? (i := 289) (by decide +kernel)⟩
theorem lw_p7 : lw_okq (⟨"PushStick", "beginAgainUpTo", "(I)V"⟩, 16) := ⟨⟨by decide +kernel, by decide +kernel⟩, List.mem_of_getElem? (i := 9) (by decide +kernel), List.mem_of_getElem? (i := 296) (by decide +kernel), List.mem_of_getElem? (i := 297) (by decide +kernel)⟩
theorem lw_p8 : lw_okq (⟨"PushStick", "startBy", "(LPushStick$Effect;I)I"⟩, 16) := ⟨⟨by decide +kernel, by decide +kernel⟩, List.mem_of_getElem? (i := 9) (by decide +kernel), List.mem_of_getElem? (i := 300) (by decide +kernel), List.mem_of_getElem? (i := 301) (by decide +kernel)⟩
theorem lw_p9 : lw_okq (⟨"PushStick", "loseHostAt", "(I)V"⟩, 16) := ⟨⟨by decide +kernel, by decide +kernel⟩, List.mem_of_getElem? (i := 9) (by decide +kernel), List.mem_of_getElem? (i := 307) (by decide +kernel), List.mem_of_getElem? (i := 308) (by decide +kernel)⟩
theorem lw_p10 : lw_okq (⟨"PushStick", "howManyPlay", "()I"⟩, 16) := ⟨⟨by decide +kernel, by decide +kernel⟩, List.mem_of_getElem? (i := 9) (by decide +kernel), List.mem_of_getElem? (i := 311) (by decide +kernel), List.mem_of_getElem? (i := 312) (by decide +kernel)⟩
theorem lw_p11 : lw_okq (⟨"PushStick", "rawAt", "(ILPushStick$Axis;)I"⟩, 16) := ⟨⟨by decide +kernel, by decide +kernel⟩, List.mem_of_getElem? (i := 9) (by decide +kernel), List.mem_of_getElem? (i := 392) (by decide +kernel), List.mem_of_getElem? (i := 393) (by decide +kernel)⟩
theorem lw_p12 : lw_okq (⟨"PushStick", "endOfPush", "(I)I"⟩, 16) := ⟨⟨by decide +kernel, by decide +kernel⟩, List.mem_of_getElem? (i := 9) (by decide +kernel), List.mem_of_getElem? (i := 417) (by decide +kernel), List.mem_of_getElem? (i := 418) (by decide +kernel)⟩
theorem lw_p13 : lw_okq (⟨"PushStick", "gatherPlaying", "()I"⟩, 16) := ⟨⟨by decide +kernel, by decide +kernel⟩, List.mem_of_getElem? (i := 9) (by decide +kernel), List.mem_of_getElem? (i := 433) (by decide +kernel), List.mem_of_getElem? (i := 434) (by decide +kernel)⟩
theorem lw_p14 : lw_okq (⟨"PushStick", "markHeldBack", "(ILPushStick$Axis;I)V"⟩, 16) := ⟨⟨by decide +kernel, by decide +kernel⟩, List.mem_of_getElem? (i := 9) (by decide +kernel), List.mem_of_getElem? (i := 437) (by decide +kernel), List.mem_of_getElem? (i := 438) (by decide +kernel)⟩
theorem lw_p15 : lw_okq (⟨"PushStick", "lackAt", "(LPushStick$Effect;ILPushStick$Axis;)I"⟩, 16) := ⟨⟨by decide +kernel, by decide +kernel⟩, List.mem_of_getElem? (i := 9) (by decide +kernel), List.mem_of_getElem? (i := 441) (by decide +kernel), List.mem_of_getElem? (i := 442) (by decide +kernel)⟩
def lw_privs_1 : List (MethodName × Nat) := [(⟨"PushStick", "isEffect", "(I)Z"⟩, 16), (⟨"PushStick", "takeOut", "(LPushStick$Effect;)V"⟩, 16), (⟨"PushStick", "bringIn", "(LPushStick$Effect;)I"⟩, 16), (⟨"PushStick", "leastFreeSlot", "()I"⟩, 16), (⟨"PushStick", "whichGoes", "(I)LPushStick$Effect;"⟩, 16), (⟨"PushStick", "letGo", "(I)V"⟩, 16), (⟨"PushStick", "lossAt", "()I"⟩, 16), (⟨"PushStick", "beginAgainUpTo", "(I)V"⟩, 16), (⟨"PushStick", "startBy", "(LPushStick$Effect;I)I"⟩, 16), (⟨"PushStick", "loseHostAt", "(I)V"⟩, 16), (⟨"PushStick", "howManyPlay", "()I"⟩, 16), (⟨"PushStick", "rawAt", "(ILPushStick$Axis;)I"⟩, 16), (⟨"PushStick", "endOfPush", "(I)I"⟩, 16), (⟨"PushStick", "gatherPlaying", "()I"⟩, 16), (⟨"PushStick", "markHeldBack", "(ILPushStick$Axis;I)V"⟩, 16), (⟨"PushStick", "lackAt", "(LPushStick$Effect;ILPushStick$Axis;)I"⟩, 16)]
theorem lw_r1 : ∀ q ∈ lw_privs_1, lw_okq q := List.forall_mem_cons.mpr ⟨lw_p0, List.forall_mem_cons.mpr ⟨lw_p1, List.forall_mem_cons.mpr ⟨lw_p2, List.forall_mem_cons.mpr ⟨lw_p3, List.forall_mem_cons.mpr ⟨lw_p4, List.forall_mem_cons.mpr ⟨lw_p5, List.forall_mem_cons.mpr ⟨lw_p6, List.forall_mem_cons.mpr ⟨lw_p7, List.forall_mem_cons.mpr ⟨lw_p8, List.forall_mem_cons.mpr ⟨lw_p9, List.forall_mem_cons.mpr ⟨lw_p10, List.forall_mem_cons.mpr ⟨lw_p11, List.forall_mem_cons.mpr ⟨lw_p12, List.forall_mem_cons.mpr ⟨lw_p13, List.forall_mem_cons.mpr ⟨lw_p14, List.forall_mem_cons.mpr ⟨lw_p15, fun _ h => absurd h List.not_mem_nil⟩⟩⟩⟩⟩⟩⟩⟩⟩⟩⟩⟩⟩⟩⟩⟩
theorem lw_p16 : lw_okq (⟨"PushStick", "fewestNotHeldBack", "(I)I"⟩, 16) := ⟨⟨by decide +kernel, by decide +kernel⟩, List.mem_of_getElem? (i := 9) (by decide +kernel), List.mem_of_getElem? (i := 445) (by decide +kernel), List.mem_of_getElem? (i := 446) (by decide +kernel)⟩
theorem lw_p17 : lw_okq (⟨"PushStick", "asEffects", "(II)I"⟩, 16) := ⟨⟨by decide +kernel, by decide +kernel⟩, List.mem_of_getElem? (i := 9) (by decide +kernel), List.mem_of_getElem? (i := 455) (by decide +kernel), List.mem_of_getElem? (i := 456) (by decide +kernel)⟩
theorem lw_p18 : lw_okq (⟨"PushStick", "howManyLoaded", "()I"⟩, 16) := ⟨⟨by decide +kernel, by decide +kernel⟩, List.mem_of_getElem? (i := 9) (by decide +kernel), List.mem_of_getElem? (i := 463) (by decide +kernel), List.mem_of_getElem? (i := 464) (by decide +kernel)⟩
theorem lw_p19 : lw_okq (⟨"PushStick", "howManyOn", "()I"⟩, 16) := ⟨⟨by decide +kernel, by decide +kernel⟩, List.mem_of_getElem? (i := 9) (by decide +kernel), List.mem_of_getElem? (i := 467) (by decide +kernel), List.mem_of_getElem? (i := 468) (by decide +kernel)⟩
theorem lw_p20 : lw_okq (⟨"PushStick", "howManyHeld", "()I"⟩, 16) := ⟨⟨by decide +kernel, by decide +kernel⟩, List.mem_of_getElem? (i := 9) (by decide +kernel), List.mem_of_getElem? (i := 471) (by decide +kernel), List.mem_of_getElem? (i := 472) (by decide +kernel)⟩
theorem lw_p21 : lw_okq (⟨"PushStickModel", "isEffect", "(I)Z"⟩, 21) := ⟨⟨by decide +kernel, by decide +kernel⟩, List.mem_of_getElem? (i := 475) (by decide +kernel), List.mem_of_getElem? (i := 559) (by decide +kernel), List.mem_of_getElem? (i := 560) (by decide +kernel)⟩
theorem lw_p22 : lw_okq (⟨"PushStickModel", "tellNumber", "(II)I"⟩, 21) := ⟨⟨by decide +kernel, by decide +kernel⟩, List.mem_of_getElem? (i := 475) (by decide +kernel), List.mem_of_getElem? (i := 570) (by decide +kernel), List.mem_of_getElem? (i := 571) (by decide +kernel)⟩
theorem lw_p23 : lw_okq (⟨"PushStickModel", "numberOf", "(II)I"⟩, 21) := ⟨⟨by decide +kernel, by decide +kernel⟩, List.mem_of_getElem? (i := 475) (by decide +kernel), List.mem_of_getElem? (i := 574) (by decide +kernel), List.mem_of_getElem? (i := 575) (by decide +kernel)⟩
theorem lw_p24 : lw_okq (⟨"PushStickModel", "goes", "(I)V"⟩, 21) := ⟨⟨by decide +kernel, by decide +kernel⟩, List.mem_of_getElem? (i := 475) (by decide +kernel), List.mem_of_getElem? (i := 582) (by decide +kernel), List.mem_of_getElem? (i := 583) (by decide +kernel)⟩
theorem lw_p25 : lw_okq (⟨"PushStickModel", "slotOf", "(I)I"⟩, 21) := ⟨⟨by decide +kernel, by decide +kernel⟩, List.mem_of_getElem? (i := 475) (by decide +kernel), List.mem_of_getElem? (i := 586) (by decide +kernel), List.mem_of_getElem? (i := 587) (by decide +kernel)⟩
theorem lw_p26 : lw_okq (⟨"PushStickModel", "moves", "(II)V"⟩, 21) := ⟨⟨by decide +kernel, by decide +kernel⟩, List.mem_of_getElem? (i := 475) (by decide +kernel), List.mem_of_getElem? (i := 594) (by decide +kernel), List.mem_of_getElem? (i := 595) (by decide +kernel)⟩
theorem lw_p27 : lw_okq (⟨"PushStickModel", "doesPlay", "(III)Z"⟩, 21) := ⟨⟨by decide +kernel, by decide +kernel⟩, List.mem_of_getElem? (i := 475) (by decide +kernel), List.mem_of_getElem? (i := 610) (by decide +kernel), List.mem_of_getElem? (i := 611) (by decide +kernel)⟩
theorem lw_p28 : lw_okq (⟨"PushStickModel", "isOn", "(III)Z"⟩, 21) := ⟨⟨by decide +kernel, by decide +kernel⟩, List.mem_of_getElem? (i := 475) (by decide +kernel), List.mem_of_getElem? (i := 614) (by decide +kernel), List.mem_of_getElem? (i := 615) (by decide +kernel)⟩
theorem lw_p29 : lw_okq (⟨"PushStickModel", "loads", "(I)I"⟩, 21) := ⟨⟨by decide +kernel, by decide +kernel⟩, List.mem_of_getElem? (i := 475) (by decide +kernel), List.mem_of_getElem? (i := 630) (by decide +kernel), List.mem_of_getElem? (i := 631) (by decide +kernel)⟩
theorem lw_p30 : lw_okq (⟨"PushStickModel", "freeSlot", "()I"⟩, 21) := ⟨⟨by decide +kernel, by decide +kernel⟩, List.mem_of_getElem? (i := 475) (by decide +kernel), List.mem_of_getElem? (i := 634) (by decide +kernel), List.mem_of_getElem? (i := 635) (by decide +kernel)⟩
theorem lw_p31 : lw_okq (⟨"PushStickModel", "firstToGo", "(ZI)I"⟩, 21) := ⟨⟨by decide +kernel, by decide +kernel⟩, List.mem_of_getElem? (i := 475) (by decide +kernel), List.mem_of_getElem? (i := 638) (by decide +kernel), List.mem_of_getElem? (i := 639) (by decide +kernel)⟩
def lw_privs_2 : List (MethodName × Nat) := [(⟨"PushStick", "fewestNotHeldBack", "(I)I"⟩, 16), (⟨"PushStick", "asEffects", "(II)I"⟩, 16), (⟨"PushStick", "howManyLoaded", "()I"⟩, 16), (⟨"PushStick", "howManyOn", "()I"⟩, 16), (⟨"PushStick", "howManyHeld", "()I"⟩, 16), (⟨"PushStickModel", "isEffect", "(I)Z"⟩, 21), (⟨"PushStickModel", "tellNumber", "(II)I"⟩, 21), (⟨"PushStickModel", "numberOf", "(II)I"⟩, 21), (⟨"PushStickModel", "goes", "(I)V"⟩, 21), (⟨"PushStickModel", "slotOf", "(I)I"⟩, 21), (⟨"PushStickModel", "moves", "(II)V"⟩, 21), (⟨"PushStickModel", "doesPlay", "(III)Z"⟩, 21), (⟨"PushStickModel", "isOn", "(III)Z"⟩, 21), (⟨"PushStickModel", "loads", "(I)I"⟩, 21), (⟨"PushStickModel", "freeSlot", "()I"⟩, 21), (⟨"PushStickModel", "firstToGo", "(ZI)I"⟩, 21)]
theorem lw_r2 : ∀ q ∈ lw_privs_2, lw_okq q := List.forall_mem_cons.mpr ⟨lw_p16, List.forall_mem_cons.mpr ⟨lw_p17, List.forall_mem_cons.mpr ⟨lw_p18, List.forall_mem_cons.mpr ⟨lw_p19, List.forall_mem_cons.mpr ⟨lw_p20, List.forall_mem_cons.mpr ⟨lw_p21, List.forall_mem_cons.mpr ⟨lw_p22, List.forall_mem_cons.mpr ⟨lw_p23, List.forall_mem_cons.mpr ⟨lw_p24, List.forall_mem_cons.mpr ⟨lw_p25, List.forall_mem_cons.mpr ⟨lw_p26, List.forall_mem_cons.mpr ⟨lw_p27, List.forall_mem_cons.mpr ⟨lw_p28, List.forall_mem_cons.mpr ⟨lw_p29, List.forall_mem_cons.mpr ⟨lw_p30, List.forall_mem_cons.mpr ⟨lw_p31, fun _ h => absurd h List.not_mem_nil⟩⟩⟩⟩⟩⟩⟩⟩⟩⟩⟩⟩⟩⟩⟩⟩
theorem lw_p32 : lw_okq (⟨"PushStickModel", "comesUp", "(I)V"⟩, 21) := ⟨⟨by decide +kernel, by decide +kernel⟩, List.mem_of_getElem? (i := 475) (by decide +kernel), List.mem_of_getElem? (i := 662) (by decide +kernel), List.mem_of_getElem? (i := 663) (by decide +kernel)⟩
theorem lw_p33 : lw_okq (⟨"PushStickModel", "isLostBy", "(I)Z"⟩, 21) := ⟨⟨by decide +kernel, by decide +kernel⟩, List.mem_of_getElem? (i := 475) (by decide +kernel), List.mem_of_getElem? (i := 671) (by decide +kernel), List.mem_of_getElem? (i := 672) (by decide +kernel)⟩
theorem lw_p34 : lw_okq (⟨"PushStickModel", "getsLost", "(I)V"⟩, 21) := ⟨⟨by decide +kernel, by decide +kernel⟩, List.mem_of_getElem? (i := 475) (by decide +kernel), List.mem_of_getElem? (i := 675) (by decide +kernel), List.mem_of_getElem? (i := 676) (by decide +kernel)⟩
theorem lw_p35 : lw_okq (⟨"PushStickModel", "startAt", "(III)I"⟩, 21) := ⟨⟨by decide +kernel, by decide +kernel⟩, List.mem_of_getElem? (i := 475) (by decide +kernel), List.mem_of_getElem? (i := 679) (by decide +kernel), List.mem_of_getElem? (i := 680) (by decide +kernel)⟩
theorem lw_p36 : lw_okq (⟨"PushStickModel", "manyPlay", "()I"⟩, 21) := ⟨⟨by decide +kernel, by decide +kernel⟩, List.mem_of_getElem? (i := 475) (by decide +kernel), List.mem_of_getElem? (i := 683) (by decide +kernel), List.mem_of_getElem? (i := 684) (by decide +kernel)⟩
theorem lw_p37 : lw_okq (⟨"PushStickModel", "partAt", "(IIII)I"⟩, 21) := ⟨⟨by decide +kernel, by decide +kernel⟩, List.mem_of_getElem? (i := 475) (by decide +kernel), List.mem_of_getElem? (i := 703) (by decide +kernel), List.mem_of_getElem? (i := 704) (by decide +kernel)⟩
theorem lw_p38 : lw_okq (⟨"PushStickModel", "waveAt", "(II)I"⟩, 21) := ⟨⟨by decide +kernel, by decide +kernel⟩, List.mem_of_getElem? (i := 475) (by decide +kernel), List.mem_of_getElem? (i := 707) (by decide +kernel), List.mem_of_getElem? (i := 708) (by decide +kernel)⟩
theorem lw_p39 : lw_okq (⟨"PushStickModel", "envelopeAt", "(II)I"⟩, 21) := ⟨⟨by decide +kernel, by decide +kernel⟩, List.mem_of_getElem? (i := 475) (by decide +kernel), List.mem_of_getElem? (i := 711) (by decide +kernel), List.mem_of_getElem? (i := 712) (by decide +kernel)⟩
theorem lw_p40 : lw_okq (⟨"PushStickModel", "byHand", "(II)I"⟩, 21) := ⟨⟨by decide +kernel, by decide +kernel⟩, List.mem_of_getElem? (i := 475) (by decide +kernel), List.mem_of_getElem? (i := 718) (by decide +kernel), List.mem_of_getElem? (i := 719) (by decide +kernel)⟩
theorem lw_p41 : lw_okq (⟨"PushStickModel", "rawAt", "(III)I"⟩, 21) := ⟨⟨by decide +kernel, by decide +kernel⟩, List.mem_of_getElem? (i := 475) (by decide +kernel), List.mem_of_getElem? (i := 739) (by decide +kernel), List.mem_of_getElem? (i := 740) (by decide +kernel)⟩
theorem lw_p42 : lw_okq (⟨"PushStickModel", "isHeldBack", "(II)Z"⟩, 21) := ⟨⟨by decide +kernel, by decide +kernel⟩, List.mem_of_getElem? (i := 475) (by decide +kernel), List.mem_of_getElem? (i := 765) (by decide +kernel), List.mem_of_getElem? (i := 766) (by decide +kernel)⟩
theorem lw_p43 : lw_okq (⟨"PushStickModel", "isQuiet", "(II)Z"⟩, 21) := ⟨⟨by decide +kernel, by decide +kernel⟩, List.mem_of_getElem? (i := 475) (by decide +kernel), List.mem_of_getElem? (i := 776) (by decide +kernel), List.mem_of_getElem? (i := 777) (by decide +kernel)⟩
theorem lw_p44 : lw_okq (⟨"PushStickModel", "manyLoaded", "()I"⟩, 21) := ⟨⟨by decide +kernel, by decide +kernel⟩, List.mem_of_getElem? (i := 475) (by decide +kernel), List.mem_of_getElem? (i := 784) (by decide +kernel), List.mem_of_getElem? (i := 785) (by decide +kernel)⟩
theorem lw_p45 : lw_okq (⟨"PushStickModel", "manyOn", "()I"⟩, 21) := ⟨⟨by decide +kernel, by decide +kernel⟩, List.mem_of_getElem? (i := 475) (by decide +kernel), List.mem_of_getElem? (i := 788) (by decide +kernel), List.mem_of_getElem? (i := 789) (by decide +kernel)⟩
theorem lw_p46 : lw_okq (⟨"PushStickModel", "manyHeld", "()I"⟩, 21) := ⟨⟨by decide +kernel, by decide +kernel⟩, List.mem_of_getElem? (i := 475) (by decide +kernel), List.mem_of_getElem? (i := 792) (by decide +kernel), List.mem_of_getElem? (i := 793) (by decide +kernel)⟩
def lw_privs_3 : List (MethodName × Nat) := [(⟨"PushStickModel", "comesUp", "(I)V"⟩, 21), (⟨"PushStickModel", "isLostBy", "(I)Z"⟩, 21), (⟨"PushStickModel", "getsLost", "(I)V"⟩, 21), (⟨"PushStickModel", "startAt", "(III)I"⟩, 21), (⟨"PushStickModel", "manyPlay", "()I"⟩, 21), (⟨"PushStickModel", "partAt", "(IIII)I"⟩, 21), (⟨"PushStickModel", "waveAt", "(II)I"⟩, 21), (⟨"PushStickModel", "envelopeAt", "(II)I"⟩, 21), (⟨"PushStickModel", "byHand", "(II)I"⟩, 21), (⟨"PushStickModel", "rawAt", "(III)I"⟩, 21), (⟨"PushStickModel", "isHeldBack", "(II)Z"⟩, 21), (⟨"PushStickModel", "isQuiet", "(II)Z"⟩, 21), (⟨"PushStickModel", "manyLoaded", "()I"⟩, 21), (⟨"PushStickModel", "manyOn", "()I"⟩, 21), (⟨"PushStickModel", "manyHeld", "()I"⟩, 21)]
theorem lw_r3 : ∀ q ∈ lw_privs_3, lw_okq q := List.forall_mem_cons.mpr ⟨lw_p32, List.forall_mem_cons.mpr ⟨lw_p33, List.forall_mem_cons.mpr ⟨lw_p34, List.forall_mem_cons.mpr ⟨lw_p35, List.forall_mem_cons.mpr ⟨lw_p36, List.forall_mem_cons.mpr ⟨lw_p37, List.forall_mem_cons.mpr ⟨lw_p38, List.forall_mem_cons.mpr ⟨lw_p39, List.forall_mem_cons.mpr ⟨lw_p40, List.forall_mem_cons.mpr ⟨lw_p41, List.forall_mem_cons.mpr ⟨lw_p42, List.forall_mem_cons.mpr ⟨lw_p43, List.forall_mem_cons.mpr ⟨lw_p44, List.forall_mem_cons.mpr ⟨lw_p45, List.forall_mem_cons.mpr ⟨lw_p46, fun _ h => absurd h List.not_mem_nil⟩⟩⟩⟩⟩⟩⟩⟩⟩⟩⟩⟩⟩⟩⟩
def lw_privs : List (MethodName × Nat) := lw_privs_1 ++ (lw_privs_2 ++ (lw_privs_3))
def lw_tbl : List Cond := k2_sels lw_privs ++ tables_1
theorem lw_privs_ok : ∀ q ∈ lw_privs, lw_okq q := by
  show ∀ q ∈ lw_privs_1 ++ (lw_privs_2 ++ (lw_privs_3)), lw_okq q
  exact List.forall_mem_append.mpr ⟨lw_r1, List.forall_mem_append.mpr ⟨lw_r2, lw_r3⟩⟩

def wT : List Cond := lw_tbl.filter goodWord
theorem wT_i1 {w : Cond} (i : Nat) (h : tables_1_1[i]? = some w) (g : goodWord w = true) : w ∈ wT := List.mem_filter.mpr ⟨List.mem_append_right _ (List.mem_append_left _ (List.mem_of_getElem? h)), g⟩
theorem wT_i2 {w : Cond} (i : Nat) (h : tables_1_2[i]? = some w) (g : goodWord w = true) : w ∈ wT := List.mem_filter.mpr ⟨List.mem_append_right _ (List.mem_append_right _ (List.mem_append_left _ (List.mem_of_getElem? h))), g⟩
theorem wT_i3 {w : Cond} (i : Nat) (h : tables_1_3[i]? = some w) (g : goodWord w = true) : w ∈ wT := List.mem_filter.mpr ⟨List.mem_append_right _ (List.mem_append_right _ (List.mem_append_right _ (List.mem_append_left _ (List.mem_of_getElem? h)))), g⟩
theorem wT_i4 {w : Cond} (i : Nat) (h : tables_1_4[i]? = some w) (g : goodWord w = true) : w ∈ wT := List.mem_filter.mpr ⟨List.mem_append_right _ (List.mem_append_right _ (List.mem_append_right _ (List.mem_append_right _ (List.mem_of_getElem? h)))), g⟩
theorem wT_sel {w : Cond} (i : Nat) (h : (k2_sels lw_privs)[i]? = some w) (g : goodWord w = true) : w ∈ wT := List.mem_filter.mpr ⟨List.mem_append_left _ (List.mem_of_getElem? h), g⟩
theorem wT_good : GoodIn wT wT := fun w h => ⟨h, good_of_word (List.mem_filter.mp h).2⟩
theorem wT_tbl : ∀ w ∈ wT, w ∈ lw_tbl := fun _ h => (List.mem_filter.mp h).1
theorem kw_0 : (Jvm.Cond.initialized "PushStickLaw") ∈ wT := wT_i1 0 rfl rfl
theorem kw_1 : (Jvm.Cond.initialized "PushStick") ∈ wT := wT_i1 1 rfl rfl
theorem kw_2 : (Jvm.Cond.initialized "PushStick$Effect") ∈ wT := wT_i1 2 rfl rfl
theorem kw_3 : (Jvm.Cond.initialized "PushStick$Axis") ∈ wT := wT_i1 3 rfl rfl
theorem kw_4 : (Jvm.Cond.initialized "PushStick$Button") ∈ wT := wT_i1 4 rfl rfl
theorem kw_5 : (Jvm.Cond.initialized "PushStickModel") ∈ wT := wT_i1 5 rfl rfl
theorem kw_6 : (Jvm.Cond.initialized "java/lang/Math") ∈ wT := wT_i1 6 rfl rfl
theorem kw_7 : (Jvm.Cond.initialized "java/lang/Integer") ∈ wT := wT_i1 7 rfl rfl
theorem kw_8 : (Jvm.Cond.classLink "PushStickLaw" (7 : Nat) "PushStick") ∈ wT := wT_i1 8 rfl rfl
theorem kw_9 : (Jvm.Cond.instantiable "PushStick" (16 : Nat)) ∈ wT := wT_i1 9 rfl rfl
theorem kw_10 : (Jvm.Cond.methodLink "PushStickLaw" (9 : Nat) ({ cls := "PushStick", name := "<init>", desc := "()V" } : Jvm.MethodName)) ∈ wT := wT_i1 10 rfl rfl
theorem kw_11 : (Jvm.Cond.instanceMethod ({ cls := "PushStick", name := "<init>", desc := "()V" } : Jvm.MethodName)) ∈ wT := wT_i1 11 rfl rfl
theorem kw_12 : (Jvm.Cond.code ({ cls := "PushStick", name := "<init>", desc := "()V" } : Jvm.MethodName) prog_1_method_1_code (2 : Nat) (Option.none : Option Jvm.ClassFile.FieldType)) ∈ wT := wT_i1 12 rfl rfl
theorem kw_13 : (Jvm.Cond.methodLink "PushStick" (1 : Nat) ({ cls := "java/lang/Object", name := "<init>", desc := "()V" } : Jvm.MethodName)) ∈ wT := wT_i1 13 rfl rfl
theorem kw_14 : (Jvm.Cond.instanceMethod ({ cls := "java/lang/Object", name := "<init>", desc := "()V" } : Jvm.MethodName)) ∈ wT := wT_i1 14 rfl rfl
theorem kw_15 : (Jvm.Cond.code ({ cls := "java/lang/Object", name := "<init>", desc := "()V" } : Jvm.MethodName) object_method_1_code (1 : Nat) (Option.none : Option Jvm.ClassFile.FieldType)) ∈ wT := wT_i1 15 rfl rfl
theorem kw_16 : (Jvm.Cond.classLink "PushStick" (9 : Nat) "PushStick$Effect") ∈ wT := wT_i1 16 rfl rfl
theorem kw_18 : (Jvm.Cond.classLink "PushStick" (25 : Nat) "PushStick$Axis") ∈ wT := wT_i1 18 rfl rfl
theorem kw_20 : (Jvm.Cond.classLink "PushStick" (34 : Nat) "PushStick$Button") ∈ wT := wT_i1 20 rfl rfl
theorem kw_22 : (Jvm.Cond.instantiable "PushStick$Effect" (10 : Nat)) ∈ wT := wT_i1 22 rfl rfl
theorem kw_23 : (Jvm.Cond.methodLink "PushStick" (70 : Nat) ({ cls := "PushStick$Effect", name := "<init>", desc := "(I)V" } : Jvm.MethodName)) ∈ wT := wT_i1 23 rfl rfl
theorem kw_24 : (Jvm.Cond.instanceMethod ({ cls := "PushStick$Effect", name := "<init>", desc := "(I)V" } : Jvm.MethodName)) ∈ wT := wT_i1 24 rfl rfl
theorem kw_25 : (Jvm.Cond.code ({ cls := "PushStick$Effect", name := "<init>", desc := "(I)V" } : Jvm.MethodName) prog_4_method_1_code (2 : Nat) (Option.none : Option Jvm.ClassFile.FieldType)) ∈ wT := wT_i1 25 rfl rfl
theorem kw_26 : (Jvm.Cond.methodLink "PushStick$Effect" (3 : Nat) ({ cls := "java/lang/Object", name := "<init>", desc := "()V" } : Jvm.MethodName)) ∈ wT := wT_i1 26 rfl rfl
theorem kw_27 : (Jvm.Cond.fieldLink "PushStick$Effect" (40 : Nat) "PushStick$Effect" "number" "I") ∈ wT := wT_i1 27 rfl rfl
theorem kw_28 : (Jvm.Cond.fieldLink "PushStick" (147 : Nat) "PushStick$Effect" "number" "I") ∈ wT := wT_i1 28 rfl rfl
theorem kw_29 : (Jvm.Cond.fieldLink "PushStick$Effect" (9 : Nat) "PushStick$Effect" "kind" "I") ∈ wT := wT_i1 29 rfl rfl
theorem kw_30 : (Jvm.Cond.fieldLink "PushStick" (120 : Nat) "PushStick$Effect" "kind" "I") ∈ wT := wT_i1 30 rfl rfl
theorem kw_31 : (Jvm.Cond.fieldLink "PushStick$Effect" (15 : Nat) "PushStick$Effect" "a" "I") ∈ wT := wT_i1 31 rfl rfl
theorem kw_32 : (Jvm.Cond.fieldLink "PushStick" (123 : Nat) "PushStick$Effect" "a" "I") ∈ wT := wT_i1 32 rfl rfl
theorem kw_33 : (Jvm.Cond.fieldLink "PushStick$Effect" (18 : Nat) "PushStick$Effect" "b" "I") ∈ wT := wT_i1 33 rfl rfl
theorem kw_34 : (Jvm.Cond.fieldLink "PushStick" (126 : Nat) "PushStick$Effect" "b" "I") ∈ wT := wT_i1 34 rfl rfl
theorem kw_35 : (Jvm.Cond.fieldLink "PushStick$Effect" (21 : Nat) "PushStick$Effect" "c" "I") ∈ wT := wT_i1 35 rfl rfl
theorem kw_36 : (Jvm.Cond.fieldLink "PushStick" (129 : Nat) "PushStick$Effect" "c" "I") ∈ wT := wT_i1 36 rfl rfl
theorem kw_37 : (Jvm.Cond.fieldLink "PushStick$Effect" (24 : Nat) "PushStick$Effect" "d" "I") ∈ wT := wT_i1 37 rfl rfl
theorem kw_38 : (Jvm.Cond.fieldLink "PushStick" (132 : Nat) "PushStick$Effect" "d" "I") ∈ wT := wT_i1 38 rfl rfl
theorem kw_39 : (Jvm.Cond.fieldLink "PushStick$Effect" (27 : Nat) "PushStick$Effect" "numbers" "[I") ∈ wT := wT_i1 39 rfl rfl
theorem kw_40 : (Jvm.Cond.fieldLink "PushStick" (95 : Nat) "PushStick$Effect" "numbers" "[I") ∈ wT := wT_i1 40 rfl rfl
theorem kw_41 : (Jvm.Cond.fieldLink "PushStick$Effect" (31 : Nat) "PushStick$Effect" "slotNumber" "I") ∈ wT := wT_i1 41 rfl rfl
theorem kw_42 : (Jvm.Cond.fieldLink "PushStick" (135 : Nat) "PushStick$Effect" "slotNumber" "I") ∈ wT := wT_i1 42 rfl rfl
theorem kw_43 : (Jvm.Cond.fieldLink "PushStick$Effect" (34 : Nat) "PushStick$Effect" "start" "I") ∈ wT := wT_i1 43 rfl rfl
theorem kw_44 : (Jvm.Cond.fieldLink "PushStick" (138 : Nat) "PushStick$Effect" "start" "I") ∈ wT := wT_i1 44 rfl rfl
theorem kw_45 : (Jvm.Cond.fieldLink "PushStick$Effect" (37 : Nat) "PushStick$Effect" "beats" "[I") ∈ wT := wT_i1 45 rfl rfl
theorem kw_46 : (Jvm.Cond.fieldLink "PushStick" (163 : Nat) "PushStick$Effect" "beats" "[I") ∈ wT := wT_i1 46 rfl rfl
theorem kw_47 : (Jvm.Cond.laysFinal "PushStick$Effect" "PushStick$Effect" "number" "I") ∈ wT := wT_i1 47 rfl rfl
theorem kw_49 : (Jvm.Cond.lays "PushStick$Effect" "PushStick$Effect" "kind" "I") ∈ wT := wT_i1 49 rfl rfl
theorem kw_51 : (Jvm.Cond.lays "PushStick$Effect" "PushStick$Effect" "a" "I") ∈ wT := wT_i1 51 rfl rfl
theorem kw_53 : (Jvm.Cond.lays "PushStick$Effect" "PushStick$Effect" "b" "I") ∈ wT := wT_i1 53 rfl rfl
theorem kw_55 : (Jvm.Cond.lays "PushStick$Effect" "PushStick$Effect" "c" "I") ∈ wT := wT_i1 55 rfl rfl
theorem kw_57 : (Jvm.Cond.lays "PushStick$Effect" "PushStick$Effect" "d" "I") ∈ wT := wT_i1 57 rfl rfl
theorem kw_59 : (Jvm.Cond.laysFinal "PushStick$Effect" "PushStick$Effect" "numbers" "[I") ∈ wT := wT_i1 59 rfl rfl
theorem kw_61 : (Jvm.Cond.lays "PushStick$Effect" "PushStick$Effect" "slotNumber" "I") ∈ wT := wT_i1 61 rfl rfl
theorem kw_63 : (Jvm.Cond.lays "PushStick$Effect" "PushStick$Effect" "start" "I") ∈ wT := wT_i1 63 rfl rfl
theorem kw_65 : (Jvm.Cond.laysFinal "PushStick$Effect" "PushStick$Effect" "beats" "[I") ∈ wT := wT_i1 65 rfl rfl
theorem kw_67 : (Jvm.Cond.superclass "PushStick$Effect" "java/lang/Object") ∈ wT := wT_i1 67 rfl rfl
theorem kw_68 : (Jvm.Cond.arrayClass Jvm.ClassFile.FieldType.int) ∈ wT := wT_i1 68 rfl rfl
theorem kw_69 : (Jvm.Cond.arrayClass Jvm.ClassFile.FieldType.boolean) ∈ wT := wT_i1 69 rfl rfl
theorem kw_70 : (Jvm.Cond.instantiable "PushStick$Axis" (3 : Nat)) ∈ wT := wT_i1 70 rfl rfl
theorem kw_71 : (Jvm.Cond.methodLink "PushStick" (73 : Nat) ({ cls := "PushStick$Axis", name := "<init>", desc := "(I)V" } : Jvm.MethodName)) ∈ wT := wT_i1 71 rfl rfl
theorem kw_72 : (Jvm.Cond.instanceMethod ({ cls := "PushStick$Axis", name := "<init>", desc := "(I)V" } : Jvm.MethodName)) ∈ wT := wT_i1 72 rfl rfl
theorem kw_73 : (Jvm.Cond.code ({ cls := "PushStick$Axis", name := "<init>", desc := "(I)V" } : Jvm.MethodName) prog_2_method_1_code (2 : Nat) (Option.none : Option Jvm.ClassFile.FieldType)) ∈ wT := wT_i1 73 rfl rfl
theorem kw_74 : (Jvm.Cond.methodLink "PushStick$Axis" (1 : Nat) ({ cls := "java/lang/Object", name := "<init>", desc := "()V" } : Jvm.MethodName)) ∈ wT := wT_i1 74 rfl rfl
theorem kw_75 : (Jvm.Cond.fieldLink "PushStick$Axis" (16 : Nat) "PushStick$Axis" "aim" "I") ∈ wT := wT_i1 75 rfl rfl
theorem kw_76 : (Jvm.Cond.fieldLink "PushStick$Effect" (70 : Nat) "PushStick$Axis" "aim" "I") ∈ wT := wT_i1 76 rfl rfl
theorem kw_77 : (Jvm.Cond.fieldLink "PushStick$Axis" (7 : Nat) "PushStick$Axis" "place" "I") ∈ wT := wT_i1 77 rfl rfl
theorem kw_78 : (Jvm.Cond.fieldLink "PushStick" (114 : Nat) "PushStick$Axis" "place" "I") ∈ wT := wT_i1 78 rfl rfl
theorem kw_79 : (Jvm.Cond.fieldLink "PushStick$Effect" (75 : Nat) "PushStick$Axis" "place" "I") ∈ wT := wT_i1 79 rfl rfl
theorem kw_80 : (Jvm.Cond.fieldLink "PushStick$Axis" (13 : Nat) "PushStick$Axis" "speed" "I") ∈ wT := wT_i1 80 rfl rfl
theorem kw_81 : (Jvm.Cond.fieldLink "PushStick" (117 : Nat) "PushStick$Axis" "speed" "I") ∈ wT := wT_i1 81 rfl rfl
theorem kw_82 : (Jvm.Cond.fieldLink "PushStick$Effect" (81 : Nat) "PushStick$Axis" "speed" "I") ∈ wT := wT_i1 82 rfl rfl
theorem kw_83 : (Jvm.Cond.laysFinal "PushStick$Axis" "PushStick$Axis" "aim" "I") ∈ wT := wT_i1 83 rfl rfl
theorem kw_85 : (Jvm.Cond.lays "PushStick$Axis" "PushStick$Axis" "place" "I") ∈ wT := wT_i1 85 rfl rfl
theorem kw_87 : (Jvm.Cond.lays "PushStick$Axis" "PushStick$Axis" "speed" "I") ∈ wT := wT_i1 87 rfl rfl
theorem kw_89 : (Jvm.Cond.superclass "PushStick$Axis" "java/lang/Object") ∈ wT := wT_i1 89 rfl rfl
theorem kw_90 : (Jvm.Cond.instantiable "PushStick$Button" (2 : Nat)) ∈ wT := wT_i1 90 rfl rfl
theorem kw_92 : (Jvm.Cond.instanceMethod ({ cls := "PushStick$Button", name := "<init>", desc := "()V" } : Jvm.MethodName)) ∈ wT := wT_i1 92 rfl rfl
theorem kw_93 : (Jvm.Cond.code ({ cls := "PushStick$Button", name := "<init>", desc := "()V" } : Jvm.MethodName) prog_3_method_1_code (1 : Nat) (Option.none : Option Jvm.ClassFile.FieldType)) ∈ wT := wT_i1 93 rfl rfl
theorem kw_94 : (Jvm.Cond.methodLink "PushStick$Button" (1 : Nat) ({ cls := "java/lang/Object", name := "<init>", desc := "()V" } : Jvm.MethodName)) ∈ wT := wT_i1 94 rfl rfl
theorem kw_95 : (Jvm.Cond.fieldLink "PushStick$Button" (7 : Nat) "PushStick$Button" "held" "Z") ∈ wT := wT_i1 95 rfl rfl
theorem kw_96 : (Jvm.Cond.fieldLink "PushStick" (157 : Nat) "PushStick$Button" "held" "Z") ∈ wT := wT_i1 96 rfl rfl
theorem kw_97 : (Jvm.Cond.fieldLink "PushStick$Button" (13 : Nat) "PushStick$Button" "since" "I") ∈ wT := wT_i1 97 rfl rfl
theorem kw_98 : (Jvm.Cond.fieldLink "PushStick" (160 : Nat) "PushStick$Button" "since" "I") ∈ wT := wT_i1 98 rfl rfl
theorem kw_99 : (Jvm.Cond.lays "PushStick$Button" "PushStick$Button" "held" "Z") ∈ wT := wT_i1 99 rfl rfl
theorem kw_101 : (Jvm.Cond.lays "PushStick$Button" "PushStick$Button" "since" "I") ∈ wT := wT_i1 101 rfl rfl
theorem kw_103 : (Jvm.Cond.superclass "PushStick$Button" "java/lang/Object") ∈ wT := wT_i1 103 rfl rfl
theorem kw_104 : (Jvm.Cond.fieldLink "PushStick" (11 : Nat) "PushStick" "effects" "[LPushStick$Effect;") ∈ wT := wT_i1 104 rfl rfl
theorem kw_105 : (Jvm.Cond.fieldLink "PushStick" (15 : Nat) "PushStick" "effectCount" "I") ∈ wT := wT_i1 105 rfl rfl
theorem kw_106 : (Jvm.Cond.fieldLink "PushStick" (19 : Nat) "PushStick" "inSlot" "[LPushStick$Effect;") ∈ wT := wT_i1 106 rfl rfl
theorem kw_107 : (Jvm.Cond.fieldLink "PushStick" (22 : Nat) "PushStick" "slotCount" "I") ∈ wT := wT_i1 107 rfl rfl
theorem kw_108 : (Jvm.Cond.fieldLink "PushStick" (27 : Nat) "PushStick" "axes" "[LPushStick$Axis;") ∈ wT := wT_i1 108 rfl rfl
theorem kw_109 : (Jvm.Cond.fieldLink "PushStick" (31 : Nat) "PushStick" "movedAt" "I") ∈ wT := wT_i1 109 rfl rfl
theorem kw_110 : (Jvm.Cond.fieldLink "PushStick" (36 : Nat) "PushStick" "buttons" "[LPushStick$Button;") ∈ wT := wT_i1 110 rfl rfl
theorem kw_111 : (Jvm.Cond.fieldLink "PushStick" (40 : Nat) "PushStick" "now" "I") ∈ wT := wT_i1 111 rfl rfl
theorem kw_112 : (Jvm.Cond.fieldLink "PushStick" (43 : Nat) "PushStick" "watchTime" "I") ∈ wT := wT_i1 112 rfl rfl
theorem kw_113 : (Jvm.Cond.fieldLink "PushStick" (46 : Nat) "PushStick" "helloAt" "I") ∈ wT := wT_i1 113 rfl rfl
theorem kw_114 : (Jvm.Cond.fieldLink "PushStick" (49 : Nat) "PushStick" "lost" "Z") ∈ wT := wT_i1 114 rfl rfl
theorem kw_115 : (Jvm.Cond.fieldLink "PushStick" (53 : Nat) "PushStick" "masterGain" "I") ∈ wT := wT_i1 115 rfl rfl
theorem kw_116 : (Jvm.Cond.fieldLink "PushStick" (56 : Nat) "PushStick" "frameRate" "I") ∈ wT := wT_i1 116 rfl rfl
theorem kw_117 : (Jvm.Cond.fieldLink "PushStick" (59 : Nat) "PushStick" "playing" "[LPushStick$Effect;") ∈ wT := wT_i1 117 rfl rfl
theorem kw_118 : (Jvm.Cond.fieldLink "PushStick" (62 : Nat) "PushStick" "leftBySet" "[I") ∈ wT := wT_i1 118 rfl rfl
theorem kw_119 : (Jvm.Cond.fieldLink "PushStick" (66 : Nat) "PushStick" "heldBackBySet" "[Z") ∈ wT := wT_i1 119 rfl rfl
theorem kw_120 : (Jvm.Cond.laysFinal "PushStick" "PushStick" "effects" "[LPushStick$Effect;") ∈ wT := wT_i1 120 rfl rfl
theorem kw_122 : (Jvm.Cond.lays "PushStick" "PushStick" "effectCount" "I") ∈ wT := wT_i1 122 rfl rfl
theorem kw_124 : (Jvm.Cond.laysFinal "PushStick" "PushStick" "inSlot" "[LPushStick$Effect;") ∈ wT := wT_i1 124 rfl rfl
theorem kw_126 : (Jvm.Cond.lays "PushStick" "PushStick" "slotCount" "I") ∈ wT := wT_i1 126 rfl rfl
theorem kw_128 : (Jvm.Cond.laysFinal "PushStick" "PushStick" "axes" "[LPushStick$Axis;") ∈ wT := wT_i1 128 rfl rfl
theorem kw_130 : (Jvm.Cond.lays "PushStick" "PushStick" "movedAt" "I") ∈ wT := wT_i1 130 rfl rfl
theorem kw_132 : (Jvm.Cond.laysFinal "PushStick" "PushStick" "buttons" "[LPushStick$Button;") ∈ wT := wT_i1 132 rfl rfl
theorem kw_134 : (Jvm.Cond.lays "PushStick" "PushStick" "now" "I") ∈ wT := wT_i1 134 rfl rfl
theorem kw_136 : (Jvm.Cond.lays "PushStick" "PushStick" "watchTime" "I") ∈ wT := wT_i1 136 rfl rfl
theorem kw_138 : (Jvm.Cond.lays "PushStick" "PushStick" "helloAt" "I") ∈ wT := wT_i1 138 rfl rfl
theorem kw_140 : (Jvm.Cond.lays "PushStick" "PushStick" "lost" "Z") ∈ wT := wT_i1 140 rfl rfl
theorem kw_142 : (Jvm.Cond.lays "PushStick" "PushStick" "masterGain" "I") ∈ wT := wT_i1 142 rfl rfl
theorem kw_144 : (Jvm.Cond.lays "PushStick" "PushStick" "frameRate" "I") ∈ wT := wT_i1 144 rfl rfl
theorem kw_146 : (Jvm.Cond.laysFinal "PushStick" "PushStick" "playing" "[LPushStick$Effect;") ∈ wT := wT_i1 146 rfl rfl
theorem kw_148 : (Jvm.Cond.laysFinal "PushStick" "PushStick" "leftBySet" "[I") ∈ wT := wT_i1 148 rfl rfl
theorem kw_150 : (Jvm.Cond.laysFinal "PushStick" "PushStick" "heldBackBySet" "[Z") ∈ wT := wT_i1 150 rfl rfl
theorem kw_152 : (Jvm.Cond.superclass "PushStick" "java/lang/Object") ∈ wT := wT_i1 152 rfl rfl
theorem kw_153 : (Jvm.Cond.methodLink "PushStickLaw" (13 : Nat) ({ cls := "PushStick", name := "effect", desc := "(IIIII)I" } : Jvm.MethodName)) ∈ wT := wT_i1 153 rfl rfl
theorem kw_154 : (Jvm.Cond.instanceMethod ({ cls := "PushStick", name := "effect", desc := "(IIIII)I" } : Jvm.MethodName)) ∈ wT := wT_i1 154 rfl rfl
theorem kw_155 : (Jvm.Cond.selects "PushStick" ({ cls := "PushStick", name := "effect", desc := "(IIIII)I" } : Jvm.MethodName) ({ cls := "PushStick", name := "effect", desc := "(IIIII)I" } : Jvm.MethodName)) ∈ wT := wT_i1 155 rfl rfl
theorem kw_156 : (Jvm.Cond.code ({ cls := "PushStick", name := "effect", desc := "(IIIII)I" } : Jvm.MethodName) prog_1_method_2_code (7 : Nat) (Option.some Jvm.ClassFile.FieldType.int)) ∈ wT := wT_i1 156 rfl rfl
theorem kw_157 : (Jvm.Cond.methodLink "PushStick" (75 : Nat) ({ cls := "PushStick", name := "isShape", desc := "(IIIII)Z" } : Jvm.MethodName)) ∈ wT := wT_i1 157 rfl rfl
theorem kw_158 : (Jvm.Cond.static ({ cls := "PushStick", name := "isShape", desc := "(IIIII)Z" } : Jvm.MethodName)) ∈ wT := wT_i1 158 rfl rfl
theorem kw_159 : (Jvm.Cond.code ({ cls := "PushStick", name := "isShape", desc := "(IIIII)Z" } : Jvm.MethodName) prog_1_method_34_code (6 : Nat) (Option.some Jvm.ClassFile.FieldType.boolean)) ∈ wT := wT_i1 159 rfl rfl
theorem kw_160 : (Jvm.Cond.methodLink "PushStick" (250 : Nat) ({ cls := "PushStick", name := "isShapeNumber", desc := "(III)Z" } : Jvm.MethodName)) ∈ wT := wT_i1 160 rfl rfl
theorem kw_161 : (Jvm.Cond.static ({ cls := "PushStick", name := "isShapeNumber", desc := "(III)Z" } : Jvm.MethodName)) ∈ wT := wT_i1 161 rfl rfl
theorem kw_162 : (Jvm.Cond.code ({ cls := "PushStick", name := "isShapeNumber", desc := "(III)Z" } : Jvm.MethodName) prog_1_method_35_code (4 : Nat) (Option.some Jvm.ClassFile.FieldType.boolean)) ∈ wT := wT_i1 162 rfl rfl
theorem kw_163 : (Jvm.Cond.fieldLink "PushStick" (253 : Nat) "PushStick" "SHAPE_LEAST" "[I") ∈ wT := wT_i1 163 rfl rfl
theorem kw_165 : (Jvm.Cond.fieldLink "PushStick" (256 : Nat) "PushStick" "SHAPE_MOST" "[I") ∈ wT := wT_i1 165 rfl rfl
theorem kw_167 : (Jvm.Cond.methodLink "PushStick" (102 : Nat) ({ cls := "PushStick", name := "isWithin", desc := "(III)Z" } : Jvm.MethodName)) ∈ wT := wT_i1 167 rfl rfl
theorem kw_168 : (Jvm.Cond.static ({ cls := "PushStick", name := "isWithin", desc := "(III)Z" } : Jvm.MethodName)) ∈ wT := wT_i1 168 rfl rfl
theorem kw_169 : (Jvm.Cond.code ({ cls := "PushStick", name := "isWithin", desc := "(III)Z" } : Jvm.MethodName) prog_1_method_30_code (3 : Nat) (Option.some Jvm.ClassFile.FieldType.boolean)) ∈ wT := wT_i1 169 rfl rfl
theorem kw_170 : (Jvm.Cond.methodLink "PushStick" (79 : Nat) ({ cls := "PushStick$Effect", name := "become", desc := "(IIIII)V" } : Jvm.MethodName)) ∈ wT := wT_i1 170 rfl rfl
theorem kw_171 : (Jvm.Cond.instanceMethod ({ cls := "PushStick$Effect", name := "become", desc := "(IIIII)V" } : Jvm.MethodName)) ∈ wT := wT_i1 171 rfl rfl
theorem kw_172 : (Jvm.Cond.selects "PushStick$Effect" ({ cls := "PushStick$Effect", name := "become", desc := "(IIIII)V" } : Jvm.MethodName) ({ cls := "PushStick$Effect", name := "become", desc := "(IIIII)V" } : Jvm.MethodName)) ∈ wT := wT_i1 172 rfl rfl
theorem kw_173 : (Jvm.Cond.code ({ cls := "PushStick$Effect", name := "become", desc := "(IIIII)V" } : Jvm.MethodName) prog_4_method_2_code (7 : Nat) (Option.none : Option Jvm.ClassFile.FieldType)) ∈ wT := wT_i1 173 rfl rfl
theorem kw_176 : (Jvm.Cond.methodLink "PushStickLaw" (18 : Nat) ({ cls := "PushStick", name := "set", desc := "(III)I" } : Jvm.MethodName)) ∈ wT := wT_i1 176 rfl rfl
theorem kw_177 : (Jvm.Cond.instanceMethod ({ cls := "PushStick", name := "set", desc := "(III)I" } : Jvm.MethodName)) ∈ wT := wT_i1 177 rfl rfl
theorem kw_178 : (Jvm.Cond.selects "PushStick" ({ cls := "PushStick", name := "set", desc := "(III)I" } : Jvm.MethodName) ({ cls := "PushStick", name := "set", desc := "(III)I" } : Jvm.MethodName)) ∈ wT := wT_i1 178 rfl rfl
theorem kw_179 : (Jvm.Cond.code ({ cls := "PushStick", name := "set", desc := "(III)I" } : Jvm.MethodName) prog_1_method_3_code (5 : Nat) (Option.some Jvm.ClassFile.FieldType.int)) ∈ wT := wT_i1 179 rfl rfl
theorem kw_180 : (Jvm.Cond.methodLink "PushStick" (83 : Nat) ({ cls := "PushStick", name := "isEffect", desc := "(I)Z" } : Jvm.MethodName)) ∈ wT := wT_i1 180 rfl rfl
theorem kw_182 : (Jvm.Cond.instanceMethod ({ cls := "PushStick", name := "isEffect", desc := "(I)Z" } : Jvm.MethodName)) ∈ wT := wT_i1 182 rfl rfl
theorem kw_183 : (Jvm.Cond.code ({ cls := "PushStick", name := "isEffect", desc := "(I)Z" } : Jvm.MethodName) prog_1_method_31_code (2 : Nat) (Option.some Jvm.ClassFile.FieldType.boolean)) ∈ wT := wT_i1 183 rfl rfl
theorem kw_184 : (Jvm.Cond.methodLink "PushStick" (87 : Nat) ({ cls := "PushStick", name := "isNumber", desc := "(II)Z" } : Jvm.MethodName)) ∈ wT := wT_i1 184 rfl rfl
theorem kw_185 : (Jvm.Cond.static ({ cls := "PushStick", name := "isNumber", desc := "(II)Z" } : Jvm.MethodName)) ∈ wT := wT_i1 185 rfl rfl
theorem kw_186 : (Jvm.Cond.code ({ cls := "PushStick", name := "isNumber", desc := "(II)Z" } : Jvm.MethodName) prog_1_method_36_code (2 : Nat) (Option.some Jvm.ClassFile.FieldType.boolean)) ∈ wT := wT_i1 186 rfl rfl
theorem kw_187 : (Jvm.Cond.fieldLink "PushStick" (259 : Nat) "PushStick" "NUMBER_LEAST" "[I") ∈ wT := wT_i1 187 rfl rfl
theorem kw_189 : (Jvm.Cond.fieldLink "PushStick" (262 : Nat) "PushStick" "NUMBER_MOST" "[I") ∈ wT := wT_i1 189 rfl rfl
theorem kw_191 : (Jvm.Cond.methodLink "PushStick" (91 : Nat) ({ cls := "PushStick", name := "toldNumber", desc := "(LPushStick$Effect;I)I" } : Jvm.MethodName)) ∈ wT := wT_i1 191 rfl rfl
theorem kw_192 : (Jvm.Cond.static ({ cls := "PushStick", name := "toldNumber", desc := "(LPushStick$Effect;I)I" } : Jvm.MethodName)) ∈ wT := wT_i1 192 rfl rfl
theorem kw_193 : (Jvm.Cond.code ({ cls := "PushStick", name := "toldNumber", desc := "(LPushStick$Effect;I)I" } : Jvm.MethodName) prog_1_method_37_code (2 : Nat) (Option.some Jvm.ClassFile.FieldType.int)) ∈ wT := wT_i1 193 rfl rfl
theorem kw_194 : (Jvm.Cond.methodLink "PushStickLaw" (23 : Nat) ({ cls := "PushStick", name := "drop", desc := "()I" } : Jvm.MethodName)) ∈ wT := wT_i1 194 rfl rfl
theorem kw_195 : (Jvm.Cond.instanceMethod ({ cls := "PushStick", name := "drop", desc := "()I" } : Jvm.MethodName)) ∈ wT := wT_i1 195 rfl rfl
theorem kw_196 : (Jvm.Cond.selects "PushStick" ({ cls := "PushStick", name := "drop", desc := "()I" } : Jvm.MethodName) ({ cls := "PushStick", name := "drop", desc := "()I" } : Jvm.MethodName)) ∈ wT := wT_i1 196 rfl rfl
theorem kw_197 : (Jvm.Cond.code ({ cls := "PushStick", name := "drop", desc := "()I" } : Jvm.MethodName) prog_1_method_4_code (1 : Nat) (Option.some Jvm.ClassFile.FieldType.int)) ∈ wT := wT_i1 197 rfl rfl
theorem kw_198 : (Jvm.Cond.methodLink "PushStick" (98 : Nat) ({ cls := "PushStick", name := "takeOut", desc := "(LPushStick$Effect;)V" } : Jvm.MethodName)) ∈ wT := wT_i1 198 rfl rfl
theorem kw_200 : (Jvm.Cond.instanceMethod ({ cls := "PushStick", name := "takeOut", desc := "(LPushStick$Effect;)V" } : Jvm.MethodName)) ∈ wT := wT_i1 200 rfl rfl
theorem kw_201 : (Jvm.Cond.code ({ cls := "PushStick", name := "takeOut", desc := "(LPushStick$Effect;)V" } : Jvm.MethodName) prog_1_method_44_code (4 : Nat) (Option.none : Option Jvm.ClassFile.FieldType)) ∈ wT := wT_i1 201 rfl rfl
theorem kw_202 : (Jvm.Cond.methodLink "PushStickLaw" (28 : Nat) ({ cls := "PushStick", name := "hand", desc := "(II)I" } : Jvm.MethodName)) ∈ wT := wT_i1 202 rfl rfl
theorem kw_203 : (Jvm.Cond.instanceMethod ({ cls := "PushStick", name := "hand", desc := "(II)I" } : Jvm.MethodName)) ∈ wT := wT_i1 203 rfl rfl
theorem kw_204 : (Jvm.Cond.selects "PushStick" ({ cls := "PushStick", name := "hand", desc := "(II)I" } : Jvm.MethodName) ({ cls := "PushStick", name := "hand", desc := "(II)I" } : Jvm.MethodName)) ∈ wT := wT_i1 204 rfl rfl
theorem kw_205 : (Jvm.Cond.code ({ cls := "PushStick", name := "hand", desc := "(II)I" } : Jvm.MethodName) prog_1_method_5_code (4 : Nat) (Option.some Jvm.ClassFile.FieldType.int)) ∈ wT := wT_i1 205 rfl rfl
theorem kw_206 : (Jvm.Cond.methodLink "PushStick" (106 : Nat) ({ cls := "PushStick$Axis", name := "moveTo", desc := "(II)V" } : Jvm.MethodName)) ∈ wT := wT_i1 206 rfl rfl
theorem kw_207 : (Jvm.Cond.instanceMethod ({ cls := "PushStick$Axis", name := "moveTo", desc := "(II)V" } : Jvm.MethodName)) ∈ wT := wT_i1 207 rfl rfl
theorem kw_208 : (Jvm.Cond.selects "PushStick$Axis" ({ cls := "PushStick$Axis", name := "moveTo", desc := "(II)V" } : Jvm.MethodName) ({ cls := "PushStick$Axis", name := "moveTo", desc := "(II)V" } : Jvm.MethodName)) ∈ wT := wT_i1 208 rfl rfl
theorem kw_209 : (Jvm.Cond.code ({ cls := "PushStick$Axis", name := "moveTo", desc := "(II)V" } : Jvm.MethodName) prog_2_method_2_code (3 : Nat) (Option.none : Option Jvm.ClassFile.FieldType)) ∈ wT := wT_i1 209 rfl rfl
theorem kw_210 : (Jvm.Cond.methodLink "PushStickLaw" (33 : Nat) ({ cls := "PushStick", name := "ofAxis", desc := "(II)I" } : Jvm.MethodName)) ∈ wT := wT_i1 210 rfl rfl
theorem kw_211 : (Jvm.Cond.instanceMethod ({ cls := "PushStick", name := "ofAxis", desc := "(II)I" } : Jvm.MethodName)) ∈ wT := wT_i1 211 rfl rfl
theorem kw_212 : (Jvm.Cond.selects "PushStick" ({ cls := "PushStick", name := "ofAxis", desc := "(II)I" } : Jvm.MethodName) ({ cls := "PushStick", name := "ofAxis", desc := "(II)I" } : Jvm.MethodName)) ∈ wT := wT_i1 212 rfl rfl
theorem kw_213 : (Jvm.Cond.code ({ cls := "PushStick", name := "ofAxis", desc := "(II)I" } : Jvm.MethodName) prog_1_method_6_code (3 : Nat) (Option.some Jvm.ClassFile.FieldType.int)) ∈ wT := wT_i1 213 rfl rfl
theorem kw_214 : (Jvm.Cond.methodLink "PushStick" (110 : Nat) ({ cls := "PushStick", name := "isAxis", desc := "(I)Z" } : Jvm.MethodName)) ∈ wT := wT_i1 214 rfl rfl
theorem kw_215 : (Jvm.Cond.static ({ cls := "PushStick", name := "isAxis", desc := "(I)Z" } : Jvm.MethodName)) ∈ wT := wT_i1 215 rfl rfl
theorem kw_216 : (Jvm.Cond.code ({ cls := "PushStick", name := "isAxis", desc := "(I)Z" } : Jvm.MethodName) prog_1_method_32_code (1 : Nat) (Option.some Jvm.ClassFile.FieldType.boolean)) ∈ wT := wT_i1 216 rfl rfl
theorem kw_217 : (Jvm.Cond.constant "PushStick" (113 : Nat) (10000000 : Int32)) ∈ wT := wT_i1 217 rfl rfl
theorem kw_218 : (Jvm.Cond.methodLink "PushStickLaw" (37 : Nat) ({ cls := "PushStick", name := "ofEffect", desc := "(II)I" } : Jvm.MethodName)) ∈ wT := wT_i1 218 rfl rfl
theorem kw_219 : (Jvm.Cond.instanceMethod ({ cls := "PushStick", name := "ofEffect", desc := "(II)I" } : Jvm.MethodName)) ∈ wT := wT_i1 219 rfl rfl
theorem kw_220 : (Jvm.Cond.selects "PushStick" ({ cls := "PushStick", name := "ofEffect", desc := "(II)I" } : Jvm.MethodName) ({ cls := "PushStick", name := "ofEffect", desc := "(II)I" } : Jvm.MethodName)) ∈ wT := wT_i1 220 rfl rfl
theorem kw_221 : (Jvm.Cond.code ({ cls := "PushStick", name := "ofEffect", desc := "(II)I" } : Jvm.MethodName) prog_1_method_7_code (4 : Nat) (Option.some Jvm.ClassFile.FieldType.int)) ∈ wT := wT_i1 221 rfl rfl
theorem kw_222 : (Jvm.Cond.methodLink "PushStick" (141 : Nat) ({ cls := "PushStick$Effect", name := "playsAt", desc := "(II)Z" } : Jvm.MethodName)) ∈ wT := wT_i1 222 rfl rfl
theorem kw_223 : (Jvm.Cond.instanceMethod ({ cls := "PushStick$Effect", name := "playsAt", desc := "(II)Z" } : Jvm.MethodName)) ∈ wT := wT_i1 223 rfl rfl
theorem kw_224 : (Jvm.Cond.selects "PushStick$Effect" ({ cls := "PushStick$Effect", name := "playsAt", desc := "(II)Z" } : Jvm.MethodName) ({ cls := "PushStick$Effect", name := "playsAt", desc := "(II)Z" } : Jvm.MethodName)) ∈ wT := wT_i1 224 rfl rfl
theorem kw_225 : (Jvm.Cond.code ({ cls := "PushStick$Effect", name := "playsAt", desc := "(II)Z" } : Jvm.MethodName) prog_4_method_3_code (4 : Nat) (Option.some Jvm.ClassFile.FieldType.boolean)) ∈ wT := wT_i1 225 rfl rfl
theorem kw_226 : (Jvm.Cond.methodLink "PushStick" (144 : Nat) ({ cls := "PushStick$Effect", name := "isOnAt", desc := "(II)Z" } : Jvm.MethodName)) ∈ wT := wT_i1 226 rfl rfl
theorem kw_227 : (Jvm.Cond.instanceMethod ({ cls := "PushStick$Effect", name := "isOnAt", desc := "(II)Z" } : Jvm.MethodName)) ∈ wT := wT_i1 227 rfl rfl
theorem kw_228 : (Jvm.Cond.selects "PushStick$Effect" ({ cls := "PushStick$Effect", name := "isOnAt", desc := "(II)Z" } : Jvm.MethodName) ({ cls := "PushStick$Effect", name := "isOnAt", desc := "(II)Z" } : Jvm.MethodName)) ∈ wT := wT_i1 228 rfl rfl
theorem kw_229 : (Jvm.Cond.code ({ cls := "PushStick$Effect", name := "isOnAt", desc := "(II)Z" } : Jvm.MethodName) prog_4_method_4_code (3 : Nat) (Option.some Jvm.ClassFile.FieldType.boolean)) ∈ wT := wT_i1 229 rfl rfl
theorem kw_230 : (Jvm.Cond.methodLink "PushStick$Effect" (46 : Nat) ({ cls := "PushStick$Effect", name := "playsAt", desc := "(II)Z" } : Jvm.MethodName)) ∈ wT := wT_i1 230 rfl rfl
theorem kw_231 : (Jvm.Cond.methodLink "PushStickLaw" (41 : Nat) ({ cls := "PushStick", name := "slots", desc := "(I)I" } : Jvm.MethodName)) ∈ wT := wT_i1 231 rfl rfl
theorem kw_232 : (Jvm.Cond.instanceMethod ({ cls := "PushStick", name := "slots", desc := "(I)I" } : Jvm.MethodName)) ∈ wT := wT_i1 232 rfl rfl
theorem kw_233 : (Jvm.Cond.selects "PushStick" ({ cls := "PushStick", name := "slots", desc := "(I)I" } : Jvm.MethodName) ({ cls := "PushStick", name := "slots", desc := "(I)I" } : Jvm.MethodName)) ∈ wT := wT_i1 233 rfl rfl
theorem kw_234 : (Jvm.Cond.code ({ cls := "PushStick", name := "slots", desc := "(I)I" } : Jvm.MethodName) prog_1_method_8_code (3 : Nat) (Option.some Jvm.ClassFile.FieldType.int)) ∈ wT := wT_i1 234 rfl rfl
theorem kw_235 : (Jvm.Cond.methodLink "PushStickLaw" (46 : Nat) ({ cls := "PushStick", name := "slot", desc := "(I)I" } : Jvm.MethodName)) ∈ wT := wT_i1 235 rfl rfl
theorem kw_236 : (Jvm.Cond.instanceMethod ({ cls := "PushStick", name := "slot", desc := "(I)I" } : Jvm.MethodName)) ∈ wT := wT_i1 236 rfl rfl
theorem kw_237 : (Jvm.Cond.selects "PushStick" ({ cls := "PushStick", name := "slot", desc := "(I)I" } : Jvm.MethodName) ({ cls := "PushStick", name := "slot", desc := "(I)I" } : Jvm.MethodName)) ∈ wT := wT_i1 237 rfl rfl
theorem kw_238 : (Jvm.Cond.code ({ cls := "PushStick", name := "slot", desc := "(I)I" } : Jvm.MethodName) prog_1_method_9_code (3 : Nat) (Option.some Jvm.ClassFile.FieldType.int)) ∈ wT := wT_i1 238 rfl rfl
theorem kw_239 : (Jvm.Cond.methodLink "PushStickLaw" (50 : Nat) ({ cls := "PushStick", name := "load", desc := "(I)I" } : Jvm.MethodName)) ∈ wT := wT_i1 239 rfl rfl
theorem kw_240 : (Jvm.Cond.instanceMethod ({ cls := "PushStick", name := "load", desc := "(I)I" } : Jvm.MethodName)) ∈ wT := wT_i2 0 rfl rfl
theorem kw_241 : (Jvm.Cond.selects "PushStick" ({ cls := "PushStick", name := "load", desc := "(I)I" } : Jvm.MethodName) ({ cls := "PushStick", name := "load", desc := "(I)I" } : Jvm.MethodName)) ∈ wT := wT_i2 1 rfl rfl
theorem kw_242 : (Jvm.Cond.code ({ cls := "PushStick", name := "load", desc := "(I)I" } : Jvm.MethodName) prog_1_method_10_code (2 : Nat) (Option.some Jvm.ClassFile.FieldType.int)) ∈ wT := wT_i2 2 rfl rfl
theorem kw_243 : (Jvm.Cond.methodLink "PushStick" (150 : Nat) ({ cls := "PushStick", name := "bringIn", desc := "(LPushStick$Effect;)I" } : Jvm.MethodName)) ∈ wT := wT_i2 3 rfl rfl
theorem kw_245 : (Jvm.Cond.instanceMethod ({ cls := "PushStick", name := "bringIn", desc := "(LPushStick$Effect;)I" } : Jvm.MethodName)) ∈ wT := wT_i2 5 rfl rfl
theorem kw_246 : (Jvm.Cond.code ({ cls := "PushStick", name := "bringIn", desc := "(LPushStick$Effect;)I" } : Jvm.MethodName) prog_1_method_41_code (4 : Nat) (Option.some Jvm.ClassFile.FieldType.int)) ∈ wT := wT_i2 6 rfl rfl
theorem kw_247 : (Jvm.Cond.methodLink "PushStick" (265 : Nat) ({ cls := "PushStick", name := "leastFreeSlot", desc := "()I" } : Jvm.MethodName)) ∈ wT := wT_i2 7 rfl rfl
theorem kw_249 : (Jvm.Cond.instanceMethod ({ cls := "PushStick", name := "leastFreeSlot", desc := "()I" } : Jvm.MethodName)) ∈ wT := wT_i2 9 rfl rfl
theorem kw_250 : (Jvm.Cond.code ({ cls := "PushStick", name := "leastFreeSlot", desc := "()I" } : Jvm.MethodName) prog_1_method_42_code (2 : Nat) (Option.some Jvm.ClassFile.FieldType.int)) ∈ wT := wT_i2 10 rfl rfl
theorem kw_251 : (Jvm.Cond.methodLink "PushStick" (268 : Nat) ({ cls := "PushStick", name := "whichGoes", desc := "(I)LPushStick$Effect;" } : Jvm.MethodName)) ∈ wT := wT_i2 11 rfl rfl
theorem kw_253 : (Jvm.Cond.instanceMethod ({ cls := "PushStick", name := "whichGoes", desc := "(I)LPushStick$Effect;" } : Jvm.MethodName)) ∈ wT := wT_i2 13 rfl rfl
theorem kw_254 : (Jvm.Cond.code ({ cls := "PushStick", name := "whichGoes", desc := "(I)LPushStick$Effect;" } : Jvm.MethodName) prog_1_method_43_code (7 : Nat) (Option.some (Jvm.ClassFile.FieldType.object "PushStick$Effect"))) ∈ wT := wT_i2 14 rfl rfl
theorem kw_255 : (Jvm.Cond.methodLink "PushStickLaw" (54 : Nat) ({ cls := "PushStick", name := "unload", desc := "(I)I" } : Jvm.MethodName)) ∈ wT := wT_i2 15 rfl rfl
theorem kw_256 : (Jvm.Cond.instanceMethod ({ cls := "PushStick", name := "unload", desc := "(I)I" } : Jvm.MethodName)) ∈ wT := wT_i2 16 rfl rfl
theorem kw_257 : (Jvm.Cond.selects "PushStick" ({ cls := "PushStick", name := "unload", desc := "(I)I" } : Jvm.MethodName) ({ cls := "PushStick", name := "unload", desc := "(I)I" } : Jvm.MethodName)) ∈ wT := wT_i2 17 rfl rfl
theorem kw_258 : (Jvm.Cond.code ({ cls := "PushStick", name := "unload", desc := "(I)I" } : Jvm.MethodName) prog_1_method_11_code (3 : Nat) (Option.some Jvm.ClassFile.FieldType.int)) ∈ wT := wT_i2 18 rfl rfl
theorem kw_259 : (Jvm.Cond.methodLink "PushStickLaw" (58 : Nat) ({ cls := "PushStick", name := "play", desc := "(I)I" } : Jvm.MethodName)) ∈ wT := wT_i2 19 rfl rfl
theorem kw_260 : (Jvm.Cond.instanceMethod ({ cls := "PushStick", name := "play", desc := "(I)I" } : Jvm.MethodName)) ∈ wT := wT_i2 20 rfl rfl
theorem kw_261 : (Jvm.Cond.selects "PushStick" ({ cls := "PushStick", name := "play", desc := "(I)I" } : Jvm.MethodName) ({ cls := "PushStick", name := "play", desc := "(I)I" } : Jvm.MethodName)) ∈ wT := wT_i2 21 rfl rfl
theorem kw_262 : (Jvm.Cond.code ({ cls := "PushStick", name := "play", desc := "(I)I" } : Jvm.MethodName) prog_1_method_12_code (3 : Nat) (Option.some Jvm.ClassFile.FieldType.int)) ∈ wT := wT_i2 22 rfl rfl
theorem kw_263 : (Jvm.Cond.methodLink "PushStickLaw" (62 : Nat) ({ cls := "PushStick", name := "stop", desc := "(I)I" } : Jvm.MethodName)) ∈ wT := wT_i2 23 rfl rfl
theorem kw_264 : (Jvm.Cond.instanceMethod ({ cls := "PushStick", name := "stop", desc := "(I)I" } : Jvm.MethodName)) ∈ wT := wT_i2 24 rfl rfl
theorem kw_265 : (Jvm.Cond.selects "PushStick" ({ cls := "PushStick", name := "stop", desc := "(I)I" } : Jvm.MethodName) ({ cls := "PushStick", name := "stop", desc := "(I)I" } : Jvm.MethodName)) ∈ wT := wT_i2 25 rfl rfl
theorem kw_266 : (Jvm.Cond.code ({ cls := "PushStick", name := "stop", desc := "(I)I" } : Jvm.MethodName) prog_1_method_13_code (4 : Nat) (Option.some Jvm.ClassFile.FieldType.int)) ∈ wT := wT_i2 26 rfl rfl
theorem kw_267 : (Jvm.Cond.methodLink "PushStickLaw" (66 : Nat) ({ cls := "PushStick", name := "press", desc := "(I)I" } : Jvm.MethodName)) ∈ wT := wT_i2 27 rfl rfl
theorem kw_268 : (Jvm.Cond.instanceMethod ({ cls := "PushStick", name := "press", desc := "(I)I" } : Jvm.MethodName)) ∈ wT := wT_i2 28 rfl rfl
theorem kw_269 : (Jvm.Cond.selects "PushStick" ({ cls := "PushStick", name := "press", desc := "(I)I" } : Jvm.MethodName) ({ cls := "PushStick", name := "press", desc := "(I)I" } : Jvm.MethodName)) ∈ wT := wT_i2 29 rfl rfl
theorem kw_270 : (Jvm.Cond.code ({ cls := "PushStick", name := "press", desc := "(I)I" } : Jvm.MethodName) prog_1_method_14_code (5 : Nat) (Option.some Jvm.ClassFile.FieldType.int)) ∈ wT := wT_i2 30 rfl rfl
theorem kw_271 : (Jvm.Cond.methodLink "PushStick" (154 : Nat) ({ cls := "PushStick", name := "isButton", desc := "(I)Z" } : Jvm.MethodName)) ∈ wT := wT_i2 31 rfl rfl
theorem kw_272 : (Jvm.Cond.static ({ cls := "PushStick", name := "isButton", desc := "(I)Z" } : Jvm.MethodName)) ∈ wT := wT_i2 32 rfl rfl
theorem kw_273 : (Jvm.Cond.code ({ cls := "PushStick", name := "isButton", desc := "(I)Z" } : Jvm.MethodName) prog_1_method_33_code (1 : Nat) (Option.some Jvm.ClassFile.FieldType.boolean)) ∈ wT := wT_i2 33 rfl rfl
theorem kw_274 : (Jvm.Cond.methodLink "PushStickLaw" (70 : Nat) ({ cls := "PushStick", name := "free", desc := "(I)I" } : Jvm.MethodName)) ∈ wT := wT_i2 34 rfl rfl
theorem kw_275 : (Jvm.Cond.instanceMethod ({ cls := "PushStick", name := "free", desc := "(I)I" } : Jvm.MethodName)) ∈ wT := wT_i2 35 rfl rfl
theorem kw_276 : (Jvm.Cond.selects "PushStick" ({ cls := "PushStick", name := "free", desc := "(I)I" } : Jvm.MethodName) ({ cls := "PushStick", name := "free", desc := "(I)I" } : Jvm.MethodName)) ∈ wT := wT_i2 36 rfl rfl
theorem kw_277 : (Jvm.Cond.code ({ cls := "PushStick", name := "free", desc := "(I)I" } : Jvm.MethodName) prog_1_method_15_code (2 : Nat) (Option.some Jvm.ClassFile.FieldType.int)) ∈ wT := wT_i2 37 rfl rfl
theorem kw_278 : (Jvm.Cond.methodLink "PushStick" (166 : Nat) ({ cls := "PushStick", name := "letGo", desc := "(I)V" } : Jvm.MethodName)) ∈ wT := wT_i2 38 rfl rfl
theorem kw_280 : (Jvm.Cond.instanceMethod ({ cls := "PushStick", name := "letGo", desc := "(I)V" } : Jvm.MethodName)) ∈ wT := wT_i2 40 rfl rfl
theorem kw_281 : (Jvm.Cond.code ({ cls := "PushStick", name := "letGo", desc := "(I)V" } : Jvm.MethodName) prog_1_method_45_code (3 : Nat) (Option.none : Option Jvm.ClassFile.FieldType)) ∈ wT := wT_i2 41 rfl rfl
theorem kw_282 : (Jvm.Cond.methodLink "PushStickLaw" (74 : Nat) ({ cls := "PushStick", name := "pass", desc := "(I)I" } : Jvm.MethodName)) ∈ wT := wT_i2 42 rfl rfl
theorem kw_283 : (Jvm.Cond.instanceMethod ({ cls := "PushStick", name := "pass", desc := "(I)I" } : Jvm.MethodName)) ∈ wT := wT_i2 43 rfl rfl
theorem kw_284 : (Jvm.Cond.selects "PushStick" ({ cls := "PushStick", name := "pass", desc := "(I)I" } : Jvm.MethodName) ({ cls := "PushStick", name := "pass", desc := "(I)I" } : Jvm.MethodName)) ∈ wT := wT_i2 44 rfl rfl
theorem kw_285 : (Jvm.Cond.code ({ cls := "PushStick", name := "pass", desc := "(I)I" } : Jvm.MethodName) prog_1_method_16_code (4 : Nat) (Option.some Jvm.ClassFile.FieldType.int)) ∈ wT := wT_i2 45 rfl rfl
theorem kw_286 : (Jvm.Cond.constant "PushStick" (169 : Nat) (100000 : Int32)) ∈ wT := wT_i2 46 rfl rfl
theorem kw_287 : (Jvm.Cond.methodLink "PushStick" (170 : Nat) ({ cls := "PushStick", name := "lossAt", desc := "()I" } : Jvm.MethodName)) ∈ wT := wT_i2 47 rfl rfl
theorem kw_289 : (Jvm.Cond.instanceMethod ({ cls := "PushStick", name := "lossAt", desc := "()I" } : Jvm.MethodName)) ∈ wT := wT_i2 49 rfl rfl
theorem kw_290 : (Jvm.Cond.code ({ cls := "PushStick", name := "lossAt", desc := "()I" } : Jvm.MethodName) prog_1_method_46_code (1 : Nat) (Option.some Jvm.ClassFile.FieldType.int)) ∈ wT := wT_i2 50 rfl rfl
theorem kw_291 : (Jvm.Cond.constant "PushStick" (272 : Nat) (1000000000 : Int32)) ∈ wT := wT_i2 51 rfl rfl
theorem kw_292 : (Jvm.Cond.methodLink "PushStick" (174 : Nat) ({ cls := "java/lang/Math", name := "min", desc := "(II)I" } : Jvm.MethodName)) ∈ wT := wT_i2 52 rfl rfl
theorem kw_293 : (Jvm.Cond.static ({ cls := "java/lang/Math", name := "min", desc := "(II)I" } : Jvm.MethodName)) ∈ wT := wT_i2 53 rfl rfl
theorem kw_294 : (Jvm.Cond.code ({ cls := "java/lang/Math", name := "min", desc := "(II)I" } : Jvm.MethodName) prog_8_method_69_code (2 : Nat) (Option.some Jvm.ClassFile.FieldType.int)) ∈ wT := wT_i2 54 rfl rfl
theorem kw_295 : (Jvm.Cond.methodLink "PushStick" (180 : Nat) ({ cls := "PushStick", name := "beginAgainUpTo", desc := "(I)V" } : Jvm.MethodName)) ∈ wT := wT_i2 55 rfl rfl
theorem kw_297 : (Jvm.Cond.instanceMethod ({ cls := "PushStick", name := "beginAgainUpTo", desc := "(I)V" } : Jvm.MethodName)) ∈ wT := wT_i2 57 rfl rfl
theorem kw_298 : (Jvm.Cond.code ({ cls := "PushStick", name := "beginAgainUpTo", desc := "(I)V" } : Jvm.MethodName) prog_1_method_48_code (4 : Nat) (Option.none : Option Jvm.ClassFile.FieldType)) ∈ wT := wT_i2 58 rfl rfl
theorem kw_299 : (Jvm.Cond.methodLink "PushStick" (276 : Nat) ({ cls := "PushStick", name := "startBy", desc := "(LPushStick$Effect;I)I" } : Jvm.MethodName)) ∈ wT := wT_i2 59 rfl rfl
theorem kw_301 : (Jvm.Cond.instanceMethod ({ cls := "PushStick", name := "startBy", desc := "(LPushStick$Effect;I)I" } : Jvm.MethodName)) ∈ wT := wT_i2 61 rfl rfl
theorem kw_302 : (Jvm.Cond.code ({ cls := "PushStick", name := "startBy", desc := "(LPushStick$Effect;I)I" } : Jvm.MethodName) prog_1_method_47_code (7 : Nat) (Option.some Jvm.ClassFile.FieldType.int)) ∈ wT := wT_i2 62 rfl rfl
theorem kw_303 : (Jvm.Cond.methodLink "PushStick" (273 : Nat) ({ cls := "PushStick", name := "remainder", desc := "(II)I" } : Jvm.MethodName)) ∈ wT := wT_i2 63 rfl rfl
theorem kw_304 : (Jvm.Cond.static ({ cls := "PushStick", name := "remainder", desc := "(II)I" } : Jvm.MethodName)) ∈ wT := wT_i2 64 rfl rfl
theorem kw_305 : (Jvm.Cond.code ({ cls := "PushStick", name := "remainder", desc := "(II)I" } : Jvm.MethodName) prog_1_method_39_code (2 : Nat) (Option.some Jvm.ClassFile.FieldType.int)) ∈ wT := wT_i2 65 rfl rfl
theorem kw_306 : (Jvm.Cond.methodLink "PushStick" (183 : Nat) ({ cls := "PushStick", name := "loseHostAt", desc := "(I)V" } : Jvm.MethodName)) ∈ wT := wT_i2 66 rfl rfl
theorem kw_308 : (Jvm.Cond.instanceMethod ({ cls := "PushStick", name := "loseHostAt", desc := "(I)V" } : Jvm.MethodName)) ∈ wT := wT_i2 68 rfl rfl
theorem kw_309 : (Jvm.Cond.code ({ cls := "PushStick", name := "loseHostAt", desc := "(I)V" } : Jvm.MethodName) prog_1_method_49_code (4 : Nat) (Option.none : Option Jvm.ClassFile.FieldType)) ∈ wT := wT_i2 69 rfl rfl
theorem kw_310 : (Jvm.Cond.methodLink "PushStick" (186 : Nat) ({ cls := "PushStick", name := "howManyPlay", desc := "()I" } : Jvm.MethodName)) ∈ wT := wT_i2 70 rfl rfl
theorem kw_312 : (Jvm.Cond.instanceMethod ({ cls := "PushStick", name := "howManyPlay", desc := "()I" } : Jvm.MethodName)) ∈ wT := wT_i2 72 rfl rfl
theorem kw_313 : (Jvm.Cond.code ({ cls := "PushStick", name := "howManyPlay", desc := "()I" } : Jvm.MethodName) prog_1_method_51_code (4 : Nat) (Option.some Jvm.ClassFile.FieldType.int)) ∈ wT := wT_i2 73 rfl rfl
theorem kw_314 : (Jvm.Cond.methodLink "PushStickLaw" (78 : Nat) ({ cls := "PushStick", name := "hello", desc := "()I" } : Jvm.MethodName)) ∈ wT := wT_i2 74 rfl rfl
theorem kw_315 : (Jvm.Cond.instanceMethod ({ cls := "PushStick", name := "hello", desc := "()I" } : Jvm.MethodName)) ∈ wT := wT_i2 75 rfl rfl
theorem kw_316 : (Jvm.Cond.selects "PushStick" ({ cls := "PushStick", name := "hello", desc := "()I" } : Jvm.MethodName) ({ cls := "PushStick", name := "hello", desc := "()I" } : Jvm.MethodName)) ∈ wT := wT_i2 76 rfl rfl
theorem kw_317 : (Jvm.Cond.code ({ cls := "PushStick", name := "hello", desc := "()I" } : Jvm.MethodName) prog_1_method_17_code (2 : Nat) (Option.some Jvm.ClassFile.FieldType.int)) ∈ wT := wT_i2 77 rfl rfl
theorem kw_318 : (Jvm.Cond.methodLink "PushStickLaw" (82 : Nat) ({ cls := "PushStick", name := "watch", desc := "(I)I" } : Jvm.MethodName)) ∈ wT := wT_i2 78 rfl rfl
theorem kw_319 : (Jvm.Cond.instanceMethod ({ cls := "PushStick", name := "watch", desc := "(I)I" } : Jvm.MethodName)) ∈ wT := wT_i2 79 rfl rfl
theorem kw_320 : (Jvm.Cond.selects "PushStick" ({ cls := "PushStick", name := "watch", desc := "(I)I" } : Jvm.MethodName) ({ cls := "PushStick", name := "watch", desc := "(I)I" } : Jvm.MethodName)) ∈ wT := wT_i2 80 rfl rfl
theorem kw_321 : (Jvm.Cond.code ({ cls := "PushStick", name := "watch", desc := "(I)I" } : Jvm.MethodName) prog_1_method_18_code (3 : Nat) (Option.some Jvm.ClassFile.FieldType.int)) ∈ wT := wT_i2 81 rfl rfl
theorem kw_322 : (Jvm.Cond.methodLink "PushStickLaw" (86 : Nat) ({ cls := "PushStick", name := "master", desc := "(I)I" } : Jvm.MethodName)) ∈ wT := wT_i2 82 rfl rfl
theorem kw_323 : (Jvm.Cond.instanceMethod ({ cls := "PushStick", name := "master", desc := "(I)I" } : Jvm.MethodName)) ∈ wT := wT_i2 83 rfl rfl
theorem kw_324 : (Jvm.Cond.selects "PushStick" ({ cls := "PushStick", name := "master", desc := "(I)I" } : Jvm.MethodName) ({ cls := "PushStick", name := "master", desc := "(I)I" } : Jvm.MethodName)) ∈ wT := wT_i2 84 rfl rfl
theorem kw_325 : (Jvm.Cond.code ({ cls := "PushStick", name := "master", desc := "(I)I" } : Jvm.MethodName) prog_1_method_19_code (3 : Nat) (Option.some Jvm.ClassFile.FieldType.int)) ∈ wT := wT_i2 85 rfl rfl
theorem kw_326 : (Jvm.Cond.methodLink "PushStickLaw" (90 : Nat) ({ cls := "PushStick", name := "part", desc := "(II)I" } : Jvm.MethodName)) ∈ wT := wT_i2 86 rfl rfl
theorem kw_327 : (Jvm.Cond.instanceMethod ({ cls := "PushStick", name := "part", desc := "(II)I" } : Jvm.MethodName)) ∈ wT := wT_i2 87 rfl rfl
theorem kw_328 : (Jvm.Cond.selects "PushStick" ({ cls := "PushStick", name := "part", desc := "(II)I" } : Jvm.MethodName) ({ cls := "PushStick", name := "part", desc := "(II)I" } : Jvm.MethodName)) ∈ wT := wT_i2 88 rfl rfl
theorem kw_329 : (Jvm.Cond.code ({ cls := "PushStick", name := "part", desc := "(II)I" } : Jvm.MethodName) prog_1_method_20_code (4 : Nat) (Option.some Jvm.ClassFile.FieldType.int)) ∈ wT := wT_i2 89 rfl rfl
theorem kw_330 : (Jvm.Cond.methodLink "PushStick" (189 : Nat) ({ cls := "PushStick$Effect", name := "partAt", desc := "(IILPushStick$Axis;)I" } : Jvm.MethodName)) ∈ wT := wT_i2 90 rfl rfl
theorem kw_331 : (Jvm.Cond.instanceMethod ({ cls := "PushStick$Effect", name := "partAt", desc := "(IILPushStick$Axis;)I" } : Jvm.MethodName)) ∈ wT := wT_i2 91 rfl rfl
theorem kw_332 : (Jvm.Cond.selects "PushStick$Effect" ({ cls := "PushStick$Effect", name := "partAt", desc := "(IILPushStick$Axis;)I" } : Jvm.MethodName) ({ cls := "PushStick$Effect", name := "partAt", desc := "(IILPushStick$Axis;)I" } : Jvm.MethodName)) ∈ wT := wT_i2 92 rfl rfl
theorem kw_333 : (Jvm.Cond.code ({ cls := "PushStick$Effect", name := "partAt", desc := "(IILPushStick$Axis;)I" } : Jvm.MethodName) prog_4_method_9_code (5 : Nat) (Option.some Jvm.ClassFile.FieldType.int)) ∈ wT := wT_i2 93 rfl rfl
theorem kw_334 : (Jvm.Cond.methodLink "PushStick$Effect" (60 : Nat) ({ cls := "PushStick$Effect", name := "isOnAt", desc := "(II)Z" } : Jvm.MethodName)) ∈ wT := wT_i2 94 rfl rfl
theorem kw_335 : (Jvm.Cond.methodLink "PushStick$Effect" (63 : Nat) ({ cls := "PushStick$Effect", name := "sinceDelay", desc := "(II)I" } : Jvm.MethodName)) ∈ wT := wT_i2 95 rfl rfl
theorem kw_336 : (Jvm.Cond.instanceMethod ({ cls := "PushStick$Effect", name := "sinceDelay", desc := "(II)I" } : Jvm.MethodName)) ∈ wT := wT_i2 96 rfl rfl
theorem kw_337 : (Jvm.Cond.selects "PushStick$Effect" ({ cls := "PushStick$Effect", name := "sinceDelay", desc := "(II)I" } : Jvm.MethodName) ({ cls := "PushStick$Effect", name := "sinceDelay", desc := "(II)I" } : Jvm.MethodName)) ∈ wT := wT_i2 97 rfl rfl
theorem kw_338 : (Jvm.Cond.code ({ cls := "PushStick$Effect", name := "sinceDelay", desc := "(II)I" } : Jvm.MethodName) prog_4_method_5_code (3 : Nat) (Option.some Jvm.ClassFile.FieldType.int)) ∈ wT := wT_i2 98 rfl rfl
theorem kw_339 : (Jvm.Cond.methodLink "PushStick$Effect" (66 : Nat) ({ cls := "PushStick$Effect", name := "valueAt", desc := "(ILPushStick$Axis;)I" } : Jvm.MethodName)) ∈ wT := wT_i2 99 rfl rfl
theorem kw_340 : (Jvm.Cond.instanceMethod ({ cls := "PushStick$Effect", name := "valueAt", desc := "(ILPushStick$Axis;)I" } : Jvm.MethodName)) ∈ wT := wT_i2 100 rfl rfl
theorem kw_341 : (Jvm.Cond.selects "PushStick$Effect" ({ cls := "PushStick$Effect", name := "valueAt", desc := "(ILPushStick$Axis;)I" } : Jvm.MethodName) ({ cls := "PushStick$Effect", name := "valueAt", desc := "(ILPushStick$Axis;)I" } : Jvm.MethodName)) ∈ wT := wT_i2 101 rfl rfl
theorem kw_342 : (Jvm.Cond.code ({ cls := "PushStick$Effect", name := "valueAt", desc := "(ILPushStick$Axis;)I" } : Jvm.MethodName) prog_4_method_10_code (3 : Nat) (Option.some Jvm.ClassFile.FieldType.int)) ∈ wT := wT_i2 102 rfl rfl
theorem kw_343 : (Jvm.Cond.methodLink "PushStick$Effect" (78 : Nat) ({ cls := "PushStick$Effect", name := "awayFrom", desc := "(II)I" } : Jvm.MethodName)) ∈ wT := wT_i2 103 rfl rfl
theorem kw_344 : (Jvm.Cond.instanceMethod ({ cls := "PushStick$Effect", name := "awayFrom", desc := "(II)I" } : Jvm.MethodName)) ∈ wT := wT_i2 104 rfl rfl
theorem kw_345 : (Jvm.Cond.selects "PushStick$Effect" ({ cls := "PushStick$Effect", name := "awayFrom", desc := "(II)I" } : Jvm.MethodName) ({ cls := "PushStick$Effect", name := "awayFrom", desc := "(II)I" } : Jvm.MethodName)) ∈ wT := wT_i2 105 rfl rfl
theorem kw_346 : (Jvm.Cond.code ({ cls := "PushStick$Effect", name := "awayFrom", desc := "(II)I" } : Jvm.MethodName) prog_4_method_13_code (4 : Nat) (Option.some Jvm.ClassFile.FieldType.int)) ∈ wT := wT_i2 106 rfl rfl
theorem kw_347 : (Jvm.Cond.methodLink "PushStick$Effect" (103 : Nat) ({ cls := "java/lang/Math", name := "abs", desc := "(I)I" } : Jvm.MethodName)) ∈ wT := wT_i2 107 rfl rfl
theorem kw_348 : (Jvm.Cond.static ({ cls := "java/lang/Math", name := "abs", desc := "(I)I" } : Jvm.MethodName)) ∈ wT := wT_i2 108 rfl rfl
theorem kw_349 : (Jvm.Cond.code ({ cls := "java/lang/Math", name := "abs", desc := "(I)I" } : Jvm.MethodName) prog_8_method_59_code (1 : Nat) (Option.some Jvm.ClassFile.FieldType.int)) ∈ wT := wT_i2 109 rfl rfl
theorem kw_351 : (Jvm.Cond.static ({ cls := "PushStick", name := "quotient", desc := "(II)I" } : Jvm.MethodName)) ∈ wT := wT_i2 111 rfl rfl
theorem kw_352 : (Jvm.Cond.code ({ cls := "PushStick", name := "quotient", desc := "(II)I" } : Jvm.MethodName) prog_1_method_38_code (2 : Nat) (Option.some Jvm.ClassFile.FieldType.int)) ∈ wT := wT_i2 112 rfl rfl
theorem kw_354 : (Jvm.Cond.static ({ cls := "PushStick", name := "noFarther", desc := "(II)I" } : Jvm.MethodName)) ∈ wT := wT_i2 114 rfl rfl
theorem kw_355 : (Jvm.Cond.code ({ cls := "PushStick", name := "noFarther", desc := "(II)I" } : Jvm.MethodName) prog_1_method_40_code (2 : Nat) (Option.some Jvm.ClassFile.FieldType.int)) ∈ wT := wT_i2 115 rfl rfl
theorem kw_356 : (Jvm.Cond.methodLink "PushStick$Effect" (84 : Nat) ({ cls := "PushStick$Effect", name := "wallAt", desc := "(I)I" } : Jvm.MethodName)) ∈ wT := wT_i2 116 rfl rfl
theorem kw_357 : (Jvm.Cond.instanceMethod ({ cls := "PushStick$Effect", name := "wallAt", desc := "(I)I" } : Jvm.MethodName)) ∈ wT := wT_i2 117 rfl rfl
theorem kw_358 : (Jvm.Cond.selects "PushStick$Effect" ({ cls := "PushStick$Effect", name := "wallAt", desc := "(I)I" } : Jvm.MethodName) ({ cls := "PushStick$Effect", name := "wallAt", desc := "(I)I" } : Jvm.MethodName)) ∈ wT := wT_i2 118 rfl rfl
theorem kw_359 : (Jvm.Cond.code ({ cls := "PushStick$Effect", name := "wallAt", desc := "(I)I" } : Jvm.MethodName) prog_4_method_14_code (4 : Nat) (Option.some Jvm.ClassFile.FieldType.int)) ∈ wT := wT_i2 119 rfl rfl
theorem kw_360 : (Jvm.Cond.methodLink "PushStick$Effect" (88 : Nat) ({ cls := "PushStick$Effect", name := "waveAt", desc := "(I)I" } : Jvm.MethodName)) ∈ wT := wT_i2 120 rfl rfl
theorem kw_361 : (Jvm.Cond.instanceMethod ({ cls := "PushStick$Effect", name := "waveAt", desc := "(I)I" } : Jvm.MethodName)) ∈ wT := wT_i2 121 rfl rfl
theorem kw_362 : (Jvm.Cond.selects "PushStick$Effect" ({ cls := "PushStick$Effect", name := "waveAt", desc := "(I)I" } : Jvm.MethodName) ({ cls := "PushStick$Effect", name := "waveAt", desc := "(I)I" } : Jvm.MethodName)) ∈ wT := wT_i2 122 rfl rfl
theorem kw_363 : (Jvm.Cond.code ({ cls := "PushStick$Effect", name := "waveAt", desc := "(I)I" } : Jvm.MethodName) prog_4_method_11_code (2 : Nat) (Option.some Jvm.ClassFile.FieldType.int)) ∈ wT := wT_i2 123 rfl rfl
theorem kw_365 : (Jvm.Cond.methodLink "PushStick$Effect" (97 : Nat) ({ cls := "PushStick$Effect", name := "riseAt", desc := "(I)I" } : Jvm.MethodName)) ∈ wT := wT_i2 125 rfl rfl
theorem kw_366 : (Jvm.Cond.instanceMethod ({ cls := "PushStick$Effect", name := "riseAt", desc := "(I)I" } : Jvm.MethodName)) ∈ wT := wT_i2 126 rfl rfl
theorem kw_367 : (Jvm.Cond.selects "PushStick$Effect" ({ cls := "PushStick$Effect", name := "riseAt", desc := "(I)I" } : Jvm.MethodName) ({ cls := "PushStick$Effect", name := "riseAt", desc := "(I)I" } : Jvm.MethodName)) ∈ wT := wT_i2 127 rfl rfl
theorem kw_368 : (Jvm.Cond.code ({ cls := "PushStick$Effect", name := "riseAt", desc := "(I)I" } : Jvm.MethodName) prog_4_method_12_code (2 : Nat) (Option.some Jvm.ClassFile.FieldType.int)) ∈ wT := wT_i2 128 rfl rfl
theorem kw_369 : (Jvm.Cond.methodLink "PushStick$Effect" (91 : Nat) ({ cls := "PushStick$Effect", name := "envelopeAt", desc := "(I)I" } : Jvm.MethodName)) ∈ wT := wT_i2 129 rfl rfl
theorem kw_370 : (Jvm.Cond.instanceMethod ({ cls := "PushStick$Effect", name := "envelopeAt", desc := "(I)I" } : Jvm.MethodName)) ∈ wT := wT_i2 130 rfl rfl
theorem kw_371 : (Jvm.Cond.selects "PushStick$Effect" ({ cls := "PushStick$Effect", name := "envelopeAt", desc := "(I)I" } : Jvm.MethodName) ({ cls := "PushStick$Effect", name := "envelopeAt", desc := "(I)I" } : Jvm.MethodName)) ∈ wT := wT_i2 131 rfl rfl
theorem kw_372 : (Jvm.Cond.code ({ cls := "PushStick$Effect", name := "envelopeAt", desc := "(I)I" } : Jvm.MethodName) prog_4_method_7_code (4 : Nat) (Option.some Jvm.ClassFile.FieldType.int)) ∈ wT := wT_i2 132 rfl rfl
theorem kw_373 : (Jvm.Cond.methodLink "PushStick$Effect" (50 : Nat) ({ cls := "PushStick$Effect", name := "levelAt", desc := "(III)I" } : Jvm.MethodName)) ∈ wT := wT_i2 133 rfl rfl
theorem kw_374 : (Jvm.Cond.static ({ cls := "PushStick$Effect", name := "levelAt", desc := "(III)I" } : Jvm.MethodName)) ∈ wT := wT_i2 134 rfl rfl
theorem kw_375 : (Jvm.Cond.code ({ cls := "PushStick$Effect", name := "levelAt", desc := "(III)I" } : Jvm.MethodName) prog_4_method_8_code (3 : Nat) (Option.some Jvm.ClassFile.FieldType.int)) ∈ wT := wT_i2 135 rfl rfl
theorem kw_376 : (Jvm.Cond.methodLink "PushStick$Effect" (54 : Nat) ({ cls := "java/lang/Math", name := "min", desc := "(II)I" } : Jvm.MethodName)) ∈ wT := wT_i2 136 rfl rfl
theorem kw_377 : (Jvm.Cond.methodLink "PushStickLaw" (94 : Nat) ({ cls := "PushStick", name := "envelope", desc := "(I)I" } : Jvm.MethodName)) ∈ wT := wT_i2 137 rfl rfl
theorem kw_378 : (Jvm.Cond.instanceMethod ({ cls := "PushStick", name := "envelope", desc := "(I)I" } : Jvm.MethodName)) ∈ wT := wT_i2 138 rfl rfl
theorem kw_379 : (Jvm.Cond.selects "PushStick" ({ cls := "PushStick", name := "envelope", desc := "(I)I" } : Jvm.MethodName) ({ cls := "PushStick", name := "envelope", desc := "(I)I" } : Jvm.MethodName)) ∈ wT := wT_i2 139 rfl rfl
theorem kw_380 : (Jvm.Cond.code ({ cls := "PushStick", name := "envelope", desc := "(I)I" } : Jvm.MethodName) prog_1_method_21_code (3 : Nat) (Option.some Jvm.ClassFile.FieldType.int)) ∈ wT := wT_i2 140 rfl rfl
theorem kw_381 : (Jvm.Cond.methodLink "PushStick" (193 : Nat) ({ cls := "PushStick$Effect", name := "hasEnvelope", desc := "()Z" } : Jvm.MethodName)) ∈ wT := wT_i2 141 rfl rfl
theorem kw_382 : (Jvm.Cond.instanceMethod ({ cls := "PushStick$Effect", name := "hasEnvelope", desc := "()Z" } : Jvm.MethodName)) ∈ wT := wT_i2 142 rfl rfl
theorem kw_383 : (Jvm.Cond.selects "PushStick$Effect" ({ cls := "PushStick$Effect", name := "hasEnvelope", desc := "()Z" } : Jvm.MethodName) ({ cls := "PushStick$Effect", name := "hasEnvelope", desc := "()Z" } : Jvm.MethodName)) ∈ wT := wT_i2 143 rfl rfl
theorem kw_384 : (Jvm.Cond.code ({ cls := "PushStick$Effect", name := "hasEnvelope", desc := "()Z" } : Jvm.MethodName) prog_4_method_6_code (1 : Nat) (Option.some Jvm.ClassFile.FieldType.boolean)) ∈ wT := wT_i2 144 rfl rfl
theorem kw_385 : (Jvm.Cond.methodLink "PushStick" (197 : Nat) ({ cls := "PushStick$Effect", name := "sinceDelay", desc := "(II)I" } : Jvm.MethodName)) ∈ wT := wT_i2 145 rfl rfl
theorem kw_386 : (Jvm.Cond.methodLink "PushStick" (200 : Nat) ({ cls := "PushStick$Effect", name := "envelopeAt", desc := "(I)I" } : Jvm.MethodName)) ∈ wT := wT_i2 146 rfl rfl
theorem kw_387 : (Jvm.Cond.methodLink "PushStickLaw" (98 : Nat) ({ cls := "PushStick", name := "force", desc := "(II)I" } : Jvm.MethodName)) ∈ wT := wT_i2 147 rfl rfl
theorem kw_388 : (Jvm.Cond.instanceMethod ({ cls := "PushStick", name := "force", desc := "(II)I" } : Jvm.MethodName)) ∈ wT := wT_i2 148 rfl rfl
theorem kw_389 : (Jvm.Cond.selects "PushStick" ({ cls := "PushStick", name := "force", desc := "(II)I" } : Jvm.MethodName) ({ cls := "PushStick", name := "force", desc := "(II)I" } : Jvm.MethodName)) ∈ wT := wT_i2 149 rfl rfl
theorem kw_390 : (Jvm.Cond.code ({ cls := "PushStick", name := "force", desc := "(II)I" } : Jvm.MethodName) prog_1_method_22_code (4 : Nat) (Option.some Jvm.ClassFile.FieldType.int)) ∈ wT := wT_i2 150 rfl rfl
theorem kw_391 : (Jvm.Cond.methodLink "PushStick" (204 : Nat) ({ cls := "PushStick", name := "rawAt", desc := "(ILPushStick$Axis;)I" } : Jvm.MethodName)) ∈ wT := wT_i2 151 rfl rfl
theorem kw_393 : (Jvm.Cond.instanceMethod ({ cls := "PushStick", name := "rawAt", desc := "(ILPushStick$Axis;)I" } : Jvm.MethodName)) ∈ wT := wT_i2 153 rfl rfl
theorem kw_394 : (Jvm.Cond.code ({ cls := "PushStick", name := "rawAt", desc := "(ILPushStick$Axis;)I" } : Jvm.MethodName) prog_1_method_55_code (6 : Nat) (Option.some Jvm.ClassFile.FieldType.int)) ∈ wT := wT_i2 154 rfl rfl
theorem kw_395 : (Jvm.Cond.methodLink "PushStick" (208 : Nat) ({ cls := "PushStick", name := "noFarther", desc := "(II)I" } : Jvm.MethodName)) ∈ wT := wT_i2 155 rfl rfl
theorem kw_396 : (Jvm.Cond.methodLink "PushStickLaw" (102 : Nat) ({ cls := "PushStick", name := "rate", desc := "(I)I" } : Jvm.MethodName)) ∈ wT := wT_i2 156 rfl rfl
theorem kw_397 : (Jvm.Cond.instanceMethod ({ cls := "PushStick", name := "rate", desc := "(I)I" } : Jvm.MethodName)) ∈ wT := wT_i2 157 rfl rfl
theorem kw_398 : (Jvm.Cond.selects "PushStick" ({ cls := "PushStick", name := "rate", desc := "(I)I" } : Jvm.MethodName) ({ cls := "PushStick", name := "rate", desc := "(I)I" } : Jvm.MethodName)) ∈ wT := wT_i2 158 rfl rfl
theorem kw_399 : (Jvm.Cond.code ({ cls := "PushStick", name := "rate", desc := "(I)I" } : Jvm.MethodName) prog_1_method_23_code (3 : Nat) (Option.some Jvm.ClassFile.FieldType.int)) ∈ wT := wT_i2 159 rfl rfl
theorem kw_400 : (Jvm.Cond.methodLink "PushStickLaw" (106 : Nat) ({ cls := "PushStick", name := "frame", desc := "(I)I" } : Jvm.MethodName)) ∈ wT := wT_i2 160 rfl rfl
theorem kw_401 : (Jvm.Cond.instanceMethod ({ cls := "PushStick", name := "frame", desc := "(I)I" } : Jvm.MethodName)) ∈ wT := wT_i2 161 rfl rfl
theorem kw_402 : (Jvm.Cond.selects "PushStick" ({ cls := "PushStick", name := "frame", desc := "(I)I" } : Jvm.MethodName) ({ cls := "PushStick", name := "frame", desc := "(I)I" } : Jvm.MethodName)) ∈ wT := wT_i2 162 rfl rfl
theorem kw_403 : (Jvm.Cond.code ({ cls := "PushStick", name := "frame", desc := "(I)I" } : Jvm.MethodName) prog_1_method_24_code (2 : Nat) (Option.some Jvm.ClassFile.FieldType.int)) ∈ wT := wT_i2 163 rfl rfl
theorem kw_404 : (Jvm.Cond.constant "PushStick" (211 : Nat) (1000000 : Int32)) ∈ wT := wT_i2 164 rfl rfl
theorem kw_405 : (Jvm.Cond.methodLink "PushStick" (212 : Nat) ({ cls := "PushStick", name := "quotient", desc := "(II)I" } : Jvm.MethodName)) ∈ wT := wT_i2 165 rfl rfl
theorem kw_406 : (Jvm.Cond.methodLink "PushStickLaw" (110 : Nat) ({ cls := "PushStick", name := "frames", desc := "()I" } : Jvm.MethodName)) ∈ wT := wT_i2 166 rfl rfl
theorem kw_407 : (Jvm.Cond.instanceMethod ({ cls := "PushStick", name := "frames", desc := "()I" } : Jvm.MethodName)) ∈ wT := wT_i2 167 rfl rfl
theorem kw_408 : (Jvm.Cond.selects "PushStick" ({ cls := "PushStick", name := "frames", desc := "()I" } : Jvm.MethodName) ({ cls := "PushStick", name := "frames", desc := "()I" } : Jvm.MethodName)) ∈ wT := wT_i2 168 rfl rfl
theorem kw_409 : (Jvm.Cond.code ({ cls := "PushStick", name := "frames", desc := "()I" } : Jvm.MethodName) prog_1_method_25_code (3 : Nat) (Option.some Jvm.ClassFile.FieldType.int)) ∈ wT := wT_i2 169 rfl rfl
theorem kw_410 : (Jvm.Cond.constantLong "PushStick" (215 : Nat) (999 : Int64)) ∈ wT := wT_i2 170 rfl rfl
theorem kw_411 : (Jvm.Cond.constantLong "PushStick" (217 : Nat) (1000 : Int64)) ∈ wT := wT_i2 171 rfl rfl
theorem kw_412 : (Jvm.Cond.methodLink "PushStickLaw" (114 : Nat) ({ cls := "PushStick", name := "peak", desc := "(III)I" } : Jvm.MethodName)) ∈ wT := wT_i2 172 rfl rfl
theorem kw_413 : (Jvm.Cond.instanceMethod ({ cls := "PushStick", name := "peak", desc := "(III)I" } : Jvm.MethodName)) ∈ wT := wT_i2 173 rfl rfl
theorem kw_414 : (Jvm.Cond.selects "PushStick" ({ cls := "PushStick", name := "peak", desc := "(III)I" } : Jvm.MethodName) ({ cls := "PushStick", name := "peak", desc := "(III)I" } : Jvm.MethodName)) ∈ wT := wT_i2 174 rfl rfl
theorem kw_415 : (Jvm.Cond.code ({ cls := "PushStick", name := "peak", desc := "(III)I" } : Jvm.MethodName) prog_1_method_26_code (9 : Nat) (Option.some Jvm.ClassFile.FieldType.int)) ∈ wT := wT_i2 175 rfl rfl
theorem kw_416 : (Jvm.Cond.methodLink "PushStick" (219 : Nat) ({ cls := "PushStick", name := "endOfPush", desc := "(I)I" } : Jvm.MethodName)) ∈ wT := wT_i2 176 rfl rfl
theorem kw_418 : (Jvm.Cond.instanceMethod ({ cls := "PushStick", name := "endOfPush", desc := "(I)I" } : Jvm.MethodName)) ∈ wT := wT_i2 178 rfl rfl
theorem kw_419 : (Jvm.Cond.code ({ cls := "PushStick", name := "endOfPush", desc := "(I)I" } : Jvm.MethodName) prog_1_method_54_code (2 : Nat) (Option.some Jvm.ClassFile.FieldType.int)) ∈ wT := wT_i2 179 rfl rfl
theorem kw_420 : (Jvm.Cond.methodLink "PushStick" (222 : Nat) ({ cls := "java/lang/Math", name := "abs", desc := "(I)I" } : Jvm.MethodName)) ∈ wT := wT_i2 180 rfl rfl
theorem kw_421 : (Jvm.Cond.methodLink "PushStickLaw" (118 : Nat) ({ cls := "PushStick", name := "soLong", desc := "(I)I" } : Jvm.MethodName)) ∈ wT := wT_i2 181 rfl rfl
theorem kw_422 : (Jvm.Cond.instanceMethod ({ cls := "PushStick", name := "soLong", desc := "(I)I" } : Jvm.MethodName)) ∈ wT := wT_i2 182 rfl rfl
theorem kw_423 : (Jvm.Cond.selects "PushStick" ({ cls := "PushStick", name := "soLong", desc := "(I)I" } : Jvm.MethodName) ({ cls := "PushStick", name := "soLong", desc := "(I)I" } : Jvm.MethodName)) ∈ wT := wT_i2 183 rfl rfl
theorem kw_424 : (Jvm.Cond.code ({ cls := "PushStick", name := "soLong", desc := "(I)I" } : Jvm.MethodName) prog_1_method_27_code (5 : Nat) (Option.some Jvm.ClassFile.FieldType.int)) ∈ wT := wT_i2 184 rfl rfl
theorem kw_425 : (Jvm.Cond.methodLink "PushStick" (225 : Nat) ({ cls := "PushStick", name := "isHeldBack", desc := "(I)Z" } : Jvm.MethodName)) ∈ wT := wT_i2 185 rfl rfl
theorem kw_426 : (Jvm.Cond.static ({ cls := "PushStick", name := "isHeldBack", desc := "(I)Z" } : Jvm.MethodName)) ∈ wT := wT_i2 186 rfl rfl
theorem kw_427 : (Jvm.Cond.code ({ cls := "PushStick", name := "isHeldBack", desc := "(I)Z" } : Jvm.MethodName) prog_1_method_56_code (1 : Nat) (Option.some Jvm.ClassFile.FieldType.boolean)) ∈ wT := wT_i2 187 rfl rfl
theorem kw_428 : (Jvm.Cond.methodLink "PushStickLaw" (122 : Nat) ({ cls := "PushStick", name := "quiet", desc := "(I)I" } : Jvm.MethodName)) ∈ wT := wT_i2 188 rfl rfl
theorem kw_429 : (Jvm.Cond.instanceMethod ({ cls := "PushStick", name := "quiet", desc := "(I)I" } : Jvm.MethodName)) ∈ wT := wT_i2 189 rfl rfl
theorem kw_430 : (Jvm.Cond.selects "PushStick" ({ cls := "PushStick", name := "quiet", desc := "(I)I" } : Jvm.MethodName) ({ cls := "PushStick", name := "quiet", desc := "(I)I" } : Jvm.MethodName)) ∈ wT := wT_i2 190 rfl rfl
theorem kw_431 : (Jvm.Cond.code ({ cls := "PushStick", name := "quiet", desc := "(I)I" } : Jvm.MethodName) prog_1_method_28_code (6 : Nat) (Option.some Jvm.ClassFile.FieldType.int)) ∈ wT := wT_i2 191 rfl rfl
theorem kw_432 : (Jvm.Cond.methodLink "PushStick" (228 : Nat) ({ cls := "PushStick", name := "gatherPlaying", desc := "()I" } : Jvm.MethodName)) ∈ wT := wT_i2 192 rfl rfl
theorem kw_434 : (Jvm.Cond.instanceMethod ({ cls := "PushStick", name := "gatherPlaying", desc := "()I" } : Jvm.MethodName)) ∈ wT := wT_i2 194 rfl rfl
theorem kw_435 : (Jvm.Cond.code ({ cls := "PushStick", name := "gatherPlaying", desc := "()I" } : Jvm.MethodName) prog_1_method_57_code (4 : Nat) (Option.some Jvm.ClassFile.FieldType.int)) ∈ wT := wT_i2 195 rfl rfl
theorem kw_436 : (Jvm.Cond.methodLink "PushStick" (231 : Nat) ({ cls := "PushStick", name := "markHeldBack", desc := "(ILPushStick$Axis;I)V" } : Jvm.MethodName)) ∈ wT := wT_i2 196 rfl rfl
theorem kw_438 : (Jvm.Cond.instanceMethod ({ cls := "PushStick", name := "markHeldBack", desc := "(ILPushStick$Axis;I)V" } : Jvm.MethodName)) ∈ wT := wT_i2 198 rfl rfl
theorem kw_439 : (Jvm.Cond.code ({ cls := "PushStick", name := "markHeldBack", desc := "(ILPushStick$Axis;I)V" } : Jvm.MethodName) prog_1_method_58_code (8 : Nat) (Option.none : Option Jvm.ClassFile.FieldType)) ∈ wT := wT_i2 199 rfl rfl
theorem kw_440 : (Jvm.Cond.methodLink "PushStick" (279 : Nat) ({ cls := "PushStick", name := "lackAt", desc := "(LPushStick$Effect;ILPushStick$Axis;)I" } : Jvm.MethodName)) ∈ wT := wT_i2 200 rfl rfl
theorem kw_442 : (Jvm.Cond.instanceMethod ({ cls := "PushStick", name := "lackAt", desc := "(LPushStick$Effect;ILPushStick$Axis;)I" } : Jvm.MethodName)) ∈ wT := wT_i2 202 rfl rfl
theorem kw_443 : (Jvm.Cond.code ({ cls := "PushStick", name := "lackAt", desc := "(LPushStick$Effect;ILPushStick$Axis;)I" } : Jvm.MethodName) prog_1_method_59_code (5 : Nat) (Option.some Jvm.ClassFile.FieldType.int)) ∈ wT := wT_i2 203 rfl rfl
theorem kw_444 : (Jvm.Cond.methodLink "PushStick" (235 : Nat) ({ cls := "PushStick", name := "fewestNotHeldBack", desc := "(I)I" } : Jvm.MethodName)) ∈ wT := wT_i2 204 rfl rfl
theorem kw_446 : (Jvm.Cond.instanceMethod ({ cls := "PushStick", name := "fewestNotHeldBack", desc := "(I)I" } : Jvm.MethodName)) ∈ wT := wT_i2 206 rfl rfl
theorem kw_447 : (Jvm.Cond.code ({ cls := "PushStick", name := "fewestNotHeldBack", desc := "(I)I" } : Jvm.MethodName) prog_1_method_60_code (5 : Nat) (Option.some Jvm.ClassFile.FieldType.int)) ∈ wT := wT_i2 207 rfl rfl
theorem kw_448 : (Jvm.Cond.methodLink "PushStick" (283 : Nat) ({ cls := "java/lang/Integer", name := "bitCount", desc := "(I)I" } : Jvm.MethodName)) ∈ wT := wT_i2 208 rfl rfl
theorem kw_449 : (Jvm.Cond.static ({ cls := "java/lang/Integer", name := "bitCount", desc := "(I)I" } : Jvm.MethodName)) ∈ wT := wT_i2 209 rfl rfl
theorem kw_450 : (Jvm.Cond.code ({ cls := "java/lang/Integer", name := "bitCount", desc := "(I)I" } : Jvm.MethodName) prog_7_method_49_code (1 : Nat) (Option.some Jvm.ClassFile.FieldType.int)) ∈ wT := wT_i2 210 rfl rfl
theorem kw_451 : (Jvm.Cond.constant "java/lang/Integer" (265 : Nat) (1431655765 : Int32)) ∈ wT := wT_i2 211 rfl rfl
theorem kw_452 : (Jvm.Cond.constant "java/lang/Integer" (266 : Nat) (858993459 : Int32)) ∈ wT := wT_i2 212 rfl rfl
theorem kw_453 : (Jvm.Cond.constant "java/lang/Integer" (267 : Nat) (252645135 : Int32)) ∈ wT := wT_i2 213 rfl rfl
theorem kw_454 : (Jvm.Cond.methodLink "PushStick" (238 : Nat) ({ cls := "PushStick", name := "asEffects", desc := "(II)I" } : Jvm.MethodName)) ∈ wT := wT_i2 214 rfl rfl
theorem kw_456 : (Jvm.Cond.instanceMethod ({ cls := "PushStick", name := "asEffects", desc := "(II)I" } : Jvm.MethodName)) ∈ wT := wT_i2 216 rfl rfl
theorem kw_457 : (Jvm.Cond.code ({ cls := "PushStick", name := "asEffects", desc := "(II)I" } : Jvm.MethodName) prog_1_method_61_code (6 : Nat) (Option.some Jvm.ClassFile.FieldType.int)) ∈ wT := wT_i2 217 rfl rfl
theorem kw_458 : (Jvm.Cond.methodLink "PushStickLaw" (126 : Nat) ({ cls := "PushStick", name := "many", desc := "(I)I" } : Jvm.MethodName)) ∈ wT := wT_i2 218 rfl rfl
theorem kw_459 : (Jvm.Cond.instanceMethod ({ cls := "PushStick", name := "many", desc := "(I)I" } : Jvm.MethodName)) ∈ wT := wT_i2 219 rfl rfl
theorem kw_460 : (Jvm.Cond.selects "PushStick" ({ cls := "PushStick", name := "many", desc := "(I)I" } : Jvm.MethodName) ({ cls := "PushStick", name := "many", desc := "(I)I" } : Jvm.MethodName)) ∈ wT := wT_i2 220 rfl rfl
theorem kw_461 : (Jvm.Cond.code ({ cls := "PushStick", name := "many", desc := "(I)I" } : Jvm.MethodName) prog_1_method_29_code (2 : Nat) (Option.some Jvm.ClassFile.FieldType.int)) ∈ wT := wT_i2 221 rfl rfl
theorem kw_462 : (Jvm.Cond.methodLink "PushStick" (241 : Nat) ({ cls := "PushStick", name := "howManyLoaded", desc := "()I" } : Jvm.MethodName)) ∈ wT := wT_i2 222 rfl rfl
theorem kw_464 : (Jvm.Cond.instanceMethod ({ cls := "PushStick", name := "howManyLoaded", desc := "()I" } : Jvm.MethodName)) ∈ wT := wT_i2 224 rfl rfl
theorem kw_465 : (Jvm.Cond.code ({ cls := "PushStick", name := "howManyLoaded", desc := "()I" } : Jvm.MethodName) prog_1_method_50_code (3 : Nat) (Option.some Jvm.ClassFile.FieldType.int)) ∈ wT := wT_i2 225 rfl rfl
theorem kw_466 : (Jvm.Cond.methodLink "PushStick" (244 : Nat) ({ cls := "PushStick", name := "howManyOn", desc := "()I" } : Jvm.MethodName)) ∈ wT := wT_i2 226 rfl rfl
theorem kw_468 : (Jvm.Cond.instanceMethod ({ cls := "PushStick", name := "howManyOn", desc := "()I" } : Jvm.MethodName)) ∈ wT := wT_i2 228 rfl rfl
theorem kw_469 : (Jvm.Cond.code ({ cls := "PushStick", name := "howManyOn", desc := "()I" } : Jvm.MethodName) prog_1_method_52_code (4 : Nat) (Option.some Jvm.ClassFile.FieldType.int)) ∈ wT := wT_i2 229 rfl rfl
theorem kw_470 : (Jvm.Cond.methodLink "PushStick" (247 : Nat) ({ cls := "PushStick", name := "howManyHeld", desc := "()I" } : Jvm.MethodName)) ∈ wT := wT_i2 230 rfl rfl
theorem kw_472 : (Jvm.Cond.instanceMethod ({ cls := "PushStick", name := "howManyHeld", desc := "()I" } : Jvm.MethodName)) ∈ wT := wT_i2 232 rfl rfl
theorem kw_473 : (Jvm.Cond.code ({ cls := "PushStick", name := "howManyHeld", desc := "()I" } : Jvm.MethodName) prog_1_method_53_code (3 : Nat) (Option.some Jvm.ClassFile.FieldType.int)) ∈ wT := wT_i2 233 rfl rfl
theorem kw_474 : (Jvm.Cond.classLink "PushStickLaw" (10 : Nat) "PushStickModel") ∈ wT := wT_i2 234 rfl rfl
theorem kw_475 : (Jvm.Cond.instantiable "PushStickModel" (21 : Nat)) ∈ wT := wT_i2 235 rfl rfl
theorem kw_476 : (Jvm.Cond.methodLink "PushStickLaw" (12 : Nat) ({ cls := "PushStickModel", name := "<init>", desc := "()V" } : Jvm.MethodName)) ∈ wT := wT_i2 236 rfl rfl
theorem kw_477 : (Jvm.Cond.instanceMethod ({ cls := "PushStickModel", name := "<init>", desc := "()V" } : Jvm.MethodName)) ∈ wT := wT_i2 237 rfl rfl
theorem kw_478 : (Jvm.Cond.code ({ cls := "PushStickModel", name := "<init>", desc := "()V" } : Jvm.MethodName) prog_6_method_1_code (2 : Nat) (Option.none : Option Jvm.ClassFile.FieldType)) ∈ wT := wT_i2 238 rfl rfl
theorem kw_479 : (Jvm.Cond.methodLink "PushStickModel" (1 : Nat) ({ cls := "java/lang/Object", name := "<init>", desc := "()V" } : Jvm.MethodName)) ∈ wT := wT_i2 239 rfl rfl
theorem kw_480 : (Jvm.Cond.fieldLink "PushStickModel" (91 : Nat) "PushStickModel" "now" "I") ∈ wT := wT_i3 0 rfl rfl
theorem kw_481 : (Jvm.Cond.fieldLink "PushStickModel" (94 : Nat) "PushStickModel" "movedAt" "I") ∈ wT := wT_i3 1 rfl rfl
theorem kw_482 : (Jvm.Cond.fieldLink "PushStickModel" (7 : Nat) "PushStickModel" "placeAt" "[I") ∈ wT := wT_i3 2 rfl rfl
theorem kw_483 : (Jvm.Cond.fieldLink "PushStickModel" (13 : Nat) "PushStickModel" "speedAt" "[I") ∈ wT := wT_i3 3 rfl rfl
theorem kw_484 : (Jvm.Cond.fieldLink "PushStickModel" (56 : Nat) "PushStickModel" "effects" "I") ∈ wT := wT_i3 4 rfl rfl
theorem kw_485 : (Jvm.Cond.fieldLink "PushStickModel" (16 : Nat) "PushStickModel" "kindOf" "[I") ∈ wT := wT_i3 5 rfl rfl
theorem kw_486 : (Jvm.Cond.fieldLink "PushStickModel" (19 : Nat) "PushStickModel" "aOf" "[I") ∈ wT := wT_i3 6 rfl rfl
theorem kw_487 : (Jvm.Cond.fieldLink "PushStickModel" (22 : Nat) "PushStickModel" "bOf" "[I") ∈ wT := wT_i3 7 rfl rfl
theorem kw_488 : (Jvm.Cond.fieldLink "PushStickModel" (25 : Nat) "PushStickModel" "cOf" "[I") ∈ wT := wT_i3 8 rfl rfl
theorem kw_489 : (Jvm.Cond.fieldLink "PushStickModel" (28 : Nat) "PushStickModel" "dOf" "[I") ∈ wT := wT_i3 9 rfl rfl
theorem kw_490 : (Jvm.Cond.fieldLink "PushStickModel" (31 : Nat) "PushStickModel" "numbers" "[I") ∈ wT := wT_i3 10 rfl rfl
theorem kw_491 : (Jvm.Cond.fieldLink "PushStickModel" (34 : Nat) "PushStickModel" "startOf" "[I") ∈ wT := wT_i3 11 rfl rfl
theorem kw_492 : (Jvm.Cond.fieldLink "PushStickModel" (37 : Nat) "PushStickModel" "slotsNow" "I") ∈ wT := wT_i3 12 rfl rfl
theorem kw_493 : (Jvm.Cond.fieldLink "PushStickModel" (41 : Nat) "PushStickModel" "slotHas" "[I") ∈ wT := wT_i3 13 rfl rfl
theorem kw_494 : (Jvm.Cond.fieldLink "PushStickModel" (44 : Nat) "PushStickModel" "pressedAt" "[I") ∈ wT := wT_i3 14 rfl rfl
theorem kw_495 : (Jvm.Cond.fieldLink "PushStickModel" (47 : Nat) "PushStickModel" "againBy" "[I") ∈ wT := wT_i3 15 rfl rfl
theorem kw_496 : (Jvm.Cond.fieldLink "PushStickModel" (132 : Nat) "PushStickModel" "watchNow" "I") ∈ wT := wT_i3 16 rfl rfl
theorem kw_497 : (Jvm.Cond.fieldLink "PushStickModel" (135 : Nat) "PushStickModel" "helloAt" "I") ∈ wT := wT_i3 17 rfl rfl
theorem kw_498 : (Jvm.Cond.fieldLink "PushStickModel" (125 : Nat) "PushStickModel" "isLost" "Z") ∈ wT := wT_i3 18 rfl rfl
theorem kw_499 : (Jvm.Cond.fieldLink "PushStickModel" (50 : Nat) "PushStickModel" "masterNow" "I") ∈ wT := wT_i3 19 rfl rfl
theorem kw_500 : (Jvm.Cond.fieldLink "PushStickModel" (53 : Nat) "PushStickModel" "rateNow" "I") ∈ wT := wT_i3 20 rfl rfl
theorem kw_501 : (Jvm.Cond.lays "PushStickModel" "PushStickModel" "now" "I") ∈ wT := wT_i3 21 rfl rfl
theorem kw_503 : (Jvm.Cond.lays "PushStickModel" "PushStickModel" "movedAt" "I") ∈ wT := wT_i3 23 rfl rfl
theorem kw_505 : (Jvm.Cond.laysFinal "PushStickModel" "PushStickModel" "placeAt" "[I") ∈ wT := wT_i3 25 rfl rfl
theorem kw_507 : (Jvm.Cond.laysFinal "PushStickModel" "PushStickModel" "speedAt" "[I") ∈ wT := wT_i3 27 rfl rfl
theorem kw_509 : (Jvm.Cond.lays "PushStickModel" "PushStickModel" "effects" "I") ∈ wT := wT_i3 29 rfl rfl
theorem kw_511 : (Jvm.Cond.laysFinal "PushStickModel" "PushStickModel" "kindOf" "[I") ∈ wT := wT_i3 31 rfl rfl
theorem kw_513 : (Jvm.Cond.laysFinal "PushStickModel" "PushStickModel" "aOf" "[I") ∈ wT := wT_i3 33 rfl rfl
theorem kw_515 : (Jvm.Cond.laysFinal "PushStickModel" "PushStickModel" "bOf" "[I") ∈ wT := wT_i3 35 rfl rfl
theorem kw_517 : (Jvm.Cond.laysFinal "PushStickModel" "PushStickModel" "cOf" "[I") ∈ wT := wT_i3 37 rfl rfl
theorem kw_519 : (Jvm.Cond.laysFinal "PushStickModel" "PushStickModel" "dOf" "[I") ∈ wT := wT_i3 39 rfl rfl
theorem kw_521 : (Jvm.Cond.laysFinal "PushStickModel" "PushStickModel" "numbers" "[I") ∈ wT := wT_i3 41 rfl rfl
theorem kw_523 : (Jvm.Cond.laysFinal "PushStickModel" "PushStickModel" "startOf" "[I") ∈ wT := wT_i3 43 rfl rfl
theorem kw_525 : (Jvm.Cond.lays "PushStickModel" "PushStickModel" "slotsNow" "I") ∈ wT := wT_i3 45 rfl rfl
theorem kw_527 : (Jvm.Cond.laysFinal "PushStickModel" "PushStickModel" "slotHas" "[I") ∈ wT := wT_i3 47 rfl rfl
theorem kw_529 : (Jvm.Cond.laysFinal "PushStickModel" "PushStickModel" "pressedAt" "[I") ∈ wT := wT_i3 49 rfl rfl
theorem kw_531 : (Jvm.Cond.laysFinal "PushStickModel" "PushStickModel" "againBy" "[I") ∈ wT := wT_i3 51 rfl rfl
theorem kw_533 : (Jvm.Cond.lays "PushStickModel" "PushStickModel" "watchNow" "I") ∈ wT := wT_i3 53 rfl rfl
theorem kw_535 : (Jvm.Cond.lays "PushStickModel" "PushStickModel" "helloAt" "I") ∈ wT := wT_i3 55 rfl rfl
theorem kw_537 : (Jvm.Cond.lays "PushStickModel" "PushStickModel" "isLost" "Z") ∈ wT := wT_i3 57 rfl rfl
theorem kw_539 : (Jvm.Cond.lays "PushStickModel" "PushStickModel" "masterNow" "I") ∈ wT := wT_i3 59 rfl rfl
theorem kw_541 : (Jvm.Cond.lays "PushStickModel" "PushStickModel" "rateNow" "I") ∈ wT := wT_i3 61 rfl rfl
theorem kw_543 : (Jvm.Cond.superclass "PushStickModel" "java/lang/Object") ∈ wT := wT_i3 63 rfl rfl
theorem kw_544 : (Jvm.Cond.methodLink "PushStickLaw" (17 : Nat) ({ cls := "PushStickModel", name := "effect", desc := "(IIIII)I" } : Jvm.MethodName)) ∈ wT := wT_i3 64 rfl rfl
theorem kw_545 : (Jvm.Cond.instanceMethod ({ cls := "PushStickModel", name := "effect", desc := "(IIIII)I" } : Jvm.MethodName)) ∈ wT := wT_i3 65 rfl rfl
theorem kw_546 : (Jvm.Cond.selects "PushStickModel" ({ cls := "PushStickModel", name := "effect", desc := "(IIIII)I" } : Jvm.MethodName) ({ cls := "PushStickModel", name := "effect", desc := "(IIIII)I" } : Jvm.MethodName)) ∈ wT := wT_i3 66 rfl rfl
theorem kw_547 : (Jvm.Cond.code ({ cls := "PushStickModel", name := "effect", desc := "(IIIII)I" } : Jvm.MethodName) prog_6_method_9_code (8 : Nat) (Option.some Jvm.ClassFile.FieldType.int)) ∈ wT := wT_i3 67 rfl rfl
theorem kw_548 : (Jvm.Cond.methodLink "PushStickModel" (63 : Nat) ({ cls := "PushStickModel", name := "mayBe", desc := "(IIIII)Z" } : Jvm.MethodName)) ∈ wT := wT_i3 68 rfl rfl
theorem kw_549 : (Jvm.Cond.static ({ cls := "PushStickModel", name := "mayBe", desc := "(IIIII)Z" } : Jvm.MethodName)) ∈ wT := wT_i3 69 rfl rfl
theorem kw_550 : (Jvm.Cond.code ({ cls := "PushStickModel", name := "mayBe", desc := "(IIIII)Z" } : Jvm.MethodName) prog_6_method_8_code (6 : Nat) (Option.some Jvm.ClassFile.FieldType.boolean)) ∈ wT := wT_i3 70 rfl rfl
theorem kw_551 : (Jvm.Cond.methodLink "PushStickModel" (59 : Nat) ({ cls := "PushStickModel", name := "within", desc := "(III)Z" } : Jvm.MethodName)) ∈ wT := wT_i3 71 rfl rfl
theorem kw_552 : (Jvm.Cond.static ({ cls := "PushStickModel", name := "within", desc := "(III)Z" } : Jvm.MethodName)) ∈ wT := wT_i3 72 rfl rfl
theorem kw_553 : (Jvm.Cond.code ({ cls := "PushStickModel", name := "within", desc := "(III)Z" } : Jvm.MethodName) prog_6_method_2_code (3 : Nat) (Option.some Jvm.ClassFile.FieldType.boolean)) ∈ wT := wT_i3 73 rfl rfl
theorem kw_554 : (Jvm.Cond.methodLink "PushStickLaw" (22 : Nat) ({ cls := "PushStickModel", name := "set", desc := "(III)I" } : Jvm.MethodName)) ∈ wT := wT_i3 74 rfl rfl
theorem kw_555 : (Jvm.Cond.instanceMethod ({ cls := "PushStickModel", name := "set", desc := "(III)I" } : Jvm.MethodName)) ∈ wT := wT_i3 75 rfl rfl
theorem kw_556 : (Jvm.Cond.selects "PushStickModel" ({ cls := "PushStickModel", name := "set", desc := "(III)I" } : Jvm.MethodName) ({ cls := "PushStickModel", name := "set", desc := "(III)I" } : Jvm.MethodName)) ∈ wT := wT_i3 76 rfl rfl
theorem kw_557 : (Jvm.Cond.code ({ cls := "PushStickModel", name := "set", desc := "(III)I" } : Jvm.MethodName) prog_6_method_13_code (5 : Nat) (Option.some Jvm.ClassFile.FieldType.int)) ∈ wT := wT_i3 77 rfl rfl
theorem kw_558 : (Jvm.Cond.methodLink "PushStickModel" (76 : Nat) ({ cls := "PushStickModel", name := "isEffect", desc := "(I)Z" } : Jvm.MethodName)) ∈ wT := wT_i3 78 rfl rfl
theorem kw_560 : (Jvm.Cond.instanceMethod ({ cls := "PushStickModel", name := "isEffect", desc := "(I)Z" } : Jvm.MethodName)) ∈ wT := wT_i3 80 rfl rfl
theorem kw_561 : (Jvm.Cond.code ({ cls := "PushStickModel", name := "isEffect", desc := "(I)Z" } : Jvm.MethodName) prog_6_method_5_code (2 : Nat) (Option.some Jvm.ClassFile.FieldType.boolean)) ∈ wT := wT_i3 81 rfl rfl
theorem kw_562 : (Jvm.Cond.methodLink "PushStickModel" (80 : Nat) ({ cls := "PushStickModel", name := "mayBeNumber", desc := "(II)Z" } : Jvm.MethodName)) ∈ wT := wT_i3 82 rfl rfl
theorem kw_563 : (Jvm.Cond.static ({ cls := "PushStickModel", name := "mayBeNumber", desc := "(II)Z" } : Jvm.MethodName)) ∈ wT := wT_i3 83 rfl rfl
theorem kw_564 : (Jvm.Cond.code ({ cls := "PushStickModel", name := "mayBeNumber", desc := "(II)Z" } : Jvm.MethodName) prog_6_method_11_code (3 : Nat) (Option.some Jvm.ClassFile.FieldType.boolean)) ∈ wT := wT_i3 84 rfl rfl
theorem kw_565 : (Jvm.Cond.methodLink "PushStickModel" (68 : Nat) ({ cls := "PushStickModel", name := "mostOf", desc := "(I)I" } : Jvm.MethodName)) ∈ wT := wT_i3 85 rfl rfl
theorem kw_566 : (Jvm.Cond.static ({ cls := "PushStickModel", name := "mostOf", desc := "(I)I" } : Jvm.MethodName)) ∈ wT := wT_i3 86 rfl rfl
theorem kw_567 : (Jvm.Cond.code ({ cls := "PushStickModel", name := "mostOf", desc := "(I)I" } : Jvm.MethodName) prog_6_method_10_code (1 : Nat) (Option.some Jvm.ClassFile.FieldType.int)) ∈ wT := wT_i3 87 rfl rfl
theorem kw_568 : (Jvm.Cond.constant "PushStickModel" (67 : Nat) (60000 : Int32)) ∈ wT := wT_i3 88 rfl rfl
theorem kw_569 : (Jvm.Cond.methodLink "PushStickModel" (84 : Nat) ({ cls := "PushStickModel", name := "tellNumber", desc := "(II)I" } : Jvm.MethodName)) ∈ wT := wT_i3 89 rfl rfl
theorem kw_571 : (Jvm.Cond.instanceMethod ({ cls := "PushStickModel", name := "tellNumber", desc := "(II)I" } : Jvm.MethodName)) ∈ wT := wT_i3 91 rfl rfl
theorem kw_572 : (Jvm.Cond.code ({ cls := "PushStickModel", name := "tellNumber", desc := "(II)I" } : Jvm.MethodName) prog_6_method_12_code (3 : Nat) (Option.some Jvm.ClassFile.FieldType.int)) ∈ wT := wT_i3 92 rfl rfl
theorem kw_573 : (Jvm.Cond.methodLink "PushStickModel" (72 : Nat) ({ cls := "PushStickModel", name := "numberOf", desc := "(II)I" } : Jvm.MethodName)) ∈ wT := wT_i3 93 rfl rfl
theorem kw_575 : (Jvm.Cond.instanceMethod ({ cls := "PushStickModel", name := "numberOf", desc := "(II)I" } : Jvm.MethodName)) ∈ wT := wT_i3 95 rfl rfl
theorem kw_576 : (Jvm.Cond.code ({ cls := "PushStickModel", name := "numberOf", desc := "(II)I" } : Jvm.MethodName) prog_6_method_7_code (3 : Nat) (Option.some Jvm.ClassFile.FieldType.int)) ∈ wT := wT_i3 96 rfl rfl
theorem kw_577 : (Jvm.Cond.methodLink "PushStickLaw" (27 : Nat) ({ cls := "PushStickModel", name := "drop", desc := "()I" } : Jvm.MethodName)) ∈ wT := wT_i3 97 rfl rfl
theorem kw_578 : (Jvm.Cond.instanceMethod ({ cls := "PushStickModel", name := "drop", desc := "()I" } : Jvm.MethodName)) ∈ wT := wT_i3 98 rfl rfl
theorem kw_579 : (Jvm.Cond.selects "PushStickModel" ({ cls := "PushStickModel", name := "drop", desc := "()I" } : Jvm.MethodName) ({ cls := "PushStickModel", name := "drop", desc := "()I" } : Jvm.MethodName)) ∈ wT := wT_i3 99 rfl rfl
theorem kw_580 : (Jvm.Cond.code ({ cls := "PushStickModel", name := "drop", desc := "()I" } : Jvm.MethodName) prog_6_method_14_code (1 : Nat) (Option.some Jvm.ClassFile.FieldType.int)) ∈ wT := wT_i3 100 rfl rfl
theorem kw_581 : (Jvm.Cond.methodLink "PushStickModel" (87 : Nat) ({ cls := "PushStickModel", name := "goes", desc := "(I)V" } : Jvm.MethodName)) ∈ wT := wT_i3 101 rfl rfl
theorem kw_583 : (Jvm.Cond.instanceMethod ({ cls := "PushStickModel", name := "goes", desc := "(I)V" } : Jvm.MethodName)) ∈ wT := wT_i3 103 rfl rfl
theorem kw_584 : (Jvm.Cond.code ({ cls := "PushStickModel", name := "goes", desc := "(I)V" } : Jvm.MethodName) prog_6_method_22_code (4 : Nat) (Option.none : Option Jvm.ClassFile.FieldType)) ∈ wT := wT_i3 104 rfl rfl
theorem kw_585 : (Jvm.Cond.methodLink "PushStickModel" (105 : Nat) ({ cls := "PushStickModel", name := "slotOf", desc := "(I)I" } : Jvm.MethodName)) ∈ wT := wT_i3 105 rfl rfl
theorem kw_587 : (Jvm.Cond.instanceMethod ({ cls := "PushStickModel", name := "slotOf", desc := "(I)I" } : Jvm.MethodName)) ∈ wT := wT_i3 107 rfl rfl
theorem kw_588 : (Jvm.Cond.code ({ cls := "PushStickModel", name := "slotOf", desc := "(I)I" } : Jvm.MethodName) prog_6_method_19_code (3 : Nat) (Option.some Jvm.ClassFile.FieldType.int)) ∈ wT := wT_i3 108 rfl rfl
theorem kw_589 : (Jvm.Cond.methodLink "PushStickLaw" (32 : Nat) ({ cls := "PushStickModel", name := "hand", desc := "(II)I" } : Jvm.MethodName)) ∈ wT := wT_i3 109 rfl rfl
theorem kw_590 : (Jvm.Cond.instanceMethod ({ cls := "PushStickModel", name := "hand", desc := "(II)I" } : Jvm.MethodName)) ∈ wT := wT_i3 110 rfl rfl
theorem kw_591 : (Jvm.Cond.selects "PushStickModel" ({ cls := "PushStickModel", name := "hand", desc := "(II)I" } : Jvm.MethodName) ({ cls := "PushStickModel", name := "hand", desc := "(II)I" } : Jvm.MethodName)) ∈ wT := wT_i3 111 rfl rfl
theorem kw_592 : (Jvm.Cond.code ({ cls := "PushStickModel", name := "hand", desc := "(II)I" } : Jvm.MethodName) prog_6_method_16_code (3 : Nat) (Option.some Jvm.ClassFile.FieldType.int)) ∈ wT := wT_i3 112 rfl rfl
theorem kw_593 : (Jvm.Cond.methodLink "PushStickModel" (97 : Nat) ({ cls := "PushStickModel", name := "moves", desc := "(II)V" } : Jvm.MethodName)) ∈ wT := wT_i3 113 rfl rfl
theorem kw_595 : (Jvm.Cond.instanceMethod ({ cls := "PushStickModel", name := "moves", desc := "(II)V" } : Jvm.MethodName)) ∈ wT := wT_i3 115 rfl rfl
theorem kw_596 : (Jvm.Cond.code ({ cls := "PushStickModel", name := "moves", desc := "(II)V" } : Jvm.MethodName) prog_6_method_15_code (4 : Nat) (Option.none : Option Jvm.ClassFile.FieldType)) ∈ wT := wT_i3 116 rfl rfl
theorem kw_597 : (Jvm.Cond.methodLink "PushStickLaw" (36 : Nat) ({ cls := "PushStickModel", name := "ofAxis", desc := "(II)I" } : Jvm.MethodName)) ∈ wT := wT_i3 117 rfl rfl
theorem kw_598 : (Jvm.Cond.instanceMethod ({ cls := "PushStickModel", name := "ofAxis", desc := "(II)I" } : Jvm.MethodName)) ∈ wT := wT_i3 118 rfl rfl
theorem kw_599 : (Jvm.Cond.selects "PushStickModel" ({ cls := "PushStickModel", name := "ofAxis", desc := "(II)I" } : Jvm.MethodName) ({ cls := "PushStickModel", name := "ofAxis", desc := "(II)I" } : Jvm.MethodName)) ∈ wT := wT_i3 119 rfl rfl
theorem kw_600 : (Jvm.Cond.code ({ cls := "PushStickModel", name := "ofAxis", desc := "(II)I" } : Jvm.MethodName) prog_6_method_17_code (3 : Nat) (Option.some Jvm.ClassFile.FieldType.int)) ∈ wT := wT_i3 120 rfl rfl
theorem kw_601 : (Jvm.Cond.methodLink "PushStickModel" (101 : Nat) ({ cls := "PushStickModel", name := "isAxis", desc := "(I)Z" } : Jvm.MethodName)) ∈ wT := wT_i3 121 rfl rfl
theorem kw_602 : (Jvm.Cond.static ({ cls := "PushStickModel", name := "isAxis", desc := "(I)Z" } : Jvm.MethodName)) ∈ wT := wT_i3 122 rfl rfl
theorem kw_603 : (Jvm.Cond.code ({ cls := "PushStickModel", name := "isAxis", desc := "(I)Z" } : Jvm.MethodName) prog_6_method_6_code (1 : Nat) (Option.some Jvm.ClassFile.FieldType.boolean)) ∈ wT := wT_i3 123 rfl rfl
theorem kw_604 : (Jvm.Cond.constant "PushStickModel" (104 : Nat) (10000000 : Int32)) ∈ wT := wT_i3 124 rfl rfl
theorem kw_605 : (Jvm.Cond.methodLink "PushStickLaw" (40 : Nat) ({ cls := "PushStickModel", name := "ofEffect", desc := "(II)I" } : Jvm.MethodName)) ∈ wT := wT_i3 125 rfl rfl
theorem kw_606 : (Jvm.Cond.instanceMethod ({ cls := "PushStickModel", name := "ofEffect", desc := "(II)I" } : Jvm.MethodName)) ∈ wT := wT_i3 126 rfl rfl
theorem kw_607 : (Jvm.Cond.selects "PushStickModel" ({ cls := "PushStickModel", name := "ofEffect", desc := "(II)I" } : Jvm.MethodName) ({ cls := "PushStickModel", name := "ofEffect", desc := "(II)I" } : Jvm.MethodName)) ∈ wT := wT_i3 127 rfl rfl
theorem kw_608 : (Jvm.Cond.code ({ cls := "PushStickModel", name := "ofEffect", desc := "(II)I" } : Jvm.MethodName) prog_6_method_18_code (3 : Nat) (Option.some Jvm.ClassFile.FieldType.int)) ∈ wT := wT_i3 128 rfl rfl
theorem kw_609 : (Jvm.Cond.methodLink "PushStickModel" (108 : Nat) ({ cls := "PushStickModel", name := "doesPlay", desc := "(III)Z" } : Jvm.MethodName)) ∈ wT := wT_i3 129 rfl rfl
theorem kw_611 : (Jvm.Cond.instanceMethod ({ cls := "PushStickModel", name := "doesPlay", desc := "(III)Z" } : Jvm.MethodName)) ∈ wT := wT_i3 131 rfl rfl
theorem kw_612 : (Jvm.Cond.code ({ cls := "PushStickModel", name := "doesPlay", desc := "(III)Z" } : Jvm.MethodName) prog_6_method_20_code (5 : Nat) (Option.some Jvm.ClassFile.FieldType.boolean)) ∈ wT := wT_i3 132 rfl rfl
theorem kw_613 : (Jvm.Cond.methodLink "PushStickModel" (111 : Nat) ({ cls := "PushStickModel", name := "isOn", desc := "(III)Z" } : Jvm.MethodName)) ∈ wT := wT_i3 133 rfl rfl
theorem kw_615 : (Jvm.Cond.instanceMethod ({ cls := "PushStickModel", name := "isOn", desc := "(III)Z" } : Jvm.MethodName)) ∈ wT := wT_i3 135 rfl rfl
theorem kw_616 : (Jvm.Cond.code ({ cls := "PushStickModel", name := "isOn", desc := "(III)Z" } : Jvm.MethodName) prog_6_method_21_code (4 : Nat) (Option.some Jvm.ClassFile.FieldType.boolean)) ∈ wT := wT_i3 136 rfl rfl
theorem kw_617 : (Jvm.Cond.methodLink "PushStickLaw" (45 : Nat) ({ cls := "PushStickModel", name := "slots", desc := "(I)I" } : Jvm.MethodName)) ∈ wT := wT_i3 137 rfl rfl
theorem kw_618 : (Jvm.Cond.instanceMethod ({ cls := "PushStickModel", name := "slots", desc := "(I)I" } : Jvm.MethodName)) ∈ wT := wT_i3 138 rfl rfl
theorem kw_619 : (Jvm.Cond.selects "PushStickModel" ({ cls := "PushStickModel", name := "slots", desc := "(I)I" } : Jvm.MethodName) ({ cls := "PushStickModel", name := "slots", desc := "(I)I" } : Jvm.MethodName)) ∈ wT := wT_i3 139 rfl rfl
theorem kw_620 : (Jvm.Cond.code ({ cls := "PushStickModel", name := "slots", desc := "(I)I" } : Jvm.MethodName) prog_6_method_23_code (3 : Nat) (Option.some Jvm.ClassFile.FieldType.int)) ∈ wT := wT_i3 140 rfl rfl
theorem kw_621 : (Jvm.Cond.methodLink "PushStickLaw" (49 : Nat) ({ cls := "PushStickModel", name := "slot", desc := "(I)I" } : Jvm.MethodName)) ∈ wT := wT_i3 141 rfl rfl
theorem kw_622 : (Jvm.Cond.instanceMethod ({ cls := "PushStickModel", name := "slot", desc := "(I)I" } : Jvm.MethodName)) ∈ wT := wT_i3 142 rfl rfl
theorem kw_623 : (Jvm.Cond.selects "PushStickModel" ({ cls := "PushStickModel", name := "slot", desc := "(I)I" } : Jvm.MethodName) ({ cls := "PushStickModel", name := "slot", desc := "(I)I" } : Jvm.MethodName)) ∈ wT := wT_i3 143 rfl rfl
theorem kw_624 : (Jvm.Cond.code ({ cls := "PushStickModel", name := "slot", desc := "(I)I" } : Jvm.MethodName) prog_6_method_24_code (2 : Nat) (Option.some Jvm.ClassFile.FieldType.int)) ∈ wT := wT_i3 144 rfl rfl
theorem kw_625 : (Jvm.Cond.methodLink "PushStickLaw" (53 : Nat) ({ cls := "PushStickModel", name := "load", desc := "(I)I" } : Jvm.MethodName)) ∈ wT := wT_i3 145 rfl rfl
theorem kw_626 : (Jvm.Cond.instanceMethod ({ cls := "PushStickModel", name := "load", desc := "(I)I" } : Jvm.MethodName)) ∈ wT := wT_i3 146 rfl rfl
theorem kw_627 : (Jvm.Cond.selects "PushStickModel" ({ cls := "PushStickModel", name := "load", desc := "(I)I" } : Jvm.MethodName) ({ cls := "PushStickModel", name := "load", desc := "(I)I" } : Jvm.MethodName)) ∈ wT := wT_i3 147 rfl rfl
theorem kw_628 : (Jvm.Cond.code ({ cls := "PushStickModel", name := "load", desc := "(I)I" } : Jvm.MethodName) prog_6_method_28_code (3 : Nat) (Option.some Jvm.ClassFile.FieldType.int)) ∈ wT := wT_i3 148 rfl rfl
theorem kw_629 : (Jvm.Cond.methodLink "PushStickModel" (122 : Nat) ({ cls := "PushStickModel", name := "loads", desc := "(I)I" } : Jvm.MethodName)) ∈ wT := wT_i3 149 rfl rfl
theorem kw_631 : (Jvm.Cond.instanceMethod ({ cls := "PushStickModel", name := "loads", desc := "(I)I" } : Jvm.MethodName)) ∈ wT := wT_i3 151 rfl rfl
theorem kw_632 : (Jvm.Cond.code ({ cls := "PushStickModel", name := "loads", desc := "(I)I" } : Jvm.MethodName) prog_6_method_27_code (5 : Nat) (Option.some Jvm.ClassFile.FieldType.int)) ∈ wT := wT_i3 152 rfl rfl
theorem kw_633 : (Jvm.Cond.methodLink "PushStickModel" (114 : Nat) ({ cls := "PushStickModel", name := "freeSlot", desc := "()I" } : Jvm.MethodName)) ∈ wT := wT_i3 153 rfl rfl
theorem kw_635 : (Jvm.Cond.instanceMethod ({ cls := "PushStickModel", name := "freeSlot", desc := "()I" } : Jvm.MethodName)) ∈ wT := wT_i3 155 rfl rfl
theorem kw_636 : (Jvm.Cond.code ({ cls := "PushStickModel", name := "freeSlot", desc := "()I" } : Jvm.MethodName) prog_6_method_25_code (2 : Nat) (Option.some Jvm.ClassFile.FieldType.int)) ∈ wT := wT_i3 156 rfl rfl
theorem kw_637 : (Jvm.Cond.methodLink "PushStickModel" (118 : Nat) ({ cls := "PushStickModel", name := "firstToGo", desc := "(ZI)I" } : Jvm.MethodName)) ∈ wT := wT_i3 157 rfl rfl
theorem kw_639 : (Jvm.Cond.instanceMethod ({ cls := "PushStickModel", name := "firstToGo", desc := "(ZI)I" } : Jvm.MethodName)) ∈ wT := wT_i3 159 rfl rfl
theorem kw_640 : (Jvm.Cond.code ({ cls := "PushStickModel", name := "firstToGo", desc := "(ZI)I" } : Jvm.MethodName) prog_6_method_26_code (6 : Nat) (Option.some Jvm.ClassFile.FieldType.int)) ∈ wT := wT_i3 160 rfl rfl
theorem kw_641 : (Jvm.Cond.methodLink "PushStickLaw" (57 : Nat) ({ cls := "PushStickModel", name := "unload", desc := "(I)I" } : Jvm.MethodName)) ∈ wT := wT_i3 161 rfl rfl
theorem kw_642 : (Jvm.Cond.instanceMethod ({ cls := "PushStickModel", name := "unload", desc := "(I)I" } : Jvm.MethodName)) ∈ wT := wT_i3 162 rfl rfl
theorem kw_643 : (Jvm.Cond.selects "PushStickModel" ({ cls := "PushStickModel", name := "unload", desc := "(I)I" } : Jvm.MethodName) ({ cls := "PushStickModel", name := "unload", desc := "(I)I" } : Jvm.MethodName)) ∈ wT := wT_i3 163 rfl rfl
theorem kw_644 : (Jvm.Cond.code ({ cls := "PushStickModel", name := "unload", desc := "(I)I" } : Jvm.MethodName) prog_6_method_29_code (3 : Nat) (Option.some Jvm.ClassFile.FieldType.int)) ∈ wT := wT_i3 164 rfl rfl
theorem kw_645 : (Jvm.Cond.methodLink "PushStickLaw" (61 : Nat) ({ cls := "PushStickModel", name := "play", desc := "(I)I" } : Jvm.MethodName)) ∈ wT := wT_i3 165 rfl rfl
theorem kw_646 : (Jvm.Cond.instanceMethod ({ cls := "PushStickModel", name := "play", desc := "(I)I" } : Jvm.MethodName)) ∈ wT := wT_i3 166 rfl rfl
theorem kw_647 : (Jvm.Cond.selects "PushStickModel" ({ cls := "PushStickModel", name := "play", desc := "(I)I" } : Jvm.MethodName) ({ cls := "PushStickModel", name := "play", desc := "(I)I" } : Jvm.MethodName)) ∈ wT := wT_i3 167 rfl rfl
theorem kw_648 : (Jvm.Cond.code ({ cls := "PushStickModel", name := "play", desc := "(I)I" } : Jvm.MethodName) prog_6_method_30_code (3 : Nat) (Option.some Jvm.ClassFile.FieldType.int)) ∈ wT := wT_i3 168 rfl rfl
theorem kw_649 : (Jvm.Cond.methodLink "PushStickLaw" (65 : Nat) ({ cls := "PushStickModel", name := "stop", desc := "(I)I" } : Jvm.MethodName)) ∈ wT := wT_i3 169 rfl rfl
theorem kw_650 : (Jvm.Cond.instanceMethod ({ cls := "PushStickModel", name := "stop", desc := "(I)I" } : Jvm.MethodName)) ∈ wT := wT_i3 170 rfl rfl
theorem kw_651 : (Jvm.Cond.selects "PushStickModel" ({ cls := "PushStickModel", name := "stop", desc := "(I)I" } : Jvm.MethodName) ({ cls := "PushStickModel", name := "stop", desc := "(I)I" } : Jvm.MethodName)) ∈ wT := wT_i3 171 rfl rfl
theorem kw_652 : (Jvm.Cond.code ({ cls := "PushStickModel", name := "stop", desc := "(I)I" } : Jvm.MethodName) prog_6_method_31_code (3 : Nat) (Option.some Jvm.ClassFile.FieldType.int)) ∈ wT := wT_i3 172 rfl rfl
theorem kw_653 : (Jvm.Cond.methodLink "PushStickLaw" (69 : Nat) ({ cls := "PushStickModel", name := "press", desc := "(I)I" } : Jvm.MethodName)) ∈ wT := wT_i3 173 rfl rfl
theorem kw_654 : (Jvm.Cond.instanceMethod ({ cls := "PushStickModel", name := "press", desc := "(I)I" } : Jvm.MethodName)) ∈ wT := wT_i3 174 rfl rfl
theorem kw_655 : (Jvm.Cond.selects "PushStickModel" ({ cls := "PushStickModel", name := "press", desc := "(I)I" } : Jvm.MethodName) ({ cls := "PushStickModel", name := "press", desc := "(I)I" } : Jvm.MethodName)) ∈ wT := wT_i3 175 rfl rfl
theorem kw_656 : (Jvm.Cond.code ({ cls := "PushStickModel", name := "press", desc := "(I)I" } : Jvm.MethodName) prog_6_method_32_code (5 : Nat) (Option.some Jvm.ClassFile.FieldType.int)) ∈ wT := wT_i3 176 rfl rfl
theorem kw_657 : (Jvm.Cond.methodLink "PushStickLaw" (73 : Nat) ({ cls := "PushStickModel", name := "free", desc := "(I)I" } : Jvm.MethodName)) ∈ wT := wT_i3 177 rfl rfl
theorem kw_658 : (Jvm.Cond.instanceMethod ({ cls := "PushStickModel", name := "free", desc := "(I)I" } : Jvm.MethodName)) ∈ wT := wT_i3 178 rfl rfl
theorem kw_659 : (Jvm.Cond.selects "PushStickModel" ({ cls := "PushStickModel", name := "free", desc := "(I)I" } : Jvm.MethodName) ({ cls := "PushStickModel", name := "free", desc := "(I)I" } : Jvm.MethodName)) ∈ wT := wT_i3 179 rfl rfl
theorem kw_660 : (Jvm.Cond.code ({ cls := "PushStickModel", name := "free", desc := "(I)I" } : Jvm.MethodName) prog_6_method_34_code (3 : Nat) (Option.some Jvm.ClassFile.FieldType.int)) ∈ wT := wT_i3 180 rfl rfl
theorem kw_661 : (Jvm.Cond.methodLink "PushStickModel" (129 : Nat) ({ cls := "PushStickModel", name := "comesUp", desc := "(I)V" } : Jvm.MethodName)) ∈ wT := wT_i3 181 rfl rfl
theorem kw_663 : (Jvm.Cond.instanceMethod ({ cls := "PushStickModel", name := "comesUp", desc := "(I)V" } : Jvm.MethodName)) ∈ wT := wT_i3 183 rfl rfl
theorem kw_664 : (Jvm.Cond.code ({ cls := "PushStickModel", name := "comesUp", desc := "(I)V" } : Jvm.MethodName) prog_6_method_33_code (3 : Nat) (Option.none : Option Jvm.ClassFile.FieldType)) ∈ wT := wT_i3 184 rfl rfl
theorem kw_665 : (Jvm.Cond.methodLink "PushStickLaw" (77 : Nat) ({ cls := "PushStickModel", name := "pass", desc := "(I)I" } : Jvm.MethodName)) ∈ wT := wT_i3 185 rfl rfl
theorem kw_666 : (Jvm.Cond.instanceMethod ({ cls := "PushStickModel", name := "pass", desc := "(I)I" } : Jvm.MethodName)) ∈ wT := wT_i3 186 rfl rfl
theorem kw_667 : (Jvm.Cond.selects "PushStickModel" ({ cls := "PushStickModel", name := "pass", desc := "(I)I" } : Jvm.MethodName) ({ cls := "PushStickModel", name := "pass", desc := "(I)I" } : Jvm.MethodName)) ∈ wT := wT_i3 187 rfl rfl
theorem kw_668 : (Jvm.Cond.code ({ cls := "PushStickModel", name := "pass", desc := "(I)I" } : Jvm.MethodName) prog_6_method_39_code (4 : Nat) (Option.some Jvm.ClassFile.FieldType.int)) ∈ wT := wT_i3 188 rfl rfl
theorem kw_669 : (Jvm.Cond.constant "PushStickModel" (142 : Nat) (100000 : Int32)) ∈ wT := wT_i3 189 rfl rfl
theorem kw_670 : (Jvm.Cond.methodLink "PushStickModel" (143 : Nat) ({ cls := "PushStickModel", name := "isLostBy", desc := "(I)Z" } : Jvm.MethodName)) ∈ wT := wT_i3 190 rfl rfl
theorem kw_672 : (Jvm.Cond.instanceMethod ({ cls := "PushStickModel", name := "isLostBy", desc := "(I)Z" } : Jvm.MethodName)) ∈ wT := wT_i3 192 rfl rfl
theorem kw_673 : (Jvm.Cond.code ({ cls := "PushStickModel", name := "isLostBy", desc := "(I)Z" } : Jvm.MethodName) prog_6_method_35_code (2 : Nat) (Option.some Jvm.ClassFile.FieldType.boolean)) ∈ wT := wT_i3 193 rfl rfl
theorem kw_674 : (Jvm.Cond.methodLink "PushStickModel" (146 : Nat) ({ cls := "PushStickModel", name := "getsLost", desc := "(I)V" } : Jvm.MethodName)) ∈ wT := wT_i3 194 rfl rfl
theorem kw_676 : (Jvm.Cond.instanceMethod ({ cls := "PushStickModel", name := "getsLost", desc := "(I)V" } : Jvm.MethodName)) ∈ wT := wT_i3 196 rfl rfl
theorem kw_677 : (Jvm.Cond.code ({ cls := "PushStickModel", name := "getsLost", desc := "(I)V" } : Jvm.MethodName) prog_6_method_37_code (3 : Nat) (Option.none : Option Jvm.ClassFile.FieldType)) ∈ wT := wT_i3 197 rfl rfl
theorem kw_678 : (Jvm.Cond.methodLink "PushStickModel" (138 : Nat) ({ cls := "PushStickModel", name := "startAt", desc := "(III)I" } : Jvm.MethodName)) ∈ wT := wT_i3 198 rfl rfl
theorem kw_680 : (Jvm.Cond.instanceMethod ({ cls := "PushStickModel", name := "startAt", desc := "(III)I" } : Jvm.MethodName)) ∈ wT := wT_i3 200 rfl rfl
theorem kw_681 : (Jvm.Cond.code ({ cls := "PushStickModel", name := "startAt", desc := "(III)I" } : Jvm.MethodName) prog_6_method_36_code (8 : Nat) (Option.some Jvm.ClassFile.FieldType.int)) ∈ wT := wT_i3 201 rfl rfl
theorem kw_682 : (Jvm.Cond.methodLink "PushStickModel" (149 : Nat) ({ cls := "PushStickModel", name := "manyPlay", desc := "()I" } : Jvm.MethodName)) ∈ wT := wT_i3 202 rfl rfl
theorem kw_684 : (Jvm.Cond.instanceMethod ({ cls := "PushStickModel", name := "manyPlay", desc := "()I" } : Jvm.MethodName)) ∈ wT := wT_i3 204 rfl rfl
theorem kw_685 : (Jvm.Cond.code ({ cls := "PushStickModel", name := "manyPlay", desc := "()I" } : Jvm.MethodName) prog_6_method_38_code (3 : Nat) (Option.some Jvm.ClassFile.FieldType.int)) ∈ wT := wT_i3 205 rfl rfl
theorem kw_686 : (Jvm.Cond.methodLink "PushStickLaw" (81 : Nat) ({ cls := "PushStickModel", name := "hello", desc := "()I" } : Jvm.MethodName)) ∈ wT := wT_i3 206 rfl rfl
theorem kw_687 : (Jvm.Cond.instanceMethod ({ cls := "PushStickModel", name := "hello", desc := "()I" } : Jvm.MethodName)) ∈ wT := wT_i3 207 rfl rfl
theorem kw_688 : (Jvm.Cond.selects "PushStickModel" ({ cls := "PushStickModel", name := "hello", desc := "()I" } : Jvm.MethodName) ({ cls := "PushStickModel", name := "hello", desc := "()I" } : Jvm.MethodName)) ∈ wT := wT_i3 208 rfl rfl
theorem kw_689 : (Jvm.Cond.code ({ cls := "PushStickModel", name := "hello", desc := "()I" } : Jvm.MethodName) prog_6_method_40_code (2 : Nat) (Option.some Jvm.ClassFile.FieldType.int)) ∈ wT := wT_i3 209 rfl rfl
theorem kw_690 : (Jvm.Cond.methodLink "PushStickLaw" (85 : Nat) ({ cls := "PushStickModel", name := "watch", desc := "(I)I" } : Jvm.MethodName)) ∈ wT := wT_i3 210 rfl rfl
theorem kw_691 : (Jvm.Cond.instanceMethod ({ cls := "PushStickModel", name := "watch", desc := "(I)I" } : Jvm.MethodName)) ∈ wT := wT_i3 211 rfl rfl
theorem kw_692 : (Jvm.Cond.selects "PushStickModel" ({ cls := "PushStickModel", name := "watch", desc := "(I)I" } : Jvm.MethodName) ({ cls := "PushStickModel", name := "watch", desc := "(I)I" } : Jvm.MethodName)) ∈ wT := wT_i3 212 rfl rfl
theorem kw_693 : (Jvm.Cond.code ({ cls := "PushStickModel", name := "watch", desc := "(I)I" } : Jvm.MethodName) prog_6_method_41_code (3 : Nat) (Option.some Jvm.ClassFile.FieldType.int)) ∈ wT := wT_i3 213 rfl rfl
theorem kw_694 : (Jvm.Cond.methodLink "PushStickLaw" (89 : Nat) ({ cls := "PushStickModel", name := "master", desc := "(I)I" } : Jvm.MethodName)) ∈ wT := wT_i3 214 rfl rfl
theorem kw_695 : (Jvm.Cond.instanceMethod ({ cls := "PushStickModel", name := "master", desc := "(I)I" } : Jvm.MethodName)) ∈ wT := wT_i3 215 rfl rfl
theorem kw_696 : (Jvm.Cond.selects "PushStickModel" ({ cls := "PushStickModel", name := "master", desc := "(I)I" } : Jvm.MethodName) ({ cls := "PushStickModel", name := "master", desc := "(I)I" } : Jvm.MethodName)) ∈ wT := wT_i3 216 rfl rfl
theorem kw_697 : (Jvm.Cond.code ({ cls := "PushStickModel", name := "master", desc := "(I)I" } : Jvm.MethodName) prog_6_method_42_code (3 : Nat) (Option.some Jvm.ClassFile.FieldType.int)) ∈ wT := wT_i3 217 rfl rfl
theorem kw_698 : (Jvm.Cond.methodLink "PushStickLaw" (93 : Nat) ({ cls := "PushStickModel", name := "part", desc := "(II)I" } : Jvm.MethodName)) ∈ wT := wT_i3 218 rfl rfl
theorem kw_699 : (Jvm.Cond.instanceMethod ({ cls := "PushStickModel", name := "part", desc := "(II)I" } : Jvm.MethodName)) ∈ wT := wT_i3 219 rfl rfl
theorem kw_700 : (Jvm.Cond.selects "PushStickModel" ({ cls := "PushStickModel", name := "part", desc := "(II)I" } : Jvm.MethodName) ({ cls := "PushStickModel", name := "part", desc := "(II)I" } : Jvm.MethodName)) ∈ wT := wT_i3 220 rfl rfl
theorem kw_701 : (Jvm.Cond.code ({ cls := "PushStickModel", name := "part", desc := "(II)I" } : Jvm.MethodName) prog_6_method_50_code (3 : Nat) (Option.some Jvm.ClassFile.FieldType.int)) ∈ wT := wT_i3 221 rfl rfl
theorem kw_702 : (Jvm.Cond.methodLink "PushStickModel" (173 : Nat) ({ cls := "PushStickModel", name := "partAt", desc := "(IIII)I" } : Jvm.MethodName)) ∈ wT := wT_i3 222 rfl rfl
theorem kw_704 : (Jvm.Cond.instanceMethod ({ cls := "PushStickModel", name := "partAt", desc := "(IIII)I" } : Jvm.MethodName)) ∈ wT := wT_i3 224 rfl rfl
theorem kw_705 : (Jvm.Cond.code ({ cls := "PushStickModel", name := "partAt", desc := "(IIII)I" } : Jvm.MethodName) prog_6_method_48_code (7 : Nat) (Option.some Jvm.ClassFile.FieldType.int)) ∈ wT := wT_i3 225 rfl rfl
theorem kw_706 : (Jvm.Cond.methodLink "PushStickModel" (164 : Nat) ({ cls := "PushStickModel", name := "waveAt", desc := "(II)I" } : Jvm.MethodName)) ∈ wT := wT_i3 226 rfl rfl
theorem kw_708 : (Jvm.Cond.instanceMethod ({ cls := "PushStickModel", name := "waveAt", desc := "(II)I" } : Jvm.MethodName)) ∈ wT := wT_i3 228 rfl rfl
theorem kw_709 : (Jvm.Cond.code ({ cls := "PushStickModel", name := "waveAt", desc := "(II)I" } : Jvm.MethodName) prog_6_method_45_code (8 : Nat) (Option.some Jvm.ClassFile.FieldType.int)) ∈ wT := wT_i3 229 rfl rfl
theorem kw_710 : (Jvm.Cond.methodLink "PushStickModel" (167 : Nat) ({ cls := "PushStickModel", name := "envelopeAt", desc := "(II)I" } : Jvm.MethodName)) ∈ wT := wT_i3 230 rfl rfl
theorem kw_712 : (Jvm.Cond.instanceMethod ({ cls := "PushStickModel", name := "envelopeAt", desc := "(II)I" } : Jvm.MethodName)) ∈ wT := wT_i3 232 rfl rfl
theorem kw_713 : (Jvm.Cond.code ({ cls := "PushStickModel", name := "envelopeAt", desc := "(II)I" } : Jvm.MethodName) prog_6_method_44_code (9 : Nat) (Option.some Jvm.ClassFile.FieldType.int)) ∈ wT := wT_i3 233 rfl rfl
theorem kw_714 : (Jvm.Cond.methodLink "PushStickModel" (152 : Nat) ({ cls := "PushStickModel", name := "levelBy", desc := "(III)I" } : Jvm.MethodName)) ∈ wT := wT_i3 234 rfl rfl
theorem kw_715 : (Jvm.Cond.static ({ cls := "PushStickModel", name := "levelBy", desc := "(III)I" } : Jvm.MethodName)) ∈ wT := wT_i3 235 rfl rfl
theorem kw_716 : (Jvm.Cond.code ({ cls := "PushStickModel", name := "levelBy", desc := "(III)I" } : Jvm.MethodName) prog_6_method_43_code (3 : Nat) (Option.some Jvm.ClassFile.FieldType.int)) ∈ wT := wT_i3 236 rfl rfl
theorem kw_717 : (Jvm.Cond.methodLink "PushStickModel" (170 : Nat) ({ cls := "PushStickModel", name := "byHand", desc := "(II)I" } : Jvm.MethodName)) ∈ wT := wT_i3 237 rfl rfl
theorem kw_719 : (Jvm.Cond.instanceMethod ({ cls := "PushStickModel", name := "byHand", desc := "(II)I" } : Jvm.MethodName)) ∈ wT := wT_i3 239 rfl rfl
theorem kw_720 : (Jvm.Cond.code ({ cls := "PushStickModel", name := "byHand", desc := "(II)I" } : Jvm.MethodName) prog_6_method_47_code (6 : Nat) (Option.some Jvm.ClassFile.FieldType.int)) ∈ wT := wT_i4 0 rfl rfl
theorem kw_721 : (Jvm.Cond.methodLink "PushStickModel" (158 : Nat) ({ cls := "PushStickModel", name := "beyond", desc := "(II)I" } : Jvm.MethodName)) ∈ wT := wT_i4 1 rfl rfl
theorem kw_722 : (Jvm.Cond.static ({ cls := "PushStickModel", name := "beyond", desc := "(II)I" } : Jvm.MethodName)) ∈ wT := wT_i4 2 rfl rfl
theorem kw_723 : (Jvm.Cond.code ({ cls := "PushStickModel", name := "beyond", desc := "(II)I" } : Jvm.MethodName) prog_6_method_46_code (2 : Nat) (Option.some Jvm.ClassFile.FieldType.int)) ∈ wT := wT_i4 3 rfl rfl
theorem kw_724 : (Jvm.Cond.methodLink "PushStickModel" (155 : Nat) ({ cls := "PushStickModel", name := "size", desc := "(I)I" } : Jvm.MethodName)) ∈ wT := wT_i4 4 rfl rfl
theorem kw_725 : (Jvm.Cond.static ({ cls := "PushStickModel", name := "size", desc := "(I)I" } : Jvm.MethodName)) ∈ wT := wT_i4 5 rfl rfl
theorem kw_726 : (Jvm.Cond.code ({ cls := "PushStickModel", name := "size", desc := "(I)I" } : Jvm.MethodName) prog_6_method_3_code (1 : Nat) (Option.some Jvm.ClassFile.FieldType.int)) ∈ wT := wT_i4 6 rfl rfl
theorem kw_727 : (Jvm.Cond.methodLink "PushStickModel" (161 : Nat) ({ cls := "PushStickModel", name := "held", desc := "(II)I" } : Jvm.MethodName)) ∈ wT := wT_i4 7 rfl rfl
theorem kw_728 : (Jvm.Cond.static ({ cls := "PushStickModel", name := "held", desc := "(II)I" } : Jvm.MethodName)) ∈ wT := wT_i4 8 rfl rfl
theorem kw_729 : (Jvm.Cond.code ({ cls := "PushStickModel", name := "held", desc := "(II)I" } : Jvm.MethodName) prog_6_method_4_code (2 : Nat) (Option.some Jvm.ClassFile.FieldType.int)) ∈ wT := wT_i4 9 rfl rfl
theorem kw_730 : (Jvm.Cond.methodLink "PushStickLaw" (97 : Nat) ({ cls := "PushStickModel", name := "envelope", desc := "(I)I" } : Jvm.MethodName)) ∈ wT := wT_i4 10 rfl rfl
theorem kw_731 : (Jvm.Cond.instanceMethod ({ cls := "PushStickModel", name := "envelope", desc := "(I)I" } : Jvm.MethodName)) ∈ wT := wT_i4 11 rfl rfl
theorem kw_732 : (Jvm.Cond.selects "PushStickModel" ({ cls := "PushStickModel", name := "envelope", desc := "(I)I" } : Jvm.MethodName) ({ cls := "PushStickModel", name := "envelope", desc := "(I)I" } : Jvm.MethodName)) ∈ wT := wT_i4 12 rfl rfl
theorem kw_733 : (Jvm.Cond.code ({ cls := "PushStickModel", name := "envelope", desc := "(I)I" } : Jvm.MethodName) prog_6_method_51_code (3 : Nat) (Option.some Jvm.ClassFile.FieldType.int)) ∈ wT := wT_i4 13 rfl rfl
theorem kw_734 : (Jvm.Cond.methodLink "PushStickLaw" (101 : Nat) ({ cls := "PushStickModel", name := "force", desc := "(II)I" } : Jvm.MethodName)) ∈ wT := wT_i4 14 rfl rfl
theorem kw_735 : (Jvm.Cond.instanceMethod ({ cls := "PushStickModel", name := "force", desc := "(II)I" } : Jvm.MethodName)) ∈ wT := wT_i4 15 rfl rfl
theorem kw_736 : (Jvm.Cond.selects "PushStickModel" ({ cls := "PushStickModel", name := "force", desc := "(II)I" } : Jvm.MethodName) ({ cls := "PushStickModel", name := "force", desc := "(II)I" } : Jvm.MethodName)) ∈ wT := wT_i4 16 rfl rfl
theorem kw_737 : (Jvm.Cond.code ({ cls := "PushStickModel", name := "force", desc := "(II)I" } : Jvm.MethodName) prog_6_method_52_code (4 : Nat) (Option.some Jvm.ClassFile.FieldType.int)) ∈ wT := wT_i4 17 rfl rfl
theorem kw_738 : (Jvm.Cond.methodLink "PushStickModel" (177 : Nat) ({ cls := "PushStickModel", name := "rawAt", desc := "(III)I" } : Jvm.MethodName)) ∈ wT := wT_i4 18 rfl rfl
theorem kw_740 : (Jvm.Cond.instanceMethod ({ cls := "PushStickModel", name := "rawAt", desc := "(III)I" } : Jvm.MethodName)) ∈ wT := wT_i4 20 rfl rfl
theorem kw_741 : (Jvm.Cond.code ({ cls := "PushStickModel", name := "rawAt", desc := "(III)I" } : Jvm.MethodName) prog_6_method_49_code (7 : Nat) (Option.some Jvm.ClassFile.FieldType.int)) ∈ wT := wT_i4 21 rfl rfl
theorem kw_742 : (Jvm.Cond.methodLink "PushStickLaw" (105 : Nat) ({ cls := "PushStickModel", name := "rate", desc := "(I)I" } : Jvm.MethodName)) ∈ wT := wT_i4 22 rfl rfl
theorem kw_743 : (Jvm.Cond.instanceMethod ({ cls := "PushStickModel", name := "rate", desc := "(I)I" } : Jvm.MethodName)) ∈ wT := wT_i4 23 rfl rfl
theorem kw_744 : (Jvm.Cond.selects "PushStickModel" ({ cls := "PushStickModel", name := "rate", desc := "(I)I" } : Jvm.MethodName) ({ cls := "PushStickModel", name := "rate", desc := "(I)I" } : Jvm.MethodName)) ∈ wT := wT_i4 24 rfl rfl
theorem kw_745 : (Jvm.Cond.code ({ cls := "PushStickModel", name := "rate", desc := "(I)I" } : Jvm.MethodName) prog_6_method_53_code (3 : Nat) (Option.some Jvm.ClassFile.FieldType.int)) ∈ wT := wT_i4 25 rfl rfl
theorem kw_746 : (Jvm.Cond.methodLink "PushStickLaw" (109 : Nat) ({ cls := "PushStickModel", name := "frame", desc := "(I)I" } : Jvm.MethodName)) ∈ wT := wT_i4 26 rfl rfl
theorem kw_747 : (Jvm.Cond.instanceMethod ({ cls := "PushStickModel", name := "frame", desc := "(I)I" } : Jvm.MethodName)) ∈ wT := wT_i4 27 rfl rfl
theorem kw_748 : (Jvm.Cond.selects "PushStickModel" ({ cls := "PushStickModel", name := "frame", desc := "(I)I" } : Jvm.MethodName) ({ cls := "PushStickModel", name := "frame", desc := "(I)I" } : Jvm.MethodName)) ∈ wT := wT_i4 28 rfl rfl
theorem kw_749 : (Jvm.Cond.code ({ cls := "PushStickModel", name := "frame", desc := "(I)I" } : Jvm.MethodName) prog_6_method_54_code (2 : Nat) (Option.some Jvm.ClassFile.FieldType.int)) ∈ wT := wT_i4 29 rfl rfl
theorem kw_750 : (Jvm.Cond.constant "PushStickModel" (180 : Nat) (1000000 : Int32)) ∈ wT := wT_i4 30 rfl rfl
theorem kw_751 : (Jvm.Cond.methodLink "PushStickLaw" (113 : Nat) ({ cls := "PushStickModel", name := "frames", desc := "()I" } : Jvm.MethodName)) ∈ wT := wT_i4 31 rfl rfl
theorem kw_752 : (Jvm.Cond.instanceMethod ({ cls := "PushStickModel", name := "frames", desc := "()I" } : Jvm.MethodName)) ∈ wT := wT_i4 32 rfl rfl
theorem kw_753 : (Jvm.Cond.selects "PushStickModel" ({ cls := "PushStickModel", name := "frames", desc := "()I" } : Jvm.MethodName) ({ cls := "PushStickModel", name := "frames", desc := "()I" } : Jvm.MethodName)) ∈ wT := wT_i4 33 rfl rfl
theorem kw_754 : (Jvm.Cond.code ({ cls := "PushStickModel", name := "frames", desc := "()I" } : Jvm.MethodName) prog_6_method_55_code (1 : Nat) (Option.some Jvm.ClassFile.FieldType.int)) ∈ wT := wT_i4 34 rfl rfl
theorem kw_755 : (Jvm.Cond.constantLong "PushStickModel" (181 : Nat) (1000 : Int64)) ∈ wT := wT_i4 35 rfl rfl
theorem kw_756 : (Jvm.Cond.methodLink "PushStickLaw" (117 : Nat) ({ cls := "PushStickModel", name := "peak", desc := "(III)I" } : Jvm.MethodName)) ∈ wT := wT_i4 36 rfl rfl
theorem kw_757 : (Jvm.Cond.instanceMethod ({ cls := "PushStickModel", name := "peak", desc := "(III)I" } : Jvm.MethodName)) ∈ wT := wT_i4 37 rfl rfl
theorem kw_758 : (Jvm.Cond.selects "PushStickModel" ({ cls := "PushStickModel", name := "peak", desc := "(III)I" } : Jvm.MethodName) ({ cls := "PushStickModel", name := "peak", desc := "(III)I" } : Jvm.MethodName)) ∈ wT := wT_i4 38 rfl rfl
theorem kw_759 : (Jvm.Cond.code ({ cls := "PushStickModel", name := "peak", desc := "(III)I" } : Jvm.MethodName) prog_6_method_56_code (8 : Nat) (Option.some Jvm.ClassFile.FieldType.int)) ∈ wT := wT_i4 39 rfl rfl
theorem kw_760 : (Jvm.Cond.methodLink "PushStickLaw" (121 : Nat) ({ cls := "PushStickModel", name := "soLong", desc := "(I)I" } : Jvm.MethodName)) ∈ wT := wT_i4 40 rfl rfl
theorem kw_761 : (Jvm.Cond.instanceMethod ({ cls := "PushStickModel", name := "soLong", desc := "(I)I" } : Jvm.MethodName)) ∈ wT := wT_i4 41 rfl rfl
theorem kw_762 : (Jvm.Cond.selects "PushStickModel" ({ cls := "PushStickModel", name := "soLong", desc := "(I)I" } : Jvm.MethodName) ({ cls := "PushStickModel", name := "soLong", desc := "(I)I" } : Jvm.MethodName)) ∈ wT := wT_i4 42 rfl rfl
theorem kw_763 : (Jvm.Cond.code ({ cls := "PushStickModel", name := "soLong", desc := "(I)I" } : Jvm.MethodName) prog_6_method_58_code (4 : Nat) (Option.some Jvm.ClassFile.FieldType.int)) ∈ wT := wT_i4 43 rfl rfl
theorem kw_764 : (Jvm.Cond.methodLink "PushStickModel" (183 : Nat) ({ cls := "PushStickModel", name := "isHeldBack", desc := "(II)Z" } : Jvm.MethodName)) ∈ wT := wT_i4 44 rfl rfl
theorem kw_766 : (Jvm.Cond.instanceMethod ({ cls := "PushStickModel", name := "isHeldBack", desc := "(II)Z" } : Jvm.MethodName)) ∈ wT := wT_i4 46 rfl rfl
theorem kw_767 : (Jvm.Cond.code ({ cls := "PushStickModel", name := "isHeldBack", desc := "(II)Z" } : Jvm.MethodName) prog_6_method_57_code (3 : Nat) (Option.some Jvm.ClassFile.FieldType.boolean)) ∈ wT := wT_i4 47 rfl rfl
theorem kw_768 : (Jvm.Cond.methodLink "PushStickLaw" (125 : Nat) ({ cls := "PushStickModel", name := "quiet", desc := "(I)I" } : Jvm.MethodName)) ∈ wT := wT_i4 48 rfl rfl
theorem kw_769 : (Jvm.Cond.instanceMethod ({ cls := "PushStickModel", name := "quiet", desc := "(I)I" } : Jvm.MethodName)) ∈ wT := wT_i4 49 rfl rfl
theorem kw_770 : (Jvm.Cond.selects "PushStickModel" ({ cls := "PushStickModel", name := "quiet", desc := "(I)I" } : Jvm.MethodName) ({ cls := "PushStickModel", name := "quiet", desc := "(I)I" } : Jvm.MethodName)) ∈ wT := wT_i4 50 rfl rfl
theorem kw_771 : (Jvm.Cond.code ({ cls := "PushStickModel", name := "quiet", desc := "(I)I" } : Jvm.MethodName) prog_6_method_61_code (6 : Nat) (Option.some Jvm.ClassFile.FieldType.int)) ∈ wT := wT_i4 51 rfl rfl
theorem kw_772 : (Jvm.Cond.methodLink "PushStickModel" (186 : Nat) ({ cls := "PushStickModel", name := "manyOf", desc := "(I)I" } : Jvm.MethodName)) ∈ wT := wT_i4 52 rfl rfl
theorem kw_773 : (Jvm.Cond.static ({ cls := "PushStickModel", name := "manyOf", desc := "(I)I" } : Jvm.MethodName)) ∈ wT := wT_i4 53 rfl rfl
theorem kw_774 : (Jvm.Cond.code ({ cls := "PushStickModel", name := "manyOf", desc := "(I)I" } : Jvm.MethodName) prog_6_method_60_code (3 : Nat) (Option.some Jvm.ClassFile.FieldType.int)) ∈ wT := wT_i4 54 rfl rfl
theorem kw_775 : (Jvm.Cond.methodLink "PushStickModel" (189 : Nat) ({ cls := "PushStickModel", name := "isQuiet", desc := "(II)Z" } : Jvm.MethodName)) ∈ wT := wT_i4 55 rfl rfl
theorem kw_777 : (Jvm.Cond.instanceMethod ({ cls := "PushStickModel", name := "isQuiet", desc := "(II)Z" } : Jvm.MethodName)) ∈ wT := wT_i4 57 rfl rfl
theorem kw_778 : (Jvm.Cond.code ({ cls := "PushStickModel", name := "isQuiet", desc := "(II)Z" } : Jvm.MethodName) prog_6_method_59_code (4 : Nat) (Option.some Jvm.ClassFile.FieldType.boolean)) ∈ wT := wT_i4 58 rfl rfl
theorem kw_779 : (Jvm.Cond.methodLink "PushStickLaw" (129 : Nat) ({ cls := "PushStickModel", name := "many", desc := "(I)I" } : Jvm.MethodName)) ∈ wT := wT_i4 59 rfl rfl
theorem kw_780 : (Jvm.Cond.instanceMethod ({ cls := "PushStickModel", name := "many", desc := "(I)I" } : Jvm.MethodName)) ∈ wT := wT_i4 60 rfl rfl
theorem kw_781 : (Jvm.Cond.selects "PushStickModel" ({ cls := "PushStickModel", name := "many", desc := "(I)I" } : Jvm.MethodName) ({ cls := "PushStickModel", name := "many", desc := "(I)I" } : Jvm.MethodName)) ∈ wT := wT_i4 61 rfl rfl
theorem kw_782 : (Jvm.Cond.code ({ cls := "PushStickModel", name := "many", desc := "(I)I" } : Jvm.MethodName) prog_6_method_65_code (2 : Nat) (Option.some Jvm.ClassFile.FieldType.int)) ∈ wT := wT_i4 62 rfl rfl
theorem kw_783 : (Jvm.Cond.methodLink "PushStickModel" (192 : Nat) ({ cls := "PushStickModel", name := "manyLoaded", desc := "()I" } : Jvm.MethodName)) ∈ wT := wT_i4 63 rfl rfl
theorem kw_785 : (Jvm.Cond.instanceMethod ({ cls := "PushStickModel", name := "manyLoaded", desc := "()I" } : Jvm.MethodName)) ∈ wT := wT_i4 65 rfl rfl
theorem kw_786 : (Jvm.Cond.code ({ cls := "PushStickModel", name := "manyLoaded", desc := "()I" } : Jvm.MethodName) prog_6_method_63_code (3 : Nat) (Option.some Jvm.ClassFile.FieldType.int)) ∈ wT := wT_i4 66 rfl rfl
theorem kw_787 : (Jvm.Cond.methodLink "PushStickModel" (195 : Nat) ({ cls := "PushStickModel", name := "manyOn", desc := "()I" } : Jvm.MethodName)) ∈ wT := wT_i4 67 rfl rfl
theorem kw_789 : (Jvm.Cond.instanceMethod ({ cls := "PushStickModel", name := "manyOn", desc := "()I" } : Jvm.MethodName)) ∈ wT := wT_i4 69 rfl rfl
theorem kw_790 : (Jvm.Cond.code ({ cls := "PushStickModel", name := "manyOn", desc := "()I" } : Jvm.MethodName) prog_6_method_62_code (3 : Nat) (Option.some Jvm.ClassFile.FieldType.int)) ∈ wT := wT_i4 70 rfl rfl
theorem kw_791 : (Jvm.Cond.methodLink "PushStickModel" (198 : Nat) ({ cls := "PushStickModel", name := "manyHeld", desc := "()I" } : Jvm.MethodName)) ∈ wT := wT_i4 71 rfl rfl
theorem kw_793 : (Jvm.Cond.instanceMethod ({ cls := "PushStickModel", name := "manyHeld", desc := "()I" } : Jvm.MethodName)) ∈ wT := wT_i4 73 rfl rfl
theorem kw_794 : (Jvm.Cond.code ({ cls := "PushStickModel", name := "manyHeld", desc := "()I" } : Jvm.MethodName) prog_6_method_64_code (3 : Nat) (Option.some Jvm.ClassFile.FieldType.int)) ∈ wT := wT_i4 74 rfl rfl
theorem ks_0 : Cond.selects "PushStick" ⟨"PushStick", "isEffect", "(I)Z"⟩ ⟨"PushStick", "isEffect", "(I)Z"⟩ ∈ wT := wT_sel 0 rfl rfl
theorem ks_1 : Cond.selects "PushStick" ⟨"PushStick", "takeOut", "(LPushStick$Effect;)V"⟩ ⟨"PushStick", "takeOut", "(LPushStick$Effect;)V"⟩ ∈ wT := wT_sel 1 rfl rfl
theorem ks_2 : Cond.selects "PushStick" ⟨"PushStick", "bringIn", "(LPushStick$Effect;)I"⟩ ⟨"PushStick", "bringIn", "(LPushStick$Effect;)I"⟩ ∈ wT := wT_sel 2 rfl rfl
theorem ks_3 : Cond.selects "PushStick" ⟨"PushStick", "leastFreeSlot", "()I"⟩ ⟨"PushStick", "leastFreeSlot", "()I"⟩ ∈ wT := wT_sel 3 rfl rfl
theorem ks_4 : Cond.selects "PushStick" ⟨"PushStick", "whichGoes", "(I)LPushStick$Effect;"⟩ ⟨"PushStick", "whichGoes", "(I)LPushStick$Effect;"⟩ ∈ wT := wT_sel 4 rfl rfl
theorem ks_5 : Cond.selects "PushStick" ⟨"PushStick", "letGo", "(I)V"⟩ ⟨"PushStick", "letGo", "(I)V"⟩ ∈ wT := wT_sel 5 rfl rfl
theorem ks_6 : Cond.selects "PushStick" ⟨"PushStick", "lossAt", "()I"⟩ ⟨"PushStick", "lossAt", "()I"⟩ ∈ wT := wT_sel 6 rfl rfl
theorem ks_7 : Cond.selects "PushStick" ⟨"PushStick", "beginAgainUpTo", "(I)V"⟩ ⟨"PushStick", "beginAgainUpTo", "(I)V"⟩ ∈ wT := wT_sel 7 rfl rfl
theorem ks_8 : Cond.selects "PushStick" ⟨"PushStick", "startBy", "(LPushStick$Effect;I)I"⟩ ⟨"PushStick", "startBy", "(LPushStick$Effect;I)I"⟩ ∈ wT := wT_sel 8 rfl rfl
theorem ks_9 : Cond.selects "PushStick" ⟨"PushStick", "loseHostAt", "(I)V"⟩ ⟨"PushStick", "loseHostAt", "(I)V"⟩ ∈ wT := wT_sel 9 rfl rfl
theorem ks_10 : Cond.selects "PushStick" ⟨"PushStick", "howManyPlay", "()I"⟩ ⟨"PushStick", "howManyPlay", "()I"⟩ ∈ wT := wT_sel 10 rfl rfl
theorem ks_11 : Cond.selects "PushStick" ⟨"PushStick", "rawAt", "(ILPushStick$Axis;)I"⟩ ⟨"PushStick", "rawAt", "(ILPushStick$Axis;)I"⟩ ∈ wT := wT_sel 11 rfl rfl
theorem ks_12 : Cond.selects "PushStick" ⟨"PushStick", "endOfPush", "(I)I"⟩ ⟨"PushStick", "endOfPush", "(I)I"⟩ ∈ wT := wT_sel 12 rfl rfl
theorem ks_13 : Cond.selects "PushStick" ⟨"PushStick", "gatherPlaying", "()I"⟩ ⟨"PushStick", "gatherPlaying", "()I"⟩ ∈ wT := wT_sel 13 rfl rfl
theorem ks_14 : Cond.selects "PushStick" ⟨"PushStick", "markHeldBack", "(ILPushStick$Axis;I)V"⟩ ⟨"PushStick", "markHeldBack", "(ILPushStick$Axis;I)V"⟩ ∈ wT := wT_sel 14 rfl rfl
theorem ks_15 : Cond.selects "PushStick" ⟨"PushStick", "lackAt", "(LPushStick$Effect;ILPushStick$Axis;)I"⟩ ⟨"PushStick", "lackAt", "(LPushStick$Effect;ILPushStick$Axis;)I"⟩ ∈ wT := wT_sel 15 rfl rfl
theorem ks_16 : Cond.selects "PushStick" ⟨"PushStick", "fewestNotHeldBack", "(I)I"⟩ ⟨"PushStick", "fewestNotHeldBack", "(I)I"⟩ ∈ wT := wT_sel 16 rfl rfl
theorem ks_17 : Cond.selects "PushStick" ⟨"PushStick", "asEffects", "(II)I"⟩ ⟨"PushStick", "asEffects", "(II)I"⟩ ∈ wT := wT_sel 17 rfl rfl
theorem ks_18 : Cond.selects "PushStick" ⟨"PushStick", "howManyLoaded", "()I"⟩ ⟨"PushStick", "howManyLoaded", "()I"⟩ ∈ wT := wT_sel 18 rfl rfl
theorem ks_19 : Cond.selects "PushStick" ⟨"PushStick", "howManyOn", "()I"⟩ ⟨"PushStick", "howManyOn", "()I"⟩ ∈ wT := wT_sel 19 rfl rfl
theorem ks_20 : Cond.selects "PushStick" ⟨"PushStick", "howManyHeld", "()I"⟩ ⟨"PushStick", "howManyHeld", "()I"⟩ ∈ wT := wT_sel 20 rfl rfl
theorem ks_21 : Cond.selects "PushStickModel" ⟨"PushStickModel", "isEffect", "(I)Z"⟩ ⟨"PushStickModel", "isEffect", "(I)Z"⟩ ∈ wT := wT_sel 21 rfl rfl
theorem ks_22 : Cond.selects "PushStickModel" ⟨"PushStickModel", "tellNumber", "(II)I"⟩ ⟨"PushStickModel", "tellNumber", "(II)I"⟩ ∈ wT := wT_sel 22 rfl rfl
theorem ks_23 : Cond.selects "PushStickModel" ⟨"PushStickModel", "numberOf", "(II)I"⟩ ⟨"PushStickModel", "numberOf", "(II)I"⟩ ∈ wT := wT_sel 23 rfl rfl
theorem ks_24 : Cond.selects "PushStickModel" ⟨"PushStickModel", "goes", "(I)V"⟩ ⟨"PushStickModel", "goes", "(I)V"⟩ ∈ wT := wT_sel 24 rfl rfl
theorem ks_25 : Cond.selects "PushStickModel" ⟨"PushStickModel", "slotOf", "(I)I"⟩ ⟨"PushStickModel", "slotOf", "(I)I"⟩ ∈ wT := wT_sel 25 rfl rfl
theorem ks_26 : Cond.selects "PushStickModel" ⟨"PushStickModel", "moves", "(II)V"⟩ ⟨"PushStickModel", "moves", "(II)V"⟩ ∈ wT := wT_sel 26 rfl rfl
theorem ks_27 : Cond.selects "PushStickModel" ⟨"PushStickModel", "doesPlay", "(III)Z"⟩ ⟨"PushStickModel", "doesPlay", "(III)Z"⟩ ∈ wT := wT_sel 27 rfl rfl
theorem ks_28 : Cond.selects "PushStickModel" ⟨"PushStickModel", "isOn", "(III)Z"⟩ ⟨"PushStickModel", "isOn", "(III)Z"⟩ ∈ wT := wT_sel 28 rfl rfl
theorem ks_29 : Cond.selects "PushStickModel" ⟨"PushStickModel", "loads", "(I)I"⟩ ⟨"PushStickModel", "loads", "(I)I"⟩ ∈ wT := wT_sel 29 rfl rfl
theorem ks_30 : Cond.selects "PushStickModel" ⟨"PushStickModel", "freeSlot", "()I"⟩ ⟨"PushStickModel", "freeSlot", "()I"⟩ ∈ wT := wT_sel 30 rfl rfl
theorem ks_31 : Cond.selects "PushStickModel" ⟨"PushStickModel", "firstToGo", "(ZI)I"⟩ ⟨"PushStickModel", "firstToGo", "(ZI)I"⟩ ∈ wT := wT_sel 31 rfl rfl
theorem ks_32 : Cond.selects "PushStickModel" ⟨"PushStickModel", "comesUp", "(I)V"⟩ ⟨"PushStickModel", "comesUp", "(I)V"⟩ ∈ wT := wT_sel 32 rfl rfl
theorem ks_33 : Cond.selects "PushStickModel" ⟨"PushStickModel", "isLostBy", "(I)Z"⟩ ⟨"PushStickModel", "isLostBy", "(I)Z"⟩ ∈ wT := wT_sel 33 rfl rfl
theorem ks_34 : Cond.selects "PushStickModel" ⟨"PushStickModel", "getsLost", "(I)V"⟩ ⟨"PushStickModel", "getsLost", "(I)V"⟩ ∈ wT := wT_sel 34 rfl rfl
theorem ks_35 : Cond.selects "PushStickModel" ⟨"PushStickModel", "startAt", "(III)I"⟩ ⟨"PushStickModel", "startAt", "(III)I"⟩ ∈ wT := wT_sel 35 rfl rfl
theorem ks_36 : Cond.selects "PushStickModel" ⟨"PushStickModel", "manyPlay", "()I"⟩ ⟨"PushStickModel", "manyPlay", "()I"⟩ ∈ wT := wT_sel 36 rfl rfl
theorem ks_37 : Cond.selects "PushStickModel" ⟨"PushStickModel", "partAt", "(IIII)I"⟩ ⟨"PushStickModel", "partAt", "(IIII)I"⟩ ∈ wT := wT_sel 37 rfl rfl
theorem ks_38 : Cond.selects "PushStickModel" ⟨"PushStickModel", "waveAt", "(II)I"⟩ ⟨"PushStickModel", "waveAt", "(II)I"⟩ ∈ wT := wT_sel 38 rfl rfl
theorem ks_39 : Cond.selects "PushStickModel" ⟨"PushStickModel", "envelopeAt", "(II)I"⟩ ⟨"PushStickModel", "envelopeAt", "(II)I"⟩ ∈ wT := wT_sel 39 rfl rfl
theorem ks_40 : Cond.selects "PushStickModel" ⟨"PushStickModel", "byHand", "(II)I"⟩ ⟨"PushStickModel", "byHand", "(II)I"⟩ ∈ wT := wT_sel 40 rfl rfl
theorem ks_41 : Cond.selects "PushStickModel" ⟨"PushStickModel", "rawAt", "(III)I"⟩ ⟨"PushStickModel", "rawAt", "(III)I"⟩ ∈ wT := wT_sel 41 rfl rfl
theorem ks_42 : Cond.selects "PushStickModel" ⟨"PushStickModel", "isHeldBack", "(II)Z"⟩ ⟨"PushStickModel", "isHeldBack", "(II)Z"⟩ ∈ wT := wT_sel 42 rfl rfl
theorem ks_43 : Cond.selects "PushStickModel" ⟨"PushStickModel", "isQuiet", "(II)Z"⟩ ⟨"PushStickModel", "isQuiet", "(II)Z"⟩ ∈ wT := wT_sel 43 rfl rfl
theorem ks_44 : Cond.selects "PushStickModel" ⟨"PushStickModel", "manyLoaded", "()I"⟩ ⟨"PushStickModel", "manyLoaded", "()I"⟩ ∈ wT := wT_sel 44 rfl rfl
theorem ks_45 : Cond.selects "PushStickModel" ⟨"PushStickModel", "manyOn", "()I"⟩ ⟨"PushStickModel", "manyOn", "()I"⟩ ∈ wT := wT_sel 45 rfl rfl
theorem ks_46 : Cond.selects "PushStickModel" ⟨"PushStickModel", "manyHeld", "()I"⟩ ⟨"PushStickModel", "manyHeld", "()I"⟩ ∈ wT := wT_sel 46 rfl rfl
end
section
abbrev RX0 : String := "PushStick$Axis"
def TX0 : u_T := fun k => match k with
  | 0 => ("PushStick$Axis", "aim", "I", true)
  | 1 => ("PushStick$Axis", "place", "I", false)
  | _ => ("PushStick$Axis", "speed", "I", false)
def tyX0 : Nat → FieldType := fun k => match k with
  | 0 => .int
  | 1 => .int
  | _ => .int
abbrev wsX00 : List Cond := u_ws RX0 TX0 3
theorem nmX0 : ∀ a, a < 3 → ∀ b, b < 3 → a ≠ b → (TX0 a).2.1 ≠ (TX0 b).2.1 := by decide +kernel
theorem tyX0_ok : ∀ k, k < 3 → parseFieldDescriptor (TX0 k).2.2.1 = some (tyX0 k) := by decide +kernel
abbrev cX0_init : ByteArray := prog_2_method_1_code
abbrev yX0_init : MethodName := ⟨RX0, "<init>", "(I)V"⟩
abbrev cX0_moveTo : ByteArray := prog_2_method_2_code
abbrev yX0_moveTo : MethodName := ⟨RX0, "moveTo", "(II)V"⟩
abbrev RX1 : String := "PushStick$Button"
def TX1 : u_T := fun k => match k with
  | 0 => ("PushStick$Button", "held", "Z", false)
  | _ => ("PushStick$Button", "since", "I", false)
def tyX1 : Nat → FieldType := fun k => match k with
  | 0 => .boolean
  | _ => .int
abbrev wsX10 : List Cond := u_ws RX1 TX1 2
theorem nmX1 : ∀ a, a < 2 → ∀ b, b < 2 → a ≠ b → (TX1 a).2.1 ≠ (TX1 b).2.1 := by decide +kernel
theorem tyX1_ok : ∀ k, k < 2 → parseFieldDescriptor (TX1 k).2.2.1 = some (tyX1 k) := by decide +kernel
abbrev cX1_init : ByteArray := prog_3_method_1_code
abbrev yX1_init : MethodName := ⟨RX1, "<init>", "()V"⟩
abbrev RX2 : String := "PushStick$Effect"
def TX2 : u_T := fun k => match k with
  | 0 => ("PushStick$Effect", "number", "I", true)
  | 1 => ("PushStick$Effect", "kind", "I", false)
  | 2 => ("PushStick$Effect", "a", "I", false)
  | 3 => ("PushStick$Effect", "b", "I", false)
  | 4 => ("PushStick$Effect", "c", "I", false)
  | 5 => ("PushStick$Effect", "d", "I", false)
  | 6 => ("PushStick$Effect", "numbers", "[I", true)
  | 7 => ("PushStick$Effect", "slotNumber", "I", false)
  | 8 => ("PushStick$Effect", "start", "I", false)
  | _ => ("PushStick$Effect", "beats", "[I", true)
def tyX2 : Nat → FieldType := fun k => match k with
  | 0 => .int
  | 1 => .int
  | 2 => .int
  | 3 => .int
  | 4 => .int
  | 5 => .int
  | 6 => .array .int
  | 7 => .int
  | 8 => .int
  | _ => .array .int
abbrev wsX20 : List Cond := u_ws RX2 TX2 10
theorem nmX2 : ∀ a, a < 10 → ∀ b, b < 10 → a ≠ b → (TX2 a).2.1 ≠ (TX2 b).2.1 := by decide +kernel
theorem tyX2_ok : ∀ k, k < 10 → parseFieldDescriptor (TX2 k).2.2.1 = some (tyX2 k) := by decide +kernel
abbrev cX2_init : ByteArray := prog_4_method_1_code
abbrev yX2_init : MethodName := ⟨RX2, "<init>", "(I)V"⟩
abbrev cX2_become : ByteArray := prog_4_method_2_code
abbrev yX2_become : MethodName := ⟨RX2, "become", "(IIIII)V"⟩
abbrev cX2_playsAt : ByteArray := prog_4_method_3_code
abbrev yX2_playsAt : MethodName := ⟨RX2, "playsAt", "(II)Z"⟩
abbrev cX2_isOnAt : ByteArray := prog_4_method_4_code
abbrev yX2_isOnAt : MethodName := ⟨RX2, "isOnAt", "(II)Z"⟩
abbrev cX2_sinceDelay : ByteArray := prog_4_method_5_code
abbrev yX2_sinceDelay : MethodName := ⟨RX2, "sinceDelay", "(II)I"⟩
abbrev cX2_hasEnvelope : ByteArray := prog_4_method_6_code
abbrev yX2_hasEnvelope : MethodName := ⟨RX2, "hasEnvelope", "()Z"⟩
abbrev cX2_envelopeAt : ByteArray := prog_4_method_7_code
abbrev yX2_envelopeAt : MethodName := ⟨RX2, "envelopeAt", "(I)I"⟩
abbrev cX2_levelAt : ByteArray := prog_4_method_8_code
abbrev yX2_levelAt : MethodName := ⟨RX2, "levelAt", "(III)I"⟩
abbrev cX2_partAt : ByteArray := prog_4_method_9_code
abbrev yX2_partAt : MethodName := ⟨RX2, "partAt", "(IILPushStick$Axis;)I"⟩
abbrev cX2_valueAt : ByteArray := prog_4_method_10_code
abbrev yX2_valueAt : MethodName := ⟨RX2, "valueAt", "(ILPushStick$Axis;)I"⟩
abbrev cX2_waveAt : ByteArray := prog_4_method_11_code
abbrev yX2_waveAt : MethodName := ⟨RX2, "waveAt", "(I)I"⟩
abbrev cX2_riseAt : ByteArray := prog_4_method_12_code
abbrev yX2_riseAt : MethodName := ⟨RX2, "riseAt", "(I)I"⟩
abbrev cX2_awayFrom : ByteArray := prog_4_method_13_code
abbrev yX2_awayFrom : MethodName := ⟨RX2, "awayFrom", "(II)I"⟩
abbrev cX2_wallAt : ByteArray := prog_4_method_14_code
abbrev yX2_wallAt : MethodName := ⟨RX2, "wallAt", "(I)I"⟩
abbrev RX3 : String := "PushStick"
def TX3 : u_T := fun k => match k with
  | 0 => ("PushStick", "effects", "[LPushStick$Effect;", true)
  | 1 => ("PushStick", "effectCount", "I", false)
  | 2 => ("PushStick", "inSlot", "[LPushStick$Effect;", true)
  | 3 => ("PushStick", "slotCount", "I", false)
  | 4 => ("PushStick", "axes", "[LPushStick$Axis;", true)
  | 5 => ("PushStick", "movedAt", "I", false)
  | 6 => ("PushStick", "buttons", "[LPushStick$Button;", true)
  | 7 => ("PushStick", "now", "I", false)
  | 8 => ("PushStick", "watchTime", "I", false)
  | 9 => ("PushStick", "helloAt", "I", false)
  | 10 => ("PushStick", "lost", "Z", false)
  | 11 => ("PushStick", "masterGain", "I", false)
  | 12 => ("PushStick", "frameRate", "I", false)
  | 13 => ("PushStick", "playing", "[LPushStick$Effect;", true)
  | 14 => ("PushStick", "leftBySet", "[I", true)
  | _ => ("PushStick", "heldBackBySet", "[Z", true)
def tyX3 : Nat → FieldType := fun k => match k with
  | 0 => .array (.object "PushStick$Effect")
  | 1 => .int
  | 2 => .array (.object "PushStick$Effect")
  | 3 => .int
  | 4 => .array (.object "PushStick$Axis")
  | 5 => .int
  | 6 => .array (.object "PushStick$Button")
  | 7 => .int
  | 8 => .int
  | 9 => .int
  | 10 => .boolean
  | 11 => .int
  | 12 => .int
  | 13 => .array (.object "PushStick$Effect")
  | 14 => .array .int
  | _ => .array .boolean
abbrev wsX30 : List Cond := u_ws RX3 TX3 16
theorem nmX3 : ∀ a, a < 16 → ∀ b, b < 16 → a ≠ b → (TX3 a).2.1 ≠ (TX3 b).2.1 := by decide +kernel
theorem tyX3_ok : ∀ k, k < 16 → parseFieldDescriptor (TX3 k).2.2.1 = some (tyX3 k) := by decide +kernel
abbrev cX3_init : ByteArray := prog_1_method_1_code
abbrev yX3_init : MethodName := ⟨RX3, "<init>", "()V"⟩
abbrev cX3_effect : ByteArray := prog_1_method_2_code
abbrev yX3_effect : MethodName := ⟨RX3, "effect", "(IIIII)I"⟩
abbrev cX3_set : ByteArray := prog_1_method_3_code
abbrev yX3_set : MethodName := ⟨RX3, "set", "(III)I"⟩
abbrev cX3_drop : ByteArray := prog_1_method_4_code
abbrev yX3_drop : MethodName := ⟨RX3, "drop", "()I"⟩
abbrev cX3_hand : ByteArray := prog_1_method_5_code
abbrev yX3_hand : MethodName := ⟨RX3, "hand", "(II)I"⟩
abbrev cX3_ofAxis : ByteArray := prog_1_method_6_code
abbrev yX3_ofAxis : MethodName := ⟨RX3, "ofAxis", "(II)I"⟩
abbrev cX3_ofEffect : ByteArray := prog_1_method_7_code
abbrev yX3_ofEffect : MethodName := ⟨RX3, "ofEffect", "(II)I"⟩
abbrev cX3_slots : ByteArray := prog_1_method_8_code
abbrev yX3_slots : MethodName := ⟨RX3, "slots", "(I)I"⟩
abbrev cX3_slot : ByteArray := prog_1_method_9_code
abbrev yX3_slot : MethodName := ⟨RX3, "slot", "(I)I"⟩
abbrev cX3_load : ByteArray := prog_1_method_10_code
abbrev yX3_load : MethodName := ⟨RX3, "load", "(I)I"⟩
abbrev cX3_unload : ByteArray := prog_1_method_11_code
abbrev yX3_unload : MethodName := ⟨RX3, "unload", "(I)I"⟩
abbrev cX3_play : ByteArray := prog_1_method_12_code
abbrev yX3_play : MethodName := ⟨RX3, "play", "(I)I"⟩
abbrev cX3_stop : ByteArray := prog_1_method_13_code
abbrev yX3_stop : MethodName := ⟨RX3, "stop", "(I)I"⟩
abbrev cX3_press : ByteArray := prog_1_method_14_code
abbrev yX3_press : MethodName := ⟨RX3, "press", "(I)I"⟩
abbrev cX3_free : ByteArray := prog_1_method_15_code
abbrev yX3_free : MethodName := ⟨RX3, "free", "(I)I"⟩
abbrev cX3_pass : ByteArray := prog_1_method_16_code
abbrev yX3_pass : MethodName := ⟨RX3, "pass", "(I)I"⟩
abbrev cX3_hello : ByteArray := prog_1_method_17_code
abbrev yX3_hello : MethodName := ⟨RX3, "hello", "()I"⟩
abbrev cX3_watch : ByteArray := prog_1_method_18_code
abbrev yX3_watch : MethodName := ⟨RX3, "watch", "(I)I"⟩
abbrev cX3_master : ByteArray := prog_1_method_19_code
abbrev yX3_master : MethodName := ⟨RX3, "master", "(I)I"⟩
abbrev cX3_part : ByteArray := prog_1_method_20_code
abbrev yX3_part : MethodName := ⟨RX3, "part", "(II)I"⟩
abbrev cX3_envelope : ByteArray := prog_1_method_21_code
abbrev yX3_envelope : MethodName := ⟨RX3, "envelope", "(I)I"⟩
abbrev cX3_force : ByteArray := prog_1_method_22_code
abbrev yX3_force : MethodName := ⟨RX3, "force", "(II)I"⟩
abbrev cX3_rate : ByteArray := prog_1_method_23_code
abbrev yX3_rate : MethodName := ⟨RX3, "rate", "(I)I"⟩
abbrev cX3_frame : ByteArray := prog_1_method_24_code
abbrev yX3_frame : MethodName := ⟨RX3, "frame", "(I)I"⟩
abbrev cX3_frames : ByteArray := prog_1_method_25_code
abbrev yX3_frames : MethodName := ⟨RX3, "frames", "()I"⟩
abbrev cX3_peak : ByteArray := prog_1_method_26_code
abbrev yX3_peak : MethodName := ⟨RX3, "peak", "(III)I"⟩
abbrev cX3_soLong : ByteArray := prog_1_method_27_code
abbrev yX3_soLong : MethodName := ⟨RX3, "soLong", "(I)I"⟩
abbrev cX3_quiet : ByteArray := prog_1_method_28_code
abbrev yX3_quiet : MethodName := ⟨RX3, "quiet", "(I)I"⟩
abbrev cX3_many : ByteArray := prog_1_method_29_code
abbrev yX3_many : MethodName := ⟨RX3, "many", "(I)I"⟩
abbrev cX3_isWithin : ByteArray := prog_1_method_30_code
abbrev yX3_isWithin : MethodName := ⟨RX3, "isWithin", "(III)Z"⟩
abbrev cX3_isEffect : ByteArray := prog_1_method_31_code
abbrev yX3_isEffect : MethodName := ⟨RX3, "isEffect", "(I)Z"⟩
abbrev cX3_isAxis : ByteArray := prog_1_method_32_code
abbrev yX3_isAxis : MethodName := ⟨RX3, "isAxis", "(I)Z"⟩
abbrev cX3_isButton : ByteArray := prog_1_method_33_code
abbrev yX3_isButton : MethodName := ⟨RX3, "isButton", "(I)Z"⟩
abbrev cX3_isShape : ByteArray := prog_1_method_34_code
abbrev yX3_isShape : MethodName := ⟨RX3, "isShape", "(IIIII)Z"⟩
abbrev cX3_isShapeNumber : ByteArray := prog_1_method_35_code
abbrev yX3_isShapeNumber : MethodName := ⟨RX3, "isShapeNumber", "(III)Z"⟩
abbrev cX3_isNumber : ByteArray := prog_1_method_36_code
abbrev yX3_isNumber : MethodName := ⟨RX3, "isNumber", "(II)Z"⟩
abbrev cX3_toldNumber : ByteArray := prog_1_method_37_code
abbrev yX3_toldNumber : MethodName := ⟨RX3, "toldNumber", "(LPushStick$Effect;I)I"⟩
abbrev cX3_quotient : ByteArray := prog_1_method_38_code
abbrev yX3_quotient : MethodName := ⟨RX3, "quotient", "(II)I"⟩
abbrev cX3_remainder : ByteArray := prog_1_method_39_code
abbrev yX3_remainder : MethodName := ⟨RX3, "remainder", "(II)I"⟩
abbrev cX3_noFarther : ByteArray := prog_1_method_40_code
abbrev yX3_noFarther : MethodName := ⟨RX3, "noFarther", "(II)I"⟩
abbrev cX3_bringIn : ByteArray := prog_1_method_41_code
abbrev yX3_bringIn : MethodName := ⟨RX3, "bringIn", "(LPushStick$Effect;)I"⟩
abbrev cX3_leastFreeSlot : ByteArray := prog_1_method_42_code
abbrev yX3_leastFreeSlot : MethodName := ⟨RX3, "leastFreeSlot", "()I"⟩
abbrev cX3_whichGoes : ByteArray := prog_1_method_43_code
abbrev yX3_whichGoes : MethodName := ⟨RX3, "whichGoes", "(I)LPushStick$Effect;"⟩
abbrev cX3_takeOut : ByteArray := prog_1_method_44_code
abbrev yX3_takeOut : MethodName := ⟨RX3, "takeOut", "(LPushStick$Effect;)V"⟩
abbrev cX3_letGo : ByteArray := prog_1_method_45_code
abbrev yX3_letGo : MethodName := ⟨RX3, "letGo", "(I)V"⟩
abbrev cX3_lossAt : ByteArray := prog_1_method_46_code
abbrev yX3_lossAt : MethodName := ⟨RX3, "lossAt", "()I"⟩
abbrev cX3_startBy : ByteArray := prog_1_method_47_code
abbrev yX3_startBy : MethodName := ⟨RX3, "startBy", "(LPushStick$Effect;I)I"⟩
abbrev cX3_beginAgainUpTo : ByteArray := prog_1_method_48_code
abbrev yX3_beginAgainUpTo : MethodName := ⟨RX3, "beginAgainUpTo", "(I)V"⟩
abbrev cX3_loseHostAt : ByteArray := prog_1_method_49_code
abbrev yX3_loseHostAt : MethodName := ⟨RX3, "loseHostAt", "(I)V"⟩
abbrev cX3_howManyLoaded : ByteArray := prog_1_method_50_code
abbrev yX3_howManyLoaded : MethodName := ⟨RX3, "howManyLoaded", "()I"⟩
abbrev cX3_howManyPlay : ByteArray := prog_1_method_51_code
abbrev yX3_howManyPlay : MethodName := ⟨RX3, "howManyPlay", "()I"⟩
abbrev cX3_howManyOn : ByteArray := prog_1_method_52_code
abbrev yX3_howManyOn : MethodName := ⟨RX3, "howManyOn", "()I"⟩
abbrev cX3_howManyHeld : ByteArray := prog_1_method_53_code
abbrev yX3_howManyHeld : MethodName := ⟨RX3, "howManyHeld", "()I"⟩
abbrev cX3_endOfPush : ByteArray := prog_1_method_54_code
abbrev yX3_endOfPush : MethodName := ⟨RX3, "endOfPush", "(I)I"⟩
abbrev cX3_rawAt : ByteArray := prog_1_method_55_code
abbrev yX3_rawAt : MethodName := ⟨RX3, "rawAt", "(ILPushStick$Axis;)I"⟩
abbrev cX3_isHeldBack : ByteArray := prog_1_method_56_code
abbrev yX3_isHeldBack : MethodName := ⟨RX3, "isHeldBack", "(I)Z"⟩
abbrev cX3_gatherPlaying : ByteArray := prog_1_method_57_code
abbrev yX3_gatherPlaying : MethodName := ⟨RX3, "gatherPlaying", "()I"⟩
abbrev cX3_markHeldBack : ByteArray := prog_1_method_58_code
abbrev yX3_markHeldBack : MethodName := ⟨RX3, "markHeldBack", "(ILPushStick$Axis;I)V"⟩
abbrev cX3_lackAt : ByteArray := prog_1_method_59_code
abbrev yX3_lackAt : MethodName := ⟨RX3, "lackAt", "(LPushStick$Effect;ILPushStick$Axis;)I"⟩
abbrev cX3_fewestNotHeldBack : ByteArray := prog_1_method_60_code
abbrev yX3_fewestNotHeldBack : MethodName := ⟨RX3, "fewestNotHeldBack", "(I)I"⟩
abbrev cX3_asEffects : ByteArray := prog_1_method_61_code
abbrev yX3_asEffects : MethodName := ⟨RX3, "asEffects", "(II)I"⟩
abbrev RX4 : String := "PushStickModel"
def TX4 : u_T := fun k => match k with
  | 0 => ("PushStickModel", "now", "I", false)
  | 1 => ("PushStickModel", "movedAt", "I", false)
  | 2 => ("PushStickModel", "placeAt", "[I", true)
  | 3 => ("PushStickModel", "speedAt", "[I", true)
  | 4 => ("PushStickModel", "effects", "I", false)
  | 5 => ("PushStickModel", "kindOf", "[I", true)
  | 6 => ("PushStickModel", "aOf", "[I", true)
  | 7 => ("PushStickModel", "bOf", "[I", true)
  | 8 => ("PushStickModel", "cOf", "[I", true)
  | 9 => ("PushStickModel", "dOf", "[I", true)
  | 10 => ("PushStickModel", "numbers", "[I", true)
  | 11 => ("PushStickModel", "startOf", "[I", true)
  | 12 => ("PushStickModel", "slotsNow", "I", false)
  | 13 => ("PushStickModel", "slotHas", "[I", true)
  | 14 => ("PushStickModel", "pressedAt", "[I", true)
  | 15 => ("PushStickModel", "againBy", "[I", true)
  | 16 => ("PushStickModel", "watchNow", "I", false)
  | 17 => ("PushStickModel", "helloAt", "I", false)
  | 18 => ("PushStickModel", "isLost", "Z", false)
  | 19 => ("PushStickModel", "masterNow", "I", false)
  | _ => ("PushStickModel", "rateNow", "I", false)
def tyX4 : Nat → FieldType := fun k => match k with
  | 0 => .int
  | 1 => .int
  | 2 => .array .int
  | 3 => .array .int
  | 4 => .int
  | 5 => .array .int
  | 6 => .array .int
  | 7 => .array .int
  | 8 => .array .int
  | 9 => .array .int
  | 10 => .array .int
  | 11 => .array .int
  | 12 => .int
  | 13 => .array .int
  | 14 => .array .int
  | 15 => .array .int
  | 16 => .int
  | 17 => .int
  | 18 => .boolean
  | 19 => .int
  | _ => .int
abbrev wsX40 : List Cond := u_ws RX4 TX4 21
theorem nmX4 : ∀ a, a < 21 → ∀ b, b < 21 → a ≠ b → (TX4 a).2.1 ≠ (TX4 b).2.1 := by decide +kernel
theorem tyX4_ok : ∀ k, k < 21 → parseFieldDescriptor (TX4 k).2.2.1 = some (tyX4 k) := by decide +kernel
abbrev cX4_init : ByteArray := prog_6_method_1_code
abbrev yX4_init : MethodName := ⟨RX4, "<init>", "()V"⟩
abbrev cX4_within : ByteArray := prog_6_method_2_code
abbrev yX4_within : MethodName := ⟨RX4, "within", "(III)Z"⟩
abbrev cX4_size : ByteArray := prog_6_method_3_code
abbrev yX4_size : MethodName := ⟨RX4, "size", "(I)I"⟩
abbrev cX4_held : ByteArray := prog_6_method_4_code
abbrev yX4_held : MethodName := ⟨RX4, "held", "(II)I"⟩
abbrev cX4_isEffect : ByteArray := prog_6_method_5_code
abbrev yX4_isEffect : MethodName := ⟨RX4, "isEffect", "(I)Z"⟩
abbrev cX4_isAxis : ByteArray := prog_6_method_6_code
abbrev yX4_isAxis : MethodName := ⟨RX4, "isAxis", "(I)Z"⟩
abbrev cX4_numberOf : ByteArray := prog_6_method_7_code
abbrev yX4_numberOf : MethodName := ⟨RX4, "numberOf", "(II)I"⟩
abbrev cX4_mayBe : ByteArray := prog_6_method_8_code
abbrev yX4_mayBe : MethodName := ⟨RX4, "mayBe", "(IIIII)Z"⟩
abbrev cX4_effect : ByteArray := prog_6_method_9_code
abbrev yX4_effect : MethodName := ⟨RX4, "effect", "(IIIII)I"⟩
abbrev cX4_mostOf : ByteArray := prog_6_method_10_code
abbrev yX4_mostOf : MethodName := ⟨RX4, "mostOf", "(I)I"⟩
abbrev cX4_mayBeNumber : ByteArray := prog_6_method_11_code
abbrev yX4_mayBeNumber : MethodName := ⟨RX4, "mayBeNumber", "(II)Z"⟩
abbrev cX4_tellNumber : ByteArray := prog_6_method_12_code
abbrev yX4_tellNumber : MethodName := ⟨RX4, "tellNumber", "(II)I"⟩
abbrev cX4_set : ByteArray := prog_6_method_13_code
abbrev yX4_set : MethodName := ⟨RX4, "set", "(III)I"⟩
abbrev cX4_drop : ByteArray := prog_6_method_14_code
abbrev yX4_drop : MethodName := ⟨RX4, "drop", "()I"⟩
abbrev cX4_moves : ByteArray := prog_6_method_15_code
abbrev yX4_moves : MethodName := ⟨RX4, "moves", "(II)V"⟩
abbrev cX4_hand : ByteArray := prog_6_method_16_code
abbrev yX4_hand : MethodName := ⟨RX4, "hand", "(II)I"⟩
abbrev cX4_ofAxis : ByteArray := prog_6_method_17_code
abbrev yX4_ofAxis : MethodName := ⟨RX4, "ofAxis", "(II)I"⟩
abbrev cX4_ofEffect : ByteArray := prog_6_method_18_code
abbrev yX4_ofEffect : MethodName := ⟨RX4, "ofEffect", "(II)I"⟩
abbrev cX4_slotOf : ByteArray := prog_6_method_19_code
abbrev yX4_slotOf : MethodName := ⟨RX4, "slotOf", "(I)I"⟩
abbrev cX4_doesPlay : ByteArray := prog_6_method_20_code
abbrev yX4_doesPlay : MethodName := ⟨RX4, "doesPlay", "(III)Z"⟩
abbrev cX4_isOn : ByteArray := prog_6_method_21_code
abbrev yX4_isOn : MethodName := ⟨RX4, "isOn", "(III)Z"⟩
abbrev cX4_goes : ByteArray := prog_6_method_22_code
abbrev yX4_goes : MethodName := ⟨RX4, "goes", "(I)V"⟩
abbrev cX4_slots : ByteArray := prog_6_method_23_code
abbrev yX4_slots : MethodName := ⟨RX4, "slots", "(I)I"⟩
abbrev cX4_slot : ByteArray := prog_6_method_24_code
abbrev yX4_slot : MethodName := ⟨RX4, "slot", "(I)I"⟩
abbrev cX4_freeSlot : ByteArray := prog_6_method_25_code
abbrev yX4_freeSlot : MethodName := ⟨RX4, "freeSlot", "()I"⟩
abbrev cX4_firstToGo : ByteArray := prog_6_method_26_code
abbrev yX4_firstToGo : MethodName := ⟨RX4, "firstToGo", "(ZI)I"⟩
abbrev cX4_loads : ByteArray := prog_6_method_27_code
abbrev yX4_loads : MethodName := ⟨RX4, "loads", "(I)I"⟩
abbrev cX4_load : ByteArray := prog_6_method_28_code
abbrev yX4_load : MethodName := ⟨RX4, "load", "(I)I"⟩
abbrev cX4_unload : ByteArray := prog_6_method_29_code
abbrev yX4_unload : MethodName := ⟨RX4, "unload", "(I)I"⟩
abbrev cX4_play : ByteArray := prog_6_method_30_code
abbrev yX4_play : MethodName := ⟨RX4, "play", "(I)I"⟩
abbrev cX4_stop : ByteArray := prog_6_method_31_code
abbrev yX4_stop : MethodName := ⟨RX4, "stop", "(I)I"⟩
abbrev cX4_press : ByteArray := prog_6_method_32_code
abbrev yX4_press : MethodName := ⟨RX4, "press", "(I)I"⟩
abbrev cX4_comesUp : ByteArray := prog_6_method_33_code
abbrev yX4_comesUp : MethodName := ⟨RX4, "comesUp", "(I)V"⟩
abbrev cX4_free : ByteArray := prog_6_method_34_code
abbrev yX4_free : MethodName := ⟨RX4, "free", "(I)I"⟩
abbrev cX4_isLostBy : ByteArray := prog_6_method_35_code
abbrev yX4_isLostBy : MethodName := ⟨RX4, "isLostBy", "(I)Z"⟩
abbrev cX4_startAt : ByteArray := prog_6_method_36_code
abbrev yX4_startAt : MethodName := ⟨RX4, "startAt", "(III)I"⟩
abbrev cX4_getsLost : ByteArray := prog_6_method_37_code
abbrev yX4_getsLost : MethodName := ⟨RX4, "getsLost", "(I)V"⟩
abbrev cX4_manyPlay : ByteArray := prog_6_method_38_code
abbrev yX4_manyPlay : MethodName := ⟨RX4, "manyPlay", "()I"⟩
abbrev cX4_pass : ByteArray := prog_6_method_39_code
abbrev yX4_pass : MethodName := ⟨RX4, "pass", "(I)I"⟩
abbrev cX4_hello : ByteArray := prog_6_method_40_code
abbrev yX4_hello : MethodName := ⟨RX4, "hello", "()I"⟩
abbrev cX4_watch : ByteArray := prog_6_method_41_code
abbrev yX4_watch : MethodName := ⟨RX4, "watch", "(I)I"⟩
abbrev cX4_master : ByteArray := prog_6_method_42_code
abbrev yX4_master : MethodName := ⟨RX4, "master", "(I)I"⟩
abbrev cX4_levelBy : ByteArray := prog_6_method_43_code
abbrev yX4_levelBy : MethodName := ⟨RX4, "levelBy", "(III)I"⟩
abbrev cX4_envelopeAt : ByteArray := prog_6_method_44_code
abbrev yX4_envelopeAt : MethodName := ⟨RX4, "envelopeAt", "(II)I"⟩
abbrev cX4_waveAt : ByteArray := prog_6_method_45_code
abbrev yX4_waveAt : MethodName := ⟨RX4, "waveAt", "(II)I"⟩
abbrev cX4_beyond : ByteArray := prog_6_method_46_code
abbrev yX4_beyond : MethodName := ⟨RX4, "beyond", "(II)I"⟩
abbrev cX4_byHand : ByteArray := prog_6_method_47_code
abbrev yX4_byHand : MethodName := ⟨RX4, "byHand", "(II)I"⟩
abbrev cX4_partAt : ByteArray := prog_6_method_48_code
abbrev yX4_partAt : MethodName := ⟨RX4, "partAt", "(IIII)I"⟩
abbrev cX4_rawAt : ByteArray := prog_6_method_49_code
abbrev yX4_rawAt : MethodName := ⟨RX4, "rawAt", "(III)I"⟩
abbrev cX4_part : ByteArray := prog_6_method_50_code
abbrev yX4_part : MethodName := ⟨RX4, "part", "(II)I"⟩
abbrev cX4_envelope : ByteArray := prog_6_method_51_code
abbrev yX4_envelope : MethodName := ⟨RX4, "envelope", "(I)I"⟩
abbrev cX4_force : ByteArray := prog_6_method_52_code
abbrev yX4_force : MethodName := ⟨RX4, "force", "(II)I"⟩
abbrev cX4_rate : ByteArray := prog_6_method_53_code
abbrev yX4_rate : MethodName := ⟨RX4, "rate", "(I)I"⟩
abbrev cX4_frame : ByteArray := prog_6_method_54_code
abbrev yX4_frame : MethodName := ⟨RX4, "frame", "(I)I"⟩
abbrev cX4_frames : ByteArray := prog_6_method_55_code
abbrev yX4_frames : MethodName := ⟨RX4, "frames", "()I"⟩
abbrev cX4_peak : ByteArray := prog_6_method_56_code
abbrev yX4_peak : MethodName := ⟨RX4, "peak", "(III)I"⟩
abbrev cX4_isHeldBack : ByteArray := prog_6_method_57_code
abbrev yX4_isHeldBack : MethodName := ⟨RX4, "isHeldBack", "(II)Z"⟩
abbrev cX4_soLong : ByteArray := prog_6_method_58_code
abbrev yX4_soLong : MethodName := ⟨RX4, "soLong", "(I)I"⟩
abbrev cX4_isQuiet : ByteArray := prog_6_method_59_code
abbrev yX4_isQuiet : MethodName := ⟨RX4, "isQuiet", "(II)Z"⟩
abbrev cX4_manyOf : ByteArray := prog_6_method_60_code
abbrev yX4_manyOf : MethodName := ⟨RX4, "manyOf", "(I)I"⟩
abbrev cX4_quiet : ByteArray := prog_6_method_61_code
abbrev yX4_quiet : MethodName := ⟨RX4, "quiet", "(I)I"⟩
abbrev cX4_manyOn : ByteArray := prog_6_method_62_code
abbrev yX4_manyOn : MethodName := ⟨RX4, "manyOn", "()I"⟩
abbrev cX4_manyLoaded : ByteArray := prog_6_method_63_code
abbrev yX4_manyLoaded : MethodName := ⟨RX4, "manyLoaded", "()I"⟩
abbrev cX4_manyHeld : ByteArray := prog_6_method_64_code
abbrev yX4_manyHeld : MethodName := ⟨RX4, "manyHeld", "()I"⟩
abbrev cX4_many : ByteArray := prog_6_method_65_code
abbrev yX4_many : MethodName := ⟨RX4, "many", "(I)I"⟩
abbrev RJ6 : String := "java/lang/Integer"
def TJ6 : u_T := fun k => match k with
  | _ => ("", "", "", false)
def tyJ6 : Nat → FieldType := fun k => match k with
  | _ => .int
theorem nmJ6 : ∀ a, a < 0 → ∀ b, b < 0 → a ≠ b → (TJ6 a).2.1 ≠ (TJ6 b).2.1 := by decide +kernel
theorem tyJ6_ok : ∀ k, k < 0 → parseFieldDescriptor (TJ6 k).2.2.1 = some (tyJ6 k) := by decide +kernel
abbrev cJ6_bitCount_0f7a4 : ByteArray := prog_7_method_49_code
abbrev yJ6_bitCount_0f7a4 : MethodName := ⟨RJ6, "bitCount", "(I)I"⟩
abbrev RJ9 : String := "java/lang/Math"
def TJ9 : u_T := fun k => match k with
  | _ => ("", "", "", false)
def tyJ9 : Nat → FieldType := fun k => match k with
  | _ => .int
theorem nmJ9 : ∀ a, a < 0 → ∀ b, b < 0 → a ≠ b → (TJ9 a).2.1 ≠ (TJ9 b).2.1 := by decide +kernel
theorem tyJ9_ok : ∀ k, k < 0 → parseFieldDescriptor (TJ9 k).2.2.1 = some (tyJ9 k) := by decide +kernel
abbrev cJ9_abs_0f7a4 : ByteArray := prog_8_method_59_code
abbrev yJ9_abs_0f7a4 : MethodName := ⟨RJ9, "abs", "(I)I"⟩
abbrev cJ9_min_7cf53 : ByteArray := prog_8_method_69_code
abbrev yJ9_min_7cf53 : MethodName := ⟨RJ9, "min", "(II)I"⟩
abbrev RL : String := "PushStickLaw"
abbrev cL_law : ByteArray := code
abbrev yL_law : MethodName := ⟨RL, "law", "([I)Z"⟩
abbrev vwCl : List vw_C := [(RX0, TX0, 3), (RX1, TX1, 2), (RX2, TX2, 10), (RX3, TX3, 16), (RX4, TX4, 21)]
end
section
theorem dX0_init_0 : decode cX0_init 0 = .ok (.aload_n 0, 1) := by decide +kernel
theorem dX0_init_1 : decode cX0_init 1 = .ok (.invokespecial 1, 3) := by decide +kernel
theorem dX0_init_4 : decode cX0_init 4 = .ok (.aload_n 0, 1) := by decide +kernel
theorem dX0_init_5 : decode cX0_init 5 = .ok (.iconst 0, 1) := by decide +kernel
theorem dX0_init_6 : decode cX0_init 6 = .ok (.putfield 7, 3) := by decide +kernel
theorem dX0_init_9 : decode cX0_init 9 = .ok (.aload_n 0, 1) := by decide +kernel
theorem dX0_init_10 : decode cX0_init 10 = .ok (.iconst 0, 1) := by decide +kernel
theorem dX0_init_11 : decode cX0_init 11 = .ok (.putfield 13, 3) := by decide +kernel
theorem dX0_init_14 : decode cX0_init 14 = .ok (.aload_n 0, 1) := by decide +kernel
theorem dX0_init_15 : decode cX0_init 15 = .ok (.iload_n 1, 1) := by decide +kernel
theorem dX0_init_16 : decode cX0_init 16 = .ok (.putfield 16, 3) := by decide +kernel
theorem dX0_init_19 : decode cX0_init 19 = .ok (.return_, 1) := by decide +kernel
theorem dX0_moveTo_0 : decode cX0_moveTo 0 = .ok (.iload_n 2, 1) := by decide +kernel
theorem dX0_moveTo_1 : decode cX0_moveTo 1 = .ok (.ifCond .le 19, 3) := by decide +kernel
theorem dX0_moveTo_4 : decode cX0_moveTo 4 = .ok (.aload_n 0, 1) := by decide +kernel
theorem dX0_moveTo_5 : decode cX0_moveTo 5 = .ok (.sipush 1000, 3) := by decide +kernel
theorem dX0_moveTo_8 : decode cX0_moveTo 8 = .ok (.iload_n 1, 1) := by decide +kernel
theorem dX0_moveTo_9 : decode cX0_moveTo 9 = .ok (.aload_n 0, 1) := by decide +kernel
theorem dX0_moveTo_10 : decode cX0_moveTo 10 = .ok (.getfield 7, 3) := by decide +kernel
theorem dX0_moveTo_13 : decode cX0_moveTo 13 = .ok (.isub, 1) := by decide +kernel
theorem dX0_moveTo_14 : decode cX0_moveTo 14 = .ok (.imul, 1) := by decide +kernel
theorem dX0_moveTo_15 : decode cX0_moveTo 15 = .ok (.iload_n 2, 1) := by decide +kernel
theorem dX0_moveTo_16 : decode cX0_moveTo 16 = .ok (.idiv, 1) := by decide +kernel
theorem dX0_moveTo_17 : decode cX0_moveTo 17 = .ok (.putfield 13, 3) := by decide +kernel
theorem dX0_moveTo_20 : decode cX0_moveTo 20 = .ok (.aload_n 0, 1) := by decide +kernel
theorem dX0_moveTo_21 : decode cX0_moveTo 21 = .ok (.iload_n 1, 1) := by decide +kernel
theorem dX0_moveTo_22 : decode cX0_moveTo 22 = .ok (.putfield 7, 3) := by decide +kernel
theorem dX0_moveTo_25 : decode cX0_moveTo 25 = .ok (.return_, 1) := by decide +kernel
theorem dX1_init_0 : decode cX1_init 0 = .ok (.aload_n 0, 1) := by decide +kernel
theorem dX1_init_1 : decode cX1_init 1 = .ok (.invokespecial 1, 3) := by decide +kernel
theorem dX1_init_4 : decode cX1_init 4 = .ok (.aload_n 0, 1) := by decide +kernel
theorem dX1_init_5 : decode cX1_init 5 = .ok (.iconst 0, 1) := by decide +kernel
theorem dX1_init_6 : decode cX1_init 6 = .ok (.putfield 7, 3) := by decide +kernel
theorem dX1_init_9 : decode cX1_init 9 = .ok (.aload_n 0, 1) := by decide +kernel
theorem dX1_init_10 : decode cX1_init 10 = .ok (.iconst 0, 1) := by decide +kernel
theorem dX1_init_11 : decode cX1_init 11 = .ok (.putfield 13, 3) := by decide +kernel
theorem dX1_init_14 : decode cX1_init 14 = .ok (.return_, 1) := by decide +kernel
theorem dX2_init_0 : decode cX2_init 0 = .ok (.aload_n 0, 1) := by decide +kernel
theorem dX2_init_1 : decode cX2_init 1 = .ok (.invokespecial 3, 3) := by decide +kernel
theorem dX2_init_4 : decode cX2_init 4 = .ok (.aload_n 0, 1) := by decide +kernel
theorem dX2_init_5 : decode cX2_init 5 = .ok (.iconst 0, 1) := by decide +kernel
theorem dX2_init_6 : decode cX2_init 6 = .ok (.putfield 9, 3) := by decide +kernel
theorem dX2_init_9 : decode cX2_init 9 = .ok (.aload_n 0, 1) := by decide +kernel
theorem dX2_init_10 : decode cX2_init 10 = .ok (.iconst 0, 1) := by decide +kernel
theorem dX2_init_11 : decode cX2_init 11 = .ok (.putfield 15, 3) := by decide +kernel
theorem dX2_init_14 : decode cX2_init 14 = .ok (.aload_n 0, 1) := by decide +kernel
theorem dX2_init_15 : decode cX2_init 15 = .ok (.iconst 0, 1) := by decide +kernel
theorem dX2_init_16 : decode cX2_init 16 = .ok (.putfield 18, 3) := by decide +kernel
theorem dX2_init_19 : decode cX2_init 19 = .ok (.aload_n 0, 1) := by decide +kernel
theorem dX2_init_20 : decode cX2_init 20 = .ok (.iconst 0, 1) := by decide +kernel
theorem dX2_init_21 : decode cX2_init 21 = .ok (.putfield 21, 3) := by decide +kernel
theorem dX2_init_24 : decode cX2_init 24 = .ok (.aload_n 0, 1) := by decide +kernel
theorem dX2_init_25 : decode cX2_init 25 = .ok (.iconst 0, 1) := by decide +kernel
theorem dX2_init_26 : decode cX2_init 26 = .ok (.putfield 24, 3) := by decide +kernel
theorem dX2_init_29 : decode cX2_init 29 = .ok (.aload_n 0, 1) := by decide +kernel
theorem dX2_init_30 : decode cX2_init 30 = .ok (.bipush 12, 2) := by decide +kernel
theorem dX2_init_32 : decode cX2_init 32 = .ok (.newarray .int, 2) := by decide +kernel
theorem dX2_init_34 : decode cX2_init 34 = .ok (.putfield 27, 3) := by decide +kernel
theorem dX2_init_37 : decode cX2_init 37 = .ok (.aload_n 0, 1) := by decide +kernel
theorem dX2_init_38 : decode cX2_init 38 = .ok (.bipush (-9), 2) := by decide +kernel
theorem dX2_init_40 : decode cX2_init 40 = .ok (.putfield 31, 3) := by decide +kernel
theorem dX2_init_43 : decode cX2_init 43 = .ok (.aload_n 0, 1) := by decide +kernel
theorem dX2_init_44 : decode cX2_init 44 = .ok (.bipush (-9), 2) := by decide +kernel
theorem dX2_init_46 : decode cX2_init 46 = .ok (.putfield 34, 3) := by decide +kernel
theorem dX2_init_49 : decode cX2_init 49 = .ok (.aload_n 0, 1) := by decide +kernel
theorem dX2_init_50 : decode cX2_init 50 = .ok (.iconst 4, 1) := by decide +kernel
theorem dX2_init_51 : decode cX2_init 51 = .ok (.newarray .int, 2) := by decide +kernel
theorem dX2_init_53 : decode cX2_init 53 = .ok (.putfield 37, 3) := by decide +kernel
theorem dX2_init_56 : decode cX2_init 56 = .ok (.aload_n 0, 1) := by decide +kernel
theorem dX2_init_57 : decode cX2_init 57 = .ok (.iload_n 1, 1) := by decide +kernel
theorem dX2_init_58 : decode cX2_init 58 = .ok (.putfield 40, 3) := by decide +kernel
theorem dX2_init_61 : decode cX2_init 61 = .ok (.return_, 1) := by decide +kernel
theorem dX2_become_0 : decode cX2_become 0 = .ok (.aload_n 0, 1) := by decide +kernel
theorem dX2_become_1 : decode cX2_become 1 = .ok (.iload_n 1, 1) := by decide +kernel
theorem dX2_become_2 : decode cX2_become 2 = .ok (.putfield 9, 3) := by decide +kernel
theorem dX2_become_5 : decode cX2_become 5 = .ok (.aload_n 0, 1) := by decide +kernel
theorem dX2_become_6 : decode cX2_become 6 = .ok (.iload_n 2, 1) := by decide +kernel
theorem dX2_become_7 : decode cX2_become 7 = .ok (.putfield 15, 3) := by decide +kernel
theorem dX2_become_10 : decode cX2_become 10 = .ok (.aload_n 0, 1) := by decide +kernel
theorem dX2_become_11 : decode cX2_become 11 = .ok (.iload_n 3, 1) := by decide +kernel
theorem dX2_become_12 : decode cX2_become 12 = .ok (.putfield 18, 3) := by decide +kernel
theorem dX2_become_15 : decode cX2_become 15 = .ok (.aload_n 0, 1) := by decide +kernel
theorem dX2_become_16 : decode cX2_become 16 = .ok (.iload 4, 2) := by decide +kernel
theorem dX2_become_18 : decode cX2_become 18 = .ok (.putfield 21, 3) := by decide +kernel
theorem dX2_become_21 : decode cX2_become 21 = .ok (.aload_n 0, 1) := by decide +kernel
theorem dX2_become_22 : decode cX2_become 22 = .ok (.iload 5, 2) := by decide +kernel
theorem dX2_become_24 : decode cX2_become 24 = .ok (.putfield 24, 3) := by decide +kernel
theorem dX2_become_27 : decode cX2_become 27 = .ok (.iconst 0, 1) := by decide +kernel
theorem dX2_become_28 : decode cX2_become 28 = .ok (.istore 6, 2) := by decide +kernel
theorem dX2_become_30 : decode cX2_become 30 = .ok (.iload 6, 2) := by decide +kernel
theorem dX2_become_32 : decode cX2_become 32 = .ok (.bipush 12, 2) := by decide +kernel
theorem dX2_become_34 : decode cX2_become 34 = .ok (.if_icmp .ge 22, 3) := by decide +kernel
theorem dX2_become_37 : decode cX2_become 37 = .ok (.aload_n 0, 1) := by decide +kernel
theorem dX2_become_38 : decode cX2_become 38 = .ok (.getfield 27, 3) := by decide +kernel
theorem dX2_become_41 : decode cX2_become 41 = .ok (.iload 6, 2) := by decide +kernel
theorem dX2_become_43 : decode cX2_become 43 = .ok (.getstatic 43, 3) := by decide +kernel
theorem dX2_become_46 : decode cX2_become 46 = .ok (.iload 6, 2) := by decide +kernel
theorem dX2_become_48 : decode cX2_become 48 = .ok (.iaload, 1) := by decide +kernel
theorem dX2_become_49 : decode cX2_become 49 = .ok (.iastore, 1) := by decide +kernel
theorem dX2_become_50 : decode cX2_become 50 = .ok (.iinc 6 1, 3) := by decide +kernel
theorem dX2_become_53 : decode cX2_become 53 = .ok (.goto (-23), 3) := by decide +kernel
theorem dX2_become_56 : decode cX2_become 56 = .ok (.return_, 1) := by decide +kernel
theorem dX2_playsAt_0 : decode cX2_playsAt 0 = .ok (.aload_n 0, 1) := by decide +kernel
theorem dX2_playsAt_1 : decode cX2_playsAt 1 = .ok (.getfield 27, 3) := by decide +kernel
theorem dX2_playsAt_4 : decode cX2_playsAt 4 = .ok (.iconst 0, 1) := by decide +kernel
theorem dX2_playsAt_5 : decode cX2_playsAt 5 = .ok (.iaload, 1) := by decide +kernel
theorem dX2_playsAt_6 : decode cX2_playsAt 6 = .ok (.istore_n 3, 1) := by decide +kernel
theorem dX2_playsAt_7 : decode cX2_playsAt 7 = .ok (.iload_n 1, 1) := by decide +kernel
theorem dX2_playsAt_8 : decode cX2_playsAt 8 = .ok (.bipush (-9), 2) := by decide +kernel
theorem dX2_playsAt_10 : decode cX2_playsAt 10 = .ok (.if_icmp .eq 27, 3) := by decide +kernel
theorem dX2_playsAt_13 : decode cX2_playsAt 13 = .ok (.iload_n 3, 1) := by decide +kernel
theorem dX2_playsAt_14 : decode cX2_playsAt 14 = .ok (.bipush (-9), 2) := by decide +kernel
theorem dX2_playsAt_16 : decode cX2_playsAt 16 = .ok (.if_icmp .eq 17, 3) := by decide +kernel
theorem dX2_playsAt_19 : decode cX2_playsAt 19 = .ok (.iload_n 2, 1) := by decide +kernel
theorem dX2_playsAt_20 : decode cX2_playsAt 20 = .ok (.iload_n 1, 1) := by decide +kernel
theorem dX2_playsAt_21 : decode cX2_playsAt 21 = .ok (.aload_n 0, 1) := by decide +kernel
theorem dX2_playsAt_22 : decode cX2_playsAt 22 = .ok (.getfield 27, 3) := by decide +kernel
theorem dX2_playsAt_25 : decode cX2_playsAt 25 = .ok (.iconst 1, 1) := by decide +kernel
theorem dX2_playsAt_26 : decode cX2_playsAt 26 = .ok (.iaload, 1) := by decide +kernel
theorem dX2_playsAt_27 : decode cX2_playsAt 27 = .ok (.iadd, 1) := by decide +kernel
theorem dX2_playsAt_28 : decode cX2_playsAt 28 = .ok (.iload_n 3, 1) := by decide +kernel
theorem dX2_playsAt_29 : decode cX2_playsAt 29 = .ok (.iadd, 1) := by decide +kernel
theorem dX2_playsAt_30 : decode cX2_playsAt 30 = .ok (.if_icmp .ge 7, 3) := by decide +kernel
theorem dX2_playsAt_33 : decode cX2_playsAt 33 = .ok (.iconst 1, 1) := by decide +kernel
theorem dX2_playsAt_34 : decode cX2_playsAt 34 = .ok (.goto 4, 3) := by decide +kernel
theorem dX2_playsAt_37 : decode cX2_playsAt 37 = .ok (.iconst 0, 1) := by decide +kernel
theorem dX2_playsAt_38 : decode cX2_playsAt 38 = .ok (.ireturn, 1) := by decide +kernel
theorem dX2_isOnAt_0 : decode cX2_isOnAt 0 = .ok (.aload_n 0, 1) := by decide +kernel
theorem dX2_isOnAt_1 : decode cX2_isOnAt 1 = .ok (.iload_n 1, 1) := by decide +kernel
theorem dX2_isOnAt_2 : decode cX2_isOnAt 2 = .ok (.iload_n 2, 1) := by decide +kernel
theorem dX2_isOnAt_3 : decode cX2_isOnAt 3 = .ok (.invokevirtual 46, 3) := by decide +kernel
theorem dX2_isOnAt_6 : decode cX2_isOnAt 6 = .ok (.ifCond .eq 19, 3) := by decide +kernel
theorem dX2_isOnAt_9 : decode cX2_isOnAt 9 = .ok (.iload_n 2, 1) := by decide +kernel
theorem dX2_isOnAt_10 : decode cX2_isOnAt 10 = .ok (.iload_n 1, 1) := by decide +kernel
theorem dX2_isOnAt_11 : decode cX2_isOnAt 11 = .ok (.aload_n 0, 1) := by decide +kernel
theorem dX2_isOnAt_12 : decode cX2_isOnAt 12 = .ok (.getfield 27, 3) := by decide +kernel
theorem dX2_isOnAt_15 : decode cX2_isOnAt 15 = .ok (.iconst 1, 1) := by decide +kernel
theorem dX2_isOnAt_16 : decode cX2_isOnAt 16 = .ok (.iaload, 1) := by decide +kernel
theorem dX2_isOnAt_17 : decode cX2_isOnAt 17 = .ok (.iadd, 1) := by decide +kernel
theorem dX2_isOnAt_18 : decode cX2_isOnAt 18 = .ok (.if_icmp .lt 7, 3) := by decide +kernel
theorem dX2_isOnAt_21 : decode cX2_isOnAt 21 = .ok (.iconst 1, 1) := by decide +kernel
theorem dX2_isOnAt_22 : decode cX2_isOnAt 22 = .ok (.goto 4, 3) := by decide +kernel
theorem dX2_isOnAt_25 : decode cX2_isOnAt 25 = .ok (.iconst 0, 1) := by decide +kernel
theorem dX2_isOnAt_26 : decode cX2_isOnAt 26 = .ok (.ireturn, 1) := by decide +kernel
theorem dX2_sinceDelay_0 : decode cX2_sinceDelay 0 = .ok (.iload_n 2, 1) := by decide +kernel
theorem dX2_sinceDelay_1 : decode cX2_sinceDelay 1 = .ok (.iload_n 1, 1) := by decide +kernel
theorem dX2_sinceDelay_2 : decode cX2_sinceDelay 2 = .ok (.isub, 1) := by decide +kernel
theorem dX2_sinceDelay_3 : decode cX2_sinceDelay 3 = .ok (.aload_n 0, 1) := by decide +kernel
theorem dX2_sinceDelay_4 : decode cX2_sinceDelay 4 = .ok (.getfield 27, 3) := by decide +kernel
theorem dX2_sinceDelay_7 : decode cX2_sinceDelay 7 = .ok (.iconst 1, 1) := by decide +kernel
theorem dX2_sinceDelay_8 : decode cX2_sinceDelay 8 = .ok (.iaload, 1) := by decide +kernel
theorem dX2_sinceDelay_9 : decode cX2_sinceDelay 9 = .ok (.isub, 1) := by decide +kernel
theorem dX2_sinceDelay_10 : decode cX2_sinceDelay 10 = .ok (.ireturn, 1) := by decide +kernel
theorem dX2_hasEnvelope_0 : decode cX2_hasEnvelope 0 = .ok (.aload_n 0, 1) := by decide +kernel
theorem dX2_hasEnvelope_1 : decode cX2_hasEnvelope 1 = .ok (.getfield 9, 3) := by decide +kernel
theorem dX2_hasEnvelope_4 : decode cX2_hasEnvelope 4 = .ok (.iconst 3, 1) := by decide +kernel
theorem dX2_hasEnvelope_5 : decode cX2_hasEnvelope 5 = .ok (.if_icmp .gt 7, 3) := by decide +kernel
theorem dX2_hasEnvelope_8 : decode cX2_hasEnvelope 8 = .ok (.iconst 1, 1) := by decide +kernel
theorem dX2_hasEnvelope_9 : decode cX2_hasEnvelope 9 = .ok (.goto 4, 3) := by decide +kernel
theorem dX2_hasEnvelope_12 : decode cX2_hasEnvelope 12 = .ok (.iconst 0, 1) := by decide +kernel
theorem dX2_hasEnvelope_13 : decode cX2_hasEnvelope 13 = .ok (.ireturn, 1) := by decide +kernel
theorem dX2_envelopeAt_0 : decode cX2_envelopeAt 0 = .ok (.aload_n 0, 1) := by decide +kernel
theorem dX2_envelopeAt_1 : decode cX2_envelopeAt 1 = .ok (.getfield 27, 3) := by decide +kernel
theorem dX2_envelopeAt_4 : decode cX2_envelopeAt 4 = .ok (.iconst 3, 1) := by decide +kernel
theorem dX2_envelopeAt_5 : decode cX2_envelopeAt 5 = .ok (.iaload, 1) := by decide +kernel
theorem dX2_envelopeAt_6 : decode cX2_envelopeAt 6 = .ok (.iload_n 1, 1) := by decide +kernel
theorem dX2_envelopeAt_7 : decode cX2_envelopeAt 7 = .ok (.aload_n 0, 1) := by decide +kernel
theorem dX2_envelopeAt_8 : decode cX2_envelopeAt 8 = .ok (.getfield 27, 3) := by decide +kernel
theorem dX2_envelopeAt_11 : decode cX2_envelopeAt 11 = .ok (.iconst 2, 1) := by decide +kernel
theorem dX2_envelopeAt_12 : decode cX2_envelopeAt 12 = .ok (.iaload, 1) := by decide +kernel
theorem dX2_envelopeAt_13 : decode cX2_envelopeAt 13 = .ok (.invokestatic 50, 3) := by decide +kernel
theorem dX2_envelopeAt_16 : decode cX2_envelopeAt 16 = .ok (.istore_n 2, 1) := by decide +kernel
theorem dX2_envelopeAt_17 : decode cX2_envelopeAt 17 = .ok (.aload_n 0, 1) := by decide +kernel
theorem dX2_envelopeAt_18 : decode cX2_envelopeAt 18 = .ok (.getfield 27, 3) := by decide +kernel
theorem dX2_envelopeAt_21 : decode cX2_envelopeAt 21 = .ok (.iconst 0, 1) := by decide +kernel
theorem dX2_envelopeAt_22 : decode cX2_envelopeAt 22 = .ok (.iaload, 1) := by decide +kernel
theorem dX2_envelopeAt_23 : decode cX2_envelopeAt 23 = .ok (.bipush (-9), 2) := by decide +kernel
theorem dX2_envelopeAt_25 : decode cX2_envelopeAt 25 = .ok (.if_icmp .ne 5, 3) := by decide +kernel
theorem dX2_envelopeAt_28 : decode cX2_envelopeAt 28 = .ok (.iload_n 2, 1) := by decide +kernel
theorem dX2_envelopeAt_29 : decode cX2_envelopeAt 29 = .ok (.ireturn, 1) := by decide +kernel
theorem dX2_envelopeAt_30 : decode cX2_envelopeAt 30 = .ok (.aload_n 0, 1) := by decide +kernel
theorem dX2_envelopeAt_31 : decode cX2_envelopeAt 31 = .ok (.getfield 27, 3) := by decide +kernel
theorem dX2_envelopeAt_34 : decode cX2_envelopeAt 34 = .ok (.iconst 5, 1) := by decide +kernel
theorem dX2_envelopeAt_35 : decode cX2_envelopeAt 35 = .ok (.iaload, 1) := by decide +kernel
theorem dX2_envelopeAt_36 : decode cX2_envelopeAt 36 = .ok (.aload_n 0, 1) := by decide +kernel
theorem dX2_envelopeAt_37 : decode cX2_envelopeAt 37 = .ok (.getfield 27, 3) := by decide +kernel
theorem dX2_envelopeAt_40 : decode cX2_envelopeAt 40 = .ok (.iconst 0, 1) := by decide +kernel
theorem dX2_envelopeAt_41 : decode cX2_envelopeAt 41 = .ok (.iaload, 1) := by decide +kernel
theorem dX2_envelopeAt_42 : decode cX2_envelopeAt 42 = .ok (.iload_n 1, 1) := by decide +kernel
theorem dX2_envelopeAt_43 : decode cX2_envelopeAt 43 = .ok (.isub, 1) := by decide +kernel
theorem dX2_envelopeAt_44 : decode cX2_envelopeAt 44 = .ok (.aload_n 0, 1) := by decide +kernel
theorem dX2_envelopeAt_45 : decode cX2_envelopeAt 45 = .ok (.getfield 27, 3) := by decide +kernel
theorem dX2_envelopeAt_48 : decode cX2_envelopeAt 48 = .ok (.iconst 4, 1) := by decide +kernel
theorem dX2_envelopeAt_49 : decode cX2_envelopeAt 49 = .ok (.iaload, 1) := by decide +kernel
theorem dX2_envelopeAt_50 : decode cX2_envelopeAt 50 = .ok (.invokestatic 50, 3) := by decide +kernel
theorem dX2_envelopeAt_53 : decode cX2_envelopeAt 53 = .ok (.istore_n 3, 1) := by decide +kernel
theorem dX2_envelopeAt_54 : decode cX2_envelopeAt 54 = .ok (.iload_n 2, 1) := by decide +kernel
theorem dX2_envelopeAt_55 : decode cX2_envelopeAt 55 = .ok (.iload_n 3, 1) := by decide +kernel
theorem dX2_envelopeAt_56 : decode cX2_envelopeAt 56 = .ok (.invokestatic 54, 3) := by decide +kernel
theorem dX2_envelopeAt_59 : decode cX2_envelopeAt 59 = .ok (.ireturn, 1) := by decide +kernel
theorem dX2_levelAt_0 : decode cX2_levelAt 0 = .ok (.iload_n 2, 1) := by decide +kernel
theorem dX2_levelAt_1 : decode cX2_levelAt 1 = .ok (.iconst 1, 1) := by decide +kernel
theorem dX2_levelAt_2 : decode cX2_levelAt 2 = .ok (.if_icmp .lt 8, 3) := by decide +kernel
theorem dX2_levelAt_5 : decode cX2_levelAt 5 = .ok (.iload_n 1, 1) := by decide +kernel
theorem dX2_levelAt_6 : decode cX2_levelAt 6 = .ok (.iload_n 2, 1) := by decide +kernel
theorem dX2_levelAt_7 : decode cX2_levelAt 7 = .ok (.if_icmp .lt 6, 3) := by decide +kernel
theorem dX2_levelAt_10 : decode cX2_levelAt 10 = .ok (.bipush 100, 2) := by decide +kernel
theorem dX2_levelAt_12 : decode cX2_levelAt 12 = .ok (.ireturn, 1) := by decide +kernel
theorem dX2_levelAt_13 : decode cX2_levelAt 13 = .ok (.iload_n 0, 1) := by decide +kernel
theorem dX2_levelAt_14 : decode cX2_levelAt 14 = .ok (.bipush 100, 2) := by decide +kernel
theorem dX2_levelAt_16 : decode cX2_levelAt 16 = .ok (.iload_n 0, 1) := by decide +kernel
theorem dX2_levelAt_17 : decode cX2_levelAt 17 = .ok (.isub, 1) := by decide +kernel
theorem dX2_levelAt_18 : decode cX2_levelAt 18 = .ok (.iload_n 1, 1) := by decide +kernel
theorem dX2_levelAt_19 : decode cX2_levelAt 19 = .ok (.imul, 1) := by decide +kernel
theorem dX2_levelAt_20 : decode cX2_levelAt 20 = .ok (.iload_n 2, 1) := by decide +kernel
theorem dX2_levelAt_21 : decode cX2_levelAt 21 = .ok (.idiv, 1) := by decide +kernel
theorem dX2_levelAt_22 : decode cX2_levelAt 22 = .ok (.iadd, 1) := by decide +kernel
theorem dX2_levelAt_23 : decode cX2_levelAt 23 = .ok (.ireturn, 1) := by decide +kernel
theorem dX2_partAt_0 : decode cX2_partAt 0 = .ok (.aload_n 0, 1) := by decide +kernel
theorem dX2_partAt_1 : decode cX2_partAt 1 = .ok (.iload_n 1, 1) := by decide +kernel
theorem dX2_partAt_2 : decode cX2_partAt 2 = .ok (.iload_n 2, 1) := by decide +kernel
theorem dX2_partAt_3 : decode cX2_partAt 3 = .ok (.invokevirtual 60, 3) := by decide +kernel
theorem dX2_partAt_6 : decode cX2_partAt 6 = .ok (.ifCond .ne 5, 3) := by decide +kernel
theorem dX2_partAt_9 : decode cX2_partAt 9 = .ok (.iconst 0, 1) := by decide +kernel
theorem dX2_partAt_10 : decode cX2_partAt 10 = .ok (.ireturn, 1) := by decide +kernel
theorem dX2_partAt_11 : decode cX2_partAt 11 = .ok (.aload_n 0, 1) := by decide +kernel
theorem dX2_partAt_12 : decode cX2_partAt 12 = .ok (.aload_n 0, 1) := by decide +kernel
theorem dX2_partAt_13 : decode cX2_partAt 13 = .ok (.iload_n 1, 1) := by decide +kernel
theorem dX2_partAt_14 : decode cX2_partAt 14 = .ok (.iload_n 2, 1) := by decide +kernel
theorem dX2_partAt_15 : decode cX2_partAt 15 = .ok (.invokevirtual 63, 3) := by decide +kernel
theorem dX2_partAt_18 : decode cX2_partAt 18 = .ok (.aload_n 3, 1) := by decide +kernel
theorem dX2_partAt_19 : decode cX2_partAt 19 = .ok (.invokevirtual 66, 3) := by decide +kernel
theorem dX2_partAt_22 : decode cX2_partAt 22 = .ok (.istore 4, 2) := by decide +kernel
theorem dX2_partAt_24 : decode cX2_partAt 24 = .ok (.iload 4, 2) := by decide +kernel
theorem dX2_partAt_26 : decode cX2_partAt 26 = .ok (.aload_n 0, 1) := by decide +kernel
theorem dX2_partAt_27 : decode cX2_partAt 27 = .ok (.getfield 27, 3) := by decide +kernel
theorem dX2_partAt_30 : decode cX2_partAt 30 = .ok (.bipush 8, 2) := by decide +kernel
theorem dX2_partAt_32 : decode cX2_partAt 32 = .ok (.iaload, 1) := by decide +kernel
theorem dX2_partAt_33 : decode cX2_partAt 33 = .ok (.imul, 1) := by decide +kernel
theorem dX2_partAt_34 : decode cX2_partAt 34 = .ok (.bipush 100, 2) := by decide +kernel
theorem dX2_partAt_36 : decode cX2_partAt 36 = .ok (.idiv, 1) := by decide +kernel
theorem dX2_partAt_37 : decode cX2_partAt 37 = .ok (.aload_n 0, 1) := by decide +kernel
theorem dX2_partAt_38 : decode cX2_partAt 38 = .ok (.getfield 27, 3) := by decide +kernel
theorem dX2_partAt_41 : decode cX2_partAt 41 = .ok (.aload_n 3, 1) := by decide +kernel
theorem dX2_partAt_42 : decode cX2_partAt 42 = .ok (.getfield 70, 3) := by decide +kernel
theorem dX2_partAt_45 : decode cX2_partAt 45 = .ok (.iaload, 1) := by decide +kernel
theorem dX2_partAt_46 : decode cX2_partAt 46 = .ok (.imul, 1) := by decide +kernel
theorem dX2_partAt_47 : decode cX2_partAt 47 = .ok (.bipush 100, 2) := by decide +kernel
theorem dX2_partAt_49 : decode cX2_partAt 49 = .ok (.idiv, 1) := by decide +kernel
theorem dX2_partAt_50 : decode cX2_partAt 50 = .ok (.ireturn, 1) := by decide +kernel
theorem dX2_valueAt_0 : decode cX2_valueAt 0 = .ok (.aload_n 0, 1) := by decide +kernel
theorem dX2_valueAt_1 : decode cX2_valueAt 1 = .ok (.getfield 9, 3) := by decide +kernel
theorem dX2_valueAt_4 : decode cX2_valueAt 4 = .ok (.tableswitch 65 4 6 #[28, 44, 56], 28) := by decide +kernel
theorem dX2_valueAt_32 : decode cX2_valueAt 32 = .ok (.aload_n 0, 1) := by decide +kernel
theorem dX2_valueAt_33 : decode cX2_valueAt 33 = .ok (.aload_n 2, 1) := by decide +kernel
theorem dX2_valueAt_34 : decode cX2_valueAt 34 = .ok (.getfield 75, 3) := by decide +kernel
theorem dX2_valueAt_37 : decode cX2_valueAt 37 = .ok (.aload_n 0, 1) := by decide +kernel
theorem dX2_valueAt_38 : decode cX2_valueAt 38 = .ok (.getfield 18, 3) := by decide +kernel
theorem dX2_valueAt_41 : decode cX2_valueAt 41 = .ok (.isub, 1) := by decide +kernel
theorem dX2_valueAt_42 : decode cX2_valueAt 42 = .ok (.bipush 100, 2) := by decide +kernel
theorem dX2_valueAt_44 : decode cX2_valueAt 44 = .ok (.invokevirtual 78, 3) := by decide +kernel
theorem dX2_valueAt_47 : decode cX2_valueAt 47 = .ok (.ireturn, 1) := by decide +kernel
theorem dX2_valueAt_48 : decode cX2_valueAt 48 = .ok (.aload_n 0, 1) := by decide +kernel
theorem dX2_valueAt_49 : decode cX2_valueAt 49 = .ok (.aload_n 2, 1) := by decide +kernel
theorem dX2_valueAt_50 : decode cX2_valueAt 50 = .ok (.getfield 81, 3) := by decide +kernel
theorem dX2_valueAt_53 : decode cX2_valueAt 53 = .ok (.sipush 1000, 3) := by decide +kernel
theorem dX2_valueAt_56 : decode cX2_valueAt 56 = .ok (.invokevirtual 78, 3) := by decide +kernel
theorem dX2_valueAt_59 : decode cX2_valueAt 59 = .ok (.ireturn, 1) := by decide +kernel
theorem dX2_valueAt_60 : decode cX2_valueAt 60 = .ok (.aload_n 0, 1) := by decide +kernel
theorem dX2_valueAt_61 : decode cX2_valueAt 61 = .ok (.aload_n 2, 1) := by decide +kernel
theorem dX2_valueAt_62 : decode cX2_valueAt 62 = .ok (.getfield 75, 3) := by decide +kernel
theorem dX2_valueAt_65 : decode cX2_valueAt 65 = .ok (.invokevirtual 84, 3) := by decide +kernel
theorem dX2_valueAt_68 : decode cX2_valueAt 68 = .ok (.ireturn, 1) := by decide +kernel
theorem dX2_valueAt_69 : decode cX2_valueAt 69 = .ok (.aload_n 0, 1) := by decide +kernel
theorem dX2_valueAt_70 : decode cX2_valueAt 70 = .ok (.iload_n 1, 1) := by decide +kernel
theorem dX2_valueAt_71 : decode cX2_valueAt 71 = .ok (.invokevirtual 88, 3) := by decide +kernel
theorem dX2_valueAt_74 : decode cX2_valueAt 74 = .ok (.aload_n 0, 1) := by decide +kernel
theorem dX2_valueAt_75 : decode cX2_valueAt 75 = .ok (.iload_n 1, 1) := by decide +kernel
theorem dX2_valueAt_76 : decode cX2_valueAt 76 = .ok (.invokevirtual 91, 3) := by decide +kernel
theorem dX2_valueAt_79 : decode cX2_valueAt 79 = .ok (.imul, 1) := by decide +kernel
theorem dX2_valueAt_80 : decode cX2_valueAt 80 = .ok (.bipush 100, 2) := by decide +kernel
theorem dX2_valueAt_82 : decode cX2_valueAt 82 = .ok (.idiv, 1) := by decide +kernel
theorem dX2_valueAt_83 : decode cX2_valueAt 83 = .ok (.ireturn, 1) := by decide +kernel
theorem dX2_waveAt_0 : decode cX2_waveAt 0 = .ok (.aload_n 0, 1) := by decide +kernel
theorem dX2_waveAt_1 : decode cX2_waveAt 1 = .ok (.getfield 9, 3) := by decide +kernel
theorem dX2_waveAt_4 : decode cX2_waveAt 4 = .ok (.tableswitch 151 1 3 #[28, 72, 107], 28) := by decide +kernel
theorem dX2_waveAt_32 : decode cX2_waveAt 32 = .ok (.iconst 2, 1) := by decide +kernel
theorem dX2_waveAt_33 : decode cX2_waveAt 33 = .ok (.iload_n 1, 1) := by decide +kernel
theorem dX2_waveAt_34 : decode cX2_waveAt 34 = .ok (.aload_n 0, 1) := by decide +kernel
theorem dX2_waveAt_35 : decode cX2_waveAt 35 = .ok (.getfield 24, 3) := by decide +kernel
theorem dX2_waveAt_38 : decode cX2_waveAt 38 = .ok (.iadd, 1) := by decide +kernel
theorem dX2_waveAt_39 : decode cX2_waveAt 39 = .ok (.aload_n 0, 1) := by decide +kernel
theorem dX2_waveAt_40 : decode cX2_waveAt 40 = .ok (.getfield 21, 3) := by decide +kernel
theorem dX2_waveAt_43 : decode cX2_waveAt 43 = .ok (.invokestatic 94, 3) := by decide +kernel
theorem dX2_waveAt_46 : decode cX2_waveAt 46 = .ok (.imul, 1) := by decide +kernel
theorem dX2_waveAt_47 : decode cX2_waveAt 47 = .ok (.aload_n 0, 1) := by decide +kernel
theorem dX2_waveAt_48 : decode cX2_waveAt 48 = .ok (.getfield 21, 3) := by decide +kernel
theorem dX2_waveAt_51 : decode cX2_waveAt 51 = .ok (.if_icmp .ge 15, 3) := by decide +kernel
theorem dX2_waveAt_54 : decode cX2_waveAt 54 = .ok (.aload_n 0, 1) := by decide +kernel
theorem dX2_waveAt_55 : decode cX2_waveAt 55 = .ok (.getfield 18, 3) := by decide +kernel
theorem dX2_waveAt_58 : decode cX2_waveAt 58 = .ok (.aload_n 0, 1) := by decide +kernel
theorem dX2_waveAt_59 : decode cX2_waveAt 59 = .ok (.getfield 15, 3) := by decide +kernel
theorem dX2_waveAt_62 : decode cX2_waveAt 62 = .ok (.iadd, 1) := by decide +kernel
theorem dX2_waveAt_63 : decode cX2_waveAt 63 = .ok (.goto 12, 3) := by decide +kernel
theorem dX2_waveAt_66 : decode cX2_waveAt 66 = .ok (.aload_n 0, 1) := by decide +kernel
theorem dX2_waveAt_67 : decode cX2_waveAt 67 = .ok (.getfield 18, 3) := by decide +kernel
theorem dX2_waveAt_70 : decode cX2_waveAt 70 = .ok (.aload_n 0, 1) := by decide +kernel
theorem dX2_waveAt_71 : decode cX2_waveAt 71 = .ok (.getfield 15, 3) := by decide +kernel
theorem dX2_waveAt_74 : decode cX2_waveAt 74 = .ok (.isub, 1) := by decide +kernel
theorem dX2_waveAt_75 : decode cX2_waveAt 75 = .ok (.ireturn, 1) := by decide +kernel
theorem dX2_waveAt_76 : decode cX2_waveAt 76 = .ok (.aload_n 0, 1) := by decide +kernel
theorem dX2_waveAt_77 : decode cX2_waveAt 77 = .ok (.getfield 18, 3) := by decide +kernel
theorem dX2_waveAt_80 : decode cX2_waveAt 80 = .ok (.aload_n 0, 1) := by decide +kernel
theorem dX2_waveAt_81 : decode cX2_waveAt 81 = .ok (.getfield 15, 3) := by decide +kernel
theorem dX2_waveAt_84 : decode cX2_waveAt 84 = .ok (.aload_n 0, 1) := by decide +kernel
theorem dX2_waveAt_85 : decode cX2_waveAt 85 = .ok (.iload_n 1, 1) := by decide +kernel
theorem dX2_waveAt_86 : decode cX2_waveAt 86 = .ok (.aload_n 0, 1) := by decide +kernel
theorem dX2_waveAt_87 : decode cX2_waveAt 87 = .ok (.getfield 24, 3) := by decide +kernel
theorem dX2_waveAt_90 : decode cX2_waveAt 90 = .ok (.iadd, 1) := by decide +kernel
theorem dX2_waveAt_91 : decode cX2_waveAt 91 = .ok (.aload_n 0, 1) := by decide +kernel
theorem dX2_waveAt_92 : decode cX2_waveAt 92 = .ok (.getfield 21, 3) := by decide +kernel
theorem dX2_waveAt_95 : decode cX2_waveAt 95 = .ok (.invokestatic 94, 3) := by decide +kernel
theorem dX2_waveAt_98 : decode cX2_waveAt 98 = .ok (.invokevirtual 97, 3) := by decide +kernel
theorem dX2_waveAt_101 : decode cX2_waveAt 101 = .ok (.imul, 1) := by decide +kernel
theorem dX2_waveAt_102 : decode cX2_waveAt 102 = .ok (.aload_n 0, 1) := by decide +kernel
theorem dX2_waveAt_103 : decode cX2_waveAt 103 = .ok (.getfield 21, 3) := by decide +kernel
theorem dX2_waveAt_106 : decode cX2_waveAt 106 = .ok (.invokestatic 100, 3) := by decide +kernel
theorem dX2_waveAt_109 : decode cX2_waveAt 109 = .ok (.iadd, 1) := by decide +kernel
theorem dX2_waveAt_110 : decode cX2_waveAt 110 = .ok (.ireturn, 1) := by decide +kernel
theorem dX2_waveAt_111 : decode cX2_waveAt 111 = .ok (.aload_n 0, 1) := by decide +kernel
theorem dX2_waveAt_112 : decode cX2_waveAt 112 = .ok (.getfield 27, 3) := by decide +kernel
theorem dX2_waveAt_115 : decode cX2_waveAt 115 = .ok (.iconst 0, 1) := by decide +kernel
theorem dX2_waveAt_116 : decode cX2_waveAt 116 = .ok (.iaload, 1) := by decide +kernel
theorem dX2_waveAt_117 : decode cX2_waveAt 117 = .ok (.bipush (-9), 2) := by decide +kernel
theorem dX2_waveAt_119 : decode cX2_waveAt 119 = .ok (.if_icmp .ne 10, 3) := by decide +kernel
theorem dX2_waveAt_122 : decode cX2_waveAt 122 = .ok (.aload_n 0, 1) := by decide +kernel
theorem dX2_waveAt_123 : decode cX2_waveAt 123 = .ok (.getfield 15, 3) := by decide +kernel
theorem dX2_waveAt_126 : decode cX2_waveAt 126 = .ok (.goto 28, 3) := by decide +kernel
theorem dX2_waveAt_129 : decode cX2_waveAt 129 = .ok (.aload_n 0, 1) := by decide +kernel
theorem dX2_waveAt_130 : decode cX2_waveAt 130 = .ok (.getfield 15, 3) := by decide +kernel
theorem dX2_waveAt_133 : decode cX2_waveAt 133 = .ok (.aload_n 0, 1) := by decide +kernel
theorem dX2_waveAt_134 : decode cX2_waveAt 134 = .ok (.getfield 18, 3) := by decide +kernel
theorem dX2_waveAt_137 : decode cX2_waveAt 137 = .ok (.aload_n 0, 1) := by decide +kernel
theorem dX2_waveAt_138 : decode cX2_waveAt 138 = .ok (.getfield 15, 3) := by decide +kernel
theorem dX2_waveAt_141 : decode cX2_waveAt 141 = .ok (.isub, 1) := by decide +kernel
theorem dX2_waveAt_142 : decode cX2_waveAt 142 = .ok (.iload_n 1, 1) := by decide +kernel
theorem dX2_waveAt_143 : decode cX2_waveAt 143 = .ok (.imul, 1) := by decide +kernel
theorem dX2_waveAt_144 : decode cX2_waveAt 144 = .ok (.aload_n 0, 1) := by decide +kernel
theorem dX2_waveAt_145 : decode cX2_waveAt 145 = .ok (.getfield 27, 3) := by decide +kernel
theorem dX2_waveAt_148 : decode cX2_waveAt 148 = .ok (.iconst 0, 1) := by decide +kernel
theorem dX2_waveAt_149 : decode cX2_waveAt 149 = .ok (.iaload, 1) := by decide +kernel
theorem dX2_waveAt_150 : decode cX2_waveAt 150 = .ok (.invokestatic 100, 3) := by decide +kernel
theorem dX2_waveAt_153 : decode cX2_waveAt 153 = .ok (.iadd, 1) := by decide +kernel
theorem dX2_waveAt_154 : decode cX2_waveAt 154 = .ok (.ireturn, 1) := by decide +kernel
theorem dX2_waveAt_155 : decode cX2_waveAt 155 = .ok (.aload_n 0, 1) := by decide +kernel
theorem dX2_waveAt_156 : decode cX2_waveAt 156 = .ok (.getfield 15, 3) := by decide +kernel
theorem dX2_waveAt_159 : decode cX2_waveAt 159 = .ok (.ireturn, 1) := by decide +kernel
theorem dX2_riseAt_0 : decode cX2_riseAt 0 = .ok (.iconst 2, 1) := by decide +kernel
theorem dX2_riseAt_1 : decode cX2_riseAt 1 = .ok (.iload_n 1, 1) := by decide +kernel
theorem dX2_riseAt_2 : decode cX2_riseAt 2 = .ok (.imul, 1) := by decide +kernel
theorem dX2_riseAt_3 : decode cX2_riseAt 3 = .ok (.aload_n 0, 1) := by decide +kernel
theorem dX2_riseAt_4 : decode cX2_riseAt 4 = .ok (.getfield 21, 3) := by decide +kernel
theorem dX2_riseAt_7 : decode cX2_riseAt 7 = .ok (.if_icmp .ge 14, 3) := by decide +kernel
theorem dX2_riseAt_10 : decode cX2_riseAt 10 = .ok (.iconst 4, 1) := by decide +kernel
theorem dX2_riseAt_11 : decode cX2_riseAt 11 = .ok (.iload_n 1, 1) := by decide +kernel
theorem dX2_riseAt_12 : decode cX2_riseAt 12 = .ok (.imul, 1) := by decide +kernel
theorem dX2_riseAt_13 : decode cX2_riseAt 13 = .ok (.aload_n 0, 1) := by decide +kernel
theorem dX2_riseAt_14 : decode cX2_riseAt 14 = .ok (.getfield 21, 3) := by decide +kernel
theorem dX2_riseAt_17 : decode cX2_riseAt 17 = .ok (.isub, 1) := by decide +kernel
theorem dX2_riseAt_18 : decode cX2_riseAt 18 = .ok (.goto 13, 3) := by decide +kernel
theorem dX2_riseAt_21 : decode cX2_riseAt 21 = .ok (.iconst 3, 1) := by decide +kernel
theorem dX2_riseAt_22 : decode cX2_riseAt 22 = .ok (.aload_n 0, 1) := by decide +kernel
theorem dX2_riseAt_23 : decode cX2_riseAt 23 = .ok (.getfield 21, 3) := by decide +kernel
theorem dX2_riseAt_26 : decode cX2_riseAt 26 = .ok (.imul, 1) := by decide +kernel
theorem dX2_riseAt_27 : decode cX2_riseAt 27 = .ok (.iconst 4, 1) := by decide +kernel
theorem dX2_riseAt_28 : decode cX2_riseAt 28 = .ok (.iload_n 1, 1) := by decide +kernel
theorem dX2_riseAt_29 : decode cX2_riseAt 29 = .ok (.imul, 1) := by decide +kernel
theorem dX2_riseAt_30 : decode cX2_riseAt 30 = .ok (.isub, 1) := by decide +kernel
theorem dX2_riseAt_31 : decode cX2_riseAt 31 = .ok (.ireturn, 1) := by decide +kernel
theorem dX2_awayFrom_0 : decode cX2_awayFrom 0 = .ok (.iload_n 1, 1) := by decide +kernel
theorem dX2_awayFrom_1 : decode cX2_awayFrom 1 = .ok (.invokestatic 103, 3) := by decide +kernel
theorem dX2_awayFrom_4 : decode cX2_awayFrom 4 = .ok (.aload_n 0, 1) := by decide +kernel
theorem dX2_awayFrom_5 : decode cX2_awayFrom 5 = .ok (.getfield 21, 3) := by decide +kernel
theorem dX2_awayFrom_8 : decode cX2_awayFrom 8 = .ok (.if_icmp .gt 5, 3) := by decide +kernel
theorem dX2_awayFrom_11 : decode cX2_awayFrom 11 = .ok (.iconst 0, 1) := by decide +kernel
theorem dX2_awayFrom_12 : decode cX2_awayFrom 12 = .ok (.ireturn, 1) := by decide +kernel
theorem dX2_awayFrom_13 : decode cX2_awayFrom 13 = .ok (.iload_n 1, 1) := by decide +kernel
theorem dX2_awayFrom_14 : decode cX2_awayFrom 14 = .ok (.ifCond .le 12, 3) := by decide +kernel
theorem dX2_awayFrom_17 : decode cX2_awayFrom 17 = .ok (.iload_n 1, 1) := by decide +kernel
theorem dX2_awayFrom_18 : decode cX2_awayFrom 18 = .ok (.aload_n 0, 1) := by decide +kernel
theorem dX2_awayFrom_19 : decode cX2_awayFrom 19 = .ok (.getfield 21, 3) := by decide +kernel
theorem dX2_awayFrom_22 : decode cX2_awayFrom 22 = .ok (.isub, 1) := by decide +kernel
theorem dX2_awayFrom_23 : decode cX2_awayFrom 23 = .ok (.goto 9, 3) := by decide +kernel
theorem dX2_awayFrom_26 : decode cX2_awayFrom 26 = .ok (.iload_n 1, 1) := by decide +kernel
theorem dX2_awayFrom_27 : decode cX2_awayFrom 27 = .ok (.aload_n 0, 1) := by decide +kernel
theorem dX2_awayFrom_28 : decode cX2_awayFrom 28 = .ok (.getfield 21, 3) := by decide +kernel
theorem dX2_awayFrom_31 : decode cX2_awayFrom 31 = .ok (.iadd, 1) := by decide +kernel
theorem dX2_awayFrom_32 : decode cX2_awayFrom 32 = .ok (.istore_n 3, 1) := by decide +kernel
theorem dX2_awayFrom_33 : decode cX2_awayFrom 33 = .ok (.aload_n 0, 1) := by decide +kernel
theorem dX2_awayFrom_34 : decode cX2_awayFrom 34 = .ok (.getfield 15, 3) := by decide +kernel
theorem dX2_awayFrom_37 : decode cX2_awayFrom 37 = .ok (.ineg, 1) := by decide +kernel
theorem dX2_awayFrom_38 : decode cX2_awayFrom 38 = .ok (.iload_n 3, 1) := by decide +kernel
theorem dX2_awayFrom_39 : decode cX2_awayFrom 39 = .ok (.imul, 1) := by decide +kernel
theorem dX2_awayFrom_40 : decode cX2_awayFrom 40 = .ok (.iload_n 2, 1) := by decide +kernel
theorem dX2_awayFrom_41 : decode cX2_awayFrom 41 = .ok (.invokestatic 100, 3) := by decide +kernel
theorem dX2_awayFrom_44 : decode cX2_awayFrom 44 = .ok (.aload_n 0, 1) := by decide +kernel
theorem dX2_awayFrom_45 : decode cX2_awayFrom 45 = .ok (.getfield 24, 3) := by decide +kernel
theorem dX2_awayFrom_48 : decode cX2_awayFrom 48 = .ok (.invokestatic 106, 3) := by decide +kernel
theorem dX2_awayFrom_51 : decode cX2_awayFrom 51 = .ok (.ireturn, 1) := by decide +kernel
theorem dX2_wallAt_0 : decode cX2_wallAt 0 = .ok (.aload_n 0, 1) := by decide +kernel
theorem dX2_wallAt_1 : decode cX2_wallAt 1 = .ok (.getfield 21, 3) := by decide +kernel
theorem dX2_wallAt_4 : decode cX2_wallAt 4 = .ok (.ifCond .ne 12, 3) := by decide +kernel
theorem dX2_wallAt_7 : decode cX2_wallAt 7 = .ok (.iload_n 1, 1) := by decide +kernel
theorem dX2_wallAt_8 : decode cX2_wallAt 8 = .ok (.aload_n 0, 1) := by decide +kernel
theorem dX2_wallAt_9 : decode cX2_wallAt 9 = .ok (.getfield 18, 3) := by decide +kernel
theorem dX2_wallAt_12 : decode cX2_wallAt 12 = .ok (.isub, 1) := by decide +kernel
theorem dX2_wallAt_13 : decode cX2_wallAt 13 = .ok (.goto 9, 3) := by decide +kernel
theorem dX2_wallAt_16 : decode cX2_wallAt 16 = .ok (.aload_n 0, 1) := by decide +kernel
theorem dX2_wallAt_17 : decode cX2_wallAt 17 = .ok (.getfield 18, 3) := by decide +kernel
theorem dX2_wallAt_20 : decode cX2_wallAt 20 = .ok (.iload_n 1, 1) := by decide +kernel
theorem dX2_wallAt_21 : decode cX2_wallAt 21 = .ok (.isub, 1) := by decide +kernel
theorem dX2_wallAt_22 : decode cX2_wallAt 22 = .ok (.istore_n 2, 1) := by decide +kernel
theorem dX2_wallAt_23 : decode cX2_wallAt 23 = .ok (.iload_n 2, 1) := by decide +kernel
theorem dX2_wallAt_24 : decode cX2_wallAt 24 = .ok (.ifCond .gt 5, 3) := by decide +kernel
theorem dX2_wallAt_27 : decode cX2_wallAt 27 = .ok (.iconst 0, 1) := by decide +kernel
theorem dX2_wallAt_28 : decode cX2_wallAt 28 = .ok (.ireturn, 1) := by decide +kernel
theorem dX2_wallAt_29 : decode cX2_wallAt 29 = .ok (.aload_n 0, 1) := by decide +kernel
theorem dX2_wallAt_30 : decode cX2_wallAt 30 = .ok (.getfield 15, 3) := by decide +kernel
theorem dX2_wallAt_33 : decode cX2_wallAt 33 = .ok (.iload_n 2, 1) := by decide +kernel
theorem dX2_wallAt_34 : decode cX2_wallAt 34 = .ok (.imul, 1) := by decide +kernel
theorem dX2_wallAt_35 : decode cX2_wallAt 35 = .ok (.bipush 100, 2) := by decide +kernel
theorem dX2_wallAt_37 : decode cX2_wallAt 37 = .ok (.idiv, 1) := by decide +kernel
theorem dX2_wallAt_38 : decode cX2_wallAt 38 = .ok (.aload_n 0, 1) := by decide +kernel
theorem dX2_wallAt_39 : decode cX2_wallAt 39 = .ok (.getfield 24, 3) := by decide +kernel
theorem dX2_wallAt_42 : decode cX2_wallAt 42 = .ok (.invokestatic 106, 3) := by decide +kernel
theorem dX2_wallAt_45 : decode cX2_wallAt 45 = .ok (.istore_n 3, 1) := by decide +kernel
theorem dX2_wallAt_46 : decode cX2_wallAt 46 = .ok (.aload_n 0, 1) := by decide +kernel
theorem dX2_wallAt_47 : decode cX2_wallAt 47 = .ok (.getfield 21, 3) := by decide +kernel
theorem dX2_wallAt_50 : decode cX2_wallAt 50 = .ok (.ifCond .ne 8, 3) := by decide +kernel
theorem dX2_wallAt_53 : decode cX2_wallAt 53 = .ok (.iload_n 3, 1) := by decide +kernel
theorem dX2_wallAt_54 : decode cX2_wallAt 54 = .ok (.ineg, 1) := by decide +kernel
theorem dX2_wallAt_55 : decode cX2_wallAt 55 = .ok (.goto 4, 3) := by decide +kernel
theorem dX2_wallAt_58 : decode cX2_wallAt 58 = .ok (.iload_n 3, 1) := by decide +kernel
theorem dX2_wallAt_59 : decode cX2_wallAt 59 = .ok (.ireturn, 1) := by decide +kernel
theorem dJ6_bitCount_0f7a4_0 : decode cJ6_bitCount_0f7a4 0 = .ok (.iload_n 0, 1) := by decide +kernel
theorem dJ6_bitCount_0f7a4_1 : decode cJ6_bitCount_0f7a4 1 = .ok (.iload_n 0, 1) := by decide +kernel
theorem dJ6_bitCount_0f7a4_2 : decode cJ6_bitCount_0f7a4 2 = .ok (.iconst 1, 1) := by decide +kernel
theorem dJ6_bitCount_0f7a4_3 : decode cJ6_bitCount_0f7a4 3 = .ok (.iushr, 1) := by decide +kernel
theorem dJ6_bitCount_0f7a4_4 : decode cJ6_bitCount_0f7a4 4 = .ok (.ldc_w 265, 3) := by decide +kernel
theorem dJ6_bitCount_0f7a4_7 : decode cJ6_bitCount_0f7a4 7 = .ok (.iand, 1) := by decide +kernel
theorem dJ6_bitCount_0f7a4_8 : decode cJ6_bitCount_0f7a4 8 = .ok (.isub, 1) := by decide +kernel
theorem dJ6_bitCount_0f7a4_9 : decode cJ6_bitCount_0f7a4 9 = .ok (.istore_n 0, 1) := by decide +kernel
theorem dJ6_bitCount_0f7a4_10 : decode cJ6_bitCount_0f7a4 10 = .ok (.iload_n 0, 1) := by decide +kernel
theorem dJ6_bitCount_0f7a4_11 : decode cJ6_bitCount_0f7a4 11 = .ok (.ldc_w 266, 3) := by decide +kernel
theorem dJ6_bitCount_0f7a4_14 : decode cJ6_bitCount_0f7a4 14 = .ok (.iand, 1) := by decide +kernel
theorem dJ6_bitCount_0f7a4_15 : decode cJ6_bitCount_0f7a4 15 = .ok (.iload_n 0, 1) := by decide +kernel
theorem dJ6_bitCount_0f7a4_16 : decode cJ6_bitCount_0f7a4 16 = .ok (.iconst 2, 1) := by decide +kernel
theorem dJ6_bitCount_0f7a4_17 : decode cJ6_bitCount_0f7a4 17 = .ok (.iushr, 1) := by decide +kernel
theorem dJ6_bitCount_0f7a4_18 : decode cJ6_bitCount_0f7a4 18 = .ok (.ldc_w 266, 3) := by decide +kernel
theorem dJ6_bitCount_0f7a4_21 : decode cJ6_bitCount_0f7a4 21 = .ok (.iand, 1) := by decide +kernel
theorem dJ6_bitCount_0f7a4_22 : decode cJ6_bitCount_0f7a4 22 = .ok (.iadd, 1) := by decide +kernel
theorem dJ6_bitCount_0f7a4_23 : decode cJ6_bitCount_0f7a4 23 = .ok (.istore_n 0, 1) := by decide +kernel
theorem dJ6_bitCount_0f7a4_24 : decode cJ6_bitCount_0f7a4 24 = .ok (.iload_n 0, 1) := by decide +kernel
theorem dJ6_bitCount_0f7a4_25 : decode cJ6_bitCount_0f7a4 25 = .ok (.iload_n 0, 1) := by decide +kernel
theorem dJ6_bitCount_0f7a4_26 : decode cJ6_bitCount_0f7a4 26 = .ok (.iconst 4, 1) := by decide +kernel
theorem dJ6_bitCount_0f7a4_27 : decode cJ6_bitCount_0f7a4 27 = .ok (.iushr, 1) := by decide +kernel
theorem dJ6_bitCount_0f7a4_28 : decode cJ6_bitCount_0f7a4 28 = .ok (.iadd, 1) := by decide +kernel
theorem dJ6_bitCount_0f7a4_29 : decode cJ6_bitCount_0f7a4 29 = .ok (.ldc_w 267, 3) := by decide +kernel
theorem dJ6_bitCount_0f7a4_32 : decode cJ6_bitCount_0f7a4 32 = .ok (.iand, 1) := by decide +kernel
theorem dJ6_bitCount_0f7a4_33 : decode cJ6_bitCount_0f7a4 33 = .ok (.istore_n 0, 1) := by decide +kernel
theorem dJ6_bitCount_0f7a4_34 : decode cJ6_bitCount_0f7a4 34 = .ok (.iload_n 0, 1) := by decide +kernel
theorem dJ6_bitCount_0f7a4_35 : decode cJ6_bitCount_0f7a4 35 = .ok (.iload_n 0, 1) := by decide +kernel
theorem dJ6_bitCount_0f7a4_36 : decode cJ6_bitCount_0f7a4 36 = .ok (.bipush 8, 2) := by decide +kernel
theorem dJ6_bitCount_0f7a4_38 : decode cJ6_bitCount_0f7a4 38 = .ok (.iushr, 1) := by decide +kernel
theorem dJ6_bitCount_0f7a4_39 : decode cJ6_bitCount_0f7a4 39 = .ok (.iadd, 1) := by decide +kernel
theorem dJ6_bitCount_0f7a4_40 : decode cJ6_bitCount_0f7a4 40 = .ok (.istore_n 0, 1) := by decide +kernel
theorem dJ6_bitCount_0f7a4_41 : decode cJ6_bitCount_0f7a4 41 = .ok (.iload_n 0, 1) := by decide +kernel
theorem dJ6_bitCount_0f7a4_42 : decode cJ6_bitCount_0f7a4 42 = .ok (.iload_n 0, 1) := by decide +kernel
theorem dJ6_bitCount_0f7a4_43 : decode cJ6_bitCount_0f7a4 43 = .ok (.bipush 16, 2) := by decide +kernel
theorem dJ6_bitCount_0f7a4_45 : decode cJ6_bitCount_0f7a4 45 = .ok (.iushr, 1) := by decide +kernel
theorem dJ6_bitCount_0f7a4_46 : decode cJ6_bitCount_0f7a4 46 = .ok (.iadd, 1) := by decide +kernel
theorem dJ6_bitCount_0f7a4_47 : decode cJ6_bitCount_0f7a4 47 = .ok (.istore_n 0, 1) := by decide +kernel
theorem dJ6_bitCount_0f7a4_48 : decode cJ6_bitCount_0f7a4 48 = .ok (.iload_n 0, 1) := by decide +kernel
theorem dJ6_bitCount_0f7a4_49 : decode cJ6_bitCount_0f7a4 49 = .ok (.bipush 63, 2) := by decide +kernel
theorem dJ6_bitCount_0f7a4_51 : decode cJ6_bitCount_0f7a4 51 = .ok (.iand, 1) := by decide +kernel
theorem dJ6_bitCount_0f7a4_52 : decode cJ6_bitCount_0f7a4 52 = .ok (.ireturn, 1) := by decide +kernel
theorem dJ9_abs_0f7a4_0 : decode cJ9_abs_0f7a4 0 = .ok (.iload_n 0, 1) := by decide +kernel
theorem dJ9_abs_0f7a4_1 : decode cJ9_abs_0f7a4 1 = .ok (.ifCond .ge 8, 3) := by decide +kernel
theorem dJ9_abs_0f7a4_4 : decode cJ9_abs_0f7a4 4 = .ok (.iload_n 0, 1) := by decide +kernel
theorem dJ9_abs_0f7a4_5 : decode cJ9_abs_0f7a4 5 = .ok (.ineg, 1) := by decide +kernel
theorem dJ9_abs_0f7a4_6 : decode cJ9_abs_0f7a4 6 = .ok (.goto 4, 3) := by decide +kernel
theorem dJ9_abs_0f7a4_9 : decode cJ9_abs_0f7a4 9 = .ok (.iload_n 0, 1) := by decide +kernel
theorem dJ9_abs_0f7a4_10 : decode cJ9_abs_0f7a4 10 = .ok (.ireturn, 1) := by decide +kernel
theorem dJ9_min_7cf53_0 : decode cJ9_min_7cf53 0 = .ok (.iload_n 0, 1) := by decide +kernel
theorem dJ9_min_7cf53_1 : decode cJ9_min_7cf53 1 = .ok (.iload_n 1, 1) := by decide +kernel
theorem dJ9_min_7cf53_2 : decode cJ9_min_7cf53 2 = .ok (.if_icmp .gt 7, 3) := by decide +kernel
theorem dJ9_min_7cf53_5 : decode cJ9_min_7cf53 5 = .ok (.iload_n 0, 1) := by decide +kernel
theorem dJ9_min_7cf53_6 : decode cJ9_min_7cf53 6 = .ok (.goto 4, 3) := by decide +kernel
theorem dJ9_min_7cf53_9 : decode cJ9_min_7cf53 9 = .ok (.iload_n 1, 1) := by decide +kernel
theorem dJ9_min_7cf53_10 : decode cJ9_min_7cf53 10 = .ok (.ireturn, 1) := by decide +kernel
end
section
theorem dX3_init_0 : decode cX3_init 0 = .ok (.aload_n 0, 1) := by decide +kernel
theorem dX3_init_1 : decode cX3_init 1 = .ok (.invokespecial 1, 3) := by decide +kernel
theorem dX3_init_4 : decode cX3_init 4 = .ok (.aload_n 0, 1) := by decide +kernel
theorem dX3_init_5 : decode cX3_init 5 = .ok (.bipush 12, 2) := by decide +kernel
theorem dX3_init_7 : decode cX3_init 7 = .ok (.anewarray 9, 3) := by decide +kernel
theorem dX3_init_10 : decode cX3_init 10 = .ok (.putfield 11, 3) := by decide +kernel
theorem dX3_init_13 : decode cX3_init 13 = .ok (.aload_n 0, 1) := by decide +kernel
theorem dX3_init_14 : decode cX3_init 14 = .ok (.iconst 0, 1) := by decide +kernel
theorem dX3_init_15 : decode cX3_init 15 = .ok (.putfield 15, 3) := by decide +kernel
theorem dX3_init_18 : decode cX3_init 18 = .ok (.aload_n 0, 1) := by decide +kernel
theorem dX3_init_19 : decode cX3_init 19 = .ok (.bipush 6, 2) := by decide +kernel
theorem dX3_init_21 : decode cX3_init 21 = .ok (.anewarray 9, 3) := by decide +kernel
theorem dX3_init_24 : decode cX3_init 24 = .ok (.putfield 19, 3) := by decide +kernel
theorem dX3_init_27 : decode cX3_init 27 = .ok (.aload_n 0, 1) := by decide +kernel
theorem dX3_init_28 : decode cX3_init 28 = .ok (.iconst 4, 1) := by decide +kernel
theorem dX3_init_29 : decode cX3_init 29 = .ok (.putfield 22, 3) := by decide +kernel
theorem dX3_init_32 : decode cX3_init 32 = .ok (.aload_n 0, 1) := by decide +kernel
theorem dX3_init_33 : decode cX3_init 33 = .ok (.iconst 2, 1) := by decide +kernel
theorem dX3_init_34 : decode cX3_init 34 = .ok (.anewarray 25, 3) := by decide +kernel
theorem dX3_init_37 : decode cX3_init 37 = .ok (.putfield 27, 3) := by decide +kernel
theorem dX3_init_40 : decode cX3_init 40 = .ok (.aload_n 0, 1) := by decide +kernel
theorem dX3_init_41 : decode cX3_init 41 = .ok (.iconst 0, 1) := by decide +kernel
theorem dX3_init_42 : decode cX3_init 42 = .ok (.putfield 31, 3) := by decide +kernel
theorem dX3_init_45 : decode cX3_init 45 = .ok (.aload_n 0, 1) := by decide +kernel
theorem dX3_init_46 : decode cX3_init 46 = .ok (.iconst 4, 1) := by decide +kernel
theorem dX3_init_47 : decode cX3_init 47 = .ok (.anewarray 34, 3) := by decide +kernel
theorem dX3_init_50 : decode cX3_init 50 = .ok (.putfield 36, 3) := by decide +kernel
theorem dX3_init_53 : decode cX3_init 53 = .ok (.aload_n 0, 1) := by decide +kernel
theorem dX3_init_54 : decode cX3_init 54 = .ok (.iconst 0, 1) := by decide +kernel
theorem dX3_init_55 : decode cX3_init 55 = .ok (.putfield 40, 3) := by decide +kernel
theorem dX3_init_58 : decode cX3_init 58 = .ok (.aload_n 0, 1) := by decide +kernel
theorem dX3_init_59 : decode cX3_init 59 = .ok (.iconst 0, 1) := by decide +kernel
theorem dX3_init_60 : decode cX3_init 60 = .ok (.putfield 43, 3) := by decide +kernel
theorem dX3_init_63 : decode cX3_init 63 = .ok (.aload_n 0, 1) := by decide +kernel
theorem dX3_init_64 : decode cX3_init 64 = .ok (.iconst 0, 1) := by decide +kernel
theorem dX3_init_65 : decode cX3_init 65 = .ok (.putfield 46, 3) := by decide +kernel
theorem dX3_init_68 : decode cX3_init 68 = .ok (.aload_n 0, 1) := by decide +kernel
theorem dX3_init_69 : decode cX3_init 69 = .ok (.iconst 0, 1) := by decide +kernel
theorem dX3_init_70 : decode cX3_init 70 = .ok (.putfield 49, 3) := by decide +kernel
theorem dX3_init_73 : decode cX3_init 73 = .ok (.aload_n 0, 1) := by decide +kernel
theorem dX3_init_74 : decode cX3_init 74 = .ok (.bipush 100, 2) := by decide +kernel
theorem dX3_init_76 : decode cX3_init 76 = .ok (.putfield 53, 3) := by decide +kernel
theorem dX3_init_79 : decode cX3_init 79 = .ok (.aload_n 0, 1) := by decide +kernel
theorem dX3_init_80 : decode cX3_init 80 = .ok (.sipush 250, 3) := by decide +kernel
theorem dX3_init_83 : decode cX3_init 83 = .ok (.putfield 56, 3) := by decide +kernel
theorem dX3_init_86 : decode cX3_init 86 = .ok (.aload_n 0, 1) := by decide +kernel
theorem dX3_init_87 : decode cX3_init 87 = .ok (.bipush 6, 2) := by decide +kernel
theorem dX3_init_89 : decode cX3_init 89 = .ok (.anewarray 9, 3) := by decide +kernel
theorem dX3_init_92 : decode cX3_init 92 = .ok (.putfield 59, 3) := by decide +kernel
theorem dX3_init_95 : decode cX3_init 95 = .ok (.aload_n 0, 1) := by decide +kernel
theorem dX3_init_96 : decode cX3_init 96 = .ok (.bipush 64, 2) := by decide +kernel
theorem dX3_init_98 : decode cX3_init 98 = .ok (.newarray .int, 2) := by decide +kernel
theorem dX3_init_100 : decode cX3_init 100 = .ok (.putfield 62, 3) := by decide +kernel
theorem dX3_init_103 : decode cX3_init 103 = .ok (.aload_n 0, 1) := by decide +kernel
theorem dX3_init_104 : decode cX3_init 104 = .ok (.bipush 64, 2) := by decide +kernel
theorem dX3_init_106 : decode cX3_init 106 = .ok (.newarray .boolean, 2) := by decide +kernel
theorem dX3_init_108 : decode cX3_init 108 = .ok (.putfield 66, 3) := by decide +kernel
theorem dX3_init_111 : decode cX3_init 111 = .ok (.iconst 0, 1) := by decide +kernel
theorem dX3_init_112 : decode cX3_init 112 = .ok (.istore_n 1, 1) := by decide +kernel
theorem dX3_init_113 : decode cX3_init 113 = .ok (.iload_n 1, 1) := by decide +kernel
theorem dX3_init_114 : decode cX3_init 114 = .ok (.bipush 12, 2) := by decide +kernel
theorem dX3_init_116 : decode cX3_init 116 = .ok (.if_icmp .ge 23, 3) := by decide +kernel
theorem dX3_init_119 : decode cX3_init 119 = .ok (.aload_n 0, 1) := by decide +kernel
theorem dX3_init_120 : decode cX3_init 120 = .ok (.getfield 11, 3) := by decide +kernel
theorem dX3_init_123 : decode cX3_init 123 = .ok (.iload_n 1, 1) := by decide +kernel
theorem dX3_init_124 : decode cX3_init 124 = .ok (.new 9, 3) := by decide +kernel
theorem dX3_init_127 : decode cX3_init 127 = .ok (.dup, 1) := by decide +kernel
theorem dX3_init_128 : decode cX3_init 128 = .ok (.iload_n 1, 1) := by decide +kernel
theorem dX3_init_129 : decode cX3_init 129 = .ok (.invokespecial 70, 3) := by decide +kernel
theorem dX3_init_132 : decode cX3_init 132 = .ok (.aastore, 1) := by decide +kernel
theorem dX3_init_133 : decode cX3_init 133 = .ok (.iinc 1 1, 3) := by decide +kernel
theorem dX3_init_136 : decode cX3_init 136 = .ok (.goto (-23), 3) := by decide +kernel
theorem dX3_init_139 : decode cX3_init 139 = .ok (.iconst 0, 1) := by decide +kernel
theorem dX3_init_140 : decode cX3_init 140 = .ok (.istore_n 1, 1) := by decide +kernel
theorem dX3_init_141 : decode cX3_init 141 = .ok (.iload_n 1, 1) := by decide +kernel
theorem dX3_init_142 : decode cX3_init 142 = .ok (.iconst 2, 1) := by decide +kernel
theorem dX3_init_143 : decode cX3_init 143 = .ok (.if_icmp .ge 26, 3) := by decide +kernel
theorem dX3_init_146 : decode cX3_init 146 = .ok (.aload_n 0, 1) := by decide +kernel
theorem dX3_init_147 : decode cX3_init 147 = .ok (.getfield 27, 3) := by decide +kernel
theorem dX3_init_150 : decode cX3_init 150 = .ok (.iload_n 1, 1) := by decide +kernel
theorem dX3_init_151 : decode cX3_init 151 = .ok (.new 25, 3) := by decide +kernel
theorem dX3_init_154 : decode cX3_init 154 = .ok (.dup, 1) := by decide +kernel
theorem dX3_init_155 : decode cX3_init 155 = .ok (.bipush 6, 2) := by decide +kernel
theorem dX3_init_157 : decode cX3_init 157 = .ok (.iload_n 1, 1) := by decide +kernel
theorem dX3_init_158 : decode cX3_init 158 = .ok (.iadd, 1) := by decide +kernel
theorem dX3_init_159 : decode cX3_init 159 = .ok (.invokespecial 73, 3) := by decide +kernel
theorem dX3_init_162 : decode cX3_init 162 = .ok (.aastore, 1) := by decide +kernel
theorem dX3_init_163 : decode cX3_init 163 = .ok (.iinc 1 1, 3) := by decide +kernel
theorem dX3_init_166 : decode cX3_init 166 = .ok (.goto (-25), 3) := by decide +kernel
theorem dX3_init_169 : decode cX3_init 169 = .ok (.iconst 0, 1) := by decide +kernel
theorem dX3_init_170 : decode cX3_init 170 = .ok (.istore_n 1, 1) := by decide +kernel
theorem dX3_init_171 : decode cX3_init 171 = .ok (.iload_n 1, 1) := by decide +kernel
theorem dX3_init_172 : decode cX3_init 172 = .ok (.iconst 4, 1) := by decide +kernel
theorem dX3_init_173 : decode cX3_init 173 = .ok (.if_icmp .ge 22, 3) := by decide +kernel
theorem dX3_init_176 : decode cX3_init 176 = .ok (.aload_n 0, 1) := by decide +kernel
theorem dX3_init_177 : decode cX3_init 177 = .ok (.getfield 36, 3) := by decide +kernel
theorem dX3_init_180 : decode cX3_init 180 = .ok (.iload_n 1, 1) := by decide +kernel
theorem dX3_init_181 : decode cX3_init 181 = .ok (.new 34, 3) := by decide +kernel
theorem dX3_init_184 : decode cX3_init 184 = .ok (.dup, 1) := by decide +kernel
theorem dX3_init_185 : decode cX3_init 185 = .ok (.invokespecial 74, 3) := by decide +kernel
theorem dX3_init_188 : decode cX3_init 188 = .ok (.aastore, 1) := by decide +kernel
theorem dX3_init_189 : decode cX3_init 189 = .ok (.iinc 1 1, 3) := by decide +kernel
theorem dX3_init_192 : decode cX3_init 192 = .ok (.goto (-21), 3) := by decide +kernel
theorem dX3_init_195 : decode cX3_init 195 = .ok (.return_, 1) := by decide +kernel
theorem dX3_effect_0 : decode cX3_effect 0 = .ok (.iload_n 1, 1) := by decide +kernel
theorem dX3_effect_1 : decode cX3_effect 1 = .ok (.iload_n 2, 1) := by decide +kernel
theorem dX3_effect_2 : decode cX3_effect 2 = .ok (.iload_n 3, 1) := by decide +kernel
theorem dX3_effect_3 : decode cX3_effect 3 = .ok (.iload 4, 2) := by decide +kernel
theorem dX3_effect_5 : decode cX3_effect 5 = .ok (.iload 5, 2) := by decide +kernel
theorem dX3_effect_7 : decode cX3_effect 7 = .ok (.invokestatic 75, 3) := by decide +kernel
theorem dX3_effect_10 : decode cX3_effect 10 = .ok (.ifCond .ne 6, 3) := by decide +kernel
theorem dX3_effect_13 : decode cX3_effect 13 = .ok (.bipush (-2), 2) := by decide +kernel
theorem dX3_effect_15 : decode cX3_effect 15 = .ok (.ireturn, 1) := by decide +kernel
theorem dX3_effect_16 : decode cX3_effect 16 = .ok (.aload_n 0, 1) := by decide +kernel
theorem dX3_effect_17 : decode cX3_effect 17 = .ok (.getfield 15, 3) := by decide +kernel
theorem dX3_effect_20 : decode cX3_effect 20 = .ok (.bipush 12, 2) := by decide +kernel
theorem dX3_effect_22 : decode cX3_effect 22 = .ok (.if_icmp .lt 6, 3) := by decide +kernel
theorem dX3_effect_25 : decode cX3_effect 25 = .ok (.bipush (-4), 2) := by decide +kernel
theorem dX3_effect_27 : decode cX3_effect 27 = .ok (.ireturn, 1) := by decide +kernel
theorem dX3_effect_28 : decode cX3_effect 28 = .ok (.aload_n 0, 1) := by decide +kernel
theorem dX3_effect_29 : decode cX3_effect 29 = .ok (.getfield 15, 3) := by decide +kernel
theorem dX3_effect_32 : decode cX3_effect 32 = .ok (.istore 6, 2) := by decide +kernel
theorem dX3_effect_34 : decode cX3_effect 34 = .ok (.aload_n 0, 1) := by decide +kernel
theorem dX3_effect_35 : decode cX3_effect 35 = .ok (.getfield 11, 3) := by decide +kernel
theorem dX3_effect_38 : decode cX3_effect 38 = .ok (.iload 6, 2) := by decide +kernel
theorem dX3_effect_40 : decode cX3_effect 40 = .ok (.aaload, 1) := by decide +kernel
theorem dX3_effect_41 : decode cX3_effect 41 = .ok (.iload_n 1, 1) := by decide +kernel
theorem dX3_effect_42 : decode cX3_effect 42 = .ok (.iload_n 2, 1) := by decide +kernel
theorem dX3_effect_43 : decode cX3_effect 43 = .ok (.iload_n 3, 1) := by decide +kernel
theorem dX3_effect_44 : decode cX3_effect 44 = .ok (.iload 4, 2) := by decide +kernel
theorem dX3_effect_46 : decode cX3_effect 46 = .ok (.iload 5, 2) := by decide +kernel
theorem dX3_effect_48 : decode cX3_effect 48 = .ok (.invokevirtual 79, 3) := by decide +kernel
theorem dX3_effect_51 : decode cX3_effect 51 = .ok (.aload_n 0, 1) := by decide +kernel
theorem dX3_effect_52 : decode cX3_effect 52 = .ok (.dup, 1) := by decide +kernel
theorem dX3_effect_53 : decode cX3_effect 53 = .ok (.getfield 15, 3) := by decide +kernel
theorem dX3_effect_56 : decode cX3_effect 56 = .ok (.iconst 1, 1) := by decide +kernel
theorem dX3_effect_57 : decode cX3_effect 57 = .ok (.iadd, 1) := by decide +kernel
theorem dX3_effect_58 : decode cX3_effect 58 = .ok (.putfield 15, 3) := by decide +kernel
theorem dX3_effect_61 : decode cX3_effect 61 = .ok (.iload 6, 2) := by decide +kernel
theorem dX3_effect_63 : decode cX3_effect 63 = .ok (.ireturn, 1) := by decide +kernel
theorem dX3_set_0 : decode cX3_set 0 = .ok (.aload_n 0, 1) := by decide +kernel
theorem dX3_set_1 : decode cX3_set 1 = .ok (.iload_n 1, 1) := by decide +kernel
theorem dX3_set_2 : decode cX3_set 2 = .ok (.invokevirtual 83, 3) := by decide +kernel
theorem dX3_set_5 : decode cX3_set 5 = .ok (.ifCond .ne 5, 3) := by decide +kernel
theorem dX3_set_8 : decode cX3_set 8 = .ok (.iconst (-1), 1) := by decide +kernel
theorem dX3_set_9 : decode cX3_set 9 = .ok (.ireturn, 1) := by decide +kernel
theorem dX3_set_10 : decode cX3_set 10 = .ok (.iload_n 2, 1) := by decide +kernel
theorem dX3_set_11 : decode cX3_set 11 = .ok (.iload_n 3, 1) := by decide +kernel
theorem dX3_set_12 : decode cX3_set 12 = .ok (.invokestatic 87, 3) := by decide +kernel
theorem dX3_set_15 : decode cX3_set 15 = .ok (.ifCond .ne 6, 3) := by decide +kernel
theorem dX3_set_18 : decode cX3_set 18 = .ok (.bipush (-2), 2) := by decide +kernel
theorem dX3_set_20 : decode cX3_set 20 = .ok (.ireturn, 1) := by decide +kernel
theorem dX3_set_21 : decode cX3_set 21 = .ok (.aload_n 0, 1) := by decide +kernel
theorem dX3_set_22 : decode cX3_set 22 = .ok (.getfield 11, 3) := by decide +kernel
theorem dX3_set_25 : decode cX3_set 25 = .ok (.iload_n 1, 1) := by decide +kernel
theorem dX3_set_26 : decode cX3_set 26 = .ok (.aaload, 1) := by decide +kernel
theorem dX3_set_27 : decode cX3_set 27 = .ok (.iload_n 2, 1) := by decide +kernel
theorem dX3_set_28 : decode cX3_set 28 = .ok (.invokestatic 91, 3) := by decide +kernel
theorem dX3_set_31 : decode cX3_set 31 = .ok (.istore 4, 2) := by decide +kernel
theorem dX3_set_33 : decode cX3_set 33 = .ok (.aload_n 0, 1) := by decide +kernel
theorem dX3_set_34 : decode cX3_set 34 = .ok (.getfield 11, 3) := by decide +kernel
theorem dX3_set_37 : decode cX3_set 37 = .ok (.iload_n 1, 1) := by decide +kernel
theorem dX3_set_38 : decode cX3_set 38 = .ok (.aaload, 1) := by decide +kernel
theorem dX3_set_39 : decode cX3_set 39 = .ok (.getfield 95, 3) := by decide +kernel
theorem dX3_set_42 : decode cX3_set 42 = .ok (.iload_n 2, 1) := by decide +kernel
theorem dX3_set_43 : decode cX3_set 43 = .ok (.iload_n 3, 1) := by decide +kernel
theorem dX3_set_44 : decode cX3_set 44 = .ok (.iastore, 1) := by decide +kernel
theorem dX3_set_45 : decode cX3_set 45 = .ok (.iload 4, 2) := by decide +kernel
theorem dX3_set_47 : decode cX3_set 47 = .ok (.ireturn, 1) := by decide +kernel
theorem dX3_drop_0 : decode cX3_drop 0 = .ok (.aload_n 0, 1) := by decide +kernel
theorem dX3_drop_1 : decode cX3_drop 1 = .ok (.getfield 15, 3) := by decide +kernel
theorem dX3_drop_4 : decode cX3_drop 4 = .ok (.iconst 1, 1) := by decide +kernel
theorem dX3_drop_5 : decode cX3_drop 5 = .ok (.if_icmp .ge 6, 3) := by decide +kernel
theorem dX3_drop_8 : decode cX3_drop 8 = .ok (.bipush (-3), 2) := by decide +kernel
theorem dX3_drop_10 : decode cX3_drop 10 = .ok (.ireturn, 1) := by decide +kernel
theorem dX3_drop_11 : decode cX3_drop 11 = .ok (.aload_n 0, 1) := by decide +kernel
theorem dX3_drop_12 : decode cX3_drop 12 = .ok (.aload_n 0, 1) := by decide +kernel
theorem dX3_drop_13 : decode cX3_drop 13 = .ok (.getfield 11, 3) := by decide +kernel
theorem dX3_drop_16 : decode cX3_drop 16 = .ok (.aload_n 0, 1) := by decide +kernel
theorem dX3_drop_17 : decode cX3_drop 17 = .ok (.getfield 15, 3) := by decide +kernel
theorem dX3_drop_20 : decode cX3_drop 20 = .ok (.iconst 1, 1) := by decide +kernel
theorem dX3_drop_21 : decode cX3_drop 21 = .ok (.isub, 1) := by decide +kernel
theorem dX3_drop_22 : decode cX3_drop 22 = .ok (.aaload, 1) := by decide +kernel
theorem dX3_drop_23 : decode cX3_drop 23 = .ok (.invokevirtual 98, 3) := by decide +kernel
theorem dX3_drop_26 : decode cX3_drop 26 = .ok (.aload_n 0, 1) := by decide +kernel
theorem dX3_drop_27 : decode cX3_drop 27 = .ok (.dup, 1) := by decide +kernel
theorem dX3_drop_28 : decode cX3_drop 28 = .ok (.getfield 15, 3) := by decide +kernel
theorem dX3_drop_31 : decode cX3_drop 31 = .ok (.iconst 1, 1) := by decide +kernel
theorem dX3_drop_32 : decode cX3_drop 32 = .ok (.isub, 1) := by decide +kernel
theorem dX3_drop_33 : decode cX3_drop 33 = .ok (.putfield 15, 3) := by decide +kernel
theorem dX3_drop_36 : decode cX3_drop 36 = .ok (.aload_n 0, 1) := by decide +kernel
theorem dX3_drop_37 : decode cX3_drop 37 = .ok (.getfield 15, 3) := by decide +kernel
theorem dX3_drop_40 : decode cX3_drop 40 = .ok (.ireturn, 1) := by decide +kernel
theorem dX3_hand_0 : decode cX3_hand 0 = .ok (.iload_n 1, 1) := by decide +kernel
theorem dX3_hand_1 : decode cX3_hand 1 = .ok (.sipush (-1000), 3) := by decide +kernel
theorem dX3_hand_4 : decode cX3_hand 4 = .ok (.sipush 1000, 3) := by decide +kernel
theorem dX3_hand_7 : decode cX3_hand 7 = .ok (.invokestatic 102, 3) := by decide +kernel
theorem dX3_hand_10 : decode cX3_hand 10 = .ok (.ifCond .eq 16, 3) := by decide +kernel
theorem dX3_hand_13 : decode cX3_hand 13 = .ok (.iload_n 2, 1) := by decide +kernel
theorem dX3_hand_14 : decode cX3_hand 14 = .ok (.sipush (-1000), 3) := by decide +kernel
theorem dX3_hand_17 : decode cX3_hand 17 = .ok (.sipush 1000, 3) := by decide +kernel
theorem dX3_hand_20 : decode cX3_hand 20 = .ok (.invokestatic 102, 3) := by decide +kernel
theorem dX3_hand_23 : decode cX3_hand 23 = .ok (.ifCond .ne 6, 3) := by decide +kernel
theorem dX3_hand_26 : decode cX3_hand 26 = .ok (.bipush (-2), 2) := by decide +kernel
theorem dX3_hand_28 : decode cX3_hand 28 = .ok (.ireturn, 1) := by decide +kernel
theorem dX3_hand_29 : decode cX3_hand 29 = .ok (.aload_n 0, 1) := by decide +kernel
theorem dX3_hand_30 : decode cX3_hand 30 = .ok (.getfield 40, 3) := by decide +kernel
theorem dX3_hand_33 : decode cX3_hand 33 = .ok (.aload_n 0, 1) := by decide +kernel
theorem dX3_hand_34 : decode cX3_hand 34 = .ok (.getfield 31, 3) := by decide +kernel
theorem dX3_hand_37 : decode cX3_hand 37 = .ok (.isub, 1) := by decide +kernel
theorem dX3_hand_38 : decode cX3_hand 38 = .ok (.istore_n 3, 1) := by decide +kernel
theorem dX3_hand_39 : decode cX3_hand 39 = .ok (.aload_n 0, 1) := by decide +kernel
theorem dX3_hand_40 : decode cX3_hand 40 = .ok (.getfield 27, 3) := by decide +kernel
theorem dX3_hand_43 : decode cX3_hand 43 = .ok (.iconst 0, 1) := by decide +kernel
theorem dX3_hand_44 : decode cX3_hand 44 = .ok (.aaload, 1) := by decide +kernel
theorem dX3_hand_45 : decode cX3_hand 45 = .ok (.iload_n 1, 1) := by decide +kernel
theorem dX3_hand_46 : decode cX3_hand 46 = .ok (.iload_n 3, 1) := by decide +kernel
theorem dX3_hand_47 : decode cX3_hand 47 = .ok (.invokevirtual 106, 3) := by decide +kernel
theorem dX3_hand_50 : decode cX3_hand 50 = .ok (.aload_n 0, 1) := by decide +kernel
theorem dX3_hand_51 : decode cX3_hand 51 = .ok (.getfield 27, 3) := by decide +kernel
theorem dX3_hand_54 : decode cX3_hand 54 = .ok (.iconst 1, 1) := by decide +kernel
theorem dX3_hand_55 : decode cX3_hand 55 = .ok (.aaload, 1) := by decide +kernel
theorem dX3_hand_56 : decode cX3_hand 56 = .ok (.iload_n 2, 1) := by decide +kernel
theorem dX3_hand_57 : decode cX3_hand 57 = .ok (.iload_n 3, 1) := by decide +kernel
theorem dX3_hand_58 : decode cX3_hand 58 = .ok (.invokevirtual 106, 3) := by decide +kernel
theorem dX3_hand_61 : decode cX3_hand 61 = .ok (.aload_n 0, 1) := by decide +kernel
theorem dX3_hand_62 : decode cX3_hand 62 = .ok (.aload_n 0, 1) := by decide +kernel
theorem dX3_hand_63 : decode cX3_hand 63 = .ok (.getfield 40, 3) := by decide +kernel
theorem dX3_hand_66 : decode cX3_hand 66 = .ok (.putfield 31, 3) := by decide +kernel
theorem dX3_hand_69 : decode cX3_hand 69 = .ok (.iconst 1, 1) := by decide +kernel
theorem dX3_hand_70 : decode cX3_hand 70 = .ok (.ireturn, 1) := by decide +kernel
theorem dX3_ofAxis_0 : decode cX3_ofAxis 0 = .ok (.iload_n 1, 1) := by decide +kernel
theorem dX3_ofAxis_1 : decode cX3_ofAxis 1 = .ok (.invokestatic 110, 3) := by decide +kernel
theorem dX3_ofAxis_4 : decode cX3_ofAxis 4 = .ok (.ifCond .ne 5, 3) := by decide +kernel
theorem dX3_ofAxis_7 : decode cX3_ofAxis 7 = .ok (.iconst (-1), 1) := by decide +kernel
theorem dX3_ofAxis_8 : decode cX3_ofAxis 8 = .ok (.ireturn, 1) := by decide +kernel
theorem dX3_ofAxis_9 : decode cX3_ofAxis 9 = .ok (.iload_n 2, 1) := by decide +kernel
theorem dX3_ofAxis_10 : decode cX3_ofAxis 10 = .ok (.iconst 0, 1) := by decide +kernel
theorem dX3_ofAxis_11 : decode cX3_ofAxis 11 = .ok (.iconst 1, 1) := by decide +kernel
theorem dX3_ofAxis_12 : decode cX3_ofAxis 12 = .ok (.invokestatic 102, 3) := by decide +kernel
theorem dX3_ofAxis_15 : decode cX3_ofAxis 15 = .ok (.ifCond .ne 6, 3) := by decide +kernel
theorem dX3_ofAxis_18 : decode cX3_ofAxis 18 = .ok (.bipush (-2), 2) := by decide +kernel
theorem dX3_ofAxis_20 : decode cX3_ofAxis 20 = .ok (.ireturn, 1) := by decide +kernel
theorem dX3_ofAxis_21 : decode cX3_ofAxis 21 = .ok (.ldc 113, 2) := by decide +kernel
theorem dX3_ofAxis_23 : decode cX3_ofAxis 23 = .ok (.iload_n 2, 1) := by decide +kernel
theorem dX3_ofAxis_24 : decode cX3_ofAxis 24 = .ok (.ifCond .ne 15, 3) := by decide +kernel
theorem dX3_ofAxis_27 : decode cX3_ofAxis 27 = .ok (.aload_n 0, 1) := by decide +kernel
theorem dX3_ofAxis_28 : decode cX3_ofAxis 28 = .ok (.getfield 27, 3) := by decide +kernel
theorem dX3_ofAxis_31 : decode cX3_ofAxis 31 = .ok (.iload_n 1, 1) := by decide +kernel
theorem dX3_ofAxis_32 : decode cX3_ofAxis 32 = .ok (.aaload, 1) := by decide +kernel
theorem dX3_ofAxis_33 : decode cX3_ofAxis 33 = .ok (.getfield 114, 3) := by decide +kernel
theorem dX3_ofAxis_36 : decode cX3_ofAxis 36 = .ok (.goto 12, 3) := by decide +kernel
theorem dX3_ofAxis_39 : decode cX3_ofAxis 39 = .ok (.aload_n 0, 1) := by decide +kernel
theorem dX3_ofAxis_40 : decode cX3_ofAxis 40 = .ok (.getfield 27, 3) := by decide +kernel
theorem dX3_ofAxis_43 : decode cX3_ofAxis 43 = .ok (.iload_n 1, 1) := by decide +kernel
theorem dX3_ofAxis_44 : decode cX3_ofAxis 44 = .ok (.aaload, 1) := by decide +kernel
theorem dX3_ofAxis_45 : decode cX3_ofAxis 45 = .ok (.getfield 117, 3) := by decide +kernel
theorem dX3_ofAxis_48 : decode cX3_ofAxis 48 = .ok (.iadd, 1) := by decide +kernel
theorem dX3_ofAxis_49 : decode cX3_ofAxis 49 = .ok (.ireturn, 1) := by decide +kernel
theorem dX3_ofEffect_0 : decode cX3_ofEffect 0 = .ok (.aload_n 0, 1) := by decide +kernel
theorem dX3_ofEffect_1 : decode cX3_ofEffect 1 = .ok (.iload_n 1, 1) := by decide +kernel
theorem dX3_ofEffect_2 : decode cX3_ofEffect 2 = .ok (.invokevirtual 83, 3) := by decide +kernel
theorem dX3_ofEffect_5 : decode cX3_ofEffect 5 = .ok (.ifCond .ne 5, 3) := by decide +kernel
theorem dX3_ofEffect_8 : decode cX3_ofEffect 8 = .ok (.iconst (-1), 1) := by decide +kernel
theorem dX3_ofEffect_9 : decode cX3_ofEffect 9 = .ok (.ireturn, 1) := by decide +kernel
theorem dX3_ofEffect_10 : decode cX3_ofEffect 10 = .ok (.aload_n 0, 1) := by decide +kernel
theorem dX3_ofEffect_11 : decode cX3_ofEffect 11 = .ok (.getfield 11, 3) := by decide +kernel
theorem dX3_ofEffect_14 : decode cX3_ofEffect 14 = .ok (.iload_n 1, 1) := by decide +kernel
theorem dX3_ofEffect_15 : decode cX3_ofEffect 15 = .ok (.aaload, 1) := by decide +kernel
theorem dX3_ofEffect_16 : decode cX3_ofEffect 16 = .ok (.astore_n 3, 1) := by decide +kernel
theorem dX3_ofEffect_17 : decode cX3_ofEffect 17 = .ok (.iload_n 2, 1) := by decide +kernel
theorem dX3_ofEffect_18 : decode cX3_ofEffect 18 = .ok (.bipush 10, 2) := by decide +kernel
theorem dX3_ofEffect_20 : decode cX3_ofEffect 20 = .ok (.bipush 21, 2) := by decide +kernel
theorem dX3_ofEffect_22 : decode cX3_ofEffect 22 = .ok (.invokestatic 102, 3) := by decide +kernel
theorem dX3_ofEffect_25 : decode cX3_ofEffect 25 = .ok (.ifCond .eq 12, 3) := by decide +kernel
theorem dX3_ofEffect_28 : decode cX3_ofEffect 28 = .ok (.aload_n 3, 1) := by decide +kernel
theorem dX3_ofEffect_29 : decode cX3_ofEffect 29 = .ok (.iload_n 2, 1) := by decide +kernel
theorem dX3_ofEffect_30 : decode cX3_ofEffect 30 = .ok (.bipush 10, 2) := by decide +kernel
theorem dX3_ofEffect_32 : decode cX3_ofEffect 32 = .ok (.isub, 1) := by decide +kernel
theorem dX3_ofEffect_33 : decode cX3_ofEffect 33 = .ok (.invokestatic 91, 3) := by decide +kernel
theorem dX3_ofEffect_36 : decode cX3_ofEffect 36 = .ok (.ireturn, 1) := by decide +kernel
theorem dX3_ofEffect_37 : decode cX3_ofEffect 37 = .ok (.iload_n 2, 1) := by decide +kernel
theorem dX3_ofEffect_38 : decode cX3_ofEffect 38 = .ok (.tableswitch 143 0 8 #[50, 55, 64, 73, 82, 91, 96, 117, 138], 50) := by decide +kernel
theorem dX3_ofEffect_88 : decode cX3_ofEffect 88 = .ok (.aload_n 3, 1) := by decide +kernel
theorem dX3_ofEffect_89 : decode cX3_ofEffect 89 = .ok (.getfield 120, 3) := by decide +kernel
theorem dX3_ofEffect_92 : decode cX3_ofEffect 92 = .ok (.ireturn, 1) := by decide +kernel
theorem dX3_ofEffect_93 : decode cX3_ofEffect 93 = .ok (.aload_n 3, 1) := by decide +kernel
theorem dX3_ofEffect_94 : decode cX3_ofEffect 94 = .ok (.getfield 123, 3) := by decide +kernel
theorem dX3_ofEffect_97 : decode cX3_ofEffect 97 = .ok (.sipush 10000, 3) := by decide +kernel
theorem dX3_ofEffect_100 : decode cX3_ofEffect 100 = .ok (.iadd, 1) := by decide +kernel
theorem dX3_ofEffect_101 : decode cX3_ofEffect 101 = .ok (.ireturn, 1) := by decide +kernel
theorem dX3_ofEffect_102 : decode cX3_ofEffect 102 = .ok (.aload_n 3, 1) := by decide +kernel
theorem dX3_ofEffect_103 : decode cX3_ofEffect 103 = .ok (.getfield 126, 3) := by decide +kernel
theorem dX3_ofEffect_106 : decode cX3_ofEffect 106 = .ok (.sipush 10000, 3) := by decide +kernel
theorem dX3_ofEffect_109 : decode cX3_ofEffect 109 = .ok (.iadd, 1) := by decide +kernel
theorem dX3_ofEffect_110 : decode cX3_ofEffect 110 = .ok (.ireturn, 1) := by decide +kernel
theorem dX3_ofEffect_111 : decode cX3_ofEffect 111 = .ok (.aload_n 3, 1) := by decide +kernel
theorem dX3_ofEffect_112 : decode cX3_ofEffect 112 = .ok (.getfield 129, 3) := by decide +kernel
theorem dX3_ofEffect_115 : decode cX3_ofEffect 115 = .ok (.sipush 10000, 3) := by decide +kernel
theorem dX3_ofEffect_118 : decode cX3_ofEffect 118 = .ok (.iadd, 1) := by decide +kernel
theorem dX3_ofEffect_119 : decode cX3_ofEffect 119 = .ok (.ireturn, 1) := by decide +kernel
theorem dX3_ofEffect_120 : decode cX3_ofEffect 120 = .ok (.aload_n 3, 1) := by decide +kernel
theorem dX3_ofEffect_121 : decode cX3_ofEffect 121 = .ok (.getfield 132, 3) := by decide +kernel
theorem dX3_ofEffect_124 : decode cX3_ofEffect 124 = .ok (.sipush 10000, 3) := by decide +kernel
theorem dX3_ofEffect_127 : decode cX3_ofEffect 127 = .ok (.iadd, 1) := by decide +kernel
theorem dX3_ofEffect_128 : decode cX3_ofEffect 128 = .ok (.ireturn, 1) := by decide +kernel
theorem dX3_ofEffect_129 : decode cX3_ofEffect 129 = .ok (.aload_n 3, 1) := by decide +kernel
theorem dX3_ofEffect_130 : decode cX3_ofEffect 130 = .ok (.getfield 135, 3) := by decide +kernel
theorem dX3_ofEffect_133 : decode cX3_ofEffect 133 = .ok (.ireturn, 1) := by decide +kernel
theorem dX3_ofEffect_134 : decode cX3_ofEffect 134 = .ok (.aload_n 3, 1) := by decide +kernel
theorem dX3_ofEffect_135 : decode cX3_ofEffect 135 = .ok (.aload_n 3, 1) := by decide +kernel
theorem dX3_ofEffect_136 : decode cX3_ofEffect 136 = .ok (.getfield 138, 3) := by decide +kernel
theorem dX3_ofEffect_139 : decode cX3_ofEffect 139 = .ok (.aload_n 0, 1) := by decide +kernel
theorem dX3_ofEffect_140 : decode cX3_ofEffect 140 = .ok (.getfield 40, 3) := by decide +kernel
theorem dX3_ofEffect_143 : decode cX3_ofEffect 143 = .ok (.invokevirtual 141, 3) := by decide +kernel
theorem dX3_ofEffect_146 : decode cX3_ofEffect 146 = .ok (.ifCond .eq 7, 3) := by decide +kernel
theorem dX3_ofEffect_149 : decode cX3_ofEffect 149 = .ok (.iconst 1, 1) := by decide +kernel
theorem dX3_ofEffect_150 : decode cX3_ofEffect 150 = .ok (.goto 4, 3) := by decide +kernel
theorem dX3_ofEffect_153 : decode cX3_ofEffect 153 = .ok (.iconst 0, 1) := by decide +kernel
theorem dX3_ofEffect_154 : decode cX3_ofEffect 154 = .ok (.ireturn, 1) := by decide +kernel
theorem dX3_ofEffect_155 : decode cX3_ofEffect 155 = .ok (.aload_n 3, 1) := by decide +kernel
theorem dX3_ofEffect_156 : decode cX3_ofEffect 156 = .ok (.aload_n 3, 1) := by decide +kernel
theorem dX3_ofEffect_157 : decode cX3_ofEffect 157 = .ok (.getfield 138, 3) := by decide +kernel
theorem dX3_ofEffect_160 : decode cX3_ofEffect 160 = .ok (.aload_n 0, 1) := by decide +kernel
theorem dX3_ofEffect_161 : decode cX3_ofEffect 161 = .ok (.getfield 40, 3) := by decide +kernel
theorem dX3_ofEffect_164 : decode cX3_ofEffect 164 = .ok (.invokevirtual 144, 3) := by decide +kernel
theorem dX3_ofEffect_167 : decode cX3_ofEffect 167 = .ok (.ifCond .eq 7, 3) := by decide +kernel
theorem dX3_ofEffect_170 : decode cX3_ofEffect 170 = .ok (.iconst 1, 1) := by decide +kernel
theorem dX3_ofEffect_171 : decode cX3_ofEffect 171 = .ok (.goto 4, 3) := by decide +kernel
theorem dX3_ofEffect_174 : decode cX3_ofEffect 174 = .ok (.iconst 0, 1) := by decide +kernel
theorem dX3_ofEffect_175 : decode cX3_ofEffect 175 = .ok (.ireturn, 1) := by decide +kernel
theorem dX3_ofEffect_176 : decode cX3_ofEffect 176 = .ok (.aload_n 3, 1) := by decide +kernel
theorem dX3_ofEffect_177 : decode cX3_ofEffect 177 = .ok (.getfield 138, 3) := by decide +kernel
theorem dX3_ofEffect_180 : decode cX3_ofEffect 180 = .ok (.ireturn, 1) := by decide +kernel
theorem dX3_ofEffect_181 : decode cX3_ofEffect 181 = .ok (.bipush (-2), 2) := by decide +kernel
theorem dX3_ofEffect_183 : decode cX3_ofEffect 183 = .ok (.ireturn, 1) := by decide +kernel
theorem dX3_slots_0 : decode cX3_slots 0 = .ok (.iload_n 1, 1) := by decide +kernel
theorem dX3_slots_1 : decode cX3_slots 1 = .ok (.iconst 1, 1) := by decide +kernel
theorem dX3_slots_2 : decode cX3_slots 2 = .ok (.bipush 6, 2) := by decide +kernel
theorem dX3_slots_4 : decode cX3_slots 4 = .ok (.invokestatic 102, 3) := by decide +kernel
theorem dX3_slots_7 : decode cX3_slots 7 = .ok (.ifCond .ne 6, 3) := by decide +kernel
theorem dX3_slots_10 : decode cX3_slots 10 = .ok (.bipush (-2), 2) := by decide +kernel
theorem dX3_slots_12 : decode cX3_slots 12 = .ok (.ireturn, 1) := by decide +kernel
theorem dX3_slots_13 : decode cX3_slots 13 = .ok (.iload_n 1, 1) := by decide +kernel
theorem dX3_slots_14 : decode cX3_slots 14 = .ok (.istore_n 2, 1) := by decide +kernel
theorem dX3_slots_15 : decode cX3_slots 15 = .ok (.iload_n 2, 1) := by decide +kernel
theorem dX3_slots_16 : decode cX3_slots 16 = .ok (.bipush 6, 2) := by decide +kernel
theorem dX3_slots_18 : decode cX3_slots 18 = .ok (.if_icmp .ge 21, 3) := by decide +kernel
theorem dX3_slots_21 : decode cX3_slots 21 = .ok (.aload_n 0, 1) := by decide +kernel
theorem dX3_slots_22 : decode cX3_slots 22 = .ok (.getfield 19, 3) := by decide +kernel
theorem dX3_slots_25 : decode cX3_slots 25 = .ok (.iload_n 2, 1) := by decide +kernel
theorem dX3_slots_26 : decode cX3_slots 26 = .ok (.aaload, 1) := by decide +kernel
theorem dX3_slots_27 : decode cX3_slots 27 = .ok (.ifnull 6, 3) := by decide +kernel
theorem dX3_slots_30 : decode cX3_slots 30 = .ok (.bipush (-3), 2) := by decide +kernel
theorem dX3_slots_32 : decode cX3_slots 32 = .ok (.ireturn, 1) := by decide +kernel
theorem dX3_slots_33 : decode cX3_slots 33 = .ok (.iinc 2 1, 3) := by decide +kernel
theorem dX3_slots_36 : decode cX3_slots 36 = .ok (.goto (-21), 3) := by decide +kernel
theorem dX3_slots_39 : decode cX3_slots 39 = .ok (.aload_n 0, 1) := by decide +kernel
theorem dX3_slots_40 : decode cX3_slots 40 = .ok (.getfield 22, 3) := by decide +kernel
theorem dX3_slots_43 : decode cX3_slots 43 = .ok (.istore_n 2, 1) := by decide +kernel
theorem dX3_slots_44 : decode cX3_slots 44 = .ok (.aload_n 0, 1) := by decide +kernel
theorem dX3_slots_45 : decode cX3_slots 45 = .ok (.iload_n 1, 1) := by decide +kernel
theorem dX3_slots_46 : decode cX3_slots 46 = .ok (.putfield 22, 3) := by decide +kernel
theorem dX3_slots_49 : decode cX3_slots 49 = .ok (.iload_n 2, 1) := by decide +kernel
theorem dX3_slots_50 : decode cX3_slots 50 = .ok (.ireturn, 1) := by decide +kernel
theorem dX3_slot_0 : decode cX3_slot 0 = .ok (.iload_n 1, 1) := by decide +kernel
theorem dX3_slot_1 : decode cX3_slot 1 = .ok (.ifCond .lt 17, 3) := by decide +kernel
theorem dX3_slot_4 : decode cX3_slot 4 = .ok (.iload_n 1, 1) := by decide +kernel
theorem dX3_slot_5 : decode cX3_slot 5 = .ok (.aload_n 0, 1) := by decide +kernel
theorem dX3_slot_6 : decode cX3_slot 6 = .ok (.getfield 22, 3) := by decide +kernel
theorem dX3_slot_9 : decode cX3_slot 9 = .ok (.if_icmp .ge 9, 3) := by decide +kernel
theorem dX3_slot_12 : decode cX3_slot 12 = .ok (.iload_n 1, 1) := by decide +kernel
theorem dX3_slot_13 : decode cX3_slot 13 = .ok (.bipush 6, 2) := by decide +kernel
theorem dX3_slot_15 : decode cX3_slot 15 = .ok (.if_icmp .lt 5, 3) := by decide +kernel
theorem dX3_slot_18 : decode cX3_slot 18 = .ok (.iconst (-1), 1) := by decide +kernel
theorem dX3_slot_19 : decode cX3_slot 19 = .ok (.ireturn, 1) := by decide +kernel
theorem dX3_slot_20 : decode cX3_slot 20 = .ok (.aload_n 0, 1) := by decide +kernel
theorem dX3_slot_21 : decode cX3_slot 21 = .ok (.getfield 19, 3) := by decide +kernel
theorem dX3_slot_24 : decode cX3_slot 24 = .ok (.iload_n 1, 1) := by decide +kernel
theorem dX3_slot_25 : decode cX3_slot 25 = .ok (.aaload, 1) := by decide +kernel
theorem dX3_slot_26 : decode cX3_slot 26 = .ok (.astore_n 2, 1) := by decide +kernel
theorem dX3_slot_27 : decode cX3_slot 27 = .ok (.aload_n 2, 1) := by decide +kernel
theorem dX3_slot_28 : decode cX3_slot 28 = .ok (.ifnonnull 8, 3) := by decide +kernel
theorem dX3_slot_31 : decode cX3_slot 31 = .ok (.bipush (-9), 2) := by decide +kernel
theorem dX3_slot_33 : decode cX3_slot 33 = .ok (.goto 7, 3) := by decide +kernel
theorem dX3_slot_36 : decode cX3_slot 36 = .ok (.aload_n 2, 1) := by decide +kernel
theorem dX3_slot_37 : decode cX3_slot 37 = .ok (.getfield 147, 3) := by decide +kernel
theorem dX3_slot_40 : decode cX3_slot 40 = .ok (.ireturn, 1) := by decide +kernel
theorem dX3_load_0 : decode cX3_load 0 = .ok (.aload_n 0, 1) := by decide +kernel
theorem dX3_load_1 : decode cX3_load 1 = .ok (.iload_n 1, 1) := by decide +kernel
theorem dX3_load_2 : decode cX3_load 2 = .ok (.invokevirtual 83, 3) := by decide +kernel
theorem dX3_load_5 : decode cX3_load 5 = .ok (.ifCond .ne 5, 3) := by decide +kernel
theorem dX3_load_8 : decode cX3_load 8 = .ok (.iconst (-1), 1) := by decide +kernel
theorem dX3_load_9 : decode cX3_load 9 = .ok (.ireturn, 1) := by decide +kernel
theorem dX3_load_10 : decode cX3_load 10 = .ok (.aload_n 0, 1) := by decide +kernel
theorem dX3_load_11 : decode cX3_load 11 = .ok (.aload_n 0, 1) := by decide +kernel
theorem dX3_load_12 : decode cX3_load 12 = .ok (.getfield 11, 3) := by decide +kernel
theorem dX3_load_15 : decode cX3_load 15 = .ok (.iload_n 1, 1) := by decide +kernel
theorem dX3_load_16 : decode cX3_load 16 = .ok (.aaload, 1) := by decide +kernel
theorem dX3_load_17 : decode cX3_load 17 = .ok (.invokevirtual 150, 3) := by decide +kernel
theorem dX3_load_20 : decode cX3_load 20 = .ok (.ireturn, 1) := by decide +kernel
theorem dX3_unload_0 : decode cX3_unload 0 = .ok (.aload_n 0, 1) := by decide +kernel
theorem dX3_unload_1 : decode cX3_unload 1 = .ok (.iload_n 1, 1) := by decide +kernel
theorem dX3_unload_2 : decode cX3_unload 2 = .ok (.invokevirtual 83, 3) := by decide +kernel
theorem dX3_unload_5 : decode cX3_unload 5 = .ok (.ifCond .ne 5, 3) := by decide +kernel
theorem dX3_unload_8 : decode cX3_unload 8 = .ok (.iconst (-1), 1) := by decide +kernel
theorem dX3_unload_9 : decode cX3_unload 9 = .ok (.ireturn, 1) := by decide +kernel
theorem dX3_unload_10 : decode cX3_unload 10 = .ok (.aload_n 0, 1) := by decide +kernel
theorem dX3_unload_11 : decode cX3_unload 11 = .ok (.getfield 11, 3) := by decide +kernel
theorem dX3_unload_14 : decode cX3_unload 14 = .ok (.iload_n 1, 1) := by decide +kernel
theorem dX3_unload_15 : decode cX3_unload 15 = .ok (.aaload, 1) := by decide +kernel
theorem dX3_unload_16 : decode cX3_unload 16 = .ok (.getfield 135, 3) := by decide +kernel
theorem dX3_unload_19 : decode cX3_unload 19 = .ok (.istore_n 2, 1) := by decide +kernel
theorem dX3_unload_20 : decode cX3_unload 20 = .ok (.iload_n 2, 1) := by decide +kernel
theorem dX3_unload_21 : decode cX3_unload 21 = .ok (.bipush (-9), 2) := by decide +kernel
theorem dX3_unload_23 : decode cX3_unload 23 = .ok (.if_icmp .ne 6, 3) := by decide +kernel
theorem dX3_unload_26 : decode cX3_unload 26 = .ok (.bipush (-3), 2) := by decide +kernel
theorem dX3_unload_28 : decode cX3_unload 28 = .ok (.ireturn, 1) := by decide +kernel
theorem dX3_unload_29 : decode cX3_unload 29 = .ok (.aload_n 0, 1) := by decide +kernel
theorem dX3_unload_30 : decode cX3_unload 30 = .ok (.aload_n 0, 1) := by decide +kernel
theorem dX3_unload_31 : decode cX3_unload 31 = .ok (.getfield 11, 3) := by decide +kernel
theorem dX3_unload_34 : decode cX3_unload 34 = .ok (.iload_n 1, 1) := by decide +kernel
theorem dX3_unload_35 : decode cX3_unload 35 = .ok (.aaload, 1) := by decide +kernel
theorem dX3_unload_36 : decode cX3_unload 36 = .ok (.invokevirtual 98, 3) := by decide +kernel
theorem dX3_unload_39 : decode cX3_unload 39 = .ok (.iload_n 2, 1) := by decide +kernel
theorem dX3_unload_40 : decode cX3_unload 40 = .ok (.ireturn, 1) := by decide +kernel
theorem dX3_play_0 : decode cX3_play 0 = .ok (.aload_n 0, 1) := by decide +kernel
theorem dX3_play_1 : decode cX3_play 1 = .ok (.iload_n 1, 1) := by decide +kernel
theorem dX3_play_2 : decode cX3_play 2 = .ok (.invokevirtual 83, 3) := by decide +kernel
theorem dX3_play_5 : decode cX3_play 5 = .ok (.ifCond .ne 5, 3) := by decide +kernel
theorem dX3_play_8 : decode cX3_play 8 = .ok (.iconst (-1), 1) := by decide +kernel
theorem dX3_play_9 : decode cX3_play 9 = .ok (.ireturn, 1) := by decide +kernel
theorem dX3_play_10 : decode cX3_play 10 = .ok (.aload_n 0, 1) := by decide +kernel
theorem dX3_play_11 : decode cX3_play 11 = .ok (.getfield 49, 3) := by decide +kernel
theorem dX3_play_14 : decode cX3_play 14 = .ok (.ifCond .eq 6, 3) := by decide +kernel
theorem dX3_play_17 : decode cX3_play 17 = .ok (.bipush (-3), 2) := by decide +kernel
theorem dX3_play_19 : decode cX3_play 19 = .ok (.ireturn, 1) := by decide +kernel
theorem dX3_play_20 : decode cX3_play 20 = .ok (.aload_n 0, 1) := by decide +kernel
theorem dX3_play_21 : decode cX3_play 21 = .ok (.aload_n 0, 1) := by decide +kernel
theorem dX3_play_22 : decode cX3_play 22 = .ok (.getfield 11, 3) := by decide +kernel
theorem dX3_play_25 : decode cX3_play 25 = .ok (.iload_n 1, 1) := by decide +kernel
theorem dX3_play_26 : decode cX3_play 26 = .ok (.aaload, 1) := by decide +kernel
theorem dX3_play_27 : decode cX3_play 27 = .ok (.invokevirtual 150, 3) := by decide +kernel
theorem dX3_play_30 : decode cX3_play 30 = .ok (.istore_n 2, 1) := by decide +kernel
theorem dX3_play_31 : decode cX3_play 31 = .ok (.iload_n 2, 1) := by decide +kernel
theorem dX3_play_32 : decode cX3_play 32 = .ok (.bipush (-4), 2) := by decide +kernel
theorem dX3_play_34 : decode cX3_play 34 = .ok (.if_icmp .eq 16, 3) := by decide +kernel
theorem dX3_play_37 : decode cX3_play 37 = .ok (.aload_n 0, 1) := by decide +kernel
theorem dX3_play_38 : decode cX3_play 38 = .ok (.getfield 11, 3) := by decide +kernel
theorem dX3_play_41 : decode cX3_play 41 = .ok (.iload_n 1, 1) := by decide +kernel
theorem dX3_play_42 : decode cX3_play 42 = .ok (.aaload, 1) := by decide +kernel
theorem dX3_play_43 : decode cX3_play 43 = .ok (.aload_n 0, 1) := by decide +kernel
theorem dX3_play_44 : decode cX3_play 44 = .ok (.getfield 40, 3) := by decide +kernel
theorem dX3_play_47 : decode cX3_play 47 = .ok (.putfield 138, 3) := by decide +kernel
theorem dX3_play_50 : decode cX3_play 50 = .ok (.iload_n 2, 1) := by decide +kernel
theorem dX3_play_51 : decode cX3_play 51 = .ok (.ireturn, 1) := by decide +kernel
theorem dX3_stop_0 : decode cX3_stop 0 = .ok (.aload_n 0, 1) := by decide +kernel
theorem dX3_stop_1 : decode cX3_stop 1 = .ok (.iload_n 1, 1) := by decide +kernel
theorem dX3_stop_2 : decode cX3_stop 2 = .ok (.invokevirtual 83, 3) := by decide +kernel
theorem dX3_stop_5 : decode cX3_stop 5 = .ok (.ifCond .ne 5, 3) := by decide +kernel
theorem dX3_stop_8 : decode cX3_stop 8 = .ok (.iconst (-1), 1) := by decide +kernel
theorem dX3_stop_9 : decode cX3_stop 9 = .ok (.ireturn, 1) := by decide +kernel
theorem dX3_stop_10 : decode cX3_stop 10 = .ok (.aload_n 0, 1) := by decide +kernel
theorem dX3_stop_11 : decode cX3_stop 11 = .ok (.getfield 11, 3) := by decide +kernel
theorem dX3_stop_14 : decode cX3_stop 14 = .ok (.iload_n 1, 1) := by decide +kernel
theorem dX3_stop_15 : decode cX3_stop 15 = .ok (.aaload, 1) := by decide +kernel
theorem dX3_stop_16 : decode cX3_stop 16 = .ok (.astore_n 2, 1) := by decide +kernel
theorem dX3_stop_17 : decode cX3_stop 17 = .ok (.aload_n 2, 1) := by decide +kernel
theorem dX3_stop_18 : decode cX3_stop 18 = .ok (.aload_n 2, 1) := by decide +kernel
theorem dX3_stop_19 : decode cX3_stop 19 = .ok (.getfield 138, 3) := by decide +kernel
theorem dX3_stop_22 : decode cX3_stop 22 = .ok (.aload_n 0, 1) := by decide +kernel
theorem dX3_stop_23 : decode cX3_stop 23 = .ok (.getfield 40, 3) := by decide +kernel
theorem dX3_stop_26 : decode cX3_stop 26 = .ok (.invokevirtual 141, 3) := by decide +kernel
theorem dX3_stop_29 : decode cX3_stop 29 = .ok (.ifCond .eq 7, 3) := by decide +kernel
theorem dX3_stop_32 : decode cX3_stop 32 = .ok (.iconst 1, 1) := by decide +kernel
theorem dX3_stop_33 : decode cX3_stop 33 = .ok (.goto 4, 3) := by decide +kernel
theorem dX3_stop_36 : decode cX3_stop 36 = .ok (.iconst 0, 1) := by decide +kernel
theorem dX3_stop_37 : decode cX3_stop 37 = .ok (.istore_n 3, 1) := by decide +kernel
theorem dX3_stop_38 : decode cX3_stop 38 = .ok (.aload_n 2, 1) := by decide +kernel
theorem dX3_stop_39 : decode cX3_stop 39 = .ok (.bipush (-9), 2) := by decide +kernel
theorem dX3_stop_41 : decode cX3_stop 41 = .ok (.putfield 138, 3) := by decide +kernel
theorem dX3_stop_44 : decode cX3_stop 44 = .ok (.iload_n 3, 1) := by decide +kernel
theorem dX3_stop_45 : decode cX3_stop 45 = .ok (.ireturn, 1) := by decide +kernel
theorem dX3_press_0 : decode cX3_press 0 = .ok (.iload_n 1, 1) := by decide +kernel
theorem dX3_press_1 : decode cX3_press 1 = .ok (.invokestatic 154, 3) := by decide +kernel
theorem dX3_press_4 : decode cX3_press 4 = .ok (.ifCond .ne 5, 3) := by decide +kernel
theorem dX3_press_7 : decode cX3_press 7 = .ok (.iconst (-1), 1) := by decide +kernel
theorem dX3_press_8 : decode cX3_press 8 = .ok (.ireturn, 1) := by decide +kernel
theorem dX3_press_9 : decode cX3_press 9 = .ok (.aload_n 0, 1) := by decide +kernel
theorem dX3_press_10 : decode cX3_press 10 = .ok (.getfield 36, 3) := by decide +kernel
theorem dX3_press_13 : decode cX3_press 13 = .ok (.iload_n 1, 1) := by decide +kernel
theorem dX3_press_14 : decode cX3_press 14 = .ok (.aaload, 1) := by decide +kernel
theorem dX3_press_15 : decode cX3_press 15 = .ok (.getfield 157, 3) := by decide +kernel
theorem dX3_press_18 : decode cX3_press 18 = .ok (.ifCond .ne 10, 3) := by decide +kernel
theorem dX3_press_21 : decode cX3_press 21 = .ok (.aload_n 0, 1) := by decide +kernel
theorem dX3_press_22 : decode cX3_press 22 = .ok (.getfield 49, 3) := by decide +kernel
theorem dX3_press_25 : decode cX3_press 25 = .ok (.ifCond .eq 6, 3) := by decide +kernel
theorem dX3_press_28 : decode cX3_press 28 = .ok (.bipush (-3), 2) := by decide +kernel
theorem dX3_press_30 : decode cX3_press 30 = .ok (.ireturn, 1) := by decide +kernel
theorem dX3_press_31 : decode cX3_press 31 = .ok (.aload_n 0, 1) := by decide +kernel
theorem dX3_press_32 : decode cX3_press 32 = .ok (.getfield 36, 3) := by decide +kernel
theorem dX3_press_35 : decode cX3_press 35 = .ok (.iload_n 1, 1) := by decide +kernel
theorem dX3_press_36 : decode cX3_press 36 = .ok (.aaload, 1) := by decide +kernel
theorem dX3_press_37 : decode cX3_press 37 = .ok (.iconst 1, 1) := by decide +kernel
theorem dX3_press_38 : decode cX3_press 38 = .ok (.putfield 157, 3) := by decide +kernel
theorem dX3_press_41 : decode cX3_press 41 = .ok (.aload_n 0, 1) := by decide +kernel
theorem dX3_press_42 : decode cX3_press 42 = .ok (.getfield 36, 3) := by decide +kernel
theorem dX3_press_45 : decode cX3_press 45 = .ok (.iload_n 1, 1) := by decide +kernel
theorem dX3_press_46 : decode cX3_press 46 = .ok (.aaload, 1) := by decide +kernel
theorem dX3_press_47 : decode cX3_press 47 = .ok (.aload_n 0, 1) := by decide +kernel
theorem dX3_press_48 : decode cX3_press 48 = .ok (.getfield 40, 3) := by decide +kernel
theorem dX3_press_51 : decode cX3_press 51 = .ok (.putfield 160, 3) := by decide +kernel
theorem dX3_press_54 : decode cX3_press 54 = .ok (.iconst 0, 1) := by decide +kernel
theorem dX3_press_55 : decode cX3_press 55 = .ok (.istore_n 2, 1) := by decide +kernel
theorem dX3_press_56 : decode cX3_press 56 = .ok (.iconst 0, 1) := by decide +kernel
theorem dX3_press_57 : decode cX3_press 57 = .ok (.istore_n 3, 1) := by decide +kernel
theorem dX3_press_58 : decode cX3_press 58 = .ok (.iload_n 3, 1) := by decide +kernel
theorem dX3_press_59 : decode cX3_press 59 = .ok (.bipush 6, 2) := by decide +kernel
theorem dX3_press_61 : decode cX3_press 61 = .ok (.if_icmp .ge 61, 3) := by decide +kernel
theorem dX3_press_64 : decode cX3_press 64 = .ok (.aload_n 0, 1) := by decide +kernel
theorem dX3_press_65 : decode cX3_press 65 = .ok (.getfield 19, 3) := by decide +kernel
theorem dX3_press_68 : decode cX3_press 68 = .ok (.iload_n 3, 1) := by decide +kernel
theorem dX3_press_69 : decode cX3_press 69 = .ok (.aaload, 1) := by decide +kernel
theorem dX3_press_70 : decode cX3_press 70 = .ok (.astore 4, 2) := by decide +kernel
theorem dX3_press_72 : decode cX3_press 72 = .ok (.aload 4, 2) := by decide +kernel
theorem dX3_press_74 : decode cX3_press 74 = .ok (.ifnull 42, 3) := by decide +kernel
theorem dX3_press_77 : decode cX3_press 77 = .ok (.aload 4, 2) := by decide +kernel
theorem dX3_press_79 : decode cX3_press 79 = .ok (.getfield 95, 3) := by decide +kernel
theorem dX3_press_82 : decode cX3_press 82 = .ok (.bipush 10, 2) := by decide +kernel
theorem dX3_press_84 : decode cX3_press 84 = .ok (.iaload, 1) := by decide +kernel
theorem dX3_press_85 : decode cX3_press 85 = .ok (.iload_n 1, 1) := by decide +kernel
theorem dX3_press_86 : decode cX3_press 86 = .ok (.if_icmp .ne 30, 3) := by decide +kernel
theorem dX3_press_89 : decode cX3_press 89 = .ok (.aload 4, 2) := by decide +kernel
theorem dX3_press_91 : decode cX3_press 91 = .ok (.aload_n 0, 1) := by decide +kernel
theorem dX3_press_92 : decode cX3_press 92 = .ok (.getfield 40, 3) := by decide +kernel
theorem dX3_press_95 : decode cX3_press 95 = .ok (.putfield 138, 3) := by decide +kernel
theorem dX3_press_98 : decode cX3_press 98 = .ok (.aload 4, 2) := by decide +kernel
theorem dX3_press_100 : decode cX3_press 100 = .ok (.getfield 163, 3) := by decide +kernel
theorem dX3_press_103 : decode cX3_press 103 = .ok (.iload_n 1, 1) := by decide +kernel
theorem dX3_press_104 : decode cX3_press 104 = .ok (.aload 4, 2) := by decide +kernel
theorem dX3_press_106 : decode cX3_press 106 = .ok (.getfield 95, 3) := by decide +kernel
theorem dX3_press_109 : decode cX3_press 109 = .ok (.bipush 11, 2) := by decide +kernel
theorem dX3_press_111 : decode cX3_press 111 = .ok (.iaload, 1) := by decide +kernel
theorem dX3_press_112 : decode cX3_press 112 = .ok (.iastore, 1) := by decide +kernel
theorem dX3_press_113 : decode cX3_press 113 = .ok (.iinc 2 1, 3) := by decide +kernel
theorem dX3_press_116 : decode cX3_press 116 = .ok (.iinc 3 1, 3) := by decide +kernel
theorem dX3_press_119 : decode cX3_press 119 = .ok (.goto (-61), 3) := by decide +kernel
theorem dX3_press_122 : decode cX3_press 122 = .ok (.iload_n 2, 1) := by decide +kernel
theorem dX3_press_123 : decode cX3_press 123 = .ok (.ireturn, 1) := by decide +kernel
theorem dX3_free_0 : decode cX3_free 0 = .ok (.iload_n 1, 1) := by decide +kernel
theorem dX3_free_1 : decode cX3_free 1 = .ok (.invokestatic 154, 3) := by decide +kernel
theorem dX3_free_4 : decode cX3_free 4 = .ok (.ifCond .ne 5, 3) := by decide +kernel
theorem dX3_free_7 : decode cX3_free 7 = .ok (.iconst (-1), 1) := by decide +kernel
theorem dX3_free_8 : decode cX3_free 8 = .ok (.ireturn, 1) := by decide +kernel
theorem dX3_free_9 : decode cX3_free 9 = .ok (.aload_n 0, 1) := by decide +kernel
theorem dX3_free_10 : decode cX3_free 10 = .ok (.getfield 36, 3) := by decide +kernel
theorem dX3_free_13 : decode cX3_free 13 = .ok (.iload_n 1, 1) := by decide +kernel
theorem dX3_free_14 : decode cX3_free 14 = .ok (.aaload, 1) := by decide +kernel
theorem dX3_free_15 : decode cX3_free 15 = .ok (.getfield 157, 3) := by decide +kernel
theorem dX3_free_18 : decode cX3_free 18 = .ok (.ifCond .ne 6, 3) := by decide +kernel
theorem dX3_free_21 : decode cX3_free 21 = .ok (.bipush (-3), 2) := by decide +kernel
theorem dX3_free_23 : decode cX3_free 23 = .ok (.ireturn, 1) := by decide +kernel
theorem dX3_free_24 : decode cX3_free 24 = .ok (.aload_n 0, 1) := by decide +kernel
theorem dX3_free_25 : decode cX3_free 25 = .ok (.iload_n 1, 1) := by decide +kernel
theorem dX3_free_26 : decode cX3_free 26 = .ok (.invokevirtual 166, 3) := by decide +kernel
theorem dX3_free_29 : decode cX3_free 29 = .ok (.aload_n 0, 1) := by decide +kernel
theorem dX3_free_30 : decode cX3_free 30 = .ok (.getfield 40, 3) := by decide +kernel
theorem dX3_free_33 : decode cX3_free 33 = .ok (.aload_n 0, 1) := by decide +kernel
theorem dX3_free_34 : decode cX3_free 34 = .ok (.getfield 36, 3) := by decide +kernel
theorem dX3_free_37 : decode cX3_free 37 = .ok (.iload_n 1, 1) := by decide +kernel
theorem dX3_free_38 : decode cX3_free 38 = .ok (.aaload, 1) := by decide +kernel
theorem dX3_free_39 : decode cX3_free 39 = .ok (.getfield 160, 3) := by decide +kernel
theorem dX3_free_42 : decode cX3_free 42 = .ok (.isub, 1) := by decide +kernel
theorem dX3_free_43 : decode cX3_free 43 = .ok (.ireturn, 1) := by decide +kernel
theorem dX3_pass_0 : decode cX3_pass 0 = .ok (.iload_n 1, 1) := by decide +kernel
theorem dX3_pass_1 : decode cX3_pass 1 = .ok (.iconst 1, 1) := by decide +kernel
theorem dX3_pass_2 : decode cX3_pass 2 = .ok (.ldc 169, 2) := by decide +kernel
theorem dX3_pass_4 : decode cX3_pass 4 = .ok (.invokestatic 102, 3) := by decide +kernel
theorem dX3_pass_7 : decode cX3_pass 7 = .ok (.ifCond .ne 6, 3) := by decide +kernel
theorem dX3_pass_10 : decode cX3_pass 10 = .ok (.bipush (-2), 2) := by decide +kernel
theorem dX3_pass_12 : decode cX3_pass 12 = .ok (.ireturn, 1) := by decide +kernel
theorem dX3_pass_13 : decode cX3_pass 13 = .ok (.aload_n 0, 1) := by decide +kernel
theorem dX3_pass_14 : decode cX3_pass 14 = .ok (.getfield 40, 3) := by decide +kernel
theorem dX3_pass_17 : decode cX3_pass 17 = .ok (.iload_n 1, 1) := by decide +kernel
theorem dX3_pass_18 : decode cX3_pass 18 = .ok (.iadd, 1) := by decide +kernel
theorem dX3_pass_19 : decode cX3_pass 19 = .ok (.istore_n 2, 1) := by decide +kernel
theorem dX3_pass_20 : decode cX3_pass 20 = .ok (.iload_n 2, 1) := by decide +kernel
theorem dX3_pass_21 : decode cX3_pass 21 = .ok (.ldc 113, 2) := by decide +kernel
theorem dX3_pass_23 : decode cX3_pass 23 = .ok (.if_icmp .le 6, 3) := by decide +kernel
theorem dX3_pass_26 : decode cX3_pass 26 = .ok (.bipush (-3), 2) := by decide +kernel
theorem dX3_pass_28 : decode cX3_pass 28 = .ok (.ireturn, 1) := by decide +kernel
theorem dX3_pass_29 : decode cX3_pass 29 = .ok (.aload_n 0, 1) := by decide +kernel
theorem dX3_pass_30 : decode cX3_pass 30 = .ok (.invokevirtual 170, 3) := by decide +kernel
theorem dX3_pass_33 : decode cX3_pass 33 = .ok (.istore_n 3, 1) := by decide +kernel
theorem dX3_pass_34 : decode cX3_pass 34 = .ok (.aload_n 0, 1) := by decide +kernel
theorem dX3_pass_35 : decode cX3_pass 35 = .ok (.iload_n 2, 1) := by decide +kernel
theorem dX3_pass_36 : decode cX3_pass 36 = .ok (.iload_n 3, 1) := by decide +kernel
theorem dX3_pass_37 : decode cX3_pass 37 = .ok (.iconst 1, 1) := by decide +kernel
theorem dX3_pass_38 : decode cX3_pass 38 = .ok (.isub, 1) := by decide +kernel
theorem dX3_pass_39 : decode cX3_pass 39 = .ok (.invokestatic 174, 3) := by decide +kernel
theorem dX3_pass_42 : decode cX3_pass 42 = .ok (.invokevirtual 180, 3) := by decide +kernel
theorem dX3_pass_45 : decode cX3_pass 45 = .ok (.aload_n 0, 1) := by decide +kernel
theorem dX3_pass_46 : decode cX3_pass 46 = .ok (.iload_n 2, 1) := by decide +kernel
theorem dX3_pass_47 : decode cX3_pass 47 = .ok (.putfield 40, 3) := by decide +kernel
theorem dX3_pass_50 : decode cX3_pass 50 = .ok (.iload_n 3, 1) := by decide +kernel
theorem dX3_pass_51 : decode cX3_pass 51 = .ok (.iload_n 2, 1) := by decide +kernel
theorem dX3_pass_52 : decode cX3_pass 52 = .ok (.if_icmp .gt 8, 3) := by decide +kernel
theorem dX3_pass_55 : decode cX3_pass 55 = .ok (.aload_n 0, 1) := by decide +kernel
theorem dX3_pass_56 : decode cX3_pass 56 = .ok (.iload_n 3, 1) := by decide +kernel
theorem dX3_pass_57 : decode cX3_pass 57 = .ok (.invokevirtual 183, 3) := by decide +kernel
theorem dX3_pass_60 : decode cX3_pass 60 = .ok (.aload_n 0, 1) := by decide +kernel
theorem dX3_pass_61 : decode cX3_pass 61 = .ok (.invokevirtual 186, 3) := by decide +kernel
theorem dX3_pass_64 : decode cX3_pass 64 = .ok (.ireturn, 1) := by decide +kernel
theorem dX3_hello_0 : decode cX3_hello 0 = .ok (.aload_n 0, 1) := by decide +kernel
theorem dX3_hello_1 : decode cX3_hello 1 = .ok (.getfield 49, 3) := by decide +kernel
theorem dX3_hello_4 : decode cX3_hello 4 = .ok (.ifCond .eq 7, 3) := by decide +kernel
theorem dX3_hello_7 : decode cX3_hello 7 = .ok (.iconst 1, 1) := by decide +kernel
theorem dX3_hello_8 : decode cX3_hello 8 = .ok (.goto 4, 3) := by decide +kernel
theorem dX3_hello_11 : decode cX3_hello 11 = .ok (.iconst 0, 1) := by decide +kernel
theorem dX3_hello_12 : decode cX3_hello 12 = .ok (.istore_n 1, 1) := by decide +kernel
theorem dX3_hello_13 : decode cX3_hello 13 = .ok (.aload_n 0, 1) := by decide +kernel
theorem dX3_hello_14 : decode cX3_hello 14 = .ok (.iconst 0, 1) := by decide +kernel
theorem dX3_hello_15 : decode cX3_hello 15 = .ok (.putfield 49, 3) := by decide +kernel
theorem dX3_hello_18 : decode cX3_hello 18 = .ok (.aload_n 0, 1) := by decide +kernel
theorem dX3_hello_19 : decode cX3_hello 19 = .ok (.aload_n 0, 1) := by decide +kernel
theorem dX3_hello_20 : decode cX3_hello 20 = .ok (.getfield 40, 3) := by decide +kernel
theorem dX3_hello_23 : decode cX3_hello 23 = .ok (.putfield 46, 3) := by decide +kernel
theorem dX3_hello_26 : decode cX3_hello 26 = .ok (.iload_n 1, 1) := by decide +kernel
theorem dX3_hello_27 : decode cX3_hello 27 = .ok (.ireturn, 1) := by decide +kernel
theorem dX3_watch_0 : decode cX3_watch 0 = .ok (.iload_n 1, 1) := by decide +kernel
theorem dX3_watch_1 : decode cX3_watch 1 = .ok (.iconst 0, 1) := by decide +kernel
theorem dX3_watch_2 : decode cX3_watch 2 = .ok (.sipush 10000, 3) := by decide +kernel
theorem dX3_watch_5 : decode cX3_watch 5 = .ok (.invokestatic 102, 3) := by decide +kernel
theorem dX3_watch_8 : decode cX3_watch 8 = .ok (.ifCond .ne 6, 3) := by decide +kernel
theorem dX3_watch_11 : decode cX3_watch 11 = .ok (.bipush (-2), 2) := by decide +kernel
theorem dX3_watch_13 : decode cX3_watch 13 = .ok (.ireturn, 1) := by decide +kernel
theorem dX3_watch_14 : decode cX3_watch 14 = .ok (.aload_n 0, 1) := by decide +kernel
theorem dX3_watch_15 : decode cX3_watch 15 = .ok (.getfield 43, 3) := by decide +kernel
theorem dX3_watch_18 : decode cX3_watch 18 = .ok (.istore_n 2, 1) := by decide +kernel
theorem dX3_watch_19 : decode cX3_watch 19 = .ok (.aload_n 0, 1) := by decide +kernel
theorem dX3_watch_20 : decode cX3_watch 20 = .ok (.iload_n 1, 1) := by decide +kernel
theorem dX3_watch_21 : decode cX3_watch 21 = .ok (.putfield 43, 3) := by decide +kernel
theorem dX3_watch_24 : decode cX3_watch 24 = .ok (.aload_n 0, 1) := by decide +kernel
theorem dX3_watch_25 : decode cX3_watch 25 = .ok (.aload_n 0, 1) := by decide +kernel
theorem dX3_watch_26 : decode cX3_watch 26 = .ok (.getfield 40, 3) := by decide +kernel
theorem dX3_watch_29 : decode cX3_watch 29 = .ok (.putfield 46, 3) := by decide +kernel
theorem dX3_watch_32 : decode cX3_watch 32 = .ok (.iload_n 2, 1) := by decide +kernel
theorem dX3_watch_33 : decode cX3_watch 33 = .ok (.ireturn, 1) := by decide +kernel
theorem dX3_master_0 : decode cX3_master 0 = .ok (.iload_n 1, 1) := by decide +kernel
theorem dX3_master_1 : decode cX3_master 1 = .ok (.iconst 0, 1) := by decide +kernel
theorem dX3_master_2 : decode cX3_master 2 = .ok (.bipush 100, 2) := by decide +kernel
theorem dX3_master_4 : decode cX3_master 4 = .ok (.invokestatic 102, 3) := by decide +kernel
theorem dX3_master_7 : decode cX3_master 7 = .ok (.ifCond .ne 6, 3) := by decide +kernel
theorem dX3_master_10 : decode cX3_master 10 = .ok (.bipush (-2), 2) := by decide +kernel
theorem dX3_master_12 : decode cX3_master 12 = .ok (.ireturn, 1) := by decide +kernel
theorem dX3_master_13 : decode cX3_master 13 = .ok (.aload_n 0, 1) := by decide +kernel
theorem dX3_master_14 : decode cX3_master 14 = .ok (.getfield 53, 3) := by decide +kernel
theorem dX3_master_17 : decode cX3_master 17 = .ok (.istore_n 2, 1) := by decide +kernel
theorem dX3_master_18 : decode cX3_master 18 = .ok (.aload_n 0, 1) := by decide +kernel
theorem dX3_master_19 : decode cX3_master 19 = .ok (.iload_n 1, 1) := by decide +kernel
theorem dX3_master_20 : decode cX3_master 20 = .ok (.putfield 53, 3) := by decide +kernel
theorem dX3_master_23 : decode cX3_master 23 = .ok (.iload_n 2, 1) := by decide +kernel
theorem dX3_master_24 : decode cX3_master 24 = .ok (.ireturn, 1) := by decide +kernel
theorem dX3_part_0 : decode cX3_part 0 = .ok (.aload_n 0, 1) := by decide +kernel
theorem dX3_part_1 : decode cX3_part 1 = .ok (.iload_n 1, 1) := by decide +kernel
theorem dX3_part_2 : decode cX3_part 2 = .ok (.invokevirtual 83, 3) := by decide +kernel
theorem dX3_part_5 : decode cX3_part 5 = .ok (.ifCond .eq 10, 3) := by decide +kernel
theorem dX3_part_8 : decode cX3_part 8 = .ok (.iload_n 2, 1) := by decide +kernel
theorem dX3_part_9 : decode cX3_part 9 = .ok (.invokestatic 110, 3) := by decide +kernel
theorem dX3_part_12 : decode cX3_part 12 = .ok (.ifCond .ne 5, 3) := by decide +kernel
theorem dX3_part_15 : decode cX3_part 15 = .ok (.iconst (-1), 1) := by decide +kernel
theorem dX3_part_16 : decode cX3_part 16 = .ok (.ireturn, 1) := by decide +kernel
theorem dX3_part_17 : decode cX3_part 17 = .ok (.aload_n 0, 1) := by decide +kernel
theorem dX3_part_18 : decode cX3_part 18 = .ok (.getfield 11, 3) := by decide +kernel
theorem dX3_part_21 : decode cX3_part 21 = .ok (.iload_n 1, 1) := by decide +kernel
theorem dX3_part_22 : decode cX3_part 22 = .ok (.aaload, 1) := by decide +kernel
theorem dX3_part_23 : decode cX3_part 23 = .ok (.astore_n 3, 1) := by decide +kernel
theorem dX3_part_24 : decode cX3_part 24 = .ok (.aload_n 3, 1) := by decide +kernel
theorem dX3_part_25 : decode cX3_part 25 = .ok (.aload_n 3, 1) := by decide +kernel
theorem dX3_part_26 : decode cX3_part 26 = .ok (.getfield 138, 3) := by decide +kernel
theorem dX3_part_29 : decode cX3_part 29 = .ok (.aload_n 0, 1) := by decide +kernel
theorem dX3_part_30 : decode cX3_part 30 = .ok (.getfield 40, 3) := by decide +kernel
theorem dX3_part_33 : decode cX3_part 33 = .ok (.aload_n 0, 1) := by decide +kernel
theorem dX3_part_34 : decode cX3_part 34 = .ok (.getfield 27, 3) := by decide +kernel
theorem dX3_part_37 : decode cX3_part 37 = .ok (.iload_n 2, 1) := by decide +kernel
theorem dX3_part_38 : decode cX3_part 38 = .ok (.aaload, 1) := by decide +kernel
theorem dX3_part_39 : decode cX3_part 39 = .ok (.invokevirtual 189, 3) := by decide +kernel
theorem dX3_part_42 : decode cX3_part 42 = .ok (.sipush 10000, 3) := by decide +kernel
theorem dX3_part_45 : decode cX3_part 45 = .ok (.iadd, 1) := by decide +kernel
theorem dX3_part_46 : decode cX3_part 46 = .ok (.ireturn, 1) := by decide +kernel
theorem dX3_envelope_0 : decode cX3_envelope 0 = .ok (.aload_n 0, 1) := by decide +kernel
theorem dX3_envelope_1 : decode cX3_envelope 1 = .ok (.iload_n 1, 1) := by decide +kernel
theorem dX3_envelope_2 : decode cX3_envelope 2 = .ok (.invokevirtual 83, 3) := by decide +kernel
theorem dX3_envelope_5 : decode cX3_envelope 5 = .ok (.ifCond .ne 5, 3) := by decide +kernel
theorem dX3_envelope_8 : decode cX3_envelope 8 = .ok (.iconst (-1), 1) := by decide +kernel
theorem dX3_envelope_9 : decode cX3_envelope 9 = .ok (.ireturn, 1) := by decide +kernel
theorem dX3_envelope_10 : decode cX3_envelope 10 = .ok (.aload_n 0, 1) := by decide +kernel
theorem dX3_envelope_11 : decode cX3_envelope 11 = .ok (.getfield 11, 3) := by decide +kernel
theorem dX3_envelope_14 : decode cX3_envelope 14 = .ok (.iload_n 1, 1) := by decide +kernel
theorem dX3_envelope_15 : decode cX3_envelope 15 = .ok (.aaload, 1) := by decide +kernel
theorem dX3_envelope_16 : decode cX3_envelope 16 = .ok (.astore_n 2, 1) := by decide +kernel
theorem dX3_envelope_17 : decode cX3_envelope 17 = .ok (.aload_n 2, 1) := by decide +kernel
theorem dX3_envelope_18 : decode cX3_envelope 18 = .ok (.aload_n 2, 1) := by decide +kernel
theorem dX3_envelope_19 : decode cX3_envelope 19 = .ok (.getfield 138, 3) := by decide +kernel
theorem dX3_envelope_22 : decode cX3_envelope 22 = .ok (.aload_n 0, 1) := by decide +kernel
theorem dX3_envelope_23 : decode cX3_envelope 23 = .ok (.getfield 40, 3) := by decide +kernel
theorem dX3_envelope_26 : decode cX3_envelope 26 = .ok (.invokevirtual 144, 3) := by decide +kernel
theorem dX3_envelope_29 : decode cX3_envelope 29 = .ok (.ifCond .eq 10, 3) := by decide +kernel
theorem dX3_envelope_32 : decode cX3_envelope 32 = .ok (.aload_n 2, 1) := by decide +kernel
theorem dX3_envelope_33 : decode cX3_envelope 33 = .ok (.invokevirtual 193, 3) := by decide +kernel
theorem dX3_envelope_36 : decode cX3_envelope 36 = .ok (.ifCond .ne 6, 3) := by decide +kernel
theorem dX3_envelope_39 : decode cX3_envelope 39 = .ok (.bipush (-9), 2) := by decide +kernel
theorem dX3_envelope_41 : decode cX3_envelope 41 = .ok (.ireturn, 1) := by decide +kernel
theorem dX3_envelope_42 : decode cX3_envelope 42 = .ok (.aload_n 2, 1) := by decide +kernel
theorem dX3_envelope_43 : decode cX3_envelope 43 = .ok (.aload_n 2, 1) := by decide +kernel
theorem dX3_envelope_44 : decode cX3_envelope 44 = .ok (.aload_n 2, 1) := by decide +kernel
theorem dX3_envelope_45 : decode cX3_envelope 45 = .ok (.getfield 138, 3) := by decide +kernel
theorem dX3_envelope_48 : decode cX3_envelope 48 = .ok (.aload_n 0, 1) := by decide +kernel
theorem dX3_envelope_49 : decode cX3_envelope 49 = .ok (.getfield 40, 3) := by decide +kernel
theorem dX3_envelope_52 : decode cX3_envelope 52 = .ok (.invokevirtual 197, 3) := by decide +kernel
theorem dX3_envelope_55 : decode cX3_envelope 55 = .ok (.invokevirtual 200, 3) := by decide +kernel
theorem dX3_envelope_58 : decode cX3_envelope 58 = .ok (.ireturn, 1) := by decide +kernel
theorem dX3_force_0 : decode cX3_force 0 = .ok (.iload_n 1, 1) := by decide +kernel
theorem dX3_force_1 : decode cX3_force 1 = .ok (.invokestatic 110, 3) := by decide +kernel
theorem dX3_force_4 : decode cX3_force 4 = .ok (.ifCond .ne 5, 3) := by decide +kernel
theorem dX3_force_7 : decode cX3_force 7 = .ok (.iconst (-1), 1) := by decide +kernel
theorem dX3_force_8 : decode cX3_force 8 = .ok (.ireturn, 1) := by decide +kernel
theorem dX3_force_9 : decode cX3_force 9 = .ok (.iload_n 2, 1) := by decide +kernel
theorem dX3_force_10 : decode cX3_force 10 = .ok (.iconst 0, 1) := by decide +kernel
theorem dX3_force_11 : decode cX3_force 11 = .ok (.iconst 1, 1) := by decide +kernel
theorem dX3_force_12 : decode cX3_force 12 = .ok (.invokestatic 102, 3) := by decide +kernel
theorem dX3_force_15 : decode cX3_force 15 = .ok (.ifCond .ne 6, 3) := by decide +kernel
theorem dX3_force_18 : decode cX3_force 18 = .ok (.bipush (-2), 2) := by decide +kernel
theorem dX3_force_20 : decode cX3_force 20 = .ok (.ireturn, 1) := by decide +kernel
theorem dX3_force_21 : decode cX3_force 21 = .ok (.aload_n 0, 1) := by decide +kernel
theorem dX3_force_22 : decode cX3_force 22 = .ok (.aload_n 0, 1) := by decide +kernel
theorem dX3_force_23 : decode cX3_force 23 = .ok (.getfield 40, 3) := by decide +kernel
theorem dX3_force_26 : decode cX3_force 26 = .ok (.aload_n 0, 1) := by decide +kernel
theorem dX3_force_27 : decode cX3_force 27 = .ok (.getfield 27, 3) := by decide +kernel
theorem dX3_force_30 : decode cX3_force 30 = .ok (.iload_n 1, 1) := by decide +kernel
theorem dX3_force_31 : decode cX3_force 31 = .ok (.aaload, 1) := by decide +kernel
theorem dX3_force_32 : decode cX3_force 32 = .ok (.invokevirtual 204, 3) := by decide +kernel
theorem dX3_force_35 : decode cX3_force 35 = .ok (.istore_n 3, 1) := by decide +kernel
theorem dX3_force_36 : decode cX3_force 36 = .ok (.iload_n 2, 1) := by decide +kernel
theorem dX3_force_37 : decode cX3_force 37 = .ok (.ifCond .ne 8, 3) := by decide +kernel
theorem dX3_force_40 : decode cX3_force 40 = .ok (.iload_n 3, 1) := by decide +kernel
theorem dX3_force_41 : decode cX3_force 41 = .ok (.ldc 169, 2) := by decide +kernel
theorem dX3_force_43 : decode cX3_force 43 = .ok (.iadd, 1) := by decide +kernel
theorem dX3_force_44 : decode cX3_force 44 = .ok (.ireturn, 1) := by decide +kernel
theorem dX3_force_45 : decode cX3_force 45 = .ok (.iload_n 3, 1) := by decide +kernel
theorem dX3_force_46 : decode cX3_force 46 = .ok (.sipush 1000, 3) := by decide +kernel
theorem dX3_force_49 : decode cX3_force 49 = .ok (.invokestatic 208, 3) := by decide +kernel
theorem dX3_force_52 : decode cX3_force 52 = .ok (.aload_n 0, 1) := by decide +kernel
theorem dX3_force_53 : decode cX3_force 53 = .ok (.getfield 53, 3) := by decide +kernel
theorem dX3_force_56 : decode cX3_force 56 = .ok (.imul, 1) := by decide +kernel
theorem dX3_force_57 : decode cX3_force 57 = .ok (.bipush 100, 2) := by decide +kernel
theorem dX3_force_59 : decode cX3_force 59 = .ok (.idiv, 1) := by decide +kernel
theorem dX3_force_60 : decode cX3_force 60 = .ok (.sipush 10000, 3) := by decide +kernel
theorem dX3_force_63 : decode cX3_force 63 = .ok (.iadd, 1) := by decide +kernel
theorem dX3_force_64 : decode cX3_force 64 = .ok (.ireturn, 1) := by decide +kernel
theorem dX3_rate_0 : decode cX3_rate 0 = .ok (.iload_n 1, 1) := by decide +kernel
theorem dX3_rate_1 : decode cX3_rate 1 = .ok (.iconst 1, 1) := by decide +kernel
theorem dX3_rate_2 : decode cX3_rate 2 = .ok (.sipush 1000, 3) := by decide +kernel
theorem dX3_rate_5 : decode cX3_rate 5 = .ok (.invokestatic 102, 3) := by decide +kernel
theorem dX3_rate_8 : decode cX3_rate 8 = .ok (.ifCond .ne 6, 3) := by decide +kernel
theorem dX3_rate_11 : decode cX3_rate 11 = .ok (.bipush (-2), 2) := by decide +kernel
theorem dX3_rate_13 : decode cX3_rate 13 = .ok (.ireturn, 1) := by decide +kernel
theorem dX3_rate_14 : decode cX3_rate 14 = .ok (.aload_n 0, 1) := by decide +kernel
theorem dX3_rate_15 : decode cX3_rate 15 = .ok (.getfield 56, 3) := by decide +kernel
theorem dX3_rate_18 : decode cX3_rate 18 = .ok (.istore_n 2, 1) := by decide +kernel
theorem dX3_rate_19 : decode cX3_rate 19 = .ok (.aload_n 0, 1) := by decide +kernel
theorem dX3_rate_20 : decode cX3_rate 20 = .ok (.iload_n 1, 1) := by decide +kernel
theorem dX3_rate_21 : decode cX3_rate 21 = .ok (.putfield 56, 3) := by decide +kernel
theorem dX3_rate_24 : decode cX3_rate 24 = .ok (.iload_n 2, 1) := by decide +kernel
theorem dX3_rate_25 : decode cX3_rate 25 = .ok (.ireturn, 1) := by decide +kernel
theorem dX3_frame_0 : decode cX3_frame 0 = .ok (.iload_n 1, 1) := by decide +kernel
theorem dX3_frame_1 : decode cX3_frame 1 = .ok (.iconst 0, 1) := by decide +kernel
theorem dX3_frame_2 : decode cX3_frame 2 = .ok (.ldc 211, 2) := by decide +kernel
theorem dX3_frame_4 : decode cX3_frame 4 = .ok (.invokestatic 102, 3) := by decide +kernel
theorem dX3_frame_7 : decode cX3_frame 7 = .ok (.ifCond .ne 6, 3) := by decide +kernel
theorem dX3_frame_10 : decode cX3_frame 10 = .ok (.bipush (-2), 2) := by decide +kernel
theorem dX3_frame_12 : decode cX3_frame 12 = .ok (.ireturn, 1) := by decide +kernel
theorem dX3_frame_13 : decode cX3_frame 13 = .ok (.sipush 1000, 3) := by decide +kernel
theorem dX3_frame_16 : decode cX3_frame 16 = .ok (.iload_n 1, 1) := by decide +kernel
theorem dX3_frame_17 : decode cX3_frame 17 = .ok (.imul, 1) := by decide +kernel
theorem dX3_frame_18 : decode cX3_frame 18 = .ok (.aload_n 0, 1) := by decide +kernel
theorem dX3_frame_19 : decode cX3_frame 19 = .ok (.getfield 56, 3) := by decide +kernel
theorem dX3_frame_22 : decode cX3_frame 22 = .ok (.invokestatic 212, 3) := by decide +kernel
theorem dX3_frame_25 : decode cX3_frame 25 = .ok (.ireturn, 1) := by decide +kernel
theorem dX3_frames_0 : decode cX3_frames 0 = .ok (.aload_n 0, 1) := by decide +kernel
theorem dX3_frames_1 : decode cX3_frames 1 = .ok (.getfield 56, 3) := by decide +kernel
theorem dX3_frames_4 : decode cX3_frames 4 = .ok (.i2l, 1) := by decide +kernel
theorem dX3_frames_5 : decode cX3_frames 5 = .ok (.aload_n 0, 1) := by decide +kernel
theorem dX3_frames_6 : decode cX3_frames 6 = .ok (.getfield 40, 3) := by decide +kernel
theorem dX3_frames_9 : decode cX3_frames 9 = .ok (.iconst 1, 1) := by decide +kernel
theorem dX3_frames_10 : decode cX3_frames 10 = .ok (.iadd, 1) := by decide +kernel
theorem dX3_frames_11 : decode cX3_frames 11 = .ok (.i2l, 1) := by decide +kernel
theorem dX3_frames_12 : decode cX3_frames 12 = .ok (.lmul, 1) := by decide +kernel
theorem dX3_frames_13 : decode cX3_frames 13 = .ok (.lstore_n 1, 1) := by decide +kernel
theorem dX3_frames_14 : decode cX3_frames 14 = .ok (.lload_n 1, 1) := by decide +kernel
theorem dX3_frames_15 : decode cX3_frames 15 = .ok (.ldc2_w 215, 3) := by decide +kernel
theorem dX3_frames_18 : decode cX3_frames 18 = .ok (.ladd, 1) := by decide +kernel
theorem dX3_frames_19 : decode cX3_frames 19 = .ok (.ldc2_w 217, 3) := by decide +kernel
theorem dX3_frames_22 : decode cX3_frames 22 = .ok (.ldiv, 1) := by decide +kernel
theorem dX3_frames_23 : decode cX3_frames 23 = .ok (.l2i, 1) := by decide +kernel
theorem dX3_frames_24 : decode cX3_frames 24 = .ok (.ireturn, 1) := by decide +kernel
theorem dX3_peak_0 : decode cX3_peak 0 = .ok (.iload_n 1, 1) := by decide +kernel
theorem dX3_peak_1 : decode cX3_peak 1 = .ok (.invokestatic 110, 3) := by decide +kernel
theorem dX3_peak_4 : decode cX3_peak 4 = .ok (.ifCond .ne 5, 3) := by decide +kernel
theorem dX3_peak_7 : decode cX3_peak 7 = .ok (.iconst (-1), 1) := by decide +kernel
theorem dX3_peak_8 : decode cX3_peak 8 = .ok (.ireturn, 1) := by decide +kernel
theorem dX3_peak_9 : decode cX3_peak 9 = .ok (.iload_n 2, 1) := by decide +kernel
theorem dX3_peak_10 : decode cX3_peak 10 = .ok (.iconst 1, 1) := by decide +kernel
theorem dX3_peak_11 : decode cX3_peak 11 = .ok (.sipush 2000, 3) := by decide +kernel
theorem dX3_peak_14 : decode cX3_peak 14 = .ok (.invokestatic 102, 3) := by decide +kernel
theorem dX3_peak_17 : decode cX3_peak 17 = .ok (.ifCond .eq 12, 3) := by decide +kernel
theorem dX3_peak_20 : decode cX3_peak 20 = .ok (.iload_n 3, 1) := by decide +kernel
theorem dX3_peak_21 : decode cX3_peak 21 = .ok (.iconst 0, 1) := by decide +kernel
theorem dX3_peak_22 : decode cX3_peak 22 = .ok (.iconst 1, 1) := by decide +kernel
theorem dX3_peak_23 : decode cX3_peak 23 = .ok (.invokestatic 102, 3) := by decide +kernel
theorem dX3_peak_26 : decode cX3_peak 26 = .ok (.ifCond .ne 6, 3) := by decide +kernel
theorem dX3_peak_29 : decode cX3_peak 29 = .ok (.bipush (-2), 2) := by decide +kernel
theorem dX3_peak_31 : decode cX3_peak 31 = .ok (.ireturn, 1) := by decide +kernel
theorem dX3_peak_32 : decode cX3_peak 32 = .ok (.iconst 0, 1) := by decide +kernel
theorem dX3_peak_33 : decode cX3_peak 33 = .ok (.istore 4, 2) := by decide +kernel
theorem dX3_peak_35 : decode cX3_peak 35 = .ok (.aload_n 0, 1) := by decide +kernel
theorem dX3_peak_36 : decode cX3_peak 36 = .ok (.getfield 40, 3) := by decide +kernel
theorem dX3_peak_39 : decode cX3_peak 39 = .ok (.istore 5, 2) := by decide +kernel
theorem dX3_peak_41 : decode cX3_peak 41 = .ok (.aload_n 0, 1) := by decide +kernel
theorem dX3_peak_42 : decode cX3_peak 42 = .ok (.iload_n 2, 1) := by decide +kernel
theorem dX3_peak_43 : decode cX3_peak 43 = .ok (.invokevirtual 219, 3) := by decide +kernel
theorem dX3_peak_46 : decode cX3_peak 46 = .ok (.istore 6, 2) := by decide +kernel
theorem dX3_peak_48 : decode cX3_peak 48 = .ok (.aload_n 0, 1) := by decide +kernel
theorem dX3_peak_49 : decode cX3_peak 49 = .ok (.getfield 40, 3) := by decide +kernel
theorem dX3_peak_52 : decode cX3_peak 52 = .ok (.istore 7, 2) := by decide +kernel
theorem dX3_peak_54 : decode cX3_peak 54 = .ok (.iload 7, 2) := by decide +kernel
theorem dX3_peak_56 : decode cX3_peak 56 = .ok (.iload 6, 2) := by decide +kernel
theorem dX3_peak_58 : decode cX3_peak 58 = .ok (.if_icmp .ge 41, 3) := by decide +kernel
theorem dX3_peak_61 : decode cX3_peak 61 = .ok (.aload_n 0, 1) := by decide +kernel
theorem dX3_peak_62 : decode cX3_peak 62 = .ok (.iload 7, 2) := by decide +kernel
theorem dX3_peak_64 : decode cX3_peak 64 = .ok (.aload_n 0, 1) := by decide +kernel
theorem dX3_peak_65 : decode cX3_peak 65 = .ok (.getfield 27, 3) := by decide +kernel
theorem dX3_peak_68 : decode cX3_peak 68 = .ok (.iload_n 1, 1) := by decide +kernel
theorem dX3_peak_69 : decode cX3_peak 69 = .ok (.aaload, 1) := by decide +kernel
theorem dX3_peak_70 : decode cX3_peak 70 = .ok (.invokevirtual 204, 3) := by decide +kernel
theorem dX3_peak_73 : decode cX3_peak 73 = .ok (.invokestatic 222, 3) := by decide +kernel
theorem dX3_peak_76 : decode cX3_peak 76 = .ok (.istore 8, 2) := by decide +kernel
theorem dX3_peak_78 : decode cX3_peak 78 = .ok (.iload 8, 2) := by decide +kernel
theorem dX3_peak_80 : decode cX3_peak 80 = .ok (.iload 4, 2) := by decide +kernel
theorem dX3_peak_82 : decode cX3_peak 82 = .ok (.if_icmp .le 11, 3) := by decide +kernel
theorem dX3_peak_85 : decode cX3_peak 85 = .ok (.iload 8, 2) := by decide +kernel
theorem dX3_peak_87 : decode cX3_peak 87 = .ok (.istore 4, 2) := by decide +kernel
theorem dX3_peak_89 : decode cX3_peak 89 = .ok (.iload 7, 2) := by decide +kernel
theorem dX3_peak_91 : decode cX3_peak 91 = .ok (.istore 5, 2) := by decide +kernel
theorem dX3_peak_93 : decode cX3_peak 93 = .ok (.iinc 7 1, 3) := by decide +kernel
theorem dX3_peak_96 : decode cX3_peak 96 = .ok (.goto (-42), 3) := by decide +kernel
theorem dX3_peak_99 : decode cX3_peak 99 = .ok (.iload_n 3, 1) := by decide +kernel
theorem dX3_peak_100 : decode cX3_peak 100 = .ok (.ifCond .ne 8, 3) := by decide +kernel
theorem dX3_peak_103 : decode cX3_peak 103 = .ok (.iload 4, 2) := by decide +kernel
theorem dX3_peak_105 : decode cX3_peak 105 = .ok (.goto 10, 3) := by decide +kernel
theorem dX3_peak_108 : decode cX3_peak 108 = .ok (.iload 5, 2) := by decide +kernel
theorem dX3_peak_110 : decode cX3_peak 110 = .ok (.aload_n 0, 1) := by decide +kernel
theorem dX3_peak_111 : decode cX3_peak 111 = .ok (.getfield 40, 3) := by decide +kernel
theorem dX3_peak_114 : decode cX3_peak 114 = .ok (.isub, 1) := by decide +kernel
theorem dX3_peak_115 : decode cX3_peak 115 = .ok (.ireturn, 1) := by decide +kernel
theorem dX3_soLong_0 : decode cX3_soLong 0 = .ok (.iload_n 1, 1) := by decide +kernel
theorem dX3_soLong_1 : decode cX3_soLong 1 = .ok (.iconst 1, 1) := by decide +kernel
theorem dX3_soLong_2 : decode cX3_soLong 2 = .ok (.sipush 2000, 3) := by decide +kernel
theorem dX3_soLong_5 : decode cX3_soLong 5 = .ok (.invokestatic 102, 3) := by decide +kernel
theorem dX3_soLong_8 : decode cX3_soLong 8 = .ok (.ifCond .ne 6, 3) := by decide +kernel
theorem dX3_soLong_11 : decode cX3_soLong 11 = .ok (.bipush (-2), 2) := by decide +kernel
theorem dX3_soLong_13 : decode cX3_soLong 13 = .ok (.ireturn, 1) := by decide +kernel
theorem dX3_soLong_14 : decode cX3_soLong 14 = .ok (.iconst 0, 1) := by decide +kernel
theorem dX3_soLong_15 : decode cX3_soLong 15 = .ok (.istore_n 2, 1) := by decide +kernel
theorem dX3_soLong_16 : decode cX3_soLong 16 = .ok (.aload_n 0, 1) := by decide +kernel
theorem dX3_soLong_17 : decode cX3_soLong 17 = .ok (.iload_n 1, 1) := by decide +kernel
theorem dX3_soLong_18 : decode cX3_soLong 18 = .ok (.invokevirtual 219, 3) := by decide +kernel
theorem dX3_soLong_21 : decode cX3_soLong 21 = .ok (.istore_n 3, 1) := by decide +kernel
theorem dX3_soLong_22 : decode cX3_soLong 22 = .ok (.aload_n 0, 1) := by decide +kernel
theorem dX3_soLong_23 : decode cX3_soLong 23 = .ok (.getfield 40, 3) := by decide +kernel
theorem dX3_soLong_26 : decode cX3_soLong 26 = .ok (.istore 4, 2) := by decide +kernel
theorem dX3_soLong_28 : decode cX3_soLong 28 = .ok (.iload 4, 2) := by decide +kernel
theorem dX3_soLong_30 : decode cX3_soLong 30 = .ok (.iload_n 3, 1) := by decide +kernel
theorem dX3_soLong_31 : decode cX3_soLong 31 = .ok (.if_icmp .ge 48, 3) := by decide +kernel
theorem dX3_soLong_34 : decode cX3_soLong 34 = .ok (.aload_n 0, 1) := by decide +kernel
theorem dX3_soLong_35 : decode cX3_soLong 35 = .ok (.iload 4, 2) := by decide +kernel
theorem dX3_soLong_37 : decode cX3_soLong 37 = .ok (.aload_n 0, 1) := by decide +kernel
theorem dX3_soLong_38 : decode cX3_soLong 38 = .ok (.getfield 27, 3) := by decide +kernel
theorem dX3_soLong_41 : decode cX3_soLong 41 = .ok (.iconst 0, 1) := by decide +kernel
theorem dX3_soLong_42 : decode cX3_soLong 42 = .ok (.aaload, 1) := by decide +kernel
theorem dX3_soLong_43 : decode cX3_soLong 43 = .ok (.invokevirtual 204, 3) := by decide +kernel
theorem dX3_soLong_46 : decode cX3_soLong 46 = .ok (.invokestatic 225, 3) := by decide +kernel
theorem dX3_soLong_49 : decode cX3_soLong 49 = .ok (.ifCond .ne 21, 3) := by decide +kernel
theorem dX3_soLong_52 : decode cX3_soLong 52 = .ok (.aload_n 0, 1) := by decide +kernel
theorem dX3_soLong_53 : decode cX3_soLong 53 = .ok (.iload 4, 2) := by decide +kernel
theorem dX3_soLong_55 : decode cX3_soLong 55 = .ok (.aload_n 0, 1) := by decide +kernel
theorem dX3_soLong_56 : decode cX3_soLong 56 = .ok (.getfield 27, 3) := by decide +kernel
theorem dX3_soLong_59 : decode cX3_soLong 59 = .ok (.iconst 1, 1) := by decide +kernel
theorem dX3_soLong_60 : decode cX3_soLong 60 = .ok (.aaload, 1) := by decide +kernel
theorem dX3_soLong_61 : decode cX3_soLong 61 = .ok (.invokevirtual 204, 3) := by decide +kernel
theorem dX3_soLong_64 : decode cX3_soLong 64 = .ok (.invokestatic 225, 3) := by decide +kernel
theorem dX3_soLong_67 : decode cX3_soLong 67 = .ok (.ifCond .eq 6, 3) := by decide +kernel
theorem dX3_soLong_70 : decode cX3_soLong 70 = .ok (.iinc 2 1, 3) := by decide +kernel
theorem dX3_soLong_73 : decode cX3_soLong 73 = .ok (.iinc 4 1, 3) := by decide +kernel
theorem dX3_soLong_76 : decode cX3_soLong 76 = .ok (.goto (-48), 3) := by decide +kernel
theorem dX3_soLong_79 : decode cX3_soLong 79 = .ok (.iload_n 2, 1) := by decide +kernel
theorem dX3_soLong_80 : decode cX3_soLong 80 = .ok (.ireturn, 1) := by decide +kernel
theorem dX3_quiet_0 : decode cX3_quiet 0 = .ok (.iload_n 1, 1) := by decide +kernel
theorem dX3_quiet_1 : decode cX3_quiet 1 = .ok (.iconst 1, 1) := by decide +kernel
theorem dX3_quiet_2 : decode cX3_quiet 2 = .ok (.sipush 400, 3) := by decide +kernel
theorem dX3_quiet_5 : decode cX3_quiet 5 = .ok (.invokestatic 102, 3) := by decide +kernel
theorem dX3_quiet_8 : decode cX3_quiet 8 = .ok (.ifCond .ne 6, 3) := by decide +kernel
theorem dX3_quiet_11 : decode cX3_quiet 11 = .ok (.bipush (-2), 2) := by decide +kernel
theorem dX3_quiet_13 : decode cX3_quiet 13 = .ok (.ireturn, 1) := by decide +kernel
theorem dX3_quiet_14 : decode cX3_quiet 14 = .ok (.aload_n 0, 1) := by decide +kernel
theorem dX3_quiet_15 : decode cX3_quiet 15 = .ok (.invokevirtual 228, 3) := by decide +kernel
theorem dX3_quiet_18 : decode cX3_quiet 18 = .ok (.istore_n 2, 1) := by decide +kernel
theorem dX3_quiet_19 : decode cX3_quiet 19 = .ok (.iconst 1, 1) := by decide +kernel
theorem dX3_quiet_20 : decode cX3_quiet 20 = .ok (.iload_n 2, 1) := by decide +kernel
theorem dX3_quiet_21 : decode cX3_quiet 21 = .ok (.ishl, 1) := by decide +kernel
theorem dX3_quiet_22 : decode cX3_quiet 22 = .ok (.istore_n 3, 1) := by decide +kernel
theorem dX3_quiet_23 : decode cX3_quiet 23 = .ok (.iconst 0, 1) := by decide +kernel
theorem dX3_quiet_24 : decode cX3_quiet 24 = .ok (.istore 4, 2) := by decide +kernel
theorem dX3_quiet_26 : decode cX3_quiet 26 = .ok (.iload 4, 2) := by decide +kernel
theorem dX3_quiet_28 : decode cX3_quiet 28 = .ok (.iload_n 3, 1) := by decide +kernel
theorem dX3_quiet_29 : decode cX3_quiet 29 = .ok (.if_icmp .ge 17, 3) := by decide +kernel
theorem dX3_quiet_32 : decode cX3_quiet 32 = .ok (.aload_n 0, 1) := by decide +kernel
theorem dX3_quiet_33 : decode cX3_quiet 33 = .ok (.getfield 66, 3) := by decide +kernel
theorem dX3_quiet_36 : decode cX3_quiet 36 = .ok (.iload 4, 2) := by decide +kernel
theorem dX3_quiet_38 : decode cX3_quiet 38 = .ok (.iconst 0, 1) := by decide +kernel
theorem dX3_quiet_39 : decode cX3_quiet 39 = .ok (.bastore, 1) := by decide +kernel
theorem dX3_quiet_40 : decode cX3_quiet 40 = .ok (.iinc 4 1, 3) := by decide +kernel
theorem dX3_quiet_43 : decode cX3_quiet 43 = .ok (.goto (-17), 3) := by decide +kernel
theorem dX3_quiet_46 : decode cX3_quiet 46 = .ok (.aload_n 0, 1) := by decide +kernel
theorem dX3_quiet_47 : decode cX3_quiet 47 = .ok (.iload_n 1, 1) := by decide +kernel
theorem dX3_quiet_48 : decode cX3_quiet 48 = .ok (.invokevirtual 219, 3) := by decide +kernel
theorem dX3_quiet_51 : decode cX3_quiet 51 = .ok (.istore 4, 2) := by decide +kernel
theorem dX3_quiet_53 : decode cX3_quiet 53 = .ok (.aload_n 0, 1) := by decide +kernel
theorem dX3_quiet_54 : decode cX3_quiet 54 = .ok (.getfield 40, 3) := by decide +kernel
theorem dX3_quiet_57 : decode cX3_quiet 57 = .ok (.istore 5, 2) := by decide +kernel
theorem dX3_quiet_59 : decode cX3_quiet 59 = .ok (.iload 5, 2) := by decide +kernel
theorem dX3_quiet_61 : decode cX3_quiet 61 = .ok (.iload 4, 2) := by decide +kernel
theorem dX3_quiet_63 : decode cX3_quiet 63 = .ok (.if_icmp .ge 35, 3) := by decide +kernel
theorem dX3_quiet_66 : decode cX3_quiet 66 = .ok (.aload_n 0, 1) := by decide +kernel
theorem dX3_quiet_67 : decode cX3_quiet 67 = .ok (.iload 5, 2) := by decide +kernel
theorem dX3_quiet_69 : decode cX3_quiet 69 = .ok (.aload_n 0, 1) := by decide +kernel
theorem dX3_quiet_70 : decode cX3_quiet 70 = .ok (.getfield 27, 3) := by decide +kernel
theorem dX3_quiet_73 : decode cX3_quiet 73 = .ok (.iconst 0, 1) := by decide +kernel
theorem dX3_quiet_74 : decode cX3_quiet 74 = .ok (.aaload, 1) := by decide +kernel
theorem dX3_quiet_75 : decode cX3_quiet 75 = .ok (.iload_n 3, 1) := by decide +kernel
theorem dX3_quiet_76 : decode cX3_quiet 76 = .ok (.invokevirtual 231, 3) := by decide +kernel
theorem dX3_quiet_79 : decode cX3_quiet 79 = .ok (.aload_n 0, 1) := by decide +kernel
theorem dX3_quiet_80 : decode cX3_quiet 80 = .ok (.iload 5, 2) := by decide +kernel
theorem dX3_quiet_82 : decode cX3_quiet 82 = .ok (.aload_n 0, 1) := by decide +kernel
theorem dX3_quiet_83 : decode cX3_quiet 83 = .ok (.getfield 27, 3) := by decide +kernel
theorem dX3_quiet_86 : decode cX3_quiet 86 = .ok (.iconst 1, 1) := by decide +kernel
theorem dX3_quiet_87 : decode cX3_quiet 87 = .ok (.aaload, 1) := by decide +kernel
theorem dX3_quiet_88 : decode cX3_quiet 88 = .ok (.iload_n 3, 1) := by decide +kernel
theorem dX3_quiet_89 : decode cX3_quiet 89 = .ok (.invokevirtual 231, 3) := by decide +kernel
theorem dX3_quiet_92 : decode cX3_quiet 92 = .ok (.iinc 5 1, 3) := by decide +kernel
theorem dX3_quiet_95 : decode cX3_quiet 95 = .ok (.goto (-36), 3) := by decide +kernel
theorem dX3_quiet_98 : decode cX3_quiet 98 = .ok (.aload_n 0, 1) := by decide +kernel
theorem dX3_quiet_99 : decode cX3_quiet 99 = .ok (.iload_n 3, 1) := by decide +kernel
theorem dX3_quiet_100 : decode cX3_quiet 100 = .ok (.invokevirtual 235, 3) := by decide +kernel
theorem dX3_quiet_103 : decode cX3_quiet 103 = .ok (.istore 5, 2) := by decide +kernel
theorem dX3_quiet_105 : decode cX3_quiet 105 = .ok (.iload 5, 2) := by decide +kernel
theorem dX3_quiet_107 : decode cX3_quiet 107 = .ok (.bipush (-9), 2) := by decide +kernel
theorem dX3_quiet_109 : decode cX3_quiet 109 = .ok (.if_icmp .ne 8, 3) := by decide +kernel
theorem dX3_quiet_112 : decode cX3_quiet 112 = .ok (.bipush (-9), 2) := by decide +kernel
theorem dX3_quiet_114 : decode cX3_quiet 114 = .ok (.goto 10, 3) := by decide +kernel
theorem dX3_quiet_117 : decode cX3_quiet 117 = .ok (.aload_n 0, 1) := by decide +kernel
theorem dX3_quiet_118 : decode cX3_quiet 118 = .ok (.iload 5, 2) := by decide +kernel
theorem dX3_quiet_120 : decode cX3_quiet 120 = .ok (.iload_n 2, 1) := by decide +kernel
theorem dX3_quiet_121 : decode cX3_quiet 121 = .ok (.invokevirtual 238, 3) := by decide +kernel
theorem dX3_quiet_124 : decode cX3_quiet 124 = .ok (.ireturn, 1) := by decide +kernel
theorem dX3_many_0 : decode cX3_many 0 = .ok (.iload_n 1, 1) := by decide +kernel
theorem dX3_many_1 : decode cX3_many 1 = .ok (.tableswitch 122 0 10 #[59, 64, 69, 74, 79, 84, 89, 94, 107, 112, 117], 59) := by decide +kernel
theorem dX3_many_60 : decode cX3_many 60 = .ok (.aload_n 0, 1) := by decide +kernel
theorem dX3_many_61 : decode cX3_many 61 = .ok (.getfield 15, 3) := by decide +kernel
theorem dX3_many_64 : decode cX3_many 64 = .ok (.ireturn, 1) := by decide +kernel
theorem dX3_many_65 : decode cX3_many 65 = .ok (.aload_n 0, 1) := by decide +kernel
theorem dX3_many_66 : decode cX3_many 66 = .ok (.invokevirtual 241, 3) := by decide +kernel
theorem dX3_many_69 : decode cX3_many 69 = .ok (.ireturn, 1) := by decide +kernel
theorem dX3_many_70 : decode cX3_many 70 = .ok (.aload_n 0, 1) := by decide +kernel
theorem dX3_many_71 : decode cX3_many 71 = .ok (.invokevirtual 186, 3) := by decide +kernel
theorem dX3_many_74 : decode cX3_many 74 = .ok (.ireturn, 1) := by decide +kernel
theorem dX3_many_75 : decode cX3_many 75 = .ok (.aload_n 0, 1) := by decide +kernel
theorem dX3_many_76 : decode cX3_many 76 = .ok (.invokevirtual 244, 3) := by decide +kernel
theorem dX3_many_79 : decode cX3_many 79 = .ok (.ireturn, 1) := by decide +kernel
theorem dX3_many_80 : decode cX3_many 80 = .ok (.aload_n 0, 1) := by decide +kernel
theorem dX3_many_81 : decode cX3_many 81 = .ok (.getfield 22, 3) := by decide +kernel
theorem dX3_many_84 : decode cX3_many 84 = .ok (.ireturn, 1) := by decide +kernel
theorem dX3_many_85 : decode cX3_many 85 = .ok (.aload_n 0, 1) := by decide +kernel
theorem dX3_many_86 : decode cX3_many 86 = .ok (.invokevirtual 247, 3) := by decide +kernel
theorem dX3_many_89 : decode cX3_many 89 = .ok (.ireturn, 1) := by decide +kernel
theorem dX3_many_90 : decode cX3_many 90 = .ok (.aload_n 0, 1) := by decide +kernel
theorem dX3_many_91 : decode cX3_many 91 = .ok (.getfield 40, 3) := by decide +kernel
theorem dX3_many_94 : decode cX3_many 94 = .ok (.ireturn, 1) := by decide +kernel
theorem dX3_many_95 : decode cX3_many 95 = .ok (.aload_n 0, 1) := by decide +kernel
theorem dX3_many_96 : decode cX3_many 96 = .ok (.getfield 49, 3) := by decide +kernel
theorem dX3_many_99 : decode cX3_many 99 = .ok (.ifCond .eq 7, 3) := by decide +kernel
theorem dX3_many_102 : decode cX3_many 102 = .ok (.iconst 1, 1) := by decide +kernel
theorem dX3_many_103 : decode cX3_many 103 = .ok (.goto 4, 3) := by decide +kernel
theorem dX3_many_106 : decode cX3_many 106 = .ok (.iconst 0, 1) := by decide +kernel
theorem dX3_many_107 : decode cX3_many 107 = .ok (.ireturn, 1) := by decide +kernel
theorem dX3_many_108 : decode cX3_many 108 = .ok (.aload_n 0, 1) := by decide +kernel
theorem dX3_many_109 : decode cX3_many 109 = .ok (.getfield 43, 3) := by decide +kernel
theorem dX3_many_112 : decode cX3_many 112 = .ok (.ireturn, 1) := by decide +kernel
theorem dX3_many_113 : decode cX3_many 113 = .ok (.aload_n 0, 1) := by decide +kernel
theorem dX3_many_114 : decode cX3_many 114 = .ok (.getfield 53, 3) := by decide +kernel
theorem dX3_many_117 : decode cX3_many 117 = .ok (.ireturn, 1) := by decide +kernel
theorem dX3_many_118 : decode cX3_many 118 = .ok (.aload_n 0, 1) := by decide +kernel
theorem dX3_many_119 : decode cX3_many 119 = .ok (.getfield 56, 3) := by decide +kernel
theorem dX3_many_122 : decode cX3_many 122 = .ok (.ireturn, 1) := by decide +kernel
theorem dX3_many_123 : decode cX3_many 123 = .ok (.bipush (-2), 2) := by decide +kernel
theorem dX3_many_125 : decode cX3_many 125 = .ok (.ireturn, 1) := by decide +kernel
theorem dX3_isWithin_0 : decode cX3_isWithin 0 = .ok (.iload_n 0, 1) := by decide +kernel
theorem dX3_isWithin_1 : decode cX3_isWithin 1 = .ok (.iload_n 1, 1) := by decide +kernel
theorem dX3_isWithin_2 : decode cX3_isWithin 2 = .ok (.if_icmp .lt 12, 3) := by decide +kernel
theorem dX3_isWithin_5 : decode cX3_isWithin 5 = .ok (.iload_n 0, 1) := by decide +kernel
theorem dX3_isWithin_6 : decode cX3_isWithin 6 = .ok (.iload_n 2, 1) := by decide +kernel
theorem dX3_isWithin_7 : decode cX3_isWithin 7 = .ok (.if_icmp .gt 7, 3) := by decide +kernel
theorem dX3_isWithin_10 : decode cX3_isWithin 10 = .ok (.iconst 1, 1) := by decide +kernel
theorem dX3_isWithin_11 : decode cX3_isWithin 11 = .ok (.goto 4, 3) := by decide +kernel
theorem dX3_isWithin_14 : decode cX3_isWithin 14 = .ok (.iconst 0, 1) := by decide +kernel
theorem dX3_isWithin_15 : decode cX3_isWithin 15 = .ok (.ireturn, 1) := by decide +kernel
theorem dX3_isEffect_0 : decode cX3_isEffect 0 = .ok (.iload_n 1, 1) := by decide +kernel
theorem dX3_isEffect_1 : decode cX3_isEffect 1 = .ok (.ifCond .lt 21, 3) := by decide +kernel
theorem dX3_isEffect_4 : decode cX3_isEffect 4 = .ok (.iload_n 1, 1) := by decide +kernel
theorem dX3_isEffect_5 : decode cX3_isEffect 5 = .ok (.aload_n 0, 1) := by decide +kernel
theorem dX3_isEffect_6 : decode cX3_isEffect 6 = .ok (.getfield 15, 3) := by decide +kernel
theorem dX3_isEffect_9 : decode cX3_isEffect 9 = .ok (.if_icmp .ge 13, 3) := by decide +kernel
theorem dX3_isEffect_12 : decode cX3_isEffect 12 = .ok (.iload_n 1, 1) := by decide +kernel
theorem dX3_isEffect_13 : decode cX3_isEffect 13 = .ok (.bipush 12, 2) := by decide +kernel
theorem dX3_isEffect_15 : decode cX3_isEffect 15 = .ok (.if_icmp .ge 7, 3) := by decide +kernel
theorem dX3_isEffect_18 : decode cX3_isEffect 18 = .ok (.iconst 1, 1) := by decide +kernel
theorem dX3_isEffect_19 : decode cX3_isEffect 19 = .ok (.goto 4, 3) := by decide +kernel
theorem dX3_isEffect_22 : decode cX3_isEffect 22 = .ok (.iconst 0, 1) := by decide +kernel
theorem dX3_isEffect_23 : decode cX3_isEffect 23 = .ok (.ireturn, 1) := by decide +kernel
theorem dX3_isAxis_0 : decode cX3_isAxis 0 = .ok (.iload_n 0, 1) := by decide +kernel
theorem dX3_isAxis_1 : decode cX3_isAxis 1 = .ok (.ifCond .lt 12, 3) := by decide +kernel
theorem dX3_isAxis_4 : decode cX3_isAxis 4 = .ok (.iload_n 0, 1) := by decide +kernel
theorem dX3_isAxis_5 : decode cX3_isAxis 5 = .ok (.iconst 2, 1) := by decide +kernel
theorem dX3_isAxis_6 : decode cX3_isAxis 6 = .ok (.if_icmp .ge 7, 3) := by decide +kernel
theorem dX3_isAxis_9 : decode cX3_isAxis 9 = .ok (.iconst 1, 1) := by decide +kernel
theorem dX3_isAxis_10 : decode cX3_isAxis 10 = .ok (.goto 4, 3) := by decide +kernel
theorem dX3_isAxis_13 : decode cX3_isAxis 13 = .ok (.iconst 0, 1) := by decide +kernel
theorem dX3_isAxis_14 : decode cX3_isAxis 14 = .ok (.ireturn, 1) := by decide +kernel
theorem dX3_isButton_0 : decode cX3_isButton 0 = .ok (.iload_n 0, 1) := by decide +kernel
theorem dX3_isButton_1 : decode cX3_isButton 1 = .ok (.ifCond .lt 12, 3) := by decide +kernel
theorem dX3_isButton_4 : decode cX3_isButton 4 = .ok (.iload_n 0, 1) := by decide +kernel
theorem dX3_isButton_5 : decode cX3_isButton 5 = .ok (.iconst 4, 1) := by decide +kernel
theorem dX3_isButton_6 : decode cX3_isButton 6 = .ok (.if_icmp .ge 7, 3) := by decide +kernel
theorem dX3_isButton_9 : decode cX3_isButton 9 = .ok (.iconst 1, 1) := by decide +kernel
theorem dX3_isButton_10 : decode cX3_isButton 10 = .ok (.goto 4, 3) := by decide +kernel
theorem dX3_isButton_13 : decode cX3_isButton 13 = .ok (.iconst 0, 1) := by decide +kernel
theorem dX3_isButton_14 : decode cX3_isButton 14 = .ok (.ireturn, 1) := by decide +kernel
theorem dX3_isShape_0 : decode cX3_isShape 0 = .ok (.iload_n 0, 1) := by decide +kernel
theorem dX3_isShape_1 : decode cX3_isShape 1 = .ok (.ifCond .lt 9, 3) := by decide +kernel
theorem dX3_isShape_4 : decode cX3_isShape 4 = .ok (.iload_n 0, 1) := by decide +kernel
theorem dX3_isShape_5 : decode cX3_isShape 5 = .ok (.bipush 7, 2) := by decide +kernel
theorem dX3_isShape_7 : decode cX3_isShape 7 = .ok (.if_icmp .lt 5, 3) := by decide +kernel
theorem dX3_isShape_10 : decode cX3_isShape 10 = .ok (.iconst 0, 1) := by decide +kernel
theorem dX3_isShape_11 : decode cX3_isShape 11 = .ok (.ireturn, 1) := by decide +kernel
theorem dX3_isShape_12 : decode cX3_isShape 12 = .ok (.iload_n 0, 1) := by decide +kernel
theorem dX3_isShape_13 : decode cX3_isShape 13 = .ok (.iconst 1, 1) := by decide +kernel
theorem dX3_isShape_14 : decode cX3_isShape 14 = .ok (.if_icmp .eq 8, 3) := by decide +kernel
theorem dX3_isShape_17 : decode cX3_isShape 17 = .ok (.iload_n 0, 1) := by decide +kernel
theorem dX3_isShape_18 : decode cX3_isShape 18 = .ok (.iconst 2, 1) := by decide +kernel
theorem dX3_isShape_19 : decode cX3_isShape 19 = .ok (.if_icmp .ne 7, 3) := by decide +kernel
theorem dX3_isShape_22 : decode cX3_isShape 22 = .ok (.iconst 1, 1) := by decide +kernel
theorem dX3_isShape_23 : decode cX3_isShape 23 = .ok (.goto 4, 3) := by decide +kernel
theorem dX3_isShape_26 : decode cX3_isShape 26 = .ok (.iconst 0, 1) := by decide +kernel
theorem dX3_isShape_27 : decode cX3_isShape 27 = .ok (.istore 5, 2) := by decide +kernel
theorem dX3_isShape_29 : decode cX3_isShape 29 = .ok (.iload_n 0, 1) := by decide +kernel
theorem dX3_isShape_30 : decode cX3_isShape 30 = .ok (.iconst 0, 1) := by decide +kernel
theorem dX3_isShape_31 : decode cX3_isShape 31 = .ok (.iload_n 1, 1) := by decide +kernel
theorem dX3_isShape_32 : decode cX3_isShape 32 = .ok (.invokestatic 250, 3) := by decide +kernel
theorem dX3_isShape_35 : decode cX3_isShape 35 = .ok (.ifCond .eq 46, 3) := by decide +kernel
theorem dX3_isShape_38 : decode cX3_isShape 38 = .ok (.iload_n 0, 1) := by decide +kernel
theorem dX3_isShape_39 : decode cX3_isShape 39 = .ok (.iconst 1, 1) := by decide +kernel
theorem dX3_isShape_40 : decode cX3_isShape 40 = .ok (.iload_n 2, 1) := by decide +kernel
theorem dX3_isShape_41 : decode cX3_isShape 41 = .ok (.invokestatic 250, 3) := by decide +kernel
theorem dX3_isShape_44 : decode cX3_isShape 44 = .ok (.ifCond .eq 37, 3) := by decide +kernel
theorem dX3_isShape_47 : decode cX3_isShape 47 = .ok (.iload_n 0, 1) := by decide +kernel
theorem dX3_isShape_48 : decode cX3_isShape 48 = .ok (.iconst 2, 1) := by decide +kernel
theorem dX3_isShape_49 : decode cX3_isShape 49 = .ok (.iload_n 3, 1) := by decide +kernel
theorem dX3_isShape_50 : decode cX3_isShape 50 = .ok (.invokestatic 250, 3) := by decide +kernel
theorem dX3_isShape_53 : decode cX3_isShape 53 = .ok (.ifCond .eq 28, 3) := by decide +kernel
theorem dX3_isShape_56 : decode cX3_isShape 56 = .ok (.iload_n 0, 1) := by decide +kernel
theorem dX3_isShape_57 : decode cX3_isShape 57 = .ok (.iconst 3, 1) := by decide +kernel
theorem dX3_isShape_58 : decode cX3_isShape 58 = .ok (.iload 4, 2) := by decide +kernel
theorem dX3_isShape_60 : decode cX3_isShape 60 = .ok (.invokestatic 250, 3) := by decide +kernel
theorem dX3_isShape_63 : decode cX3_isShape 63 = .ok (.ifCond .eq 18, 3) := by decide +kernel
theorem dX3_isShape_66 : decode cX3_isShape 66 = .ok (.iload 5, 2) := by decide +kernel
theorem dX3_isShape_68 : decode cX3_isShape 68 = .ok (.ifCond .eq 9, 3) := by decide +kernel
theorem dX3_isShape_71 : decode cX3_isShape 71 = .ok (.iload 4, 2) := by decide +kernel
theorem dX3_isShape_73 : decode cX3_isShape 73 = .ok (.iload_n 3, 1) := by decide +kernel
theorem dX3_isShape_74 : decode cX3_isShape 74 = .ok (.if_icmp .ge 7, 3) := by decide +kernel
theorem dX3_isShape_77 : decode cX3_isShape 77 = .ok (.iconst 1, 1) := by decide +kernel
theorem dX3_isShape_78 : decode cX3_isShape 78 = .ok (.goto 4, 3) := by decide +kernel
theorem dX3_isShape_81 : decode cX3_isShape 81 = .ok (.iconst 0, 1) := by decide +kernel
theorem dX3_isShape_82 : decode cX3_isShape 82 = .ok (.ireturn, 1) := by decide +kernel
theorem dX3_isShapeNumber_0 : decode cX3_isShapeNumber 0 = .ok (.iconst 4, 1) := by decide +kernel
theorem dX3_isShapeNumber_1 : decode cX3_isShapeNumber 1 = .ok (.iload_n 0, 1) := by decide +kernel
theorem dX3_isShapeNumber_2 : decode cX3_isShapeNumber 2 = .ok (.imul, 1) := by decide +kernel
theorem dX3_isShapeNumber_3 : decode cX3_isShapeNumber 3 = .ok (.iload_n 1, 1) := by decide +kernel
theorem dX3_isShapeNumber_4 : decode cX3_isShapeNumber 4 = .ok (.iadd, 1) := by decide +kernel
theorem dX3_isShapeNumber_5 : decode cX3_isShapeNumber 5 = .ok (.istore_n 3, 1) := by decide +kernel
theorem dX3_isShapeNumber_6 : decode cX3_isShapeNumber 6 = .ok (.iload_n 2, 1) := by decide +kernel
theorem dX3_isShapeNumber_7 : decode cX3_isShapeNumber 7 = .ok (.getstatic 253, 3) := by decide +kernel
theorem dX3_isShapeNumber_10 : decode cX3_isShapeNumber 10 = .ok (.iload_n 3, 1) := by decide +kernel
theorem dX3_isShapeNumber_11 : decode cX3_isShapeNumber 11 = .ok (.iaload, 1) := by decide +kernel
theorem dX3_isShapeNumber_12 : decode cX3_isShapeNumber 12 = .ok (.getstatic 256, 3) := by decide +kernel
theorem dX3_isShapeNumber_15 : decode cX3_isShapeNumber 15 = .ok (.iload_n 3, 1) := by decide +kernel
theorem dX3_isShapeNumber_16 : decode cX3_isShapeNumber 16 = .ok (.iaload, 1) := by decide +kernel
theorem dX3_isShapeNumber_17 : decode cX3_isShapeNumber 17 = .ok (.invokestatic 102, 3) := by decide +kernel
theorem dX3_isShapeNumber_20 : decode cX3_isShapeNumber 20 = .ok (.ireturn, 1) := by decide +kernel
theorem dX3_isNumber_0 : decode cX3_isNumber 0 = .ok (.iload_n 0, 1) := by decide +kernel
theorem dX3_isNumber_1 : decode cX3_isNumber 1 = .ok (.ifCond .lt 9, 3) := by decide +kernel
theorem dX3_isNumber_4 : decode cX3_isNumber 4 = .ok (.iload_n 0, 1) := by decide +kernel
theorem dX3_isNumber_5 : decode cX3_isNumber 5 = .ok (.bipush 12, 2) := by decide +kernel
theorem dX3_isNumber_7 : decode cX3_isNumber 7 = .ok (.if_icmp .lt 5, 3) := by decide +kernel
theorem dX3_isNumber_10 : decode cX3_isNumber 10 = .ok (.iconst 0, 1) := by decide +kernel
theorem dX3_isNumber_11 : decode cX3_isNumber 11 = .ok (.ireturn, 1) := by decide +kernel
theorem dX3_isNumber_12 : decode cX3_isNumber 12 = .ok (.iload_n 1, 1) := by decide +kernel
theorem dX3_isNumber_13 : decode cX3_isNumber 13 = .ok (.bipush (-9), 2) := by decide +kernel
theorem dX3_isNumber_15 : decode cX3_isNumber 15 = .ok (.if_icmp .ne 15, 3) := by decide +kernel
theorem dX3_isNumber_18 : decode cX3_isNumber 18 = .ok (.iload_n 0, 1) := by decide +kernel
theorem dX3_isNumber_19 : decode cX3_isNumber 19 = .ok (.ifCond .eq 9, 3) := by decide +kernel
theorem dX3_isNumber_22 : decode cX3_isNumber 22 = .ok (.iload_n 0, 1) := by decide +kernel
theorem dX3_isNumber_23 : decode cX3_isNumber 23 = .ok (.bipush 10, 2) := by decide +kernel
theorem dX3_isNumber_25 : decode cX3_isNumber 25 = .ok (.if_icmp .ne 5, 3) := by decide +kernel
theorem dX3_isNumber_28 : decode cX3_isNumber 28 = .ok (.iconst 1, 1) := by decide +kernel
theorem dX3_isNumber_29 : decode cX3_isNumber 29 = .ok (.ireturn, 1) := by decide +kernel
theorem dX3_isNumber_30 : decode cX3_isNumber 30 = .ok (.iload_n 1, 1) := by decide +kernel
theorem dX3_isNumber_31 : decode cX3_isNumber 31 = .ok (.getstatic 259, 3) := by decide +kernel
theorem dX3_isNumber_34 : decode cX3_isNumber 34 = .ok (.iload_n 0, 1) := by decide +kernel
theorem dX3_isNumber_35 : decode cX3_isNumber 35 = .ok (.iaload, 1) := by decide +kernel
theorem dX3_isNumber_36 : decode cX3_isNumber 36 = .ok (.getstatic 262, 3) := by decide +kernel
theorem dX3_isNumber_39 : decode cX3_isNumber 39 = .ok (.iload_n 0, 1) := by decide +kernel
theorem dX3_isNumber_40 : decode cX3_isNumber 40 = .ok (.iaload, 1) := by decide +kernel
theorem dX3_isNumber_41 : decode cX3_isNumber 41 = .ok (.invokestatic 102, 3) := by decide +kernel
theorem dX3_isNumber_44 : decode cX3_isNumber 44 = .ok (.ireturn, 1) := by decide +kernel
theorem dX3_toldNumber_0 : decode cX3_toldNumber 0 = .ok (.iload_n 1, 1) := by decide +kernel
theorem dX3_toldNumber_1 : decode cX3_toldNumber 1 = .ok (.bipush 6, 2) := by decide +kernel
theorem dX3_toldNumber_3 : decode cX3_toldNumber 3 = .ok (.if_icmp .eq 9, 3) := by decide +kernel
theorem dX3_toldNumber_6 : decode cX3_toldNumber 6 = .ok (.iload_n 1, 1) := by decide +kernel
theorem dX3_toldNumber_7 : decode cX3_toldNumber 7 = .ok (.bipush 7, 2) := by decide +kernel
theorem dX3_toldNumber_9 : decode cX3_toldNumber 9 = .ok (.if_icmp .ne 16, 3) := by decide +kernel
theorem dX3_toldNumber_12 : decode cX3_toldNumber 12 = .ok (.aload_n 0, 1) := by decide +kernel
theorem dX3_toldNumber_13 : decode cX3_toldNumber 13 = .ok (.getfield 95, 3) := by decide +kernel
theorem dX3_toldNumber_16 : decode cX3_toldNumber 16 = .ok (.iload_n 1, 1) := by decide +kernel
theorem dX3_toldNumber_17 : decode cX3_toldNumber 17 = .ok (.iaload, 1) := by decide +kernel
theorem dX3_toldNumber_18 : decode cX3_toldNumber 18 = .ok (.sipush 10000, 3) := by decide +kernel
theorem dX3_toldNumber_21 : decode cX3_toldNumber 21 = .ok (.iadd, 1) := by decide +kernel
theorem dX3_toldNumber_22 : decode cX3_toldNumber 22 = .ok (.goto 9, 3) := by decide +kernel
theorem dX3_toldNumber_25 : decode cX3_toldNumber 25 = .ok (.aload_n 0, 1) := by decide +kernel
theorem dX3_toldNumber_26 : decode cX3_toldNumber 26 = .ok (.getfield 95, 3) := by decide +kernel
theorem dX3_toldNumber_29 : decode cX3_toldNumber 29 = .ok (.iload_n 1, 1) := by decide +kernel
theorem dX3_toldNumber_30 : decode cX3_toldNumber 30 = .ok (.iaload, 1) := by decide +kernel
theorem dX3_toldNumber_31 : decode cX3_toldNumber 31 = .ok (.ireturn, 1) := by decide +kernel
theorem dX3_quotient_0 : decode cX3_quotient 0 = .ok (.iload_n 1, 1) := by decide +kernel
theorem dX3_quotient_1 : decode cX3_quotient 1 = .ok (.ifCond .le 9, 3) := by decide +kernel
theorem dX3_quotient_4 : decode cX3_quotient 4 = .ok (.iload_n 0, 1) := by decide +kernel
theorem dX3_quotient_5 : decode cX3_quotient 5 = .ok (.iload_n 1, 1) := by decide +kernel
theorem dX3_quotient_6 : decode cX3_quotient 6 = .ok (.idiv, 1) := by decide +kernel
theorem dX3_quotient_7 : decode cX3_quotient 7 = .ok (.goto 4, 3) := by decide +kernel
theorem dX3_quotient_10 : decode cX3_quotient 10 = .ok (.iconst 0, 1) := by decide +kernel
theorem dX3_quotient_11 : decode cX3_quotient 11 = .ok (.ireturn, 1) := by decide +kernel
theorem dX3_remainder_0 : decode cX3_remainder 0 = .ok (.iload_n 1, 1) := by decide +kernel
theorem dX3_remainder_1 : decode cX3_remainder 1 = .ok (.ifCond .le 9, 3) := by decide +kernel
theorem dX3_remainder_4 : decode cX3_remainder 4 = .ok (.iload_n 0, 1) := by decide +kernel
theorem dX3_remainder_5 : decode cX3_remainder 5 = .ok (.iload_n 1, 1) := by decide +kernel
theorem dX3_remainder_6 : decode cX3_remainder 6 = .ok (.irem, 1) := by decide +kernel
theorem dX3_remainder_7 : decode cX3_remainder 7 = .ok (.goto 4, 3) := by decide +kernel
theorem dX3_remainder_10 : decode cX3_remainder 10 = .ok (.iconst 0, 1) := by decide +kernel
theorem dX3_remainder_11 : decode cX3_remainder 11 = .ok (.ireturn, 1) := by decide +kernel
theorem dX3_noFarther_0 : decode cX3_noFarther 0 = .ok (.iload_n 0, 1) := by decide +kernel
theorem dX3_noFarther_1 : decode cX3_noFarther 1 = .ok (.iload_n 1, 1) := by decide +kernel
theorem dX3_noFarther_2 : decode cX3_noFarther 2 = .ok (.if_icmp .le 5, 3) := by decide +kernel
theorem dX3_noFarther_5 : decode cX3_noFarther 5 = .ok (.iload_n 1, 1) := by decide +kernel
theorem dX3_noFarther_6 : decode cX3_noFarther 6 = .ok (.ireturn, 1) := by decide +kernel
theorem dX3_noFarther_7 : decode cX3_noFarther 7 = .ok (.iload_n 0, 1) := by decide +kernel
theorem dX3_noFarther_8 : decode cX3_noFarther 8 = .ok (.iload_n 1, 1) := by decide +kernel
theorem dX3_noFarther_9 : decode cX3_noFarther 9 = .ok (.ineg, 1) := by decide +kernel
theorem dX3_noFarther_10 : decode cX3_noFarther 10 = .ok (.if_icmp .ge 8, 3) := by decide +kernel
theorem dX3_noFarther_13 : decode cX3_noFarther 13 = .ok (.iload_n 1, 1) := by decide +kernel
theorem dX3_noFarther_14 : decode cX3_noFarther 14 = .ok (.ineg, 1) := by decide +kernel
theorem dX3_noFarther_15 : decode cX3_noFarther 15 = .ok (.goto 4, 3) := by decide +kernel
theorem dX3_noFarther_18 : decode cX3_noFarther 18 = .ok (.iload_n 0, 1) := by decide +kernel
theorem dX3_noFarther_19 : decode cX3_noFarther 19 = .ok (.ireturn, 1) := by decide +kernel
theorem dX3_bringIn_0 : decode cX3_bringIn 0 = .ok (.aload_n 1, 1) := by decide +kernel
theorem dX3_bringIn_1 : decode cX3_bringIn 1 = .ok (.getfield 135, 3) := by decide +kernel
theorem dX3_bringIn_4 : decode cX3_bringIn 4 = .ok (.bipush (-9), 2) := by decide +kernel
theorem dX3_bringIn_6 : decode cX3_bringIn 6 = .ok (.if_icmp .eq 8, 3) := by decide +kernel
theorem dX3_bringIn_9 : decode cX3_bringIn 9 = .ok (.aload_n 1, 1) := by decide +kernel
theorem dX3_bringIn_10 : decode cX3_bringIn 10 = .ok (.getfield 135, 3) := by decide +kernel
theorem dX3_bringIn_13 : decode cX3_bringIn 13 = .ok (.ireturn, 1) := by decide +kernel
theorem dX3_bringIn_14 : decode cX3_bringIn 14 = .ok (.aload_n 0, 1) := by decide +kernel
theorem dX3_bringIn_15 : decode cX3_bringIn 15 = .ok (.invokevirtual 265, 3) := by decide +kernel
theorem dX3_bringIn_18 : decode cX3_bringIn 18 = .ok (.istore_n 2, 1) := by decide +kernel
theorem dX3_bringIn_19 : decode cX3_bringIn 19 = .ok (.iload_n 2, 1) := by decide +kernel
theorem dX3_bringIn_20 : decode cX3_bringIn 20 = .ok (.bipush (-9), 2) := by decide +kernel
theorem dX3_bringIn_22 : decode cX3_bringIn 22 = .ok (.if_icmp .ne 32, 3) := by decide +kernel
theorem dX3_bringIn_25 : decode cX3_bringIn 25 = .ok (.aload_n 0, 1) := by decide +kernel
theorem dX3_bringIn_26 : decode cX3_bringIn 26 = .ok (.aload_n 1, 1) := by decide +kernel
theorem dX3_bringIn_27 : decode cX3_bringIn 27 = .ok (.getfield 95, 3) := by decide +kernel
theorem dX3_bringIn_30 : decode cX3_bringIn 30 = .ok (.bipush 9, 2) := by decide +kernel
theorem dX3_bringIn_32 : decode cX3_bringIn 32 = .ok (.iaload, 1) := by decide +kernel
theorem dX3_bringIn_33 : decode cX3_bringIn 33 = .ok (.invokevirtual 268, 3) := by decide +kernel
theorem dX3_bringIn_36 : decode cX3_bringIn 36 = .ok (.astore_n 3, 1) := by decide +kernel
theorem dX3_bringIn_37 : decode cX3_bringIn 37 = .ok (.aload_n 3, 1) := by decide +kernel
theorem dX3_bringIn_38 : decode cX3_bringIn 38 = .ok (.ifnonnull 6, 3) := by decide +kernel
theorem dX3_bringIn_41 : decode cX3_bringIn 41 = .ok (.bipush (-4), 2) := by decide +kernel
theorem dX3_bringIn_43 : decode cX3_bringIn 43 = .ok (.ireturn, 1) := by decide +kernel
theorem dX3_bringIn_44 : decode cX3_bringIn 44 = .ok (.aload_n 3, 1) := by decide +kernel
theorem dX3_bringIn_45 : decode cX3_bringIn 45 = .ok (.getfield 135, 3) := by decide +kernel
theorem dX3_bringIn_48 : decode cX3_bringIn 48 = .ok (.istore_n 2, 1) := by decide +kernel
theorem dX3_bringIn_49 : decode cX3_bringIn 49 = .ok (.aload_n 0, 1) := by decide +kernel
theorem dX3_bringIn_50 : decode cX3_bringIn 50 = .ok (.aload_n 3, 1) := by decide +kernel
theorem dX3_bringIn_51 : decode cX3_bringIn 51 = .ok (.invokevirtual 98, 3) := by decide +kernel
theorem dX3_bringIn_54 : decode cX3_bringIn 54 = .ok (.iload_n 2, 1) := by decide +kernel
theorem dX3_bringIn_55 : decode cX3_bringIn 55 = .ok (.ifCond .lt 21, 3) := by decide +kernel
theorem dX3_bringIn_58 : decode cX3_bringIn 58 = .ok (.iload_n 2, 1) := by decide +kernel
theorem dX3_bringIn_59 : decode cX3_bringIn 59 = .ok (.bipush 6, 2) := by decide +kernel
theorem dX3_bringIn_61 : decode cX3_bringIn 61 = .ok (.if_icmp .ge 15, 3) := by decide +kernel
theorem dX3_bringIn_64 : decode cX3_bringIn 64 = .ok (.aload_n 0, 1) := by decide +kernel
theorem dX3_bringIn_65 : decode cX3_bringIn 65 = .ok (.getfield 19, 3) := by decide +kernel
theorem dX3_bringIn_68 : decode cX3_bringIn 68 = .ok (.iload_n 2, 1) := by decide +kernel
theorem dX3_bringIn_69 : decode cX3_bringIn 69 = .ok (.aload_n 1, 1) := by decide +kernel
theorem dX3_bringIn_70 : decode cX3_bringIn 70 = .ok (.aastore, 1) := by decide +kernel
theorem dX3_bringIn_71 : decode cX3_bringIn 71 = .ok (.aload_n 1, 1) := by decide +kernel
theorem dX3_bringIn_72 : decode cX3_bringIn 72 = .ok (.iload_n 2, 1) := by decide +kernel
theorem dX3_bringIn_73 : decode cX3_bringIn 73 = .ok (.putfield 135, 3) := by decide +kernel
theorem dX3_bringIn_76 : decode cX3_bringIn 76 = .ok (.iload_n 2, 1) := by decide +kernel
theorem dX3_bringIn_77 : decode cX3_bringIn 77 = .ok (.ireturn, 1) := by decide +kernel
theorem dX3_leastFreeSlot_0 : decode cX3_leastFreeSlot 0 = .ok (.iconst 0, 1) := by decide +kernel
theorem dX3_leastFreeSlot_1 : decode cX3_leastFreeSlot 1 = .ok (.istore_n 1, 1) := by decide +kernel
theorem dX3_leastFreeSlot_2 : decode cX3_leastFreeSlot 2 = .ok (.iload_n 1, 1) := by decide +kernel
theorem dX3_leastFreeSlot_3 : decode cX3_leastFreeSlot 3 = .ok (.aload_n 0, 1) := by decide +kernel
theorem dX3_leastFreeSlot_4 : decode cX3_leastFreeSlot 4 = .ok (.getfield 22, 3) := by decide +kernel
theorem dX3_leastFreeSlot_7 : decode cX3_leastFreeSlot 7 = .ok (.if_icmp .ge 20, 3) := by decide +kernel
theorem dX3_leastFreeSlot_10 : decode cX3_leastFreeSlot 10 = .ok (.aload_n 0, 1) := by decide +kernel
theorem dX3_leastFreeSlot_11 : decode cX3_leastFreeSlot 11 = .ok (.getfield 19, 3) := by decide +kernel
theorem dX3_leastFreeSlot_14 : decode cX3_leastFreeSlot 14 = .ok (.iload_n 1, 1) := by decide +kernel
theorem dX3_leastFreeSlot_15 : decode cX3_leastFreeSlot 15 = .ok (.aaload, 1) := by decide +kernel
theorem dX3_leastFreeSlot_16 : decode cX3_leastFreeSlot 16 = .ok (.ifnonnull 5, 3) := by decide +kernel
theorem dX3_leastFreeSlot_19 : decode cX3_leastFreeSlot 19 = .ok (.iload_n 1, 1) := by decide +kernel
theorem dX3_leastFreeSlot_20 : decode cX3_leastFreeSlot 20 = .ok (.ireturn, 1) := by decide +kernel
theorem dX3_leastFreeSlot_21 : decode cX3_leastFreeSlot 21 = .ok (.iinc 1 1, 3) := by decide +kernel
theorem dX3_leastFreeSlot_24 : decode cX3_leastFreeSlot 24 = .ok (.goto (-22), 3) := by decide +kernel
theorem dX3_leastFreeSlot_27 : decode cX3_leastFreeSlot 27 = .ok (.bipush (-9), 2) := by decide +kernel
theorem dX3_leastFreeSlot_29 : decode cX3_leastFreeSlot 29 = .ok (.ireturn, 1) := by decide +kernel
theorem dX3_whichGoes_0 : decode cX3_whichGoes 0 = .ok (.aconst_null, 1) := by decide +kernel
theorem dX3_whichGoes_1 : decode cX3_whichGoes 1 = .ok (.astore_n 2, 1) := by decide +kernel
theorem dX3_whichGoes_2 : decode cX3_whichGoes 2 = .ok (.aconst_null, 1) := by decide +kernel
theorem dX3_whichGoes_3 : decode cX3_whichGoes 3 = .ok (.astore_n 3, 1) := by decide +kernel
theorem dX3_whichGoes_4 : decode cX3_whichGoes 4 = .ok (.iconst 0, 1) := by decide +kernel
theorem dX3_whichGoes_5 : decode cX3_whichGoes 5 = .ok (.istore 4, 2) := by decide +kernel
theorem dX3_whichGoes_7 : decode cX3_whichGoes 7 = .ok (.iload 4, 2) := by decide +kernel
theorem dX3_whichGoes_9 : decode cX3_whichGoes 9 = .ok (.aload_n 0, 1) := by decide +kernel
theorem dX3_whichGoes_10 : decode cX3_whichGoes 10 = .ok (.getfield 15, 3) := by decide +kernel
theorem dX3_whichGoes_13 : decode cX3_whichGoes 13 = .ok (.if_icmp .ge 105, 3) := by decide +kernel
theorem dX3_whichGoes_16 : decode cX3_whichGoes 16 = .ok (.aload_n 0, 1) := by decide +kernel
theorem dX3_whichGoes_17 : decode cX3_whichGoes 17 = .ok (.getfield 11, 3) := by decide +kernel
theorem dX3_whichGoes_20 : decode cX3_whichGoes 20 = .ok (.iload 4, 2) := by decide +kernel
theorem dX3_whichGoes_22 : decode cX3_whichGoes 22 = .ok (.aaload, 1) := by decide +kernel
theorem dX3_whichGoes_23 : decode cX3_whichGoes 23 = .ok (.astore 5, 2) := by decide +kernel
theorem dX3_whichGoes_25 : decode cX3_whichGoes 25 = .ok (.aload 5, 2) := by decide +kernel
theorem dX3_whichGoes_27 : decode cX3_whichGoes 27 = .ok (.getfield 135, 3) := by decide +kernel
theorem dX3_whichGoes_30 : decode cX3_whichGoes 30 = .ok (.bipush (-9), 2) := by decide +kernel
theorem dX3_whichGoes_32 : decode cX3_whichGoes 32 = .ok (.if_icmp .ne 6, 3) := by decide +kernel
theorem dX3_whichGoes_35 : decode cX3_whichGoes 35 = .ok (.goto 77, 3) := by decide +kernel
theorem dX3_whichGoes_38 : decode cX3_whichGoes 38 = .ok (.aload 5, 2) := by decide +kernel
theorem dX3_whichGoes_40 : decode cX3_whichGoes 40 = .ok (.getfield 95, 3) := by decide +kernel
theorem dX3_whichGoes_43 : decode cX3_whichGoes 43 = .ok (.bipush 9, 2) := by decide +kernel
theorem dX3_whichGoes_45 : decode cX3_whichGoes 45 = .ok (.iaload, 1) := by decide +kernel
theorem dX3_whichGoes_46 : decode cX3_whichGoes 46 = .ok (.istore 6, 2) := by decide +kernel
theorem dX3_whichGoes_48 : decode cX3_whichGoes 48 = .ok (.aload 5, 2) := by decide +kernel
theorem dX3_whichGoes_50 : decode cX3_whichGoes 50 = .ok (.aload 5, 2) := by decide +kernel
theorem dX3_whichGoes_52 : decode cX3_whichGoes 52 = .ok (.getfield 138, 3) := by decide +kernel
theorem dX3_whichGoes_55 : decode cX3_whichGoes 55 = .ok (.aload_n 0, 1) := by decide +kernel
theorem dX3_whichGoes_56 : decode cX3_whichGoes 56 = .ok (.getfield 40, 3) := by decide +kernel
theorem dX3_whichGoes_59 : decode cX3_whichGoes 59 = .ok (.invokevirtual 141, 3) := by decide +kernel
theorem dX3_whichGoes_62 : decode cX3_whichGoes 62 = .ok (.ifCond .ne 25, 3) := by decide +kernel
theorem dX3_whichGoes_65 : decode cX3_whichGoes 65 = .ok (.aload_n 2, 1) := by decide +kernel
theorem dX3_whichGoes_66 : decode cX3_whichGoes 66 = .ok (.ifnull 15, 3) := by decide +kernel
theorem dX3_whichGoes_69 : decode cX3_whichGoes 69 = .ok (.iload 6, 2) := by decide +kernel
theorem dX3_whichGoes_71 : decode cX3_whichGoes 71 = .ok (.aload_n 2, 1) := by decide +kernel
theorem dX3_whichGoes_72 : decode cX3_whichGoes 72 = .ok (.getfield 95, 3) := by decide +kernel
theorem dX3_whichGoes_75 : decode cX3_whichGoes 75 = .ok (.bipush 9, 2) := by decide +kernel
theorem dX3_whichGoes_77 : decode cX3_whichGoes 77 = .ok (.iaload, 1) := by decide +kernel
theorem dX3_whichGoes_78 : decode cX3_whichGoes 78 = .ok (.if_icmp .ge 34, 3) := by decide +kernel
theorem dX3_whichGoes_81 : decode cX3_whichGoes 81 = .ok (.aload 5, 2) := by decide +kernel
theorem dX3_whichGoes_83 : decode cX3_whichGoes 83 = .ok (.astore_n 2, 1) := by decide +kernel
theorem dX3_whichGoes_84 : decode cX3_whichGoes 84 = .ok (.goto 28, 3) := by decide +kernel
theorem dX3_whichGoes_87 : decode cX3_whichGoes 87 = .ok (.iload 6, 2) := by decide +kernel
theorem dX3_whichGoes_89 : decode cX3_whichGoes 89 = .ok (.iload_n 1, 1) := by decide +kernel
theorem dX3_whichGoes_90 : decode cX3_whichGoes 90 = .ok (.if_icmp .ge 22, 3) := by decide +kernel
theorem dX3_whichGoes_93 : decode cX3_whichGoes 93 = .ok (.aload_n 3, 1) := by decide +kernel
theorem dX3_whichGoes_94 : decode cX3_whichGoes 94 = .ok (.ifnull 15, 3) := by decide +kernel
theorem dX3_whichGoes_97 : decode cX3_whichGoes 97 = .ok (.iload 6, 2) := by decide +kernel
theorem dX3_whichGoes_99 : decode cX3_whichGoes 99 = .ok (.aload_n 3, 1) := by decide +kernel
theorem dX3_whichGoes_100 : decode cX3_whichGoes 100 = .ok (.getfield 95, 3) := by decide +kernel
theorem dX3_whichGoes_103 : decode cX3_whichGoes 103 = .ok (.bipush 9, 2) := by decide +kernel
theorem dX3_whichGoes_105 : decode cX3_whichGoes 105 = .ok (.iaload, 1) := by decide +kernel
theorem dX3_whichGoes_106 : decode cX3_whichGoes 106 = .ok (.if_icmp .ge 6, 3) := by decide +kernel
theorem dX3_whichGoes_109 : decode cX3_whichGoes 109 = .ok (.aload 5, 2) := by decide +kernel
theorem dX3_whichGoes_111 : decode cX3_whichGoes 111 = .ok (.astore_n 3, 1) := by decide +kernel
theorem dX3_whichGoes_112 : decode cX3_whichGoes 112 = .ok (.iinc 4 1, 3) := by decide +kernel
theorem dX3_whichGoes_115 : decode cX3_whichGoes 115 = .ok (.goto (-108), 3) := by decide +kernel
theorem dX3_whichGoes_118 : decode cX3_whichGoes 118 = .ok (.aload_n 2, 1) := by decide +kernel
theorem dX3_whichGoes_119 : decode cX3_whichGoes 119 = .ok (.ifnull 7, 3) := by decide +kernel
theorem dX3_whichGoes_122 : decode cX3_whichGoes 122 = .ok (.aload_n 2, 1) := by decide +kernel
theorem dX3_whichGoes_123 : decode cX3_whichGoes 123 = .ok (.goto 4, 3) := by decide +kernel
theorem dX3_whichGoes_126 : decode cX3_whichGoes 126 = .ok (.aload_n 3, 1) := by decide +kernel
theorem dX3_whichGoes_127 : decode cX3_whichGoes 127 = .ok (.areturn, 1) := by decide +kernel
theorem dX3_takeOut_0 : decode cX3_takeOut 0 = .ok (.aload_n 1, 1) := by decide +kernel
theorem dX3_takeOut_1 : decode cX3_takeOut 1 = .ok (.getfield 135, 3) := by decide +kernel
theorem dX3_takeOut_4 : decode cX3_takeOut 4 = .ok (.istore_n 2, 1) := by decide +kernel
theorem dX3_takeOut_5 : decode cX3_takeOut 5 = .ok (.iload_n 2, 1) := by decide +kernel
theorem dX3_takeOut_6 : decode cX3_takeOut 6 = .ok (.ifCond .lt 16, 3) := by decide +kernel
theorem dX3_takeOut_9 : decode cX3_takeOut 9 = .ok (.iload_n 2, 1) := by decide +kernel
theorem dX3_takeOut_10 : decode cX3_takeOut 10 = .ok (.bipush 6, 2) := by decide +kernel
theorem dX3_takeOut_12 : decode cX3_takeOut 12 = .ok (.if_icmp .ge 10, 3) := by decide +kernel
theorem dX3_takeOut_15 : decode cX3_takeOut 15 = .ok (.aload_n 0, 1) := by decide +kernel
theorem dX3_takeOut_16 : decode cX3_takeOut 16 = .ok (.getfield 19, 3) := by decide +kernel
theorem dX3_takeOut_19 : decode cX3_takeOut 19 = .ok (.iload_n 2, 1) := by decide +kernel
theorem dX3_takeOut_20 : decode cX3_takeOut 20 = .ok (.aconst_null, 1) := by decide +kernel
theorem dX3_takeOut_21 : decode cX3_takeOut 21 = .ok (.aastore, 1) := by decide +kernel
theorem dX3_takeOut_22 : decode cX3_takeOut 22 = .ok (.aload_n 1, 1) := by decide +kernel
theorem dX3_takeOut_23 : decode cX3_takeOut 23 = .ok (.bipush (-9), 2) := by decide +kernel
theorem dX3_takeOut_25 : decode cX3_takeOut 25 = .ok (.putfield 135, 3) := by decide +kernel
theorem dX3_takeOut_28 : decode cX3_takeOut 28 = .ok (.aload_n 1, 1) := by decide +kernel
theorem dX3_takeOut_29 : decode cX3_takeOut 29 = .ok (.bipush (-9), 2) := by decide +kernel
theorem dX3_takeOut_31 : decode cX3_takeOut 31 = .ok (.putfield 138, 3) := by decide +kernel
theorem dX3_takeOut_34 : decode cX3_takeOut 34 = .ok (.iconst 0, 1) := by decide +kernel
theorem dX3_takeOut_35 : decode cX3_takeOut 35 = .ok (.istore_n 3, 1) := by decide +kernel
theorem dX3_takeOut_36 : decode cX3_takeOut 36 = .ok (.iload_n 3, 1) := by decide +kernel
theorem dX3_takeOut_37 : decode cX3_takeOut 37 = .ok (.iconst 4, 1) := by decide +kernel
theorem dX3_takeOut_38 : decode cX3_takeOut 38 = .ok (.if_icmp .ge 16, 3) := by decide +kernel
theorem dX3_takeOut_41 : decode cX3_takeOut 41 = .ok (.aload_n 1, 1) := by decide +kernel
theorem dX3_takeOut_42 : decode cX3_takeOut 42 = .ok (.getfield 163, 3) := by decide +kernel
theorem dX3_takeOut_45 : decode cX3_takeOut 45 = .ok (.iload_n 3, 1) := by decide +kernel
theorem dX3_takeOut_46 : decode cX3_takeOut 46 = .ok (.iconst 0, 1) := by decide +kernel
theorem dX3_takeOut_47 : decode cX3_takeOut 47 = .ok (.iastore, 1) := by decide +kernel
theorem dX3_takeOut_48 : decode cX3_takeOut 48 = .ok (.iinc 3 1, 3) := by decide +kernel
theorem dX3_takeOut_51 : decode cX3_takeOut 51 = .ok (.goto (-15), 3) := by decide +kernel
theorem dX3_takeOut_54 : decode cX3_takeOut 54 = .ok (.return_, 1) := by decide +kernel
theorem dX3_letGo_0 : decode cX3_letGo 0 = .ok (.aload_n 0, 1) := by decide +kernel
theorem dX3_letGo_1 : decode cX3_letGo 1 = .ok (.getfield 36, 3) := by decide +kernel
theorem dX3_letGo_4 : decode cX3_letGo 4 = .ok (.iload_n 1, 1) := by decide +kernel
theorem dX3_letGo_5 : decode cX3_letGo 5 = .ok (.aaload, 1) := by decide +kernel
theorem dX3_letGo_6 : decode cX3_letGo 6 = .ok (.iconst 0, 1) := by decide +kernel
theorem dX3_letGo_7 : decode cX3_letGo 7 = .ok (.putfield 157, 3) := by decide +kernel
theorem dX3_letGo_10 : decode cX3_letGo 10 = .ok (.iconst 0, 1) := by decide +kernel
theorem dX3_letGo_11 : decode cX3_letGo 11 = .ok (.istore_n 2, 1) := by decide +kernel
theorem dX3_letGo_12 : decode cX3_letGo 12 = .ok (.iload_n 2, 1) := by decide +kernel
theorem dX3_letGo_13 : decode cX3_letGo 13 = .ok (.bipush 12, 2) := by decide +kernel
theorem dX3_letGo_15 : decode cX3_letGo 15 = .ok (.if_icmp .ge 21, 3) := by decide +kernel
theorem dX3_letGo_18 : decode cX3_letGo 18 = .ok (.aload_n 0, 1) := by decide +kernel
theorem dX3_letGo_19 : decode cX3_letGo 19 = .ok (.getfield 11, 3) := by decide +kernel
theorem dX3_letGo_22 : decode cX3_letGo 22 = .ok (.iload_n 2, 1) := by decide +kernel
theorem dX3_letGo_23 : decode cX3_letGo 23 = .ok (.aaload, 1) := by decide +kernel
theorem dX3_letGo_24 : decode cX3_letGo 24 = .ok (.getfield 163, 3) := by decide +kernel
theorem dX3_letGo_27 : decode cX3_letGo 27 = .ok (.iload_n 1, 1) := by decide +kernel
theorem dX3_letGo_28 : decode cX3_letGo 28 = .ok (.iconst 0, 1) := by decide +kernel
theorem dX3_letGo_29 : decode cX3_letGo 29 = .ok (.iastore, 1) := by decide +kernel
theorem dX3_letGo_30 : decode cX3_letGo 30 = .ok (.iinc 2 1, 3) := by decide +kernel
theorem dX3_letGo_33 : decode cX3_letGo 33 = .ok (.goto (-21), 3) := by decide +kernel
theorem dX3_letGo_36 : decode cX3_letGo 36 = .ok (.return_, 1) := by decide +kernel
theorem dX3_lossAt_0 : decode cX3_lossAt 0 = .ok (.aload_n 0, 1) := by decide +kernel
theorem dX3_lossAt_1 : decode cX3_lossAt 1 = .ok (.getfield 49, 3) := by decide +kernel
theorem dX3_lossAt_4 : decode cX3_lossAt 4 = .ok (.ifCond .ne 22, 3) := by decide +kernel
theorem dX3_lossAt_7 : decode cX3_lossAt 7 = .ok (.aload_n 0, 1) := by decide +kernel
theorem dX3_lossAt_8 : decode cX3_lossAt 8 = .ok (.getfield 43, 3) := by decide +kernel
theorem dX3_lossAt_11 : decode cX3_lossAt 11 = .ok (.ifCond .le 15, 3) := by decide +kernel
theorem dX3_lossAt_14 : decode cX3_lossAt 14 = .ok (.aload_n 0, 1) := by decide +kernel
theorem dX3_lossAt_15 : decode cX3_lossAt 15 = .ok (.getfield 46, 3) := by decide +kernel
theorem dX3_lossAt_18 : decode cX3_lossAt 18 = .ok (.aload_n 0, 1) := by decide +kernel
theorem dX3_lossAt_19 : decode cX3_lossAt 19 = .ok (.getfield 43, 3) := by decide +kernel
theorem dX3_lossAt_22 : decode cX3_lossAt 22 = .ok (.iadd, 1) := by decide +kernel
theorem dX3_lossAt_23 : decode cX3_lossAt 23 = .ok (.goto 6, 3) := by decide +kernel
theorem dX3_lossAt_26 : decode cX3_lossAt 26 = .ok (.ldc_w 272, 3) := by decide +kernel
theorem dX3_lossAt_29 : decode cX3_lossAt 29 = .ok (.ireturn, 1) := by decide +kernel
theorem dX3_startBy_0 : decode cX3_startBy 0 = .ok (.aload_n 1, 1) := by decide +kernel
theorem dX3_startBy_1 : decode cX3_startBy 1 = .ok (.getfield 138, 3) := by decide +kernel
theorem dX3_startBy_4 : decode cX3_startBy 4 = .ok (.istore_n 3, 1) := by decide +kernel
theorem dX3_startBy_5 : decode cX3_startBy 5 = .ok (.iconst 0, 1) := by decide +kernel
theorem dX3_startBy_6 : decode cX3_startBy 6 = .ok (.istore 4, 2) := by decide +kernel
theorem dX3_startBy_8 : decode cX3_startBy 8 = .ok (.iload 4, 2) := by decide +kernel
theorem dX3_startBy_10 : decode cX3_startBy 10 = .ok (.iconst 4, 1) := by decide +kernel
theorem dX3_startBy_11 : decode cX3_startBy 11 = .ok (.if_icmp .ge 62, 3) := by decide +kernel
theorem dX3_startBy_14 : decode cX3_startBy 14 = .ok (.aload_n 1, 1) := by decide +kernel
theorem dX3_startBy_15 : decode cX3_startBy 15 = .ok (.getfield 163, 3) := by decide +kernel
theorem dX3_startBy_18 : decode cX3_startBy 18 = .ok (.iload 4, 2) := by decide +kernel
theorem dX3_startBy_20 : decode cX3_startBy 20 = .ok (.iaload, 1) := by decide +kernel
theorem dX3_startBy_21 : decode cX3_startBy 21 = .ok (.istore 5, 2) := by decide +kernel
theorem dX3_startBy_23 : decode cX3_startBy 23 = .ok (.iload 5, 2) := by decide +kernel
theorem dX3_startBy_25 : decode cX3_startBy 25 = .ok (.ifCond .le 42, 3) := by decide +kernel
theorem dX3_startBy_28 : decode cX3_startBy 28 = .ok (.iload_n 2, 1) := by decide +kernel
theorem dX3_startBy_29 : decode cX3_startBy 29 = .ok (.iload_n 2, 1) := by decide +kernel
theorem dX3_startBy_30 : decode cX3_startBy 30 = .ok (.aload_n 0, 1) := by decide +kernel
theorem dX3_startBy_31 : decode cX3_startBy 31 = .ok (.getfield 36, 3) := by decide +kernel
theorem dX3_startBy_34 : decode cX3_startBy 34 = .ok (.iload 4, 2) := by decide +kernel
theorem dX3_startBy_36 : decode cX3_startBy 36 = .ok (.aaload, 1) := by decide +kernel
theorem dX3_startBy_37 : decode cX3_startBy 37 = .ok (.getfield 160, 3) := by decide +kernel
theorem dX3_startBy_40 : decode cX3_startBy 40 = .ok (.isub, 1) := by decide +kernel
theorem dX3_startBy_41 : decode cX3_startBy 41 = .ok (.iload 5, 2) := by decide +kernel
theorem dX3_startBy_43 : decode cX3_startBy 43 = .ok (.invokestatic 273, 3) := by decide +kernel
theorem dX3_startBy_46 : decode cX3_startBy 46 = .ok (.isub, 1) := by decide +kernel
theorem dX3_startBy_47 : decode cX3_startBy 47 = .ok (.istore 6, 2) := by decide +kernel
theorem dX3_startBy_49 : decode cX3_startBy 49 = .ok (.iload 6, 2) := by decide +kernel
theorem dX3_startBy_51 : decode cX3_startBy 51 = .ok (.aload_n 0, 1) := by decide +kernel
theorem dX3_startBy_52 : decode cX3_startBy 52 = .ok (.getfield 40, 3) := by decide +kernel
theorem dX3_startBy_55 : decode cX3_startBy 55 = .ok (.if_icmp .le 12, 3) := by decide +kernel
theorem dX3_startBy_58 : decode cX3_startBy 58 = .ok (.iload 6, 2) := by decide +kernel
theorem dX3_startBy_60 : decode cX3_startBy 60 = .ok (.iload_n 3, 1) := by decide +kernel
theorem dX3_startBy_61 : decode cX3_startBy 61 = .ok (.if_icmp .le 6, 3) := by decide +kernel
theorem dX3_startBy_64 : decode cX3_startBy 64 = .ok (.iload 6, 2) := by decide +kernel
theorem dX3_startBy_66 : decode cX3_startBy 66 = .ok (.istore_n 3, 1) := by decide +kernel
theorem dX3_startBy_67 : decode cX3_startBy 67 = .ok (.iinc 4 1, 3) := by decide +kernel
theorem dX3_startBy_70 : decode cX3_startBy 70 = .ok (.goto (-62), 3) := by decide +kernel
theorem dX3_startBy_73 : decode cX3_startBy 73 = .ok (.iload_n 3, 1) := by decide +kernel
theorem dX3_startBy_74 : decode cX3_startBy 74 = .ok (.ireturn, 1) := by decide +kernel
theorem dX3_beginAgainUpTo_0 : decode cX3_beginAgainUpTo 0 = .ok (.iconst 0, 1) := by decide +kernel
theorem dX3_beginAgainUpTo_1 : decode cX3_beginAgainUpTo 1 = .ok (.istore_n 2, 1) := by decide +kernel
theorem dX3_beginAgainUpTo_2 : decode cX3_beginAgainUpTo 2 = .ok (.iload_n 2, 1) := by decide +kernel
theorem dX3_beginAgainUpTo_3 : decode cX3_beginAgainUpTo 3 = .ok (.bipush 6, 2) := by decide +kernel
theorem dX3_beginAgainUpTo_5 : decode cX3_beginAgainUpTo 5 = .ok (.if_icmp .ge 30, 3) := by decide +kernel
theorem dX3_beginAgainUpTo_8 : decode cX3_beginAgainUpTo 8 = .ok (.aload_n 0, 1) := by decide +kernel
theorem dX3_beginAgainUpTo_9 : decode cX3_beginAgainUpTo 9 = .ok (.getfield 19, 3) := by decide +kernel
theorem dX3_beginAgainUpTo_12 : decode cX3_beginAgainUpTo 12 = .ok (.iload_n 2, 1) := by decide +kernel
theorem dX3_beginAgainUpTo_13 : decode cX3_beginAgainUpTo 13 = .ok (.aaload, 1) := by decide +kernel
theorem dX3_beginAgainUpTo_14 : decode cX3_beginAgainUpTo 14 = .ok (.astore_n 3, 1) := by decide +kernel
theorem dX3_beginAgainUpTo_15 : decode cX3_beginAgainUpTo 15 = .ok (.aload_n 3, 1) := by decide +kernel
theorem dX3_beginAgainUpTo_16 : decode cX3_beginAgainUpTo 16 = .ok (.ifnull 13, 3) := by decide +kernel
theorem dX3_beginAgainUpTo_19 : decode cX3_beginAgainUpTo 19 = .ok (.aload_n 3, 1) := by decide +kernel
theorem dX3_beginAgainUpTo_20 : decode cX3_beginAgainUpTo 20 = .ok (.aload_n 0, 1) := by decide +kernel
theorem dX3_beginAgainUpTo_21 : decode cX3_beginAgainUpTo 21 = .ok (.aload_n 3, 1) := by decide +kernel
theorem dX3_beginAgainUpTo_22 : decode cX3_beginAgainUpTo 22 = .ok (.iload_n 1, 1) := by decide +kernel
theorem dX3_beginAgainUpTo_23 : decode cX3_beginAgainUpTo 23 = .ok (.invokevirtual 276, 3) := by decide +kernel
theorem dX3_beginAgainUpTo_26 : decode cX3_beginAgainUpTo 26 = .ok (.putfield 138, 3) := by decide +kernel
theorem dX3_beginAgainUpTo_29 : decode cX3_beginAgainUpTo 29 = .ok (.iinc 2 1, 3) := by decide +kernel
theorem dX3_beginAgainUpTo_32 : decode cX3_beginAgainUpTo 32 = .ok (.goto (-30), 3) := by decide +kernel
theorem dX3_beginAgainUpTo_35 : decode cX3_beginAgainUpTo 35 = .ok (.return_, 1) := by decide +kernel
theorem dX3_loseHostAt_0 : decode cX3_loseHostAt 0 = .ok (.aload_n 0, 1) := by decide +kernel
theorem dX3_loseHostAt_1 : decode cX3_loseHostAt 1 = .ok (.iconst 1, 1) := by decide +kernel
theorem dX3_loseHostAt_2 : decode cX3_loseHostAt 2 = .ok (.putfield 49, 3) := by decide +kernel
theorem dX3_loseHostAt_5 : decode cX3_loseHostAt 5 = .ok (.iconst 0, 1) := by decide +kernel
theorem dX3_loseHostAt_6 : decode cX3_loseHostAt 6 = .ok (.istore_n 2, 1) := by decide +kernel
theorem dX3_loseHostAt_7 : decode cX3_loseHostAt 7 = .ok (.iload_n 2, 1) := by decide +kernel
theorem dX3_loseHostAt_8 : decode cX3_loseHostAt 8 = .ok (.bipush 6, 2) := by decide +kernel
theorem dX3_loseHostAt_10 : decode cX3_loseHostAt 10 = .ok (.if_icmp .ge 38, 3) := by decide +kernel
theorem dX3_loseHostAt_13 : decode cX3_loseHostAt 13 = .ok (.aload_n 0, 1) := by decide +kernel
theorem dX3_loseHostAt_14 : decode cX3_loseHostAt 14 = .ok (.getfield 19, 3) := by decide +kernel
theorem dX3_loseHostAt_17 : decode cX3_loseHostAt 17 = .ok (.iload_n 2, 1) := by decide +kernel
theorem dX3_loseHostAt_18 : decode cX3_loseHostAt 18 = .ok (.aaload, 1) := by decide +kernel
theorem dX3_loseHostAt_19 : decode cX3_loseHostAt 19 = .ok (.astore_n 3, 1) := by decide +kernel
theorem dX3_loseHostAt_20 : decode cX3_loseHostAt 20 = .ok (.aload_n 3, 1) := by decide +kernel
theorem dX3_loseHostAt_21 : decode cX3_loseHostAt 21 = .ok (.ifnull 21, 3) := by decide +kernel
theorem dX3_loseHostAt_24 : decode cX3_loseHostAt 24 = .ok (.aload_n 3, 1) := by decide +kernel
theorem dX3_loseHostAt_25 : decode cX3_loseHostAt 25 = .ok (.aload_n 3, 1) := by decide +kernel
theorem dX3_loseHostAt_26 : decode cX3_loseHostAt 26 = .ok (.getfield 138, 3) := by decide +kernel
theorem dX3_loseHostAt_29 : decode cX3_loseHostAt 29 = .ok (.iload_n 1, 1) := by decide +kernel
theorem dX3_loseHostAt_30 : decode cX3_loseHostAt 30 = .ok (.invokevirtual 141, 3) := by decide +kernel
theorem dX3_loseHostAt_33 : decode cX3_loseHostAt 33 = .ok (.ifCond .eq 9, 3) := by decide +kernel
theorem dX3_loseHostAt_36 : decode cX3_loseHostAt 36 = .ok (.aload_n 3, 1) := by decide +kernel
theorem dX3_loseHostAt_37 : decode cX3_loseHostAt 37 = .ok (.bipush (-9), 2) := by decide +kernel
theorem dX3_loseHostAt_39 : decode cX3_loseHostAt 39 = .ok (.putfield 138, 3) := by decide +kernel
theorem dX3_loseHostAt_42 : decode cX3_loseHostAt 42 = .ok (.iinc 2 1, 3) := by decide +kernel
theorem dX3_loseHostAt_45 : decode cX3_loseHostAt 45 = .ok (.goto (-38), 3) := by decide +kernel
theorem dX3_loseHostAt_48 : decode cX3_loseHostAt 48 = .ok (.iconst 0, 1) := by decide +kernel
theorem dX3_loseHostAt_49 : decode cX3_loseHostAt 49 = .ok (.istore_n 2, 1) := by decide +kernel
theorem dX3_loseHostAt_50 : decode cX3_loseHostAt 50 = .ok (.iload_n 2, 1) := by decide +kernel
theorem dX3_loseHostAt_51 : decode cX3_loseHostAt 51 = .ok (.iconst 4, 1) := by decide +kernel
theorem dX3_loseHostAt_52 : decode cX3_loseHostAt 52 = .ok (.if_icmp .ge 14, 3) := by decide +kernel
theorem dX3_loseHostAt_55 : decode cX3_loseHostAt 55 = .ok (.aload_n 0, 1) := by decide +kernel
theorem dX3_loseHostAt_56 : decode cX3_loseHostAt 56 = .ok (.iload_n 2, 1) := by decide +kernel
theorem dX3_loseHostAt_57 : decode cX3_loseHostAt 57 = .ok (.invokevirtual 166, 3) := by decide +kernel
theorem dX3_loseHostAt_60 : decode cX3_loseHostAt 60 = .ok (.iinc 2 1, 3) := by decide +kernel
theorem dX3_loseHostAt_63 : decode cX3_loseHostAt 63 = .ok (.goto (-13), 3) := by decide +kernel
theorem dX3_loseHostAt_66 : decode cX3_loseHostAt 66 = .ok (.return_, 1) := by decide +kernel
theorem dX3_howManyLoaded_0 : decode cX3_howManyLoaded 0 = .ok (.iconst 0, 1) := by decide +kernel
theorem dX3_howManyLoaded_1 : decode cX3_howManyLoaded 1 = .ok (.istore_n 1, 1) := by decide +kernel
theorem dX3_howManyLoaded_2 : decode cX3_howManyLoaded 2 = .ok (.iconst 0, 1) := by decide +kernel
theorem dX3_howManyLoaded_3 : decode cX3_howManyLoaded 3 = .ok (.istore_n 2, 1) := by decide +kernel
theorem dX3_howManyLoaded_4 : decode cX3_howManyLoaded 4 = .ok (.iload_n 2, 1) := by decide +kernel
theorem dX3_howManyLoaded_5 : decode cX3_howManyLoaded 5 = .ok (.bipush 6, 2) := by decide +kernel
theorem dX3_howManyLoaded_7 : decode cX3_howManyLoaded 7 = .ok (.if_icmp .ge 21, 3) := by decide +kernel
theorem dX3_howManyLoaded_10 : decode cX3_howManyLoaded 10 = .ok (.aload_n 0, 1) := by decide +kernel
theorem dX3_howManyLoaded_11 : decode cX3_howManyLoaded 11 = .ok (.getfield 19, 3) := by decide +kernel
theorem dX3_howManyLoaded_14 : decode cX3_howManyLoaded 14 = .ok (.iload_n 2, 1) := by decide +kernel
theorem dX3_howManyLoaded_15 : decode cX3_howManyLoaded 15 = .ok (.aaload, 1) := by decide +kernel
theorem dX3_howManyLoaded_16 : decode cX3_howManyLoaded 16 = .ok (.ifnull 6, 3) := by decide +kernel
theorem dX3_howManyLoaded_19 : decode cX3_howManyLoaded 19 = .ok (.iinc 1 1, 3) := by decide +kernel
theorem dX3_howManyLoaded_22 : decode cX3_howManyLoaded 22 = .ok (.iinc 2 1, 3) := by decide +kernel
theorem dX3_howManyLoaded_25 : decode cX3_howManyLoaded 25 = .ok (.goto (-21), 3) := by decide +kernel
theorem dX3_howManyLoaded_28 : decode cX3_howManyLoaded 28 = .ok (.iload_n 1, 1) := by decide +kernel
theorem dX3_howManyLoaded_29 : decode cX3_howManyLoaded 29 = .ok (.ireturn, 1) := by decide +kernel
theorem dX3_howManyPlay_0 : decode cX3_howManyPlay 0 = .ok (.iconst 0, 1) := by decide +kernel
theorem dX3_howManyPlay_1 : decode cX3_howManyPlay 1 = .ok (.istore_n 1, 1) := by decide +kernel
theorem dX3_howManyPlay_2 : decode cX3_howManyPlay 2 = .ok (.iconst 0, 1) := by decide +kernel
theorem dX3_howManyPlay_3 : decode cX3_howManyPlay 3 = .ok (.istore_n 2, 1) := by decide +kernel
theorem dX3_howManyPlay_4 : decode cX3_howManyPlay 4 = .ok (.iload_n 2, 1) := by decide +kernel
theorem dX3_howManyPlay_5 : decode cX3_howManyPlay 5 = .ok (.bipush 6, 2) := by decide +kernel
theorem dX3_howManyPlay_7 : decode cX3_howManyPlay 7 = .ok (.if_icmp .ge 38, 3) := by decide +kernel
theorem dX3_howManyPlay_10 : decode cX3_howManyPlay 10 = .ok (.aload_n 0, 1) := by decide +kernel
theorem dX3_howManyPlay_11 : decode cX3_howManyPlay 11 = .ok (.getfield 19, 3) := by decide +kernel
theorem dX3_howManyPlay_14 : decode cX3_howManyPlay 14 = .ok (.iload_n 2, 1) := by decide +kernel
theorem dX3_howManyPlay_15 : decode cX3_howManyPlay 15 = .ok (.aaload, 1) := by decide +kernel
theorem dX3_howManyPlay_16 : decode cX3_howManyPlay 16 = .ok (.astore_n 3, 1) := by decide +kernel
theorem dX3_howManyPlay_17 : decode cX3_howManyPlay 17 = .ok (.aload_n 3, 1) := by decide +kernel
theorem dX3_howManyPlay_18 : decode cX3_howManyPlay 18 = .ok (.ifnull 21, 3) := by decide +kernel
theorem dX3_howManyPlay_21 : decode cX3_howManyPlay 21 = .ok (.aload_n 3, 1) := by decide +kernel
theorem dX3_howManyPlay_22 : decode cX3_howManyPlay 22 = .ok (.aload_n 3, 1) := by decide +kernel
theorem dX3_howManyPlay_23 : decode cX3_howManyPlay 23 = .ok (.getfield 138, 3) := by decide +kernel
theorem dX3_howManyPlay_26 : decode cX3_howManyPlay 26 = .ok (.aload_n 0, 1) := by decide +kernel
theorem dX3_howManyPlay_27 : decode cX3_howManyPlay 27 = .ok (.getfield 40, 3) := by decide +kernel
theorem dX3_howManyPlay_30 : decode cX3_howManyPlay 30 = .ok (.invokevirtual 141, 3) := by decide +kernel
theorem dX3_howManyPlay_33 : decode cX3_howManyPlay 33 = .ok (.ifCond .eq 6, 3) := by decide +kernel
theorem dX3_howManyPlay_36 : decode cX3_howManyPlay 36 = .ok (.iinc 1 1, 3) := by decide +kernel
theorem dX3_howManyPlay_39 : decode cX3_howManyPlay 39 = .ok (.iinc 2 1, 3) := by decide +kernel
theorem dX3_howManyPlay_42 : decode cX3_howManyPlay 42 = .ok (.goto (-38), 3) := by decide +kernel
theorem dX3_howManyPlay_45 : decode cX3_howManyPlay 45 = .ok (.iload_n 1, 1) := by decide +kernel
theorem dX3_howManyPlay_46 : decode cX3_howManyPlay 46 = .ok (.ireturn, 1) := by decide +kernel
theorem dX3_howManyOn_0 : decode cX3_howManyOn 0 = .ok (.iconst 0, 1) := by decide +kernel
theorem dX3_howManyOn_1 : decode cX3_howManyOn 1 = .ok (.istore_n 1, 1) := by decide +kernel
theorem dX3_howManyOn_2 : decode cX3_howManyOn 2 = .ok (.iconst 0, 1) := by decide +kernel
theorem dX3_howManyOn_3 : decode cX3_howManyOn 3 = .ok (.istore_n 2, 1) := by decide +kernel
theorem dX3_howManyOn_4 : decode cX3_howManyOn 4 = .ok (.iload_n 2, 1) := by decide +kernel
theorem dX3_howManyOn_5 : decode cX3_howManyOn 5 = .ok (.bipush 6, 2) := by decide +kernel
theorem dX3_howManyOn_7 : decode cX3_howManyOn 7 = .ok (.if_icmp .ge 38, 3) := by decide +kernel
theorem dX3_howManyOn_10 : decode cX3_howManyOn 10 = .ok (.aload_n 0, 1) := by decide +kernel
theorem dX3_howManyOn_11 : decode cX3_howManyOn 11 = .ok (.getfield 19, 3) := by decide +kernel
theorem dX3_howManyOn_14 : decode cX3_howManyOn 14 = .ok (.iload_n 2, 1) := by decide +kernel
theorem dX3_howManyOn_15 : decode cX3_howManyOn 15 = .ok (.aaload, 1) := by decide +kernel
theorem dX3_howManyOn_16 : decode cX3_howManyOn 16 = .ok (.astore_n 3, 1) := by decide +kernel
theorem dX3_howManyOn_17 : decode cX3_howManyOn 17 = .ok (.aload_n 3, 1) := by decide +kernel
theorem dX3_howManyOn_18 : decode cX3_howManyOn 18 = .ok (.ifnull 21, 3) := by decide +kernel
theorem dX3_howManyOn_21 : decode cX3_howManyOn 21 = .ok (.aload_n 3, 1) := by decide +kernel
theorem dX3_howManyOn_22 : decode cX3_howManyOn 22 = .ok (.aload_n 3, 1) := by decide +kernel
theorem dX3_howManyOn_23 : decode cX3_howManyOn 23 = .ok (.getfield 138, 3) := by decide +kernel
theorem dX3_howManyOn_26 : decode cX3_howManyOn 26 = .ok (.aload_n 0, 1) := by decide +kernel
theorem dX3_howManyOn_27 : decode cX3_howManyOn 27 = .ok (.getfield 40, 3) := by decide +kernel
theorem dX3_howManyOn_30 : decode cX3_howManyOn 30 = .ok (.invokevirtual 144, 3) := by decide +kernel
theorem dX3_howManyOn_33 : decode cX3_howManyOn 33 = .ok (.ifCond .eq 6, 3) := by decide +kernel
theorem dX3_howManyOn_36 : decode cX3_howManyOn 36 = .ok (.iinc 1 1, 3) := by decide +kernel
theorem dX3_howManyOn_39 : decode cX3_howManyOn 39 = .ok (.iinc 2 1, 3) := by decide +kernel
theorem dX3_howManyOn_42 : decode cX3_howManyOn 42 = .ok (.goto (-38), 3) := by decide +kernel
theorem dX3_howManyOn_45 : decode cX3_howManyOn 45 = .ok (.iload_n 1, 1) := by decide +kernel
theorem dX3_howManyOn_46 : decode cX3_howManyOn 46 = .ok (.ireturn, 1) := by decide +kernel
theorem dX3_howManyHeld_0 : decode cX3_howManyHeld 0 = .ok (.iconst 0, 1) := by decide +kernel
theorem dX3_howManyHeld_1 : decode cX3_howManyHeld 1 = .ok (.istore_n 1, 1) := by decide +kernel
theorem dX3_howManyHeld_2 : decode cX3_howManyHeld 2 = .ok (.iconst 0, 1) := by decide +kernel
theorem dX3_howManyHeld_3 : decode cX3_howManyHeld 3 = .ok (.istore_n 2, 1) := by decide +kernel
theorem dX3_howManyHeld_4 : decode cX3_howManyHeld 4 = .ok (.iload_n 2, 1) := by decide +kernel
theorem dX3_howManyHeld_5 : decode cX3_howManyHeld 5 = .ok (.iconst 4, 1) := by decide +kernel
theorem dX3_howManyHeld_6 : decode cX3_howManyHeld 6 = .ok (.if_icmp .ge 24, 3) := by decide +kernel
theorem dX3_howManyHeld_9 : decode cX3_howManyHeld 9 = .ok (.aload_n 0, 1) := by decide +kernel
theorem dX3_howManyHeld_10 : decode cX3_howManyHeld 10 = .ok (.getfield 36, 3) := by decide +kernel
theorem dX3_howManyHeld_13 : decode cX3_howManyHeld 13 = .ok (.iload_n 2, 1) := by decide +kernel
theorem dX3_howManyHeld_14 : decode cX3_howManyHeld 14 = .ok (.aaload, 1) := by decide +kernel
theorem dX3_howManyHeld_15 : decode cX3_howManyHeld 15 = .ok (.getfield 157, 3) := by decide +kernel
theorem dX3_howManyHeld_18 : decode cX3_howManyHeld 18 = .ok (.ifCond .eq 6, 3) := by decide +kernel
theorem dX3_howManyHeld_21 : decode cX3_howManyHeld 21 = .ok (.iinc 1 1, 3) := by decide +kernel
theorem dX3_howManyHeld_24 : decode cX3_howManyHeld 24 = .ok (.iinc 2 1, 3) := by decide +kernel
theorem dX3_howManyHeld_27 : decode cX3_howManyHeld 27 = .ok (.goto (-23), 3) := by decide +kernel
theorem dX3_howManyHeld_30 : decode cX3_howManyHeld 30 = .ok (.iload_n 1, 1) := by decide +kernel
theorem dX3_howManyHeld_31 : decode cX3_howManyHeld 31 = .ok (.ireturn, 1) := by decide +kernel
theorem dX3_endOfPush_0 : decode cX3_endOfPush 0 = .ok (.aload_n 0, 1) := by decide +kernel
theorem dX3_endOfPush_1 : decode cX3_endOfPush 1 = .ok (.getfield 40, 3) := by decide +kernel
theorem dX3_endOfPush_4 : decode cX3_endOfPush 4 = .ok (.iload_n 1, 1) := by decide +kernel
theorem dX3_endOfPush_5 : decode cX3_endOfPush 5 = .ok (.iadd, 1) := by decide +kernel
theorem dX3_endOfPush_6 : decode cX3_endOfPush 6 = .ok (.aload_n 0, 1) := by decide +kernel
theorem dX3_endOfPush_7 : decode cX3_endOfPush 7 = .ok (.invokevirtual 170, 3) := by decide +kernel
theorem dX3_endOfPush_10 : decode cX3_endOfPush 10 = .ok (.invokestatic 174, 3) := by decide +kernel
theorem dX3_endOfPush_13 : decode cX3_endOfPush 13 = .ok (.ireturn, 1) := by decide +kernel
theorem dX3_rawAt_0 : decode cX3_rawAt 0 = .ok (.iconst 0, 1) := by decide +kernel
theorem dX3_rawAt_1 : decode cX3_rawAt 1 = .ok (.istore_n 3, 1) := by decide +kernel
theorem dX3_rawAt_2 : decode cX3_rawAt 2 = .ok (.iconst 0, 1) := by decide +kernel
theorem dX3_rawAt_3 : decode cX3_rawAt 3 = .ok (.istore 4, 2) := by decide +kernel
theorem dX3_rawAt_5 : decode cX3_rawAt 5 = .ok (.iload 4, 2) := by decide +kernel
theorem dX3_rawAt_7 : decode cX3_rawAt 7 = .ok (.bipush 6, 2) := by decide +kernel
theorem dX3_rawAt_9 : decode cX3_rawAt 9 = .ok (.if_icmp .ge 40, 3) := by decide +kernel
theorem dX3_rawAt_12 : decode cX3_rawAt 12 = .ok (.aload_n 0, 1) := by decide +kernel
theorem dX3_rawAt_13 : decode cX3_rawAt 13 = .ok (.getfield 19, 3) := by decide +kernel
theorem dX3_rawAt_16 : decode cX3_rawAt 16 = .ok (.iload 4, 2) := by decide +kernel
theorem dX3_rawAt_18 : decode cX3_rawAt 18 = .ok (.aaload, 1) := by decide +kernel
theorem dX3_rawAt_19 : decode cX3_rawAt 19 = .ok (.astore 5, 2) := by decide +kernel
theorem dX3_rawAt_21 : decode cX3_rawAt 21 = .ok (.aload 5, 2) := by decide +kernel
theorem dX3_rawAt_23 : decode cX3_rawAt 23 = .ok (.ifnull 20, 3) := by decide +kernel
theorem dX3_rawAt_26 : decode cX3_rawAt 26 = .ok (.iload_n 3, 1) := by decide +kernel
theorem dX3_rawAt_27 : decode cX3_rawAt 27 = .ok (.aload 5, 2) := by decide +kernel
theorem dX3_rawAt_29 : decode cX3_rawAt 29 = .ok (.aload_n 0, 1) := by decide +kernel
theorem dX3_rawAt_30 : decode cX3_rawAt 30 = .ok (.aload 5, 2) := by decide +kernel
theorem dX3_rawAt_32 : decode cX3_rawAt 32 = .ok (.iload_n 1, 1) := by decide +kernel
theorem dX3_rawAt_33 : decode cX3_rawAt 33 = .ok (.invokevirtual 276, 3) := by decide +kernel
theorem dX3_rawAt_36 : decode cX3_rawAt 36 = .ok (.iload_n 1, 1) := by decide +kernel
theorem dX3_rawAt_37 : decode cX3_rawAt 37 = .ok (.aload_n 2, 1) := by decide +kernel
theorem dX3_rawAt_38 : decode cX3_rawAt 38 = .ok (.invokevirtual 189, 3) := by decide +kernel
theorem dX3_rawAt_41 : decode cX3_rawAt 41 = .ok (.iadd, 1) := by decide +kernel
theorem dX3_rawAt_42 : decode cX3_rawAt 42 = .ok (.istore_n 3, 1) := by decide +kernel
theorem dX3_rawAt_43 : decode cX3_rawAt 43 = .ok (.iinc 4 1, 3) := by decide +kernel
theorem dX3_rawAt_46 : decode cX3_rawAt 46 = .ok (.goto (-41), 3) := by decide +kernel
theorem dX3_rawAt_49 : decode cX3_rawAt 49 = .ok (.iload_n 3, 1) := by decide +kernel
theorem dX3_rawAt_50 : decode cX3_rawAt 50 = .ok (.ireturn, 1) := by decide +kernel
theorem dX3_isHeldBack_0 : decode cX3_isHeldBack 0 = .ok (.iload_n 0, 1) := by decide +kernel
theorem dX3_isHeldBack_1 : decode cX3_isHeldBack 1 = .ok (.sipush 1000, 3) := by decide +kernel
theorem dX3_isHeldBack_4 : decode cX3_isHeldBack 4 = .ok (.if_icmp .gt 10, 3) := by decide +kernel
theorem dX3_isHeldBack_7 : decode cX3_isHeldBack 7 = .ok (.iload_n 0, 1) := by decide +kernel
theorem dX3_isHeldBack_8 : decode cX3_isHeldBack 8 = .ok (.sipush (-1000), 3) := by decide +kernel
theorem dX3_isHeldBack_11 : decode cX3_isHeldBack 11 = .ok (.if_icmp .ge 7, 3) := by decide +kernel
theorem dX3_isHeldBack_14 : decode cX3_isHeldBack 14 = .ok (.iconst 1, 1) := by decide +kernel
theorem dX3_isHeldBack_15 : decode cX3_isHeldBack 15 = .ok (.goto 4, 3) := by decide +kernel
theorem dX3_isHeldBack_18 : decode cX3_isHeldBack 18 = .ok (.iconst 0, 1) := by decide +kernel
theorem dX3_isHeldBack_19 : decode cX3_isHeldBack 19 = .ok (.ireturn, 1) := by decide +kernel
theorem dX3_gatherPlaying_0 : decode cX3_gatherPlaying 0 = .ok (.iconst 0, 1) := by decide +kernel
theorem dX3_gatherPlaying_1 : decode cX3_gatherPlaying 1 = .ok (.istore_n 1, 1) := by decide +kernel
theorem dX3_gatherPlaying_2 : decode cX3_gatherPlaying 2 = .ok (.iconst 0, 1) := by decide +kernel
theorem dX3_gatherPlaying_3 : decode cX3_gatherPlaying 3 = .ok (.istore_n 2, 1) := by decide +kernel
theorem dX3_gatherPlaying_4 : decode cX3_gatherPlaying 4 = .ok (.iload_n 2, 1) := by decide +kernel
theorem dX3_gatherPlaying_5 : decode cX3_gatherPlaying 5 = .ok (.aload_n 0, 1) := by decide +kernel
theorem dX3_gatherPlaying_6 : decode cX3_gatherPlaying 6 = .ok (.getfield 15, 3) := by decide +kernel
theorem dX3_gatherPlaying_9 : decode cX3_gatherPlaying 9 = .ok (.if_icmp .ge 47, 3) := by decide +kernel
theorem dX3_gatherPlaying_12 : decode cX3_gatherPlaying 12 = .ok (.iload_n 1, 1) := by decide +kernel
theorem dX3_gatherPlaying_13 : decode cX3_gatherPlaying 13 = .ok (.bipush 6, 2) := by decide +kernel
theorem dX3_gatherPlaying_15 : decode cX3_gatherPlaying 15 = .ok (.if_icmp .ge 41, 3) := by decide +kernel
theorem dX3_gatherPlaying_18 : decode cX3_gatherPlaying 18 = .ok (.aload_n 0, 1) := by decide +kernel
theorem dX3_gatherPlaying_19 : decode cX3_gatherPlaying 19 = .ok (.getfield 11, 3) := by decide +kernel
theorem dX3_gatherPlaying_22 : decode cX3_gatherPlaying 22 = .ok (.iload_n 2, 1) := by decide +kernel
theorem dX3_gatherPlaying_23 : decode cX3_gatherPlaying 23 = .ok (.aaload, 1) := by decide +kernel
theorem dX3_gatherPlaying_24 : decode cX3_gatherPlaying 24 = .ok (.astore_n 3, 1) := by decide +kernel
theorem dX3_gatherPlaying_25 : decode cX3_gatherPlaying 25 = .ok (.aload_n 3, 1) := by decide +kernel
theorem dX3_gatherPlaying_26 : decode cX3_gatherPlaying 26 = .ok (.aload_n 3, 1) := by decide +kernel
theorem dX3_gatherPlaying_27 : decode cX3_gatherPlaying 27 = .ok (.getfield 138, 3) := by decide +kernel
theorem dX3_gatherPlaying_30 : decode cX3_gatherPlaying 30 = .ok (.aload_n 0, 1) := by decide +kernel
theorem dX3_gatherPlaying_31 : decode cX3_gatherPlaying 31 = .ok (.getfield 40, 3) := by decide +kernel
theorem dX3_gatherPlaying_34 : decode cX3_gatherPlaying 34 = .ok (.invokevirtual 141, 3) := by decide +kernel
theorem dX3_gatherPlaying_37 : decode cX3_gatherPlaying 37 = .ok (.ifCond .eq 13, 3) := by decide +kernel
theorem dX3_gatherPlaying_40 : decode cX3_gatherPlaying 40 = .ok (.aload_n 0, 1) := by decide +kernel
theorem dX3_gatherPlaying_41 : decode cX3_gatherPlaying 41 = .ok (.getfield 59, 3) := by decide +kernel
theorem dX3_gatherPlaying_44 : decode cX3_gatherPlaying 44 = .ok (.iload_n 1, 1) := by decide +kernel
theorem dX3_gatherPlaying_45 : decode cX3_gatherPlaying 45 = .ok (.aload_n 3, 1) := by decide +kernel
theorem dX3_gatherPlaying_46 : decode cX3_gatherPlaying 46 = .ok (.aastore, 1) := by decide +kernel
theorem dX3_gatherPlaying_47 : decode cX3_gatherPlaying 47 = .ok (.iinc 1 1, 3) := by decide +kernel
theorem dX3_gatherPlaying_50 : decode cX3_gatherPlaying 50 = .ok (.iinc 2 1, 3) := by decide +kernel
theorem dX3_gatherPlaying_53 : decode cX3_gatherPlaying 53 = .ok (.goto (-49), 3) := by decide +kernel
theorem dX3_gatherPlaying_56 : decode cX3_gatherPlaying 56 = .ok (.iload_n 1, 1) := by decide +kernel
theorem dX3_gatherPlaying_57 : decode cX3_gatherPlaying 57 = .ok (.ireturn, 1) := by decide +kernel
theorem dX3_markHeldBack_0 : decode cX3_markHeldBack 0 = .ok (.aload_n 0, 1) := by decide +kernel
theorem dX3_markHeldBack_1 : decode cX3_markHeldBack 1 = .ok (.getfield 62, 3) := by decide +kernel
theorem dX3_markHeldBack_4 : decode cX3_markHeldBack 4 = .ok (.iconst 0, 1) := by decide +kernel
theorem dX3_markHeldBack_5 : decode cX3_markHeldBack 5 = .ok (.aload_n 0, 1) := by decide +kernel
theorem dX3_markHeldBack_6 : decode cX3_markHeldBack 6 = .ok (.iload_n 1, 1) := by decide +kernel
theorem dX3_markHeldBack_7 : decode cX3_markHeldBack 7 = .ok (.aload_n 2, 1) := by decide +kernel
theorem dX3_markHeldBack_8 : decode cX3_markHeldBack 8 = .ok (.invokevirtual 204, 3) := by decide +kernel
theorem dX3_markHeldBack_11 : decode cX3_markHeldBack 11 = .ok (.iastore, 1) := by decide +kernel
theorem dX3_markHeldBack_12 : decode cX3_markHeldBack 12 = .ok (.iconst 1, 1) := by decide +kernel
theorem dX3_markHeldBack_13 : decode cX3_markHeldBack 13 = .ok (.istore 4, 2) := by decide +kernel
theorem dX3_markHeldBack_15 : decode cX3_markHeldBack 15 = .ok (.iconst 0, 1) := by decide +kernel
theorem dX3_markHeldBack_16 : decode cX3_markHeldBack 16 = .ok (.istore 5, 2) := by decide +kernel
theorem dX3_markHeldBack_18 : decode cX3_markHeldBack 18 = .ok (.iload 5, 2) := by decide +kernel
theorem dX3_markHeldBack_20 : decode cX3_markHeldBack 20 = .ok (.bipush 6, 2) := by decide +kernel
theorem dX3_markHeldBack_22 : decode cX3_markHeldBack 22 = .ok (.if_icmp .ge 72, 3) := by decide +kernel
theorem dX3_markHeldBack_25 : decode cX3_markHeldBack 25 = .ok (.iload 4, 2) := by decide +kernel
theorem dX3_markHeldBack_27 : decode cX3_markHeldBack 27 = .ok (.iload_n 3, 1) := by decide +kernel
theorem dX3_markHeldBack_28 : decode cX3_markHeldBack 28 = .ok (.if_icmp .ge 66, 3) := by decide +kernel
theorem dX3_markHeldBack_31 : decode cX3_markHeldBack 31 = .ok (.aload_n 0, 1) := by decide +kernel
theorem dX3_markHeldBack_32 : decode cX3_markHeldBack 32 = .ok (.aload_n 0, 1) := by decide +kernel
theorem dX3_markHeldBack_33 : decode cX3_markHeldBack 33 = .ok (.getfield 59, 3) := by decide +kernel
theorem dX3_markHeldBack_36 : decode cX3_markHeldBack 36 = .ok (.iload 5, 2) := by decide +kernel
theorem dX3_markHeldBack_38 : decode cX3_markHeldBack 38 = .ok (.aaload, 1) := by decide +kernel
theorem dX3_markHeldBack_39 : decode cX3_markHeldBack 39 = .ok (.iload_n 1, 1) := by decide +kernel
theorem dX3_markHeldBack_40 : decode cX3_markHeldBack 40 = .ok (.aload_n 2, 1) := by decide +kernel
theorem dX3_markHeldBack_41 : decode cX3_markHeldBack 41 = .ok (.invokevirtual 279, 3) := by decide +kernel
theorem dX3_markHeldBack_44 : decode cX3_markHeldBack 44 = .ok (.istore 6, 2) := by decide +kernel
theorem dX3_markHeldBack_46 : decode cX3_markHeldBack 46 = .ok (.iconst 0, 1) := by decide +kernel
theorem dX3_markHeldBack_47 : decode cX3_markHeldBack 47 = .ok (.istore 7, 2) := by decide +kernel
theorem dX3_markHeldBack_49 : decode cX3_markHeldBack 49 = .ok (.iload 7, 2) := by decide +kernel
theorem dX3_markHeldBack_51 : decode cX3_markHeldBack 51 = .ok (.iload 4, 2) := by decide +kernel
theorem dX3_markHeldBack_53 : decode cX3_markHeldBack 53 = .ok (.if_icmp .ge 29, 3) := by decide +kernel
theorem dX3_markHeldBack_56 : decode cX3_markHeldBack 56 = .ok (.aload_n 0, 1) := by decide +kernel
theorem dX3_markHeldBack_57 : decode cX3_markHeldBack 57 = .ok (.getfield 62, 3) := by decide +kernel
theorem dX3_markHeldBack_60 : decode cX3_markHeldBack 60 = .ok (.iload 4, 2) := by decide +kernel
theorem dX3_markHeldBack_62 : decode cX3_markHeldBack 62 = .ok (.iload 7, 2) := by decide +kernel
theorem dX3_markHeldBack_64 : decode cX3_markHeldBack 64 = .ok (.iadd, 1) := by decide +kernel
theorem dX3_markHeldBack_65 : decode cX3_markHeldBack 65 = .ok (.aload_n 0, 1) := by decide +kernel
theorem dX3_markHeldBack_66 : decode cX3_markHeldBack 66 = .ok (.getfield 62, 3) := by decide +kernel
theorem dX3_markHeldBack_69 : decode cX3_markHeldBack 69 = .ok (.iload 7, 2) := by decide +kernel
theorem dX3_markHeldBack_71 : decode cX3_markHeldBack 71 = .ok (.iaload, 1) := by decide +kernel
theorem dX3_markHeldBack_72 : decode cX3_markHeldBack 72 = .ok (.iload 6, 2) := by decide +kernel
theorem dX3_markHeldBack_74 : decode cX3_markHeldBack 74 = .ok (.isub, 1) := by decide +kernel
theorem dX3_markHeldBack_75 : decode cX3_markHeldBack 75 = .ok (.iastore, 1) := by decide +kernel
theorem dX3_markHeldBack_76 : decode cX3_markHeldBack 76 = .ok (.iinc 7 1, 3) := by decide +kernel
theorem dX3_markHeldBack_79 : decode cX3_markHeldBack 79 = .ok (.goto (-30), 3) := by decide +kernel
theorem dX3_markHeldBack_82 : decode cX3_markHeldBack 82 = .ok (.iconst 2, 1) := by decide +kernel
theorem dX3_markHeldBack_83 : decode cX3_markHeldBack 83 = .ok (.iload 4, 2) := by decide +kernel
theorem dX3_markHeldBack_85 : decode cX3_markHeldBack 85 = .ok (.imul, 1) := by decide +kernel
theorem dX3_markHeldBack_86 : decode cX3_markHeldBack 86 = .ok (.istore 4, 2) := by decide +kernel
theorem dX3_markHeldBack_88 : decode cX3_markHeldBack 88 = .ok (.iinc 5 1, 3) := by decide +kernel
theorem dX3_markHeldBack_91 : decode cX3_markHeldBack 91 = .ok (.goto (-73), 3) := by decide +kernel
theorem dX3_markHeldBack_94 : decode cX3_markHeldBack 94 = .ok (.iconst 0, 1) := by decide +kernel
theorem dX3_markHeldBack_95 : decode cX3_markHeldBack 95 = .ok (.istore 5, 2) := by decide +kernel
theorem dX3_markHeldBack_97 : decode cX3_markHeldBack 97 = .ok (.iload 5, 2) := by decide +kernel
theorem dX3_markHeldBack_99 : decode cX3_markHeldBack 99 = .ok (.iload_n 3, 1) := by decide +kernel
theorem dX3_markHeldBack_100 : decode cX3_markHeldBack 100 = .ok (.if_icmp .ge 30, 3) := by decide +kernel
theorem dX3_markHeldBack_103 : decode cX3_markHeldBack 103 = .ok (.aload_n 0, 1) := by decide +kernel
theorem dX3_markHeldBack_104 : decode cX3_markHeldBack 104 = .ok (.getfield 62, 3) := by decide +kernel
theorem dX3_markHeldBack_107 : decode cX3_markHeldBack 107 = .ok (.iload 5, 2) := by decide +kernel
theorem dX3_markHeldBack_109 : decode cX3_markHeldBack 109 = .ok (.iaload, 1) := by decide +kernel
theorem dX3_markHeldBack_110 : decode cX3_markHeldBack 110 = .ok (.invokestatic 225, 3) := by decide +kernel
theorem dX3_markHeldBack_113 : decode cX3_markHeldBack 113 = .ok (.ifCond .eq 11, 3) := by decide +kernel
theorem dX3_markHeldBack_116 : decode cX3_markHeldBack 116 = .ok (.aload_n 0, 1) := by decide +kernel
theorem dX3_markHeldBack_117 : decode cX3_markHeldBack 117 = .ok (.getfield 66, 3) := by decide +kernel
theorem dX3_markHeldBack_120 : decode cX3_markHeldBack 120 = .ok (.iload 5, 2) := by decide +kernel
theorem dX3_markHeldBack_122 : decode cX3_markHeldBack 122 = .ok (.iconst 1, 1) := by decide +kernel
theorem dX3_markHeldBack_123 : decode cX3_markHeldBack 123 = .ok (.bastore, 1) := by decide +kernel
theorem dX3_markHeldBack_124 : decode cX3_markHeldBack 124 = .ok (.iinc 5 1, 3) := by decide +kernel
theorem dX3_markHeldBack_127 : decode cX3_markHeldBack 127 = .ok (.goto (-30), 3) := by decide +kernel
theorem dX3_markHeldBack_130 : decode cX3_markHeldBack 130 = .ok (.return_, 1) := by decide +kernel
theorem dX3_lackAt_0 : decode cX3_lackAt 0 = .ok (.aload_n 1, 1) := by decide +kernel
theorem dX3_lackAt_1 : decode cX3_lackAt 1 = .ok (.ifnonnull 5, 3) := by decide +kernel
theorem dX3_lackAt_4 : decode cX3_lackAt 4 = .ok (.iconst 0, 1) := by decide +kernel
theorem dX3_lackAt_5 : decode cX3_lackAt 5 = .ok (.ireturn, 1) := by decide +kernel
theorem dX3_lackAt_6 : decode cX3_lackAt 6 = .ok (.aload_n 0, 1) := by decide +kernel
theorem dX3_lackAt_7 : decode cX3_lackAt 7 = .ok (.aload_n 1, 1) := by decide +kernel
theorem dX3_lackAt_8 : decode cX3_lackAt 8 = .ok (.iload_n 2, 1) := by decide +kernel
theorem dX3_lackAt_9 : decode cX3_lackAt 9 = .ok (.invokevirtual 276, 3) := by decide +kernel
theorem dX3_lackAt_12 : decode cX3_lackAt 12 = .ok (.istore 4, 2) := by decide +kernel
theorem dX3_lackAt_14 : decode cX3_lackAt 14 = .ok (.iload 4, 2) := by decide +kernel
theorem dX3_lackAt_16 : decode cX3_lackAt 16 = .ok (.aload_n 0, 1) := by decide +kernel
theorem dX3_lackAt_17 : decode cX3_lackAt 17 = .ok (.getfield 40, 3) := by decide +kernel
theorem dX3_lackAt_20 : decode cX3_lackAt 20 = .ok (.if_icmp .le 7, 3) := by decide +kernel
theorem dX3_lackAt_23 : decode cX3_lackAt 23 = .ok (.iconst 0, 1) := by decide +kernel
theorem dX3_lackAt_24 : decode cX3_lackAt 24 = .ok (.goto 11, 3) := by decide +kernel
theorem dX3_lackAt_27 : decode cX3_lackAt 27 = .ok (.aload_n 1, 1) := by decide +kernel
theorem dX3_lackAt_28 : decode cX3_lackAt 28 = .ok (.iload 4, 2) := by decide +kernel
theorem dX3_lackAt_30 : decode cX3_lackAt 30 = .ok (.iload_n 2, 1) := by decide +kernel
theorem dX3_lackAt_31 : decode cX3_lackAt 31 = .ok (.aload_n 3, 1) := by decide +kernel
theorem dX3_lackAt_32 : decode cX3_lackAt 32 = .ok (.invokevirtual 189, 3) := by decide +kernel
theorem dX3_lackAt_35 : decode cX3_lackAt 35 = .ok (.ireturn, 1) := by decide +kernel
theorem dX3_fewestNotHeldBack_0 : decode cX3_fewestNotHeldBack 0 = .ok (.bipush (-9), 2) := by decide +kernel
theorem dX3_fewestNotHeldBack_2 : decode cX3_fewestNotHeldBack 2 = .ok (.istore_n 2, 1) := by decide +kernel
theorem dX3_fewestNotHeldBack_3 : decode cX3_fewestNotHeldBack 3 = .ok (.iconst 0, 1) := by decide +kernel
theorem dX3_fewestNotHeldBack_4 : decode cX3_fewestNotHeldBack 4 = .ok (.istore_n 3, 1) := by decide +kernel
theorem dX3_fewestNotHeldBack_5 : decode cX3_fewestNotHeldBack 5 = .ok (.iload_n 3, 1) := by decide +kernel
theorem dX3_fewestNotHeldBack_6 : decode cX3_fewestNotHeldBack 6 = .ok (.iload_n 1, 1) := by decide +kernel
theorem dX3_fewestNotHeldBack_7 : decode cX3_fewestNotHeldBack 7 = .ok (.if_icmp .ge 49, 3) := by decide +kernel
theorem dX3_fewestNotHeldBack_10 : decode cX3_fewestNotHeldBack 10 = .ok (.iload_n 2, 1) := by decide +kernel
theorem dX3_fewestNotHeldBack_11 : decode cX3_fewestNotHeldBack 11 = .ok (.bipush (-9), 2) := by decide +kernel
theorem dX3_fewestNotHeldBack_13 : decode cX3_fewestNotHeldBack 13 = .ok (.if_icmp .eq 14, 3) := by decide +kernel
theorem dX3_fewestNotHeldBack_16 : decode cX3_fewestNotHeldBack 16 = .ok (.iload_n 3, 1) := by decide +kernel
theorem dX3_fewestNotHeldBack_17 : decode cX3_fewestNotHeldBack 17 = .ok (.invokestatic 283, 3) := by decide +kernel
theorem dX3_fewestNotHeldBack_20 : decode cX3_fewestNotHeldBack 20 = .ok (.iload_n 2, 1) := by decide +kernel
theorem dX3_fewestNotHeldBack_21 : decode cX3_fewestNotHeldBack 21 = .ok (.invokestatic 283, 3) := by decide +kernel
theorem dX3_fewestNotHeldBack_24 : decode cX3_fewestNotHeldBack 24 = .ok (.if_icmp .ge 7, 3) := by decide +kernel
theorem dX3_fewestNotHeldBack_27 : decode cX3_fewestNotHeldBack 27 = .ok (.iconst 1, 1) := by decide +kernel
theorem dX3_fewestNotHeldBack_28 : decode cX3_fewestNotHeldBack 28 = .ok (.goto 4, 3) := by decide +kernel
theorem dX3_fewestNotHeldBack_31 : decode cX3_fewestNotHeldBack 31 = .ok (.iconst 0, 1) := by decide +kernel
theorem dX3_fewestNotHeldBack_32 : decode cX3_fewestNotHeldBack 32 = .ok (.istore 4, 2) := by decide +kernel
theorem dX3_fewestNotHeldBack_34 : decode cX3_fewestNotHeldBack 34 = .ok (.aload_n 0, 1) := by decide +kernel
theorem dX3_fewestNotHeldBack_35 : decode cX3_fewestNotHeldBack 35 = .ok (.getfield 66, 3) := by decide +kernel
theorem dX3_fewestNotHeldBack_38 : decode cX3_fewestNotHeldBack 38 = .ok (.iload_n 3, 1) := by decide +kernel
theorem dX3_fewestNotHeldBack_39 : decode cX3_fewestNotHeldBack 39 = .ok (.baload, 1) := by decide +kernel
theorem dX3_fewestNotHeldBack_40 : decode cX3_fewestNotHeldBack 40 = .ok (.ifCond .ne 10, 3) := by decide +kernel
theorem dX3_fewestNotHeldBack_43 : decode cX3_fewestNotHeldBack 43 = .ok (.iload 4, 2) := by decide +kernel
theorem dX3_fewestNotHeldBack_45 : decode cX3_fewestNotHeldBack 45 = .ok (.ifCond .eq 5, 3) := by decide +kernel
theorem dX3_fewestNotHeldBack_48 : decode cX3_fewestNotHeldBack 48 = .ok (.iload_n 3, 1) := by decide +kernel
theorem dX3_fewestNotHeldBack_49 : decode cX3_fewestNotHeldBack 49 = .ok (.istore_n 2, 1) := by decide +kernel
theorem dX3_fewestNotHeldBack_50 : decode cX3_fewestNotHeldBack 50 = .ok (.iinc 3 1, 3) := by decide +kernel
theorem dX3_fewestNotHeldBack_53 : decode cX3_fewestNotHeldBack 53 = .ok (.goto (-48), 3) := by decide +kernel
theorem dX3_fewestNotHeldBack_56 : decode cX3_fewestNotHeldBack 56 = .ok (.iload_n 2, 1) := by decide +kernel
theorem dX3_fewestNotHeldBack_57 : decode cX3_fewestNotHeldBack 57 = .ok (.ireturn, 1) := by decide +kernel
theorem dX3_asEffects_0 : decode cX3_asEffects 0 = .ok (.iconst 0, 1) := by decide +kernel
theorem dX3_asEffects_1 : decode cX3_asEffects 1 = .ok (.istore_n 3, 1) := by decide +kernel
theorem dX3_asEffects_2 : decode cX3_asEffects 2 = .ok (.iconst 0, 1) := by decide +kernel
theorem dX3_asEffects_3 : decode cX3_asEffects 3 = .ok (.istore 4, 2) := by decide +kernel
theorem dX3_asEffects_5 : decode cX3_asEffects 5 = .ok (.iload 4, 2) := by decide +kernel
theorem dX3_asEffects_7 : decode cX3_asEffects 7 = .ok (.iload_n 2, 1) := by decide +kernel
theorem dX3_asEffects_8 : decode cX3_asEffects 8 = .ok (.if_icmp .ge 43, 3) := by decide +kernel
theorem dX3_asEffects_11 : decode cX3_asEffects 11 = .ok (.aload_n 0, 1) := by decide +kernel
theorem dX3_asEffects_12 : decode cX3_asEffects 12 = .ok (.getfield 59, 3) := by decide +kernel
theorem dX3_asEffects_15 : decode cX3_asEffects 15 = .ok (.iload 4, 2) := by decide +kernel
theorem dX3_asEffects_17 : decode cX3_asEffects 17 = .ok (.aaload, 1) := by decide +kernel
theorem dX3_asEffects_18 : decode cX3_asEffects 18 = .ok (.astore 5, 2) := by decide +kernel
theorem dX3_asEffects_20 : decode cX3_asEffects 20 = .ok (.aload 5, 2) := by decide +kernel
theorem dX3_asEffects_22 : decode cX3_asEffects 22 = .ok (.ifnull 23, 3) := by decide +kernel
theorem dX3_asEffects_25 : decode cX3_asEffects 25 = .ok (.iload_n 1, 1) := by decide +kernel
theorem dX3_asEffects_26 : decode cX3_asEffects 26 = .ok (.iload 4, 2) := by decide +kernel
theorem dX3_asEffects_28 : decode cX3_asEffects 28 = .ok (.ishr, 1) := by decide +kernel
theorem dX3_asEffects_29 : decode cX3_asEffects 29 = .ok (.iconst 1, 1) := by decide +kernel
theorem dX3_asEffects_30 : decode cX3_asEffects 30 = .ok (.iand, 1) := by decide +kernel
theorem dX3_asEffects_31 : decode cX3_asEffects 31 = .ok (.iconst 1, 1) := by decide +kernel
theorem dX3_asEffects_32 : decode cX3_asEffects 32 = .ok (.if_icmp .ne 13, 3) := by decide +kernel
theorem dX3_asEffects_35 : decode cX3_asEffects 35 = .ok (.iload_n 3, 1) := by decide +kernel
theorem dX3_asEffects_36 : decode cX3_asEffects 36 = .ok (.iconst 1, 1) := by decide +kernel
theorem dX3_asEffects_37 : decode cX3_asEffects 37 = .ok (.aload 5, 2) := by decide +kernel
theorem dX3_asEffects_39 : decode cX3_asEffects 39 = .ok (.getfield 147, 3) := by decide +kernel
theorem dX3_asEffects_42 : decode cX3_asEffects 42 = .ok (.ishl, 1) := by decide +kernel
theorem dX3_asEffects_43 : decode cX3_asEffects 43 = .ok (.ior, 1) := by decide +kernel
theorem dX3_asEffects_44 : decode cX3_asEffects 44 = .ok (.istore_n 3, 1) := by decide +kernel
theorem dX3_asEffects_45 : decode cX3_asEffects 45 = .ok (.iinc 4 1, 3) := by decide +kernel
theorem dX3_asEffects_48 : decode cX3_asEffects 48 = .ok (.goto (-43), 3) := by decide +kernel
theorem dX3_asEffects_51 : decode cX3_asEffects 51 = .ok (.iload_n 3, 1) := by decide +kernel
theorem dX3_asEffects_52 : decode cX3_asEffects 52 = .ok (.ireturn, 1) := by decide +kernel
end
section
theorem dX4_init_0 : decode cX4_init 0 = .ok (.aload_n 0, 1) := by decide +kernel
theorem dX4_init_1 : decode cX4_init 1 = .ok (.invokespecial 1, 3) := by decide +kernel
theorem dX4_init_4 : decode cX4_init 4 = .ok (.aload_n 0, 1) := by decide +kernel
theorem dX4_init_5 : decode cX4_init 5 = .ok (.iconst 2, 1) := by decide +kernel
theorem dX4_init_6 : decode cX4_init 6 = .ok (.newarray .int, 2) := by decide +kernel
theorem dX4_init_8 : decode cX4_init 8 = .ok (.putfield 7, 3) := by decide +kernel
theorem dX4_init_11 : decode cX4_init 11 = .ok (.aload_n 0, 1) := by decide +kernel
theorem dX4_init_12 : decode cX4_init 12 = .ok (.iconst 2, 1) := by decide +kernel
theorem dX4_init_13 : decode cX4_init 13 = .ok (.newarray .int, 2) := by decide +kernel
theorem dX4_init_15 : decode cX4_init 15 = .ok (.putfield 13, 3) := by decide +kernel
theorem dX4_init_18 : decode cX4_init 18 = .ok (.aload_n 0, 1) := by decide +kernel
theorem dX4_init_19 : decode cX4_init 19 = .ok (.bipush 12, 2) := by decide +kernel
theorem dX4_init_21 : decode cX4_init 21 = .ok (.newarray .int, 2) := by decide +kernel
theorem dX4_init_23 : decode cX4_init 23 = .ok (.putfield 16, 3) := by decide +kernel
theorem dX4_init_26 : decode cX4_init 26 = .ok (.aload_n 0, 1) := by decide +kernel
theorem dX4_init_27 : decode cX4_init 27 = .ok (.bipush 12, 2) := by decide +kernel
theorem dX4_init_29 : decode cX4_init 29 = .ok (.newarray .int, 2) := by decide +kernel
theorem dX4_init_31 : decode cX4_init 31 = .ok (.putfield 19, 3) := by decide +kernel
theorem dX4_init_34 : decode cX4_init 34 = .ok (.aload_n 0, 1) := by decide +kernel
theorem dX4_init_35 : decode cX4_init 35 = .ok (.bipush 12, 2) := by decide +kernel
theorem dX4_init_37 : decode cX4_init 37 = .ok (.newarray .int, 2) := by decide +kernel
theorem dX4_init_39 : decode cX4_init 39 = .ok (.putfield 22, 3) := by decide +kernel
theorem dX4_init_42 : decode cX4_init 42 = .ok (.aload_n 0, 1) := by decide +kernel
theorem dX4_init_43 : decode cX4_init 43 = .ok (.bipush 12, 2) := by decide +kernel
theorem dX4_init_45 : decode cX4_init 45 = .ok (.newarray .int, 2) := by decide +kernel
theorem dX4_init_47 : decode cX4_init 47 = .ok (.putfield 25, 3) := by decide +kernel
theorem dX4_init_50 : decode cX4_init 50 = .ok (.aload_n 0, 1) := by decide +kernel
theorem dX4_init_51 : decode cX4_init 51 = .ok (.bipush 12, 2) := by decide +kernel
theorem dX4_init_53 : decode cX4_init 53 = .ok (.newarray .int, 2) := by decide +kernel
theorem dX4_init_55 : decode cX4_init 55 = .ok (.putfield 28, 3) := by decide +kernel
theorem dX4_init_58 : decode cX4_init 58 = .ok (.aload_n 0, 1) := by decide +kernel
theorem dX4_init_59 : decode cX4_init 59 = .ok (.sipush 144, 3) := by decide +kernel
theorem dX4_init_62 : decode cX4_init 62 = .ok (.newarray .int, 2) := by decide +kernel
theorem dX4_init_64 : decode cX4_init 64 = .ok (.putfield 31, 3) := by decide +kernel
theorem dX4_init_67 : decode cX4_init 67 = .ok (.aload_n 0, 1) := by decide +kernel
theorem dX4_init_68 : decode cX4_init 68 = .ok (.bipush 12, 2) := by decide +kernel
theorem dX4_init_70 : decode cX4_init 70 = .ok (.newarray .int, 2) := by decide +kernel
theorem dX4_init_72 : decode cX4_init 72 = .ok (.putfield 34, 3) := by decide +kernel
theorem dX4_init_75 : decode cX4_init 75 = .ok (.aload_n 0, 1) := by decide +kernel
theorem dX4_init_76 : decode cX4_init 76 = .ok (.iconst 4, 1) := by decide +kernel
theorem dX4_init_77 : decode cX4_init 77 = .ok (.putfield 37, 3) := by decide +kernel
theorem dX4_init_80 : decode cX4_init 80 = .ok (.aload_n 0, 1) := by decide +kernel
theorem dX4_init_81 : decode cX4_init 81 = .ok (.bipush 6, 2) := by decide +kernel
theorem dX4_init_83 : decode cX4_init 83 = .ok (.newarray .int, 2) := by decide +kernel
theorem dX4_init_85 : decode cX4_init 85 = .ok (.putfield 41, 3) := by decide +kernel
theorem dX4_init_88 : decode cX4_init 88 = .ok (.aload_n 0, 1) := by decide +kernel
theorem dX4_init_89 : decode cX4_init 89 = .ok (.iconst 4, 1) := by decide +kernel
theorem dX4_init_90 : decode cX4_init 90 = .ok (.newarray .int, 2) := by decide +kernel
theorem dX4_init_92 : decode cX4_init 92 = .ok (.putfield 44, 3) := by decide +kernel
theorem dX4_init_95 : decode cX4_init 95 = .ok (.aload_n 0, 1) := by decide +kernel
theorem dX4_init_96 : decode cX4_init 96 = .ok (.bipush 48, 2) := by decide +kernel
theorem dX4_init_98 : decode cX4_init 98 = .ok (.newarray .int, 2) := by decide +kernel
theorem dX4_init_100 : decode cX4_init 100 = .ok (.putfield 47, 3) := by decide +kernel
theorem dX4_init_103 : decode cX4_init 103 = .ok (.aload_n 0, 1) := by decide +kernel
theorem dX4_init_104 : decode cX4_init 104 = .ok (.bipush 100, 2) := by decide +kernel
theorem dX4_init_106 : decode cX4_init 106 = .ok (.putfield 50, 3) := by decide +kernel
theorem dX4_init_109 : decode cX4_init 109 = .ok (.aload_n 0, 1) := by decide +kernel
theorem dX4_init_110 : decode cX4_init 110 = .ok (.sipush 250, 3) := by decide +kernel
theorem dX4_init_113 : decode cX4_init 113 = .ok (.putfield 53, 3) := by decide +kernel
theorem dX4_init_116 : decode cX4_init 116 = .ok (.iconst 0, 1) := by decide +kernel
theorem dX4_init_117 : decode cX4_init 117 = .ok (.istore_n 1, 1) := by decide +kernel
theorem dX4_init_118 : decode cX4_init 118 = .ok (.iload_n 1, 1) := by decide +kernel
theorem dX4_init_119 : decode cX4_init 119 = .ok (.bipush 6, 2) := by decide +kernel
theorem dX4_init_121 : decode cX4_init 121 = .ok (.if_icmp .ge 17, 3) := by decide +kernel
theorem dX4_init_124 : decode cX4_init 124 = .ok (.aload_n 0, 1) := by decide +kernel
theorem dX4_init_125 : decode cX4_init 125 = .ok (.getfield 41, 3) := by decide +kernel
theorem dX4_init_128 : decode cX4_init 128 = .ok (.iload_n 1, 1) := by decide +kernel
theorem dX4_init_129 : decode cX4_init 129 = .ok (.bipush (-9), 2) := by decide +kernel
theorem dX4_init_131 : decode cX4_init 131 = .ok (.iastore, 1) := by decide +kernel
theorem dX4_init_132 : decode cX4_init 132 = .ok (.iinc 1 1, 3) := by decide +kernel
theorem dX4_init_135 : decode cX4_init 135 = .ok (.goto (-17), 3) := by decide +kernel
theorem dX4_init_138 : decode cX4_init 138 = .ok (.iconst 0, 1) := by decide +kernel
theorem dX4_init_139 : decode cX4_init 139 = .ok (.istore_n 1, 1) := by decide +kernel
theorem dX4_init_140 : decode cX4_init 140 = .ok (.iload_n 1, 1) := by decide +kernel
theorem dX4_init_141 : decode cX4_init 141 = .ok (.iconst 4, 1) := by decide +kernel
theorem dX4_init_142 : decode cX4_init 142 = .ok (.if_icmp .ge 17, 3) := by decide +kernel
theorem dX4_init_145 : decode cX4_init 145 = .ok (.aload_n 0, 1) := by decide +kernel
theorem dX4_init_146 : decode cX4_init 146 = .ok (.getfield 44, 3) := by decide +kernel
theorem dX4_init_149 : decode cX4_init 149 = .ok (.iload_n 1, 1) := by decide +kernel
theorem dX4_init_150 : decode cX4_init 150 = .ok (.bipush (-9), 2) := by decide +kernel
theorem dX4_init_152 : decode cX4_init 152 = .ok (.iastore, 1) := by decide +kernel
theorem dX4_init_153 : decode cX4_init 153 = .ok (.iinc 1 1, 3) := by decide +kernel
theorem dX4_init_156 : decode cX4_init 156 = .ok (.goto (-16), 3) := by decide +kernel
theorem dX4_init_159 : decode cX4_init 159 = .ok (.return_, 1) := by decide +kernel
theorem dX4_within_0 : decode cX4_within 0 = .ok (.iload_n 0, 1) := by decide +kernel
theorem dX4_within_1 : decode cX4_within 1 = .ok (.iload_n 1, 1) := by decide +kernel
theorem dX4_within_2 : decode cX4_within 2 = .ok (.if_icmp .lt 12, 3) := by decide +kernel
theorem dX4_within_5 : decode cX4_within 5 = .ok (.iload_n 0, 1) := by decide +kernel
theorem dX4_within_6 : decode cX4_within 6 = .ok (.iload_n 2, 1) := by decide +kernel
theorem dX4_within_7 : decode cX4_within 7 = .ok (.if_icmp .gt 7, 3) := by decide +kernel
theorem dX4_within_10 : decode cX4_within 10 = .ok (.iconst 1, 1) := by decide +kernel
theorem dX4_within_11 : decode cX4_within 11 = .ok (.goto 4, 3) := by decide +kernel
theorem dX4_within_14 : decode cX4_within 14 = .ok (.iconst 0, 1) := by decide +kernel
theorem dX4_within_15 : decode cX4_within 15 = .ok (.ireturn, 1) := by decide +kernel
theorem dX4_size_0 : decode cX4_size 0 = .ok (.iload_n 0, 1) := by decide +kernel
theorem dX4_size_1 : decode cX4_size 1 = .ok (.ifCond .ge 8, 3) := by decide +kernel
theorem dX4_size_4 : decode cX4_size 4 = .ok (.iload_n 0, 1) := by decide +kernel
theorem dX4_size_5 : decode cX4_size 5 = .ok (.ineg, 1) := by decide +kernel
theorem dX4_size_6 : decode cX4_size 6 = .ok (.goto 4, 3) := by decide +kernel
theorem dX4_size_9 : decode cX4_size 9 = .ok (.iload_n 0, 1) := by decide +kernel
theorem dX4_size_10 : decode cX4_size 10 = .ok (.ireturn, 1) := by decide +kernel
theorem dX4_held_0 : decode cX4_held 0 = .ok (.iload_n 0, 1) := by decide +kernel
theorem dX4_held_1 : decode cX4_held 1 = .ok (.iload_n 1, 1) := by decide +kernel
theorem dX4_held_2 : decode cX4_held 2 = .ok (.if_icmp .le 7, 3) := by decide +kernel
theorem dX4_held_5 : decode cX4_held 5 = .ok (.iload_n 1, 1) := by decide +kernel
theorem dX4_held_6 : decode cX4_held 6 = .ok (.goto 15, 3) := by decide +kernel
theorem dX4_held_9 : decode cX4_held 9 = .ok (.iload_n 0, 1) := by decide +kernel
theorem dX4_held_10 : decode cX4_held 10 = .ok (.iload_n 1, 1) := by decide +kernel
theorem dX4_held_11 : decode cX4_held 11 = .ok (.ineg, 1) := by decide +kernel
theorem dX4_held_12 : decode cX4_held 12 = .ok (.if_icmp .ge 8, 3) := by decide +kernel
theorem dX4_held_15 : decode cX4_held 15 = .ok (.iload_n 1, 1) := by decide +kernel
theorem dX4_held_16 : decode cX4_held 16 = .ok (.ineg, 1) := by decide +kernel
theorem dX4_held_17 : decode cX4_held 17 = .ok (.goto 4, 3) := by decide +kernel
theorem dX4_held_20 : decode cX4_held 20 = .ok (.iload_n 0, 1) := by decide +kernel
theorem dX4_held_21 : decode cX4_held 21 = .ok (.ireturn, 1) := by decide +kernel
theorem dX4_isEffect_0 : decode cX4_isEffect 0 = .ok (.iload_n 1, 1) := by decide +kernel
theorem dX4_isEffect_1 : decode cX4_isEffect 1 = .ok (.iconst 0, 1) := by decide +kernel
theorem dX4_isEffect_2 : decode cX4_isEffect 2 = .ok (.aload_n 0, 1) := by decide +kernel
theorem dX4_isEffect_3 : decode cX4_isEffect 3 = .ok (.getfield 56, 3) := by decide +kernel
theorem dX4_isEffect_6 : decode cX4_isEffect 6 = .ok (.iconst 1, 1) := by decide +kernel
theorem dX4_isEffect_7 : decode cX4_isEffect 7 = .ok (.isub, 1) := by decide +kernel
theorem dX4_isEffect_8 : decode cX4_isEffect 8 = .ok (.invokestatic 59, 3) := by decide +kernel
theorem dX4_isEffect_11 : decode cX4_isEffect 11 = .ok (.ireturn, 1) := by decide +kernel
theorem dX4_isAxis_0 : decode cX4_isAxis 0 = .ok (.iload_n 0, 1) := by decide +kernel
theorem dX4_isAxis_1 : decode cX4_isAxis 1 = .ok (.iconst 0, 1) := by decide +kernel
theorem dX4_isAxis_2 : decode cX4_isAxis 2 = .ok (.iconst 1, 1) := by decide +kernel
theorem dX4_isAxis_3 : decode cX4_isAxis 3 = .ok (.invokestatic 59, 3) := by decide +kernel
theorem dX4_isAxis_6 : decode cX4_isAxis 6 = .ok (.ireturn, 1) := by decide +kernel
theorem dX4_numberOf_0 : decode cX4_numberOf 0 = .ok (.aload_n 0, 1) := by decide +kernel
theorem dX4_numberOf_1 : decode cX4_numberOf 1 = .ok (.getfield 31, 3) := by decide +kernel
theorem dX4_numberOf_4 : decode cX4_numberOf 4 = .ok (.bipush 12, 2) := by decide +kernel
theorem dX4_numberOf_6 : decode cX4_numberOf 6 = .ok (.iload_n 1, 1) := by decide +kernel
theorem dX4_numberOf_7 : decode cX4_numberOf 7 = .ok (.imul, 1) := by decide +kernel
theorem dX4_numberOf_8 : decode cX4_numberOf 8 = .ok (.iload_n 2, 1) := by decide +kernel
theorem dX4_numberOf_9 : decode cX4_numberOf 9 = .ok (.iadd, 1) := by decide +kernel
theorem dX4_numberOf_10 : decode cX4_numberOf 10 = .ok (.iaload, 1) := by decide +kernel
theorem dX4_numberOf_11 : decode cX4_numberOf 11 = .ok (.ireturn, 1) := by decide +kernel
theorem dX4_mayBe_0 : decode cX4_mayBe 0 = .ok (.iload_n 2, 1) := by decide +kernel
theorem dX4_mayBe_1 : decode cX4_mayBe 1 = .ok (.sipush (-1000), 3) := by decide +kernel
theorem dX4_mayBe_4 : decode cX4_mayBe 4 = .ok (.sipush 1000, 3) := by decide +kernel
theorem dX4_mayBe_7 : decode cX4_mayBe 7 = .ok (.invokestatic 59, 3) := by decide +kernel
theorem dX4_mayBe_10 : decode cX4_mayBe 10 = .ok (.istore 5, 2) := by decide +kernel
theorem dX4_mayBe_12 : decode cX4_mayBe 12 = .ok (.iload_n 0, 1) := by decide +kernel
theorem dX4_mayBe_13 : decode cX4_mayBe 13 = .ok (.tableswitch 285 0 6 #[43, 75, 75, 120, 153, 198, 242], 43) := by decide +kernel
theorem dX4_mayBe_56 : decode cX4_mayBe 56 = .ok (.iload_n 1, 1) := by decide +kernel
theorem dX4_mayBe_57 : decode cX4_mayBe 57 = .ok (.sipush (-1000), 3) := by decide +kernel
theorem dX4_mayBe_60 : decode cX4_mayBe 60 = .ok (.sipush 1000, 3) := by decide +kernel
theorem dX4_mayBe_63 : decode cX4_mayBe 63 = .ok (.invokestatic 59, 3) := by decide +kernel
theorem dX4_mayBe_66 : decode cX4_mayBe 66 = .ok (.ifCond .eq 20, 3) := by decide +kernel
theorem dX4_mayBe_69 : decode cX4_mayBe 69 = .ok (.iload_n 2, 1) := by decide +kernel
theorem dX4_mayBe_70 : decode cX4_mayBe 70 = .ok (.ifCond .ne 16, 3) := by decide +kernel
theorem dX4_mayBe_73 : decode cX4_mayBe 73 = .ok (.iload_n 3, 1) := by decide +kernel
theorem dX4_mayBe_74 : decode cX4_mayBe 74 = .ok (.ifCond .ne 12, 3) := by decide +kernel
theorem dX4_mayBe_77 : decode cX4_mayBe 77 = .ok (.iload 4, 2) := by decide +kernel
theorem dX4_mayBe_79 : decode cX4_mayBe 79 = .ok (.ifCond .ne 7, 3) := by decide +kernel
theorem dX4_mayBe_82 : decode cX4_mayBe 82 = .ok (.iconst 1, 1) := by decide +kernel
theorem dX4_mayBe_83 : decode cX4_mayBe 83 = .ok (.goto 4, 3) := by decide +kernel
theorem dX4_mayBe_86 : decode cX4_mayBe 86 = .ok (.iconst 0, 1) := by decide +kernel
theorem dX4_mayBe_87 : decode cX4_mayBe 87 = .ok (.ireturn, 1) := by decide +kernel
theorem dX4_mayBe_88 : decode cX4_mayBe 88 = .ok (.iload_n 1, 1) := by decide +kernel
theorem dX4_mayBe_89 : decode cX4_mayBe 89 = .ok (.iconst 0, 1) := by decide +kernel
theorem dX4_mayBe_90 : decode cX4_mayBe 90 = .ok (.sipush 1000, 3) := by decide +kernel
theorem dX4_mayBe_93 : decode cX4_mayBe 93 = .ok (.invokestatic 59, 3) := by decide +kernel
theorem dX4_mayBe_96 : decode cX4_mayBe 96 = .ok (.ifCond .eq 35, 3) := by decide +kernel
theorem dX4_mayBe_99 : decode cX4_mayBe 99 = .ok (.iload 5, 2) := by decide +kernel
theorem dX4_mayBe_101 : decode cX4_mayBe 101 = .ok (.ifCond .eq 30, 3) := by decide +kernel
theorem dX4_mayBe_104 : decode cX4_mayBe 104 = .ok (.iload_n 3, 1) := by decide +kernel
theorem dX4_mayBe_105 : decode cX4_mayBe 105 = .ok (.iconst 2, 1) := by decide +kernel
theorem dX4_mayBe_106 : decode cX4_mayBe 106 = .ok (.sipush 2000, 3) := by decide +kernel
theorem dX4_mayBe_109 : decode cX4_mayBe 109 = .ok (.invokestatic 59, 3) := by decide +kernel
theorem dX4_mayBe_112 : decode cX4_mayBe 112 = .ok (.ifCond .eq 19, 3) := by decide +kernel
theorem dX4_mayBe_115 : decode cX4_mayBe 115 = .ok (.iload 4, 2) := by decide +kernel
theorem dX4_mayBe_117 : decode cX4_mayBe 117 = .ok (.iconst 0, 1) := by decide +kernel
theorem dX4_mayBe_118 : decode cX4_mayBe 118 = .ok (.iload_n 3, 1) := by decide +kernel
theorem dX4_mayBe_119 : decode cX4_mayBe 119 = .ok (.iconst 1, 1) := by decide +kernel
theorem dX4_mayBe_120 : decode cX4_mayBe 120 = .ok (.isub, 1) := by decide +kernel
theorem dX4_mayBe_121 : decode cX4_mayBe 121 = .ok (.invokestatic 59, 3) := by decide +kernel
theorem dX4_mayBe_124 : decode cX4_mayBe 124 = .ok (.ifCond .eq 7, 3) := by decide +kernel
theorem dX4_mayBe_127 : decode cX4_mayBe 127 = .ok (.iconst 1, 1) := by decide +kernel
theorem dX4_mayBe_128 : decode cX4_mayBe 128 = .ok (.goto 4, 3) := by decide +kernel
theorem dX4_mayBe_131 : decode cX4_mayBe 131 = .ok (.iconst 0, 1) := by decide +kernel
theorem dX4_mayBe_132 : decode cX4_mayBe 132 = .ok (.ireturn, 1) := by decide +kernel
theorem dX4_mayBe_133 : decode cX4_mayBe 133 = .ok (.iload_n 1, 1) := by decide +kernel
theorem dX4_mayBe_134 : decode cX4_mayBe 134 = .ok (.sipush (-1000), 3) := by decide +kernel
theorem dX4_mayBe_137 : decode cX4_mayBe 137 = .ok (.sipush 1000, 3) := by decide +kernel
theorem dX4_mayBe_140 : decode cX4_mayBe 140 = .ok (.invokestatic 59, 3) := by decide +kernel
theorem dX4_mayBe_143 : decode cX4_mayBe 143 = .ok (.ifCond .eq 21, 3) := by decide +kernel
theorem dX4_mayBe_146 : decode cX4_mayBe 146 = .ok (.iload 5, 2) := by decide +kernel
theorem dX4_mayBe_148 : decode cX4_mayBe 148 = .ok (.ifCond .eq 16, 3) := by decide +kernel
theorem dX4_mayBe_151 : decode cX4_mayBe 151 = .ok (.iload_n 3, 1) := by decide +kernel
theorem dX4_mayBe_152 : decode cX4_mayBe 152 = .ok (.ifCond .ne 12, 3) := by decide +kernel
theorem dX4_mayBe_155 : decode cX4_mayBe 155 = .ok (.iload 4, 2) := by decide +kernel
theorem dX4_mayBe_157 : decode cX4_mayBe 157 = .ok (.ifCond .ne 7, 3) := by decide +kernel
theorem dX4_mayBe_160 : decode cX4_mayBe 160 = .ok (.iconst 1, 1) := by decide +kernel
theorem dX4_mayBe_161 : decode cX4_mayBe 161 = .ok (.goto 4, 3) := by decide +kernel
theorem dX4_mayBe_164 : decode cX4_mayBe 164 = .ok (.iconst 0, 1) := by decide +kernel
theorem dX4_mayBe_165 : decode cX4_mayBe 165 = .ok (.ireturn, 1) := by decide +kernel
theorem dX4_mayBe_166 : decode cX4_mayBe 166 = .ok (.iload_n 1, 1) := by decide +kernel
theorem dX4_mayBe_167 : decode cX4_mayBe 167 = .ok (.bipush (-100), 2) := by decide +kernel
theorem dX4_mayBe_169 : decode cX4_mayBe 169 = .ok (.bipush 100, 2) := by decide +kernel
theorem dX4_mayBe_171 : decode cX4_mayBe 171 = .ok (.invokestatic 59, 3) := by decide +kernel
theorem dX4_mayBe_174 : decode cX4_mayBe 174 = .ok (.ifCond .eq 35, 3) := by decide +kernel
theorem dX4_mayBe_177 : decode cX4_mayBe 177 = .ok (.iload 5, 2) := by decide +kernel
theorem dX4_mayBe_179 : decode cX4_mayBe 179 = .ok (.ifCond .eq 30, 3) := by decide +kernel
theorem dX4_mayBe_182 : decode cX4_mayBe 182 = .ok (.iload_n 3, 1) := by decide +kernel
theorem dX4_mayBe_183 : decode cX4_mayBe 183 = .ok (.iconst 0, 1) := by decide +kernel
theorem dX4_mayBe_184 : decode cX4_mayBe 184 = .ok (.sipush 1000, 3) := by decide +kernel
theorem dX4_mayBe_187 : decode cX4_mayBe 187 = .ok (.invokestatic 59, 3) := by decide +kernel
theorem dX4_mayBe_190 : decode cX4_mayBe 190 = .ok (.ifCond .eq 19, 3) := by decide +kernel
theorem dX4_mayBe_193 : decode cX4_mayBe 193 = .ok (.iload 4, 2) := by decide +kernel
theorem dX4_mayBe_195 : decode cX4_mayBe 195 = .ok (.iconst 0, 1) := by decide +kernel
theorem dX4_mayBe_196 : decode cX4_mayBe 196 = .ok (.sipush 1000, 3) := by decide +kernel
theorem dX4_mayBe_199 : decode cX4_mayBe 199 = .ok (.invokestatic 59, 3) := by decide +kernel
theorem dX4_mayBe_202 : decode cX4_mayBe 202 = .ok (.ifCond .eq 7, 3) := by decide +kernel
theorem dX4_mayBe_205 : decode cX4_mayBe 205 = .ok (.iconst 1, 1) := by decide +kernel
theorem dX4_mayBe_206 : decode cX4_mayBe 206 = .ok (.goto 4, 3) := by decide +kernel
theorem dX4_mayBe_209 : decode cX4_mayBe 209 = .ok (.iconst 0, 1) := by decide +kernel
theorem dX4_mayBe_210 : decode cX4_mayBe 210 = .ok (.ireturn, 1) := by decide +kernel
theorem dX4_mayBe_211 : decode cX4_mayBe 211 = .ok (.iload_n 1, 1) := by decide +kernel
theorem dX4_mayBe_212 : decode cX4_mayBe 212 = .ok (.bipush (-100), 2) := by decide +kernel
theorem dX4_mayBe_214 : decode cX4_mayBe 214 = .ok (.bipush 100, 2) := by decide +kernel
theorem dX4_mayBe_216 : decode cX4_mayBe 216 = .ok (.invokestatic 59, 3) := by decide +kernel
theorem dX4_mayBe_219 : decode cX4_mayBe 219 = .ok (.ifCond .eq 34, 3) := by decide +kernel
theorem dX4_mayBe_222 : decode cX4_mayBe 222 = .ok (.iload_n 2, 1) := by decide +kernel
theorem dX4_mayBe_223 : decode cX4_mayBe 223 = .ok (.ifCond .ne 30, 3) := by decide +kernel
theorem dX4_mayBe_226 : decode cX4_mayBe 226 = .ok (.iload_n 3, 1) := by decide +kernel
theorem dX4_mayBe_227 : decode cX4_mayBe 227 = .ok (.iconst 0, 1) := by decide +kernel
theorem dX4_mayBe_228 : decode cX4_mayBe 228 = .ok (.sipush 9999, 3) := by decide +kernel
theorem dX4_mayBe_231 : decode cX4_mayBe 231 = .ok (.invokestatic 59, 3) := by decide +kernel
theorem dX4_mayBe_234 : decode cX4_mayBe 234 = .ok (.ifCond .eq 19, 3) := by decide +kernel
theorem dX4_mayBe_237 : decode cX4_mayBe 237 = .ok (.iload 4, 2) := by decide +kernel
theorem dX4_mayBe_239 : decode cX4_mayBe 239 = .ok (.iconst 0, 1) := by decide +kernel
theorem dX4_mayBe_240 : decode cX4_mayBe 240 = .ok (.sipush 1000, 3) := by decide +kernel
theorem dX4_mayBe_243 : decode cX4_mayBe 243 = .ok (.invokestatic 59, 3) := by decide +kernel
theorem dX4_mayBe_246 : decode cX4_mayBe 246 = .ok (.ifCond .eq 7, 3) := by decide +kernel
theorem dX4_mayBe_249 : decode cX4_mayBe 249 = .ok (.iconst 1, 1) := by decide +kernel
theorem dX4_mayBe_250 : decode cX4_mayBe 250 = .ok (.goto 4, 3) := by decide +kernel
theorem dX4_mayBe_253 : decode cX4_mayBe 253 = .ok (.iconst 0, 1) := by decide +kernel
theorem dX4_mayBe_254 : decode cX4_mayBe 254 = .ok (.ireturn, 1) := by decide +kernel
theorem dX4_mayBe_255 : decode cX4_mayBe 255 = .ok (.iload_n 1, 1) := by decide +kernel
theorem dX4_mayBe_256 : decode cX4_mayBe 256 = .ok (.iconst 1, 1) := by decide +kernel
theorem dX4_mayBe_257 : decode cX4_mayBe 257 = .ok (.sipush 1000, 3) := by decide +kernel
theorem dX4_mayBe_260 : decode cX4_mayBe 260 = .ok (.invokestatic 59, 3) := by decide +kernel
theorem dX4_mayBe_263 : decode cX4_mayBe 263 = .ok (.ifCond .eq 33, 3) := by decide +kernel
theorem dX4_mayBe_266 : decode cX4_mayBe 266 = .ok (.iload 5, 2) := by decide +kernel
theorem dX4_mayBe_268 : decode cX4_mayBe 268 = .ok (.ifCond .eq 28, 3) := by decide +kernel
theorem dX4_mayBe_271 : decode cX4_mayBe 271 = .ok (.iload_n 3, 1) := by decide +kernel
theorem dX4_mayBe_272 : decode cX4_mayBe 272 = .ok (.iconst 0, 1) := by decide +kernel
theorem dX4_mayBe_273 : decode cX4_mayBe 273 = .ok (.iconst 1, 1) := by decide +kernel
theorem dX4_mayBe_274 : decode cX4_mayBe 274 = .ok (.invokestatic 59, 3) := by decide +kernel
theorem dX4_mayBe_277 : decode cX4_mayBe 277 = .ok (.ifCond .eq 19, 3) := by decide +kernel
theorem dX4_mayBe_280 : decode cX4_mayBe 280 = .ok (.iload 4, 2) := by decide +kernel
theorem dX4_mayBe_282 : decode cX4_mayBe 282 = .ok (.iconst 0, 1) := by decide +kernel
theorem dX4_mayBe_283 : decode cX4_mayBe 283 = .ok (.sipush 1000, 3) := by decide +kernel
theorem dX4_mayBe_286 : decode cX4_mayBe 286 = .ok (.invokestatic 59, 3) := by decide +kernel
theorem dX4_mayBe_289 : decode cX4_mayBe 289 = .ok (.ifCond .eq 7, 3) := by decide +kernel
theorem dX4_mayBe_292 : decode cX4_mayBe 292 = .ok (.iconst 1, 1) := by decide +kernel
theorem dX4_mayBe_293 : decode cX4_mayBe 293 = .ok (.goto 4, 3) := by decide +kernel
theorem dX4_mayBe_296 : decode cX4_mayBe 296 = .ok (.iconst 0, 1) := by decide +kernel
theorem dX4_mayBe_297 : decode cX4_mayBe 297 = .ok (.ireturn, 1) := by decide +kernel
theorem dX4_mayBe_298 : decode cX4_mayBe 298 = .ok (.iconst 0, 1) := by decide +kernel
theorem dX4_mayBe_299 : decode cX4_mayBe 299 = .ok (.ireturn, 1) := by decide +kernel
theorem dX4_effect_0 : decode cX4_effect 0 = .ok (.iload_n 1, 1) := by decide +kernel
theorem dX4_effect_1 : decode cX4_effect 1 = .ok (.iload_n 2, 1) := by decide +kernel
theorem dX4_effect_2 : decode cX4_effect 2 = .ok (.iload_n 3, 1) := by decide +kernel
theorem dX4_effect_3 : decode cX4_effect 3 = .ok (.iload 4, 2) := by decide +kernel
theorem dX4_effect_5 : decode cX4_effect 5 = .ok (.iload 5, 2) := by decide +kernel
theorem dX4_effect_7 : decode cX4_effect 7 = .ok (.invokestatic 63, 3) := by decide +kernel
theorem dX4_effect_10 : decode cX4_effect 10 = .ok (.ifCond .ne 6, 3) := by decide +kernel
theorem dX4_effect_13 : decode cX4_effect 13 = .ok (.bipush (-2), 2) := by decide +kernel
theorem dX4_effect_15 : decode cX4_effect 15 = .ok (.ireturn, 1) := by decide +kernel
theorem dX4_effect_16 : decode cX4_effect 16 = .ok (.aload_n 0, 1) := by decide +kernel
theorem dX4_effect_17 : decode cX4_effect 17 = .ok (.getfield 56, 3) := by decide +kernel
theorem dX4_effect_20 : decode cX4_effect 20 = .ok (.bipush 12, 2) := by decide +kernel
theorem dX4_effect_22 : decode cX4_effect 22 = .ok (.if_icmp .ne 6, 3) := by decide +kernel
theorem dX4_effect_25 : decode cX4_effect 25 = .ok (.bipush (-4), 2) := by decide +kernel
theorem dX4_effect_27 : decode cX4_effect 27 = .ok (.ireturn, 1) := by decide +kernel
theorem dX4_effect_28 : decode cX4_effect 28 = .ok (.aload_n 0, 1) := by decide +kernel
theorem dX4_effect_29 : decode cX4_effect 29 = .ok (.getfield 56, 3) := by decide +kernel
theorem dX4_effect_32 : decode cX4_effect 32 = .ok (.istore 6, 2) := by decide +kernel
theorem dX4_effect_34 : decode cX4_effect 34 = .ok (.aload_n 0, 1) := by decide +kernel
theorem dX4_effect_35 : decode cX4_effect 35 = .ok (.getfield 16, 3) := by decide +kernel
theorem dX4_effect_38 : decode cX4_effect 38 = .ok (.iload 6, 2) := by decide +kernel
theorem dX4_effect_40 : decode cX4_effect 40 = .ok (.iload_n 1, 1) := by decide +kernel
theorem dX4_effect_41 : decode cX4_effect 41 = .ok (.iastore, 1) := by decide +kernel
theorem dX4_effect_42 : decode cX4_effect 42 = .ok (.aload_n 0, 1) := by decide +kernel
theorem dX4_effect_43 : decode cX4_effect 43 = .ok (.getfield 19, 3) := by decide +kernel
theorem dX4_effect_46 : decode cX4_effect 46 = .ok (.iload 6, 2) := by decide +kernel
theorem dX4_effect_48 : decode cX4_effect 48 = .ok (.iload_n 2, 1) := by decide +kernel
theorem dX4_effect_49 : decode cX4_effect 49 = .ok (.iastore, 1) := by decide +kernel
theorem dX4_effect_50 : decode cX4_effect 50 = .ok (.aload_n 0, 1) := by decide +kernel
theorem dX4_effect_51 : decode cX4_effect 51 = .ok (.getfield 22, 3) := by decide +kernel
theorem dX4_effect_54 : decode cX4_effect 54 = .ok (.iload 6, 2) := by decide +kernel
theorem dX4_effect_56 : decode cX4_effect 56 = .ok (.iload_n 3, 1) := by decide +kernel
theorem dX4_effect_57 : decode cX4_effect 57 = .ok (.iastore, 1) := by decide +kernel
theorem dX4_effect_58 : decode cX4_effect 58 = .ok (.aload_n 0, 1) := by decide +kernel
theorem dX4_effect_59 : decode cX4_effect 59 = .ok (.getfield 25, 3) := by decide +kernel
theorem dX4_effect_62 : decode cX4_effect 62 = .ok (.iload 6, 2) := by decide +kernel
theorem dX4_effect_64 : decode cX4_effect 64 = .ok (.iload 4, 2) := by decide +kernel
theorem dX4_effect_66 : decode cX4_effect 66 = .ok (.iastore, 1) := by decide +kernel
theorem dX4_effect_67 : decode cX4_effect 67 = .ok (.aload_n 0, 1) := by decide +kernel
theorem dX4_effect_68 : decode cX4_effect 68 = .ok (.getfield 28, 3) := by decide +kernel
theorem dX4_effect_71 : decode cX4_effect 71 = .ok (.iload 6, 2) := by decide +kernel
theorem dX4_effect_73 : decode cX4_effect 73 = .ok (.iload 5, 2) := by decide +kernel
theorem dX4_effect_75 : decode cX4_effect 75 = .ok (.iastore, 1) := by decide +kernel
theorem dX4_effect_76 : decode cX4_effect 76 = .ok (.iconst 0, 1) := by decide +kernel
theorem dX4_effect_77 : decode cX4_effect 77 = .ok (.istore 7, 2) := by decide +kernel
theorem dX4_effect_79 : decode cX4_effect 79 = .ok (.iload 7, 2) := by decide +kernel
theorem dX4_effect_81 : decode cX4_effect 81 = .ok (.bipush 12, 2) := by decide +kernel
theorem dX4_effect_83 : decode cX4_effect 83 = .ok (.if_icmp .ge 59, 3) := by decide +kernel
theorem dX4_effect_86 : decode cX4_effect 86 = .ok (.aload_n 0, 1) := by decide +kernel
theorem dX4_effect_87 : decode cX4_effect 87 = .ok (.getfield 31, 3) := by decide +kernel
theorem dX4_effect_90 : decode cX4_effect 90 = .ok (.bipush 12, 2) := by decide +kernel
theorem dX4_effect_92 : decode cX4_effect 92 = .ok (.iload 6, 2) := by decide +kernel
theorem dX4_effect_94 : decode cX4_effect 94 = .ok (.imul, 1) := by decide +kernel
theorem dX4_effect_95 : decode cX4_effect 95 = .ok (.iload 7, 2) := by decide +kernel
theorem dX4_effect_97 : decode cX4_effect 97 = .ok (.iadd, 1) := by decide +kernel
theorem dX4_effect_98 : decode cX4_effect 98 = .ok (.iload 7, 2) := by decide +kernel
theorem dX4_effect_100 : decode cX4_effect 100 = .ok (.ifCond .eq 10, 3) := by decide +kernel
theorem dX4_effect_103 : decode cX4_effect 103 = .ok (.iload 7, 2) := by decide +kernel
theorem dX4_effect_105 : decode cX4_effect 105 = .ok (.bipush 10, 2) := by decide +kernel
theorem dX4_effect_107 : decode cX4_effect 107 = .ok (.if_icmp .ne 8, 3) := by decide +kernel
theorem dX4_effect_110 : decode cX4_effect 110 = .ok (.bipush (-9), 2) := by decide +kernel
theorem dX4_effect_112 : decode cX4_effect 112 = .ok (.goto 23, 3) := by decide +kernel
theorem dX4_effect_115 : decode cX4_effect 115 = .ok (.iload 7, 2) := by decide +kernel
theorem dX4_effect_117 : decode cX4_effect 117 = .ok (.bipush 6, 2) := by decide +kernel
theorem dX4_effect_119 : decode cX4_effect 119 = .ok (.if_icmp .eq 10, 3) := by decide +kernel
theorem dX4_effect_122 : decode cX4_effect 122 = .ok (.iload 7, 2) := by decide +kernel
theorem dX4_effect_124 : decode cX4_effect 124 = .ok (.bipush 8, 2) := by decide +kernel
theorem dX4_effect_126 : decode cX4_effect 126 = .ok (.if_icmp .ne 8, 3) := by decide +kernel
theorem dX4_effect_129 : decode cX4_effect 129 = .ok (.bipush 100, 2) := by decide +kernel
theorem dX4_effect_131 : decode cX4_effect 131 = .ok (.goto 4, 3) := by decide +kernel
theorem dX4_effect_134 : decode cX4_effect 134 = .ok (.iconst 0, 1) := by decide +kernel
theorem dX4_effect_135 : decode cX4_effect 135 = .ok (.iastore, 1) := by decide +kernel
theorem dX4_effect_136 : decode cX4_effect 136 = .ok (.iinc 7 1, 3) := by decide +kernel
theorem dX4_effect_139 : decode cX4_effect 139 = .ok (.goto (-60), 3) := by decide +kernel
theorem dX4_effect_142 : decode cX4_effect 142 = .ok (.aload_n 0, 1) := by decide +kernel
theorem dX4_effect_143 : decode cX4_effect 143 = .ok (.getfield 34, 3) := by decide +kernel
theorem dX4_effect_146 : decode cX4_effect 146 = .ok (.iload 6, 2) := by decide +kernel
theorem dX4_effect_148 : decode cX4_effect 148 = .ok (.bipush (-9), 2) := by decide +kernel
theorem dX4_effect_150 : decode cX4_effect 150 = .ok (.iastore, 1) := by decide +kernel
theorem dX4_effect_151 : decode cX4_effect 151 = .ok (.aload_n 0, 1) := by decide +kernel
theorem dX4_effect_152 : decode cX4_effect 152 = .ok (.dup, 1) := by decide +kernel
theorem dX4_effect_153 : decode cX4_effect 153 = .ok (.getfield 56, 3) := by decide +kernel
theorem dX4_effect_156 : decode cX4_effect 156 = .ok (.iconst 1, 1) := by decide +kernel
theorem dX4_effect_157 : decode cX4_effect 157 = .ok (.iadd, 1) := by decide +kernel
theorem dX4_effect_158 : decode cX4_effect 158 = .ok (.putfield 56, 3) := by decide +kernel
theorem dX4_effect_161 : decode cX4_effect 161 = .ok (.iload 6, 2) := by decide +kernel
theorem dX4_effect_163 : decode cX4_effect 163 = .ok (.ireturn, 1) := by decide +kernel
theorem dX4_mostOf_0 : decode cX4_mostOf 0 = .ok (.iload_n 0, 1) := by decide +kernel
theorem dX4_mostOf_1 : decode cX4_mostOf 1 = .ok (.tableswitch 75 0 11 #[63, 66, 66, 75, 66, 75, 75, 75, 75, 70, 73, 66], 63) := by decide +kernel
theorem dX4_mostOf_64 : decode cX4_mostOf 64 = .ok (.ldc 67, 2) := by decide +kernel
theorem dX4_mostOf_66 : decode cX4_mostOf 66 = .ok (.ireturn, 1) := by decide +kernel
theorem dX4_mostOf_67 : decode cX4_mostOf 67 = .ok (.sipush 5000, 3) := by decide +kernel
theorem dX4_mostOf_70 : decode cX4_mostOf 70 = .ok (.ireturn, 1) := by decide +kernel
theorem dX4_mostOf_71 : decode cX4_mostOf 71 = .ok (.bipush 9, 2) := by decide +kernel
theorem dX4_mostOf_73 : decode cX4_mostOf 73 = .ok (.ireturn, 1) := by decide +kernel
theorem dX4_mostOf_74 : decode cX4_mostOf 74 = .ok (.iconst 3, 1) := by decide +kernel
theorem dX4_mostOf_75 : decode cX4_mostOf 75 = .ok (.ireturn, 1) := by decide +kernel
theorem dX4_mostOf_76 : decode cX4_mostOf 76 = .ok (.bipush 100, 2) := by decide +kernel
theorem dX4_mostOf_78 : decode cX4_mostOf 78 = .ok (.ireturn, 1) := by decide +kernel
theorem dX4_mayBeNumber_0 : decode cX4_mayBeNumber 0 = .ok (.iload_n 0, 1) := by decide +kernel
theorem dX4_mayBeNumber_1 : decode cX4_mayBeNumber 1 = .ok (.ifCond .eq 9, 3) := by decide +kernel
theorem dX4_mayBeNumber_4 : decode cX4_mayBeNumber 4 = .ok (.iload_n 0, 1) := by decide +kernel
theorem dX4_mayBeNumber_5 : decode cX4_mayBeNumber 5 = .ok (.bipush 10, 2) := by decide +kernel
theorem dX4_mayBeNumber_7 : decode cX4_mayBeNumber 7 = .ok (.if_icmp .ne 11, 3) := by decide +kernel
theorem dX4_mayBeNumber_10 : decode cX4_mayBeNumber 10 = .ok (.iload_n 1, 1) := by decide +kernel
theorem dX4_mayBeNumber_11 : decode cX4_mayBeNumber 11 = .ok (.bipush (-9), 2) := by decide +kernel
theorem dX4_mayBeNumber_13 : decode cX4_mayBeNumber 13 = .ok (.if_icmp .ne 5, 3) := by decide +kernel
theorem dX4_mayBeNumber_16 : decode cX4_mayBeNumber 16 = .ok (.iconst 1, 1) := by decide +kernel
theorem dX4_mayBeNumber_17 : decode cX4_mayBeNumber 17 = .ok (.ireturn, 1) := by decide +kernel
theorem dX4_mayBeNumber_18 : decode cX4_mayBeNumber 18 = .ok (.iload_n 0, 1) := by decide +kernel
theorem dX4_mayBeNumber_19 : decode cX4_mayBeNumber 19 = .ok (.ifCond .ne 7, 3) := by decide +kernel
theorem dX4_mayBeNumber_22 : decode cX4_mayBeNumber 22 = .ok (.iconst 1, 1) := by decide +kernel
theorem dX4_mayBeNumber_23 : decode cX4_mayBeNumber 23 = .ok (.goto 21, 3) := by decide +kernel
theorem dX4_mayBeNumber_26 : decode cX4_mayBeNumber 26 = .ok (.iload_n 0, 1) := by decide +kernel
theorem dX4_mayBeNumber_27 : decode cX4_mayBeNumber 27 = .ok (.bipush 6, 2) := by decide +kernel
theorem dX4_mayBeNumber_29 : decode cX4_mayBeNumber 29 = .ok (.if_icmp .eq 9, 3) := by decide +kernel
theorem dX4_mayBeNumber_32 : decode cX4_mayBeNumber 32 = .ok (.iload_n 0, 1) := by decide +kernel
theorem dX4_mayBeNumber_33 : decode cX4_mayBeNumber 33 = .ok (.bipush 7, 2) := by decide +kernel
theorem dX4_mayBeNumber_35 : decode cX4_mayBeNumber 35 = .ok (.if_icmp .ne 8, 3) := by decide +kernel
theorem dX4_mayBeNumber_38 : decode cX4_mayBeNumber 38 = .ok (.bipush (-100), 2) := by decide +kernel
theorem dX4_mayBeNumber_40 : decode cX4_mayBeNumber 40 = .ok (.goto 4, 3) := by decide +kernel
theorem dX4_mayBeNumber_43 : decode cX4_mayBeNumber 43 = .ok (.iconst 0, 1) := by decide +kernel
theorem dX4_mayBeNumber_44 : decode cX4_mayBeNumber 44 = .ok (.istore_n 2, 1) := by decide +kernel
theorem dX4_mayBeNumber_45 : decode cX4_mayBeNumber 45 = .ok (.iload_n 1, 1) := by decide +kernel
theorem dX4_mayBeNumber_46 : decode cX4_mayBeNumber 46 = .ok (.iload_n 2, 1) := by decide +kernel
theorem dX4_mayBeNumber_47 : decode cX4_mayBeNumber 47 = .ok (.iload_n 0, 1) := by decide +kernel
theorem dX4_mayBeNumber_48 : decode cX4_mayBeNumber 48 = .ok (.invokestatic 68, 3) := by decide +kernel
theorem dX4_mayBeNumber_51 : decode cX4_mayBeNumber 51 = .ok (.invokestatic 59, 3) := by decide +kernel
theorem dX4_mayBeNumber_54 : decode cX4_mayBeNumber 54 = .ok (.ireturn, 1) := by decide +kernel
theorem dX4_tellNumber_0 : decode cX4_tellNumber 0 = .ok (.aload_n 0, 1) := by decide +kernel
theorem dX4_tellNumber_1 : decode cX4_tellNumber 1 = .ok (.iload_n 1, 1) := by decide +kernel
theorem dX4_tellNumber_2 : decode cX4_tellNumber 2 = .ok (.iload_n 2, 1) := by decide +kernel
theorem dX4_tellNumber_3 : decode cX4_tellNumber 3 = .ok (.invokevirtual 72, 3) := by decide +kernel
theorem dX4_tellNumber_6 : decode cX4_tellNumber 6 = .ok (.iload_n 2, 1) := by decide +kernel
theorem dX4_tellNumber_7 : decode cX4_tellNumber 7 = .ok (.bipush 6, 2) := by decide +kernel
theorem dX4_tellNumber_9 : decode cX4_tellNumber 9 = .ok (.if_icmp .eq 9, 3) := by decide +kernel
theorem dX4_tellNumber_12 : decode cX4_tellNumber 12 = .ok (.iload_n 2, 1) := by decide +kernel
theorem dX4_tellNumber_13 : decode cX4_tellNumber 13 = .ok (.bipush 7, 2) := by decide +kernel
theorem dX4_tellNumber_15 : decode cX4_tellNumber 15 = .ok (.if_icmp .ne 9, 3) := by decide +kernel
theorem dX4_tellNumber_18 : decode cX4_tellNumber 18 = .ok (.sipush 10000, 3) := by decide +kernel
theorem dX4_tellNumber_21 : decode cX4_tellNumber 21 = .ok (.goto 4, 3) := by decide +kernel
theorem dX4_tellNumber_24 : decode cX4_tellNumber 24 = .ok (.iconst 0, 1) := by decide +kernel
theorem dX4_tellNumber_25 : decode cX4_tellNumber 25 = .ok (.iadd, 1) := by decide +kernel
theorem dX4_tellNumber_26 : decode cX4_tellNumber 26 = .ok (.ireturn, 1) := by decide +kernel
theorem dX4_set_0 : decode cX4_set 0 = .ok (.aload_n 0, 1) := by decide +kernel
theorem dX4_set_1 : decode cX4_set 1 = .ok (.iload_n 1, 1) := by decide +kernel
theorem dX4_set_2 : decode cX4_set 2 = .ok (.invokevirtual 76, 3) := by decide +kernel
theorem dX4_set_5 : decode cX4_set 5 = .ok (.ifCond .ne 5, 3) := by decide +kernel
theorem dX4_set_8 : decode cX4_set 8 = .ok (.iconst (-1), 1) := by decide +kernel
theorem dX4_set_9 : decode cX4_set 9 = .ok (.ireturn, 1) := by decide +kernel
theorem dX4_set_10 : decode cX4_set 10 = .ok (.iload_n 2, 1) := by decide +kernel
theorem dX4_set_11 : decode cX4_set 11 = .ok (.iconst 0, 1) := by decide +kernel
theorem dX4_set_12 : decode cX4_set 12 = .ok (.bipush 11, 2) := by decide +kernel
theorem dX4_set_14 : decode cX4_set 14 = .ok (.invokestatic 59, 3) := by decide +kernel
theorem dX4_set_17 : decode cX4_set 17 = .ok (.ifCond .eq 11, 3) := by decide +kernel
theorem dX4_set_20 : decode cX4_set 20 = .ok (.iload_n 2, 1) := by decide +kernel
theorem dX4_set_21 : decode cX4_set 21 = .ok (.iload_n 3, 1) := by decide +kernel
theorem dX4_set_22 : decode cX4_set 22 = .ok (.invokestatic 80, 3) := by decide +kernel
theorem dX4_set_25 : decode cX4_set 25 = .ok (.ifCond .ne 6, 3) := by decide +kernel
theorem dX4_set_28 : decode cX4_set 28 = .ok (.bipush (-2), 2) := by decide +kernel
theorem dX4_set_30 : decode cX4_set 30 = .ok (.ireturn, 1) := by decide +kernel
theorem dX4_set_31 : decode cX4_set 31 = .ok (.aload_n 0, 1) := by decide +kernel
theorem dX4_set_32 : decode cX4_set 32 = .ok (.iload_n 1, 1) := by decide +kernel
theorem dX4_set_33 : decode cX4_set 33 = .ok (.iload_n 2, 1) := by decide +kernel
theorem dX4_set_34 : decode cX4_set 34 = .ok (.invokevirtual 84, 3) := by decide +kernel
theorem dX4_set_37 : decode cX4_set 37 = .ok (.istore 4, 2) := by decide +kernel
theorem dX4_set_39 : decode cX4_set 39 = .ok (.aload_n 0, 1) := by decide +kernel
theorem dX4_set_40 : decode cX4_set 40 = .ok (.getfield 31, 3) := by decide +kernel
theorem dX4_set_43 : decode cX4_set 43 = .ok (.bipush 12, 2) := by decide +kernel
theorem dX4_set_45 : decode cX4_set 45 = .ok (.iload_n 1, 1) := by decide +kernel
theorem dX4_set_46 : decode cX4_set 46 = .ok (.imul, 1) := by decide +kernel
theorem dX4_set_47 : decode cX4_set 47 = .ok (.iload_n 2, 1) := by decide +kernel
theorem dX4_set_48 : decode cX4_set 48 = .ok (.iadd, 1) := by decide +kernel
theorem dX4_set_49 : decode cX4_set 49 = .ok (.iload_n 3, 1) := by decide +kernel
theorem dX4_set_50 : decode cX4_set 50 = .ok (.iastore, 1) := by decide +kernel
theorem dX4_set_51 : decode cX4_set 51 = .ok (.iload 4, 2) := by decide +kernel
theorem dX4_set_53 : decode cX4_set 53 = .ok (.ireturn, 1) := by decide +kernel
theorem dX4_drop_0 : decode cX4_drop 0 = .ok (.aload_n 0, 1) := by decide +kernel
theorem dX4_drop_1 : decode cX4_drop 1 = .ok (.getfield 56, 3) := by decide +kernel
theorem dX4_drop_4 : decode cX4_drop 4 = .ok (.ifCond .ne 6, 3) := by decide +kernel
theorem dX4_drop_7 : decode cX4_drop 7 = .ok (.bipush (-3), 2) := by decide +kernel
theorem dX4_drop_9 : decode cX4_drop 9 = .ok (.ireturn, 1) := by decide +kernel
theorem dX4_drop_10 : decode cX4_drop 10 = .ok (.aload_n 0, 1) := by decide +kernel
theorem dX4_drop_11 : decode cX4_drop 11 = .ok (.aload_n 0, 1) := by decide +kernel
theorem dX4_drop_12 : decode cX4_drop 12 = .ok (.getfield 56, 3) := by decide +kernel
theorem dX4_drop_15 : decode cX4_drop 15 = .ok (.iconst 1, 1) := by decide +kernel
theorem dX4_drop_16 : decode cX4_drop 16 = .ok (.isub, 1) := by decide +kernel
theorem dX4_drop_17 : decode cX4_drop 17 = .ok (.invokevirtual 87, 3) := by decide +kernel
theorem dX4_drop_20 : decode cX4_drop 20 = .ok (.aload_n 0, 1) := by decide +kernel
theorem dX4_drop_21 : decode cX4_drop 21 = .ok (.dup, 1) := by decide +kernel
theorem dX4_drop_22 : decode cX4_drop 22 = .ok (.getfield 56, 3) := by decide +kernel
theorem dX4_drop_25 : decode cX4_drop 25 = .ok (.iconst 1, 1) := by decide +kernel
theorem dX4_drop_26 : decode cX4_drop 26 = .ok (.isub, 1) := by decide +kernel
theorem dX4_drop_27 : decode cX4_drop 27 = .ok (.putfield 56, 3) := by decide +kernel
theorem dX4_drop_30 : decode cX4_drop 30 = .ok (.aload_n 0, 1) := by decide +kernel
theorem dX4_drop_31 : decode cX4_drop 31 = .ok (.getfield 56, 3) := by decide +kernel
theorem dX4_drop_34 : decode cX4_drop 34 = .ok (.ireturn, 1) := by decide +kernel
theorem dX4_moves_0 : decode cX4_moves 0 = .ok (.aload_n 0, 1) := by decide +kernel
theorem dX4_moves_1 : decode cX4_moves 1 = .ok (.getfield 91, 3) := by decide +kernel
theorem dX4_moves_4 : decode cX4_moves 4 = .ok (.aload_n 0, 1) := by decide +kernel
theorem dX4_moves_5 : decode cX4_moves 5 = .ok (.getfield 94, 3) := by decide +kernel
theorem dX4_moves_8 : decode cX4_moves 8 = .ok (.isub, 1) := by decide +kernel
theorem dX4_moves_9 : decode cX4_moves 9 = .ok (.istore_n 3, 1) := by decide +kernel
theorem dX4_moves_10 : decode cX4_moves 10 = .ok (.iload_n 3, 1) := by decide +kernel
theorem dX4_moves_11 : decode cX4_moves 11 = .ok (.ifCond .le 23, 3) := by decide +kernel
theorem dX4_moves_14 : decode cX4_moves 14 = .ok (.aload_n 0, 1) := by decide +kernel
theorem dX4_moves_15 : decode cX4_moves 15 = .ok (.getfield 13, 3) := by decide +kernel
theorem dX4_moves_18 : decode cX4_moves 18 = .ok (.iload_n 1, 1) := by decide +kernel
theorem dX4_moves_19 : decode cX4_moves 19 = .ok (.sipush 1000, 3) := by decide +kernel
theorem dX4_moves_22 : decode cX4_moves 22 = .ok (.iload_n 2, 1) := by decide +kernel
theorem dX4_moves_23 : decode cX4_moves 23 = .ok (.aload_n 0, 1) := by decide +kernel
theorem dX4_moves_24 : decode cX4_moves 24 = .ok (.getfield 7, 3) := by decide +kernel
theorem dX4_moves_27 : decode cX4_moves 27 = .ok (.iload_n 1, 1) := by decide +kernel
theorem dX4_moves_28 : decode cX4_moves 28 = .ok (.iaload, 1) := by decide +kernel
theorem dX4_moves_29 : decode cX4_moves 29 = .ok (.isub, 1) := by decide +kernel
theorem dX4_moves_30 : decode cX4_moves 30 = .ok (.imul, 1) := by decide +kernel
theorem dX4_moves_31 : decode cX4_moves 31 = .ok (.iload_n 3, 1) := by decide +kernel
theorem dX4_moves_32 : decode cX4_moves 32 = .ok (.idiv, 1) := by decide +kernel
theorem dX4_moves_33 : decode cX4_moves 33 = .ok (.iastore, 1) := by decide +kernel
theorem dX4_moves_34 : decode cX4_moves 34 = .ok (.aload_n 0, 1) := by decide +kernel
theorem dX4_moves_35 : decode cX4_moves 35 = .ok (.getfield 7, 3) := by decide +kernel
theorem dX4_moves_38 : decode cX4_moves 38 = .ok (.iload_n 1, 1) := by decide +kernel
theorem dX4_moves_39 : decode cX4_moves 39 = .ok (.iload_n 2, 1) := by decide +kernel
theorem dX4_moves_40 : decode cX4_moves 40 = .ok (.iastore, 1) := by decide +kernel
theorem dX4_moves_41 : decode cX4_moves 41 = .ok (.return_, 1) := by decide +kernel
theorem dX4_hand_0 : decode cX4_hand 0 = .ok (.iload_n 1, 1) := by decide +kernel
theorem dX4_hand_1 : decode cX4_hand 1 = .ok (.sipush (-1000), 3) := by decide +kernel
theorem dX4_hand_4 : decode cX4_hand 4 = .ok (.sipush 1000, 3) := by decide +kernel
theorem dX4_hand_7 : decode cX4_hand 7 = .ok (.invokestatic 59, 3) := by decide +kernel
theorem dX4_hand_10 : decode cX4_hand 10 = .ok (.ifCond .eq 16, 3) := by decide +kernel
theorem dX4_hand_13 : decode cX4_hand 13 = .ok (.iload_n 2, 1) := by decide +kernel
theorem dX4_hand_14 : decode cX4_hand 14 = .ok (.sipush (-1000), 3) := by decide +kernel
theorem dX4_hand_17 : decode cX4_hand 17 = .ok (.sipush 1000, 3) := by decide +kernel
theorem dX4_hand_20 : decode cX4_hand 20 = .ok (.invokestatic 59, 3) := by decide +kernel
theorem dX4_hand_23 : decode cX4_hand 23 = .ok (.ifCond .ne 6, 3) := by decide +kernel
theorem dX4_hand_26 : decode cX4_hand 26 = .ok (.bipush (-2), 2) := by decide +kernel
theorem dX4_hand_28 : decode cX4_hand 28 = .ok (.ireturn, 1) := by decide +kernel
theorem dX4_hand_29 : decode cX4_hand 29 = .ok (.aload_n 0, 1) := by decide +kernel
theorem dX4_hand_30 : decode cX4_hand 30 = .ok (.iconst 0, 1) := by decide +kernel
theorem dX4_hand_31 : decode cX4_hand 31 = .ok (.iload_n 1, 1) := by decide +kernel
theorem dX4_hand_32 : decode cX4_hand 32 = .ok (.invokevirtual 97, 3) := by decide +kernel
theorem dX4_hand_35 : decode cX4_hand 35 = .ok (.aload_n 0, 1) := by decide +kernel
theorem dX4_hand_36 : decode cX4_hand 36 = .ok (.iconst 1, 1) := by decide +kernel
theorem dX4_hand_37 : decode cX4_hand 37 = .ok (.iload_n 2, 1) := by decide +kernel
theorem dX4_hand_38 : decode cX4_hand 38 = .ok (.invokevirtual 97, 3) := by decide +kernel
theorem dX4_hand_41 : decode cX4_hand 41 = .ok (.aload_n 0, 1) := by decide +kernel
theorem dX4_hand_42 : decode cX4_hand 42 = .ok (.aload_n 0, 1) := by decide +kernel
theorem dX4_hand_43 : decode cX4_hand 43 = .ok (.getfield 91, 3) := by decide +kernel
theorem dX4_hand_46 : decode cX4_hand 46 = .ok (.putfield 94, 3) := by decide +kernel
theorem dX4_hand_49 : decode cX4_hand 49 = .ok (.iconst 1, 1) := by decide +kernel
theorem dX4_hand_50 : decode cX4_hand 50 = .ok (.ireturn, 1) := by decide +kernel
theorem dX4_ofAxis_0 : decode cX4_ofAxis 0 = .ok (.iload_n 1, 1) := by decide +kernel
theorem dX4_ofAxis_1 : decode cX4_ofAxis 1 = .ok (.invokestatic 101, 3) := by decide +kernel
theorem dX4_ofAxis_4 : decode cX4_ofAxis 4 = .ok (.ifCond .ne 5, 3) := by decide +kernel
theorem dX4_ofAxis_7 : decode cX4_ofAxis 7 = .ok (.iconst (-1), 1) := by decide +kernel
theorem dX4_ofAxis_8 : decode cX4_ofAxis 8 = .ok (.ireturn, 1) := by decide +kernel
theorem dX4_ofAxis_9 : decode cX4_ofAxis 9 = .ok (.iload_n 2, 1) := by decide +kernel
theorem dX4_ofAxis_10 : decode cX4_ofAxis 10 = .ok (.iconst 0, 1) := by decide +kernel
theorem dX4_ofAxis_11 : decode cX4_ofAxis 11 = .ok (.iconst 1, 1) := by decide +kernel
theorem dX4_ofAxis_12 : decode cX4_ofAxis 12 = .ok (.invokestatic 59, 3) := by decide +kernel
theorem dX4_ofAxis_15 : decode cX4_ofAxis 15 = .ok (.ifCond .ne 6, 3) := by decide +kernel
theorem dX4_ofAxis_18 : decode cX4_ofAxis 18 = .ok (.bipush (-2), 2) := by decide +kernel
theorem dX4_ofAxis_20 : decode cX4_ofAxis 20 = .ok (.ireturn, 1) := by decide +kernel
theorem dX4_ofAxis_21 : decode cX4_ofAxis 21 = .ok (.ldc 104, 2) := by decide +kernel
theorem dX4_ofAxis_23 : decode cX4_ofAxis 23 = .ok (.iload_n 2, 1) := by decide +kernel
theorem dX4_ofAxis_24 : decode cX4_ofAxis 24 = .ok (.ifCond .ne 12, 3) := by decide +kernel
theorem dX4_ofAxis_27 : decode cX4_ofAxis 27 = .ok (.aload_n 0, 1) := by decide +kernel
theorem dX4_ofAxis_28 : decode cX4_ofAxis 28 = .ok (.getfield 7, 3) := by decide +kernel
theorem dX4_ofAxis_31 : decode cX4_ofAxis 31 = .ok (.iload_n 1, 1) := by decide +kernel
theorem dX4_ofAxis_32 : decode cX4_ofAxis 32 = .ok (.iaload, 1) := by decide +kernel
theorem dX4_ofAxis_33 : decode cX4_ofAxis 33 = .ok (.goto 9, 3) := by decide +kernel
theorem dX4_ofAxis_36 : decode cX4_ofAxis 36 = .ok (.aload_n 0, 1) := by decide +kernel
theorem dX4_ofAxis_37 : decode cX4_ofAxis 37 = .ok (.getfield 13, 3) := by decide +kernel
theorem dX4_ofAxis_40 : decode cX4_ofAxis 40 = .ok (.iload_n 1, 1) := by decide +kernel
theorem dX4_ofAxis_41 : decode cX4_ofAxis 41 = .ok (.iaload, 1) := by decide +kernel
theorem dX4_ofAxis_42 : decode cX4_ofAxis 42 = .ok (.iadd, 1) := by decide +kernel
theorem dX4_ofAxis_43 : decode cX4_ofAxis 43 = .ok (.ireturn, 1) := by decide +kernel
theorem dX4_ofEffect_0 : decode cX4_ofEffect 0 = .ok (.aload_n 0, 1) := by decide +kernel
theorem dX4_ofEffect_1 : decode cX4_ofEffect 1 = .ok (.iload_n 1, 1) := by decide +kernel
theorem dX4_ofEffect_2 : decode cX4_ofEffect 2 = .ok (.invokevirtual 76, 3) := by decide +kernel
theorem dX4_ofEffect_5 : decode cX4_ofEffect 5 = .ok (.ifCond .ne 5, 3) := by decide +kernel
theorem dX4_ofEffect_8 : decode cX4_ofEffect 8 = .ok (.iconst (-1), 1) := by decide +kernel
theorem dX4_ofEffect_9 : decode cX4_ofEffect 9 = .ok (.ireturn, 1) := by decide +kernel
theorem dX4_ofEffect_10 : decode cX4_ofEffect 10 = .ok (.iload_n 2, 1) := by decide +kernel
theorem dX4_ofEffect_11 : decode cX4_ofEffect 11 = .ok (.bipush 10, 2) := by decide +kernel
theorem dX4_ofEffect_13 : decode cX4_ofEffect 13 = .ok (.bipush 21, 2) := by decide +kernel
theorem dX4_ofEffect_15 : decode cX4_ofEffect 15 = .ok (.invokestatic 59, 3) := by decide +kernel
theorem dX4_ofEffect_18 : decode cX4_ofEffect 18 = .ok (.ifCond .eq 13, 3) := by decide +kernel
theorem dX4_ofEffect_21 : decode cX4_ofEffect 21 = .ok (.aload_n 0, 1) := by decide +kernel
theorem dX4_ofEffect_22 : decode cX4_ofEffect 22 = .ok (.iload_n 1, 1) := by decide +kernel
theorem dX4_ofEffect_23 : decode cX4_ofEffect 23 = .ok (.iload_n 2, 1) := by decide +kernel
theorem dX4_ofEffect_24 : decode cX4_ofEffect 24 = .ok (.bipush 10, 2) := by decide +kernel
theorem dX4_ofEffect_26 : decode cX4_ofEffect 26 = .ok (.isub, 1) := by decide +kernel
theorem dX4_ofEffect_27 : decode cX4_ofEffect 27 = .ok (.invokevirtual 84, 3) := by decide +kernel
theorem dX4_ofEffect_30 : decode cX4_ofEffect 30 = .ok (.ireturn, 1) := by decide +kernel
theorem dX4_ofEffect_31 : decode cX4_ofEffect 31 = .ok (.iload_n 2, 1) := by decide +kernel
theorem dX4_ofEffect_32 : decode cX4_ofEffect 32 = .ok (.tableswitch 164 0 8 #[52, 59, 70, 81, 92, 103, 109, 133, 157], 52) := by decide +kernel
theorem dX4_ofEffect_84 : decode cX4_ofEffect 84 = .ok (.aload_n 0, 1) := by decide +kernel
theorem dX4_ofEffect_85 : decode cX4_ofEffect 85 = .ok (.getfield 16, 3) := by decide +kernel
theorem dX4_ofEffect_88 : decode cX4_ofEffect 88 = .ok (.iload_n 1, 1) := by decide +kernel
theorem dX4_ofEffect_89 : decode cX4_ofEffect 89 = .ok (.iaload, 1) := by decide +kernel
theorem dX4_ofEffect_90 : decode cX4_ofEffect 90 = .ok (.ireturn, 1) := by decide +kernel
theorem dX4_ofEffect_91 : decode cX4_ofEffect 91 = .ok (.aload_n 0, 1) := by decide +kernel
theorem dX4_ofEffect_92 : decode cX4_ofEffect 92 = .ok (.getfield 19, 3) := by decide +kernel
theorem dX4_ofEffect_95 : decode cX4_ofEffect 95 = .ok (.iload_n 1, 1) := by decide +kernel
theorem dX4_ofEffect_96 : decode cX4_ofEffect 96 = .ok (.iaload, 1) := by decide +kernel
theorem dX4_ofEffect_97 : decode cX4_ofEffect 97 = .ok (.sipush 10000, 3) := by decide +kernel
theorem dX4_ofEffect_100 : decode cX4_ofEffect 100 = .ok (.iadd, 1) := by decide +kernel
theorem dX4_ofEffect_101 : decode cX4_ofEffect 101 = .ok (.ireturn, 1) := by decide +kernel
theorem dX4_ofEffect_102 : decode cX4_ofEffect 102 = .ok (.aload_n 0, 1) := by decide +kernel
theorem dX4_ofEffect_103 : decode cX4_ofEffect 103 = .ok (.getfield 22, 3) := by decide +kernel
theorem dX4_ofEffect_106 : decode cX4_ofEffect 106 = .ok (.iload_n 1, 1) := by decide +kernel
theorem dX4_ofEffect_107 : decode cX4_ofEffect 107 = .ok (.iaload, 1) := by decide +kernel
theorem dX4_ofEffect_108 : decode cX4_ofEffect 108 = .ok (.sipush 10000, 3) := by decide +kernel
theorem dX4_ofEffect_111 : decode cX4_ofEffect 111 = .ok (.iadd, 1) := by decide +kernel
theorem dX4_ofEffect_112 : decode cX4_ofEffect 112 = .ok (.ireturn, 1) := by decide +kernel
theorem dX4_ofEffect_113 : decode cX4_ofEffect 113 = .ok (.aload_n 0, 1) := by decide +kernel
theorem dX4_ofEffect_114 : decode cX4_ofEffect 114 = .ok (.getfield 25, 3) := by decide +kernel
theorem dX4_ofEffect_117 : decode cX4_ofEffect 117 = .ok (.iload_n 1, 1) := by decide +kernel
theorem dX4_ofEffect_118 : decode cX4_ofEffect 118 = .ok (.iaload, 1) := by decide +kernel
theorem dX4_ofEffect_119 : decode cX4_ofEffect 119 = .ok (.sipush 10000, 3) := by decide +kernel
theorem dX4_ofEffect_122 : decode cX4_ofEffect 122 = .ok (.iadd, 1) := by decide +kernel
theorem dX4_ofEffect_123 : decode cX4_ofEffect 123 = .ok (.ireturn, 1) := by decide +kernel
theorem dX4_ofEffect_124 : decode cX4_ofEffect 124 = .ok (.aload_n 0, 1) := by decide +kernel
theorem dX4_ofEffect_125 : decode cX4_ofEffect 125 = .ok (.getfield 28, 3) := by decide +kernel
theorem dX4_ofEffect_128 : decode cX4_ofEffect 128 = .ok (.iload_n 1, 1) := by decide +kernel
theorem dX4_ofEffect_129 : decode cX4_ofEffect 129 = .ok (.iaload, 1) := by decide +kernel
theorem dX4_ofEffect_130 : decode cX4_ofEffect 130 = .ok (.sipush 10000, 3) := by decide +kernel
theorem dX4_ofEffect_133 : decode cX4_ofEffect 133 = .ok (.iadd, 1) := by decide +kernel
theorem dX4_ofEffect_134 : decode cX4_ofEffect 134 = .ok (.ireturn, 1) := by decide +kernel
theorem dX4_ofEffect_135 : decode cX4_ofEffect 135 = .ok (.aload_n 0, 1) := by decide +kernel
theorem dX4_ofEffect_136 : decode cX4_ofEffect 136 = .ok (.iload_n 1, 1) := by decide +kernel
theorem dX4_ofEffect_137 : decode cX4_ofEffect 137 = .ok (.invokevirtual 105, 3) := by decide +kernel
theorem dX4_ofEffect_140 : decode cX4_ofEffect 140 = .ok (.ireturn, 1) := by decide +kernel
theorem dX4_ofEffect_141 : decode cX4_ofEffect 141 = .ok (.aload_n 0, 1) := by decide +kernel
theorem dX4_ofEffect_142 : decode cX4_ofEffect 142 = .ok (.iload_n 1, 1) := by decide +kernel
theorem dX4_ofEffect_143 : decode cX4_ofEffect 143 = .ok (.aload_n 0, 1) := by decide +kernel
theorem dX4_ofEffect_144 : decode cX4_ofEffect 144 = .ok (.getfield 34, 3) := by decide +kernel
theorem dX4_ofEffect_147 : decode cX4_ofEffect 147 = .ok (.iload_n 1, 1) := by decide +kernel
theorem dX4_ofEffect_148 : decode cX4_ofEffect 148 = .ok (.iaload, 1) := by decide +kernel
theorem dX4_ofEffect_149 : decode cX4_ofEffect 149 = .ok (.aload_n 0, 1) := by decide +kernel
theorem dX4_ofEffect_150 : decode cX4_ofEffect 150 = .ok (.getfield 91, 3) := by decide +kernel
theorem dX4_ofEffect_153 : decode cX4_ofEffect 153 = .ok (.invokevirtual 108, 3) := by decide +kernel
theorem dX4_ofEffect_156 : decode cX4_ofEffect 156 = .ok (.ifCond .eq 7, 3) := by decide +kernel
theorem dX4_ofEffect_159 : decode cX4_ofEffect 159 = .ok (.iconst 1, 1) := by decide +kernel
theorem dX4_ofEffect_160 : decode cX4_ofEffect 160 = .ok (.goto 4, 3) := by decide +kernel
theorem dX4_ofEffect_163 : decode cX4_ofEffect 163 = .ok (.iconst 0, 1) := by decide +kernel
theorem dX4_ofEffect_164 : decode cX4_ofEffect 164 = .ok (.ireturn, 1) := by decide +kernel
theorem dX4_ofEffect_165 : decode cX4_ofEffect 165 = .ok (.aload_n 0, 1) := by decide +kernel
theorem dX4_ofEffect_166 : decode cX4_ofEffect 166 = .ok (.iload_n 1, 1) := by decide +kernel
theorem dX4_ofEffect_167 : decode cX4_ofEffect 167 = .ok (.aload_n 0, 1) := by decide +kernel
theorem dX4_ofEffect_168 : decode cX4_ofEffect 168 = .ok (.getfield 34, 3) := by decide +kernel
theorem dX4_ofEffect_171 : decode cX4_ofEffect 171 = .ok (.iload_n 1, 1) := by decide +kernel
theorem dX4_ofEffect_172 : decode cX4_ofEffect 172 = .ok (.iaload, 1) := by decide +kernel
theorem dX4_ofEffect_173 : decode cX4_ofEffect 173 = .ok (.aload_n 0, 1) := by decide +kernel
theorem dX4_ofEffect_174 : decode cX4_ofEffect 174 = .ok (.getfield 91, 3) := by decide +kernel
theorem dX4_ofEffect_177 : decode cX4_ofEffect 177 = .ok (.invokevirtual 111, 3) := by decide +kernel
theorem dX4_ofEffect_180 : decode cX4_ofEffect 180 = .ok (.ifCond .eq 7, 3) := by decide +kernel
theorem dX4_ofEffect_183 : decode cX4_ofEffect 183 = .ok (.iconst 1, 1) := by decide +kernel
theorem dX4_ofEffect_184 : decode cX4_ofEffect 184 = .ok (.goto 4, 3) := by decide +kernel
theorem dX4_ofEffect_187 : decode cX4_ofEffect 187 = .ok (.iconst 0, 1) := by decide +kernel
theorem dX4_ofEffect_188 : decode cX4_ofEffect 188 = .ok (.ireturn, 1) := by decide +kernel
theorem dX4_ofEffect_189 : decode cX4_ofEffect 189 = .ok (.aload_n 0, 1) := by decide +kernel
theorem dX4_ofEffect_190 : decode cX4_ofEffect 190 = .ok (.getfield 34, 3) := by decide +kernel
theorem dX4_ofEffect_193 : decode cX4_ofEffect 193 = .ok (.iload_n 1, 1) := by decide +kernel
theorem dX4_ofEffect_194 : decode cX4_ofEffect 194 = .ok (.iaload, 1) := by decide +kernel
theorem dX4_ofEffect_195 : decode cX4_ofEffect 195 = .ok (.ireturn, 1) := by decide +kernel
theorem dX4_ofEffect_196 : decode cX4_ofEffect 196 = .ok (.bipush (-2), 2) := by decide +kernel
theorem dX4_ofEffect_198 : decode cX4_ofEffect 198 = .ok (.ireturn, 1) := by decide +kernel
theorem dX4_slotOf_0 : decode cX4_slotOf 0 = .ok (.iconst 0, 1) := by decide +kernel
theorem dX4_slotOf_1 : decode cX4_slotOf 1 = .ok (.istore_n 2, 1) := by decide +kernel
theorem dX4_slotOf_2 : decode cX4_slotOf 2 = .ok (.iload_n 2, 1) := by decide +kernel
theorem dX4_slotOf_3 : decode cX4_slotOf 3 = .ok (.bipush 6, 2) := by decide +kernel
theorem dX4_slotOf_5 : decode cX4_slotOf 5 = .ok (.if_icmp .ge 21, 3) := by decide +kernel
theorem dX4_slotOf_8 : decode cX4_slotOf 8 = .ok (.aload_n 0, 1) := by decide +kernel
theorem dX4_slotOf_9 : decode cX4_slotOf 9 = .ok (.getfield 41, 3) := by decide +kernel
theorem dX4_slotOf_12 : decode cX4_slotOf 12 = .ok (.iload_n 2, 1) := by decide +kernel
theorem dX4_slotOf_13 : decode cX4_slotOf 13 = .ok (.iaload, 1) := by decide +kernel
theorem dX4_slotOf_14 : decode cX4_slotOf 14 = .ok (.iload_n 1, 1) := by decide +kernel
theorem dX4_slotOf_15 : decode cX4_slotOf 15 = .ok (.if_icmp .ne 5, 3) := by decide +kernel
theorem dX4_slotOf_18 : decode cX4_slotOf 18 = .ok (.iload_n 2, 1) := by decide +kernel
theorem dX4_slotOf_19 : decode cX4_slotOf 19 = .ok (.ireturn, 1) := by decide +kernel
theorem dX4_slotOf_20 : decode cX4_slotOf 20 = .ok (.iinc 2 1, 3) := by decide +kernel
theorem dX4_slotOf_23 : decode cX4_slotOf 23 = .ok (.goto (-21), 3) := by decide +kernel
theorem dX4_slotOf_26 : decode cX4_slotOf 26 = .ok (.bipush (-9), 2) := by decide +kernel
theorem dX4_slotOf_28 : decode cX4_slotOf 28 = .ok (.ireturn, 1) := by decide +kernel
theorem dX4_doesPlay_0 : decode cX4_doesPlay 0 = .ok (.aload_n 0, 1) := by decide +kernel
theorem dX4_doesPlay_1 : decode cX4_doesPlay 1 = .ok (.iload_n 1, 1) := by decide +kernel
theorem dX4_doesPlay_2 : decode cX4_doesPlay 2 = .ok (.iconst 0, 1) := by decide +kernel
theorem dX4_doesPlay_3 : decode cX4_doesPlay 3 = .ok (.invokevirtual 72, 3) := by decide +kernel
theorem dX4_doesPlay_6 : decode cX4_doesPlay 6 = .ok (.istore 4, 2) := by decide +kernel
theorem dX4_doesPlay_8 : decode cX4_doesPlay 8 = .ok (.iload_n 2, 1) := by decide +kernel
theorem dX4_doesPlay_9 : decode cX4_doesPlay 9 = .ok (.bipush (-9), 2) := by decide +kernel
theorem dX4_doesPlay_11 : decode cX4_doesPlay 11 = .ok (.if_icmp .eq 29, 3) := by decide +kernel
theorem dX4_doesPlay_14 : decode cX4_doesPlay 14 = .ok (.iload 4, 2) := by decide +kernel
theorem dX4_doesPlay_16 : decode cX4_doesPlay 16 = .ok (.bipush (-9), 2) := by decide +kernel
theorem dX4_doesPlay_18 : decode cX4_doesPlay 18 = .ok (.if_icmp .eq 18, 3) := by decide +kernel
theorem dX4_doesPlay_21 : decode cX4_doesPlay 21 = .ok (.iload_n 3, 1) := by decide +kernel
theorem dX4_doesPlay_22 : decode cX4_doesPlay 22 = .ok (.iload_n 2, 1) := by decide +kernel
theorem dX4_doesPlay_23 : decode cX4_doesPlay 23 = .ok (.aload_n 0, 1) := by decide +kernel
theorem dX4_doesPlay_24 : decode cX4_doesPlay 24 = .ok (.iload_n 1, 1) := by decide +kernel
theorem dX4_doesPlay_25 : decode cX4_doesPlay 25 = .ok (.iconst 1, 1) := by decide +kernel
theorem dX4_doesPlay_26 : decode cX4_doesPlay 26 = .ok (.invokevirtual 72, 3) := by decide +kernel
theorem dX4_doesPlay_29 : decode cX4_doesPlay 29 = .ok (.iadd, 1) := by decide +kernel
theorem dX4_doesPlay_30 : decode cX4_doesPlay 30 = .ok (.iload 4, 2) := by decide +kernel
theorem dX4_doesPlay_32 : decode cX4_doesPlay 32 = .ok (.iadd, 1) := by decide +kernel
theorem dX4_doesPlay_33 : decode cX4_doesPlay 33 = .ok (.if_icmp .ge 7, 3) := by decide +kernel
theorem dX4_doesPlay_36 : decode cX4_doesPlay 36 = .ok (.iconst 1, 1) := by decide +kernel
theorem dX4_doesPlay_37 : decode cX4_doesPlay 37 = .ok (.goto 4, 3) := by decide +kernel
theorem dX4_doesPlay_40 : decode cX4_doesPlay 40 = .ok (.iconst 0, 1) := by decide +kernel
theorem dX4_doesPlay_41 : decode cX4_doesPlay 41 = .ok (.ireturn, 1) := by decide +kernel
theorem dX4_isOn_0 : decode cX4_isOn 0 = .ok (.aload_n 0, 1) := by decide +kernel
theorem dX4_isOn_1 : decode cX4_isOn 1 = .ok (.iload_n 1, 1) := by decide +kernel
theorem dX4_isOn_2 : decode cX4_isOn 2 = .ok (.iload_n 2, 1) := by decide +kernel
theorem dX4_isOn_3 : decode cX4_isOn 3 = .ok (.iload_n 3, 1) := by decide +kernel
theorem dX4_isOn_4 : decode cX4_isOn 4 = .ok (.invokevirtual 108, 3) := by decide +kernel
theorem dX4_isOn_7 : decode cX4_isOn 7 = .ok (.ifCond .eq 19, 3) := by decide +kernel
theorem dX4_isOn_10 : decode cX4_isOn 10 = .ok (.iload_n 3, 1) := by decide +kernel
theorem dX4_isOn_11 : decode cX4_isOn 11 = .ok (.iload_n 2, 1) := by decide +kernel
theorem dX4_isOn_12 : decode cX4_isOn 12 = .ok (.aload_n 0, 1) := by decide +kernel
theorem dX4_isOn_13 : decode cX4_isOn 13 = .ok (.iload_n 1, 1) := by decide +kernel
theorem dX4_isOn_14 : decode cX4_isOn 14 = .ok (.iconst 1, 1) := by decide +kernel
theorem dX4_isOn_15 : decode cX4_isOn 15 = .ok (.invokevirtual 72, 3) := by decide +kernel
theorem dX4_isOn_18 : decode cX4_isOn 18 = .ok (.iadd, 1) := by decide +kernel
theorem dX4_isOn_19 : decode cX4_isOn 19 = .ok (.if_icmp .lt 7, 3) := by decide +kernel
theorem dX4_isOn_22 : decode cX4_isOn 22 = .ok (.iconst 1, 1) := by decide +kernel
theorem dX4_isOn_23 : decode cX4_isOn 23 = .ok (.goto 4, 3) := by decide +kernel
theorem dX4_isOn_26 : decode cX4_isOn 26 = .ok (.iconst 0, 1) := by decide +kernel
theorem dX4_isOn_27 : decode cX4_isOn 27 = .ok (.ireturn, 1) := by decide +kernel
theorem dX4_goes_0 : decode cX4_goes 0 = .ok (.aload_n 0, 1) := by decide +kernel
theorem dX4_goes_1 : decode cX4_goes 1 = .ok (.iload_n 1, 1) := by decide +kernel
theorem dX4_goes_2 : decode cX4_goes 2 = .ok (.invokevirtual 105, 3) := by decide +kernel
theorem dX4_goes_5 : decode cX4_goes 5 = .ok (.istore_n 2, 1) := by decide +kernel
theorem dX4_goes_6 : decode cX4_goes 6 = .ok (.iload_n 2, 1) := by decide +kernel
theorem dX4_goes_7 : decode cX4_goes 7 = .ok (.bipush (-9), 2) := by decide +kernel
theorem dX4_goes_9 : decode cX4_goes 9 = .ok (.if_icmp .eq 11, 3) := by decide +kernel
theorem dX4_goes_12 : decode cX4_goes 12 = .ok (.aload_n 0, 1) := by decide +kernel
theorem dX4_goes_13 : decode cX4_goes 13 = .ok (.getfield 41, 3) := by decide +kernel
theorem dX4_goes_16 : decode cX4_goes 16 = .ok (.iload_n 2, 1) := by decide +kernel
theorem dX4_goes_17 : decode cX4_goes 17 = .ok (.bipush (-9), 2) := by decide +kernel
theorem dX4_goes_19 : decode cX4_goes 19 = .ok (.iastore, 1) := by decide +kernel
theorem dX4_goes_20 : decode cX4_goes 20 = .ok (.aload_n 0, 1) := by decide +kernel
theorem dX4_goes_21 : decode cX4_goes 21 = .ok (.getfield 34, 3) := by decide +kernel
theorem dX4_goes_24 : decode cX4_goes 24 = .ok (.iload_n 1, 1) := by decide +kernel
theorem dX4_goes_25 : decode cX4_goes 25 = .ok (.bipush (-9), 2) := by decide +kernel
theorem dX4_goes_27 : decode cX4_goes 27 = .ok (.iastore, 1) := by decide +kernel
theorem dX4_goes_28 : decode cX4_goes 28 = .ok (.iconst 0, 1) := by decide +kernel
theorem dX4_goes_29 : decode cX4_goes 29 = .ok (.istore_n 3, 1) := by decide +kernel
theorem dX4_goes_30 : decode cX4_goes 30 = .ok (.iload_n 3, 1) := by decide +kernel
theorem dX4_goes_31 : decode cX4_goes 31 = .ok (.iconst 4, 1) := by decide +kernel
theorem dX4_goes_32 : decode cX4_goes 32 = .ok (.if_icmp .ge 21, 3) := by decide +kernel
theorem dX4_goes_35 : decode cX4_goes 35 = .ok (.aload_n 0, 1) := by decide +kernel
theorem dX4_goes_36 : decode cX4_goes 36 = .ok (.getfield 47, 3) := by decide +kernel
theorem dX4_goes_39 : decode cX4_goes 39 = .ok (.bipush 12, 2) := by decide +kernel
theorem dX4_goes_41 : decode cX4_goes 41 = .ok (.iload_n 3, 1) := by decide +kernel
theorem dX4_goes_42 : decode cX4_goes 42 = .ok (.imul, 1) := by decide +kernel
theorem dX4_goes_43 : decode cX4_goes 43 = .ok (.iload_n 1, 1) := by decide +kernel
theorem dX4_goes_44 : decode cX4_goes 44 = .ok (.iadd, 1) := by decide +kernel
theorem dX4_goes_45 : decode cX4_goes 45 = .ok (.iconst 0, 1) := by decide +kernel
theorem dX4_goes_46 : decode cX4_goes 46 = .ok (.iastore, 1) := by decide +kernel
theorem dX4_goes_47 : decode cX4_goes 47 = .ok (.iinc 3 1, 3) := by decide +kernel
theorem dX4_goes_50 : decode cX4_goes 50 = .ok (.goto (-20), 3) := by decide +kernel
theorem dX4_goes_53 : decode cX4_goes 53 = .ok (.return_, 1) := by decide +kernel
theorem dX4_slots_0 : decode cX4_slots 0 = .ok (.iload_n 1, 1) := by decide +kernel
theorem dX4_slots_1 : decode cX4_slots 1 = .ok (.iconst 1, 1) := by decide +kernel
theorem dX4_slots_2 : decode cX4_slots 2 = .ok (.bipush 6, 2) := by decide +kernel
theorem dX4_slots_4 : decode cX4_slots 4 = .ok (.invokestatic 59, 3) := by decide +kernel
theorem dX4_slots_7 : decode cX4_slots 7 = .ok (.ifCond .ne 6, 3) := by decide +kernel
theorem dX4_slots_10 : decode cX4_slots 10 = .ok (.bipush (-2), 2) := by decide +kernel
theorem dX4_slots_12 : decode cX4_slots 12 = .ok (.ireturn, 1) := by decide +kernel
theorem dX4_slots_13 : decode cX4_slots 13 = .ok (.iload_n 1, 1) := by decide +kernel
theorem dX4_slots_14 : decode cX4_slots 14 = .ok (.istore_n 2, 1) := by decide +kernel
theorem dX4_slots_15 : decode cX4_slots 15 = .ok (.iload_n 2, 1) := by decide +kernel
theorem dX4_slots_16 : decode cX4_slots 16 = .ok (.bipush 6, 2) := by decide +kernel
theorem dX4_slots_18 : decode cX4_slots 18 = .ok (.if_icmp .ge 23, 3) := by decide +kernel
theorem dX4_slots_21 : decode cX4_slots 21 = .ok (.aload_n 0, 1) := by decide +kernel
theorem dX4_slots_22 : decode cX4_slots 22 = .ok (.getfield 41, 3) := by decide +kernel
theorem dX4_slots_25 : decode cX4_slots 25 = .ok (.iload_n 2, 1) := by decide +kernel
theorem dX4_slots_26 : decode cX4_slots 26 = .ok (.iaload, 1) := by decide +kernel
theorem dX4_slots_27 : decode cX4_slots 27 = .ok (.bipush (-9), 2) := by decide +kernel
theorem dX4_slots_29 : decode cX4_slots 29 = .ok (.if_icmp .eq 6, 3) := by decide +kernel
theorem dX4_slots_32 : decode cX4_slots 32 = .ok (.bipush (-3), 2) := by decide +kernel
theorem dX4_slots_34 : decode cX4_slots 34 = .ok (.ireturn, 1) := by decide +kernel
theorem dX4_slots_35 : decode cX4_slots 35 = .ok (.iinc 2 1, 3) := by decide +kernel
theorem dX4_slots_38 : decode cX4_slots 38 = .ok (.goto (-23), 3) := by decide +kernel
theorem dX4_slots_41 : decode cX4_slots 41 = .ok (.aload_n 0, 1) := by decide +kernel
theorem dX4_slots_42 : decode cX4_slots 42 = .ok (.getfield 37, 3) := by decide +kernel
theorem dX4_slots_45 : decode cX4_slots 45 = .ok (.istore_n 2, 1) := by decide +kernel
theorem dX4_slots_46 : decode cX4_slots 46 = .ok (.aload_n 0, 1) := by decide +kernel
theorem dX4_slots_47 : decode cX4_slots 47 = .ok (.iload_n 1, 1) := by decide +kernel
theorem dX4_slots_48 : decode cX4_slots 48 = .ok (.putfield 37, 3) := by decide +kernel
theorem dX4_slots_51 : decode cX4_slots 51 = .ok (.iload_n 2, 1) := by decide +kernel
theorem dX4_slots_52 : decode cX4_slots 52 = .ok (.ireturn, 1) := by decide +kernel
theorem dX4_slot_0 : decode cX4_slot 0 = .ok (.iload_n 1, 1) := by decide +kernel
theorem dX4_slot_1 : decode cX4_slot 1 = .ok (.iconst 0, 1) := by decide +kernel
theorem dX4_slot_2 : decode cX4_slot 2 = .ok (.aload_n 0, 1) := by decide +kernel
theorem dX4_slot_3 : decode cX4_slot 3 = .ok (.getfield 37, 3) := by decide +kernel
theorem dX4_slot_6 : decode cX4_slot 6 = .ok (.iconst 1, 1) := by decide +kernel
theorem dX4_slot_7 : decode cX4_slot 7 = .ok (.isub, 1) := by decide +kernel
theorem dX4_slot_8 : decode cX4_slot 8 = .ok (.invokestatic 59, 3) := by decide +kernel
theorem dX4_slot_11 : decode cX4_slot 11 = .ok (.ifCond .eq 12, 3) := by decide +kernel
theorem dX4_slot_14 : decode cX4_slot 14 = .ok (.aload_n 0, 1) := by decide +kernel
theorem dX4_slot_15 : decode cX4_slot 15 = .ok (.getfield 41, 3) := by decide +kernel
theorem dX4_slot_18 : decode cX4_slot 18 = .ok (.iload_n 1, 1) := by decide +kernel
theorem dX4_slot_19 : decode cX4_slot 19 = .ok (.iaload, 1) := by decide +kernel
theorem dX4_slot_20 : decode cX4_slot 20 = .ok (.goto 4, 3) := by decide +kernel
theorem dX4_slot_23 : decode cX4_slot 23 = .ok (.iconst (-1), 1) := by decide +kernel
theorem dX4_slot_24 : decode cX4_slot 24 = .ok (.ireturn, 1) := by decide +kernel
theorem dX4_freeSlot_0 : decode cX4_freeSlot 0 = .ok (.iconst 0, 1) := by decide +kernel
theorem dX4_freeSlot_1 : decode cX4_freeSlot 1 = .ok (.istore_n 1, 1) := by decide +kernel
theorem dX4_freeSlot_2 : decode cX4_freeSlot 2 = .ok (.iload_n 1, 1) := by decide +kernel
theorem dX4_freeSlot_3 : decode cX4_freeSlot 3 = .ok (.aload_n 0, 1) := by decide +kernel
theorem dX4_freeSlot_4 : decode cX4_freeSlot 4 = .ok (.getfield 37, 3) := by decide +kernel
theorem dX4_freeSlot_7 : decode cX4_freeSlot 7 = .ok (.if_icmp .ge 22, 3) := by decide +kernel
theorem dX4_freeSlot_10 : decode cX4_freeSlot 10 = .ok (.aload_n 0, 1) := by decide +kernel
theorem dX4_freeSlot_11 : decode cX4_freeSlot 11 = .ok (.getfield 41, 3) := by decide +kernel
theorem dX4_freeSlot_14 : decode cX4_freeSlot 14 = .ok (.iload_n 1, 1) := by decide +kernel
theorem dX4_freeSlot_15 : decode cX4_freeSlot 15 = .ok (.iaload, 1) := by decide +kernel
theorem dX4_freeSlot_16 : decode cX4_freeSlot 16 = .ok (.bipush (-9), 2) := by decide +kernel
theorem dX4_freeSlot_18 : decode cX4_freeSlot 18 = .ok (.if_icmp .ne 5, 3) := by decide +kernel
theorem dX4_freeSlot_21 : decode cX4_freeSlot 21 = .ok (.iload_n 1, 1) := by decide +kernel
theorem dX4_freeSlot_22 : decode cX4_freeSlot 22 = .ok (.ireturn, 1) := by decide +kernel
theorem dX4_freeSlot_23 : decode cX4_freeSlot 23 = .ok (.iinc 1 1, 3) := by decide +kernel
theorem dX4_freeSlot_26 : decode cX4_freeSlot 26 = .ok (.goto (-24), 3) := by decide +kernel
theorem dX4_freeSlot_29 : decode cX4_freeSlot 29 = .ok (.bipush (-9), 2) := by decide +kernel
theorem dX4_freeSlot_31 : decode cX4_freeSlot 31 = .ok (.ireturn, 1) := by decide +kernel
theorem dX4_firstToGo_0 : decode cX4_firstToGo 0 = .ok (.bipush (-9), 2) := by decide +kernel
theorem dX4_firstToGo_2 : decode cX4_firstToGo 2 = .ok (.istore_n 3, 1) := by decide +kernel
theorem dX4_firstToGo_3 : decode cX4_firstToGo 3 = .ok (.iconst 0, 1) := by decide +kernel
theorem dX4_firstToGo_4 : decode cX4_firstToGo 4 = .ok (.istore 4, 2) := by decide +kernel
theorem dX4_firstToGo_6 : decode cX4_firstToGo 6 = .ok (.iload 4, 2) := by decide +kernel
theorem dX4_firstToGo_8 : decode cX4_firstToGo 8 = .ok (.aload_n 0, 1) := by decide +kernel
theorem dX4_firstToGo_9 : decode cX4_firstToGo 9 = .ok (.getfield 56, 3) := by decide +kernel
theorem dX4_firstToGo_12 : decode cX4_firstToGo 12 = .ok (.if_icmp .ge 92, 3) := by decide +kernel
theorem dX4_firstToGo_15 : decode cX4_firstToGo 15 = .ok (.aload_n 0, 1) := by decide +kernel
theorem dX4_firstToGo_16 : decode cX4_firstToGo 16 = .ok (.iload 4, 2) := by decide +kernel
theorem dX4_firstToGo_18 : decode cX4_firstToGo 18 = .ok (.invokevirtual 105, 3) := by decide +kernel
theorem dX4_firstToGo_21 : decode cX4_firstToGo 21 = .ok (.bipush (-9), 2) := by decide +kernel
theorem dX4_firstToGo_23 : decode cX4_firstToGo 23 = .ok (.if_icmp .eq 40, 3) := by decide +kernel
theorem dX4_firstToGo_26 : decode cX4_firstToGo 26 = .ok (.aload_n 0, 1) := by decide +kernel
theorem dX4_firstToGo_27 : decode cX4_firstToGo 27 = .ok (.iload 4, 2) := by decide +kernel
theorem dX4_firstToGo_29 : decode cX4_firstToGo 29 = .ok (.aload_n 0, 1) := by decide +kernel
theorem dX4_firstToGo_30 : decode cX4_firstToGo 30 = .ok (.getfield 34, 3) := by decide +kernel
theorem dX4_firstToGo_33 : decode cX4_firstToGo 33 = .ok (.iload 4, 2) := by decide +kernel
theorem dX4_firstToGo_35 : decode cX4_firstToGo 35 = .ok (.iaload, 1) := by decide +kernel
theorem dX4_firstToGo_36 : decode cX4_firstToGo 36 = .ok (.aload_n 0, 1) := by decide +kernel
theorem dX4_firstToGo_37 : decode cX4_firstToGo 37 = .ok (.getfield 91, 3) := by decide +kernel
theorem dX4_firstToGo_40 : decode cX4_firstToGo 40 = .ok (.invokevirtual 108, 3) := by decide +kernel
theorem dX4_firstToGo_43 : decode cX4_firstToGo 43 = .ok (.iload_n 1, 1) := by decide +kernel
theorem dX4_firstToGo_44 : decode cX4_firstToGo 44 = .ok (.if_icmp .ne 19, 3) := by decide +kernel
theorem dX4_firstToGo_47 : decode cX4_firstToGo 47 = .ok (.aload_n 0, 1) := by decide +kernel
theorem dX4_firstToGo_48 : decode cX4_firstToGo 48 = .ok (.iload 4, 2) := by decide +kernel
theorem dX4_firstToGo_50 : decode cX4_firstToGo 50 = .ok (.bipush 9, 2) := by decide +kernel
theorem dX4_firstToGo_52 : decode cX4_firstToGo 52 = .ok (.invokevirtual 72, 3) := by decide +kernel
theorem dX4_firstToGo_55 : decode cX4_firstToGo 55 = .ok (.iload_n 2, 1) := by decide +kernel
theorem dX4_firstToGo_56 : decode cX4_firstToGo 56 = .ok (.if_icmp .ge 7, 3) := by decide +kernel
theorem dX4_firstToGo_59 : decode cX4_firstToGo 59 = .ok (.iconst 1, 1) := by decide +kernel
theorem dX4_firstToGo_60 : decode cX4_firstToGo 60 = .ok (.goto 4, 3) := by decide +kernel
theorem dX4_firstToGo_63 : decode cX4_firstToGo 63 = .ok (.iconst 0, 1) := by decide +kernel
theorem dX4_firstToGo_64 : decode cX4_firstToGo 64 = .ok (.istore 5, 2) := by decide +kernel
theorem dX4_firstToGo_66 : decode cX4_firstToGo 66 = .ok (.iload 5, 2) := by decide +kernel
theorem dX4_firstToGo_68 : decode cX4_firstToGo 68 = .ok (.ifCond .eq 30, 3) := by decide +kernel
theorem dX4_firstToGo_71 : decode cX4_firstToGo 71 = .ok (.iload_n 3, 1) := by decide +kernel
theorem dX4_firstToGo_72 : decode cX4_firstToGo 72 = .ok (.bipush (-9), 2) := by decide +kernel
theorem dX4_firstToGo_74 : decode cX4_firstToGo 74 = .ok (.if_icmp .eq 21, 3) := by decide +kernel
theorem dX4_firstToGo_77 : decode cX4_firstToGo 77 = .ok (.aload_n 0, 1) := by decide +kernel
theorem dX4_firstToGo_78 : decode cX4_firstToGo 78 = .ok (.iload 4, 2) := by decide +kernel
theorem dX4_firstToGo_80 : decode cX4_firstToGo 80 = .ok (.bipush 9, 2) := by decide +kernel
theorem dX4_firstToGo_82 : decode cX4_firstToGo 82 = .ok (.invokevirtual 72, 3) := by decide +kernel
theorem dX4_firstToGo_85 : decode cX4_firstToGo 85 = .ok (.aload_n 0, 1) := by decide +kernel
theorem dX4_firstToGo_86 : decode cX4_firstToGo 86 = .ok (.iload_n 3, 1) := by decide +kernel
theorem dX4_firstToGo_87 : decode cX4_firstToGo 87 = .ok (.bipush 9, 2) := by decide +kernel
theorem dX4_firstToGo_89 : decode cX4_firstToGo 89 = .ok (.invokevirtual 72, 3) := by decide +kernel
theorem dX4_firstToGo_92 : decode cX4_firstToGo 92 = .ok (.if_icmp .ge 6, 3) := by decide +kernel
theorem dX4_firstToGo_95 : decode cX4_firstToGo 95 = .ok (.iload 4, 2) := by decide +kernel
theorem dX4_firstToGo_97 : decode cX4_firstToGo 97 = .ok (.istore_n 3, 1) := by decide +kernel
theorem dX4_firstToGo_98 : decode cX4_firstToGo 98 = .ok (.iinc 4 1, 3) := by decide +kernel
theorem dX4_firstToGo_101 : decode cX4_firstToGo 101 = .ok (.goto (-95), 3) := by decide +kernel
theorem dX4_firstToGo_104 : decode cX4_firstToGo 104 = .ok (.iload_n 3, 1) := by decide +kernel
theorem dX4_firstToGo_105 : decode cX4_firstToGo 105 = .ok (.ireturn, 1) := by decide +kernel
theorem dX4_loads_0 : decode cX4_loads 0 = .ok (.aload_n 0, 1) := by decide +kernel
theorem dX4_loads_1 : decode cX4_loads 1 = .ok (.iload_n 1, 1) := by decide +kernel
theorem dX4_loads_2 : decode cX4_loads 2 = .ok (.invokevirtual 105, 3) := by decide +kernel
theorem dX4_loads_5 : decode cX4_loads 5 = .ok (.istore_n 2, 1) := by decide +kernel
theorem dX4_loads_6 : decode cX4_loads 6 = .ok (.iload_n 2, 1) := by decide +kernel
theorem dX4_loads_7 : decode cX4_loads 7 = .ok (.bipush (-9), 2) := by decide +kernel
theorem dX4_loads_9 : decode cX4_loads 9 = .ok (.if_icmp .eq 5, 3) := by decide +kernel
theorem dX4_loads_12 : decode cX4_loads 12 = .ok (.iload_n 2, 1) := by decide +kernel
theorem dX4_loads_13 : decode cX4_loads 13 = .ok (.ireturn, 1) := by decide +kernel
theorem dX4_loads_14 : decode cX4_loads 14 = .ok (.aload_n 0, 1) := by decide +kernel
theorem dX4_loads_15 : decode cX4_loads 15 = .ok (.invokevirtual 114, 3) := by decide +kernel
theorem dX4_loads_18 : decode cX4_loads 18 = .ok (.bipush (-9), 2) := by decide +kernel
theorem dX4_loads_20 : decode cX4_loads 20 = .ok (.if_icmp .ne 51, 3) := by decide +kernel
theorem dX4_loads_23 : decode cX4_loads 23 = .ok (.aload_n 0, 1) := by decide +kernel
theorem dX4_loads_24 : decode cX4_loads 24 = .ok (.iconst 0, 1) := by decide +kernel
theorem dX4_loads_25 : decode cX4_loads 25 = .ok (.bipush 10, 2) := by decide +kernel
theorem dX4_loads_27 : decode cX4_loads 27 = .ok (.invokevirtual 118, 3) := by decide +kernel
theorem dX4_loads_30 : decode cX4_loads 30 = .ok (.istore_n 3, 1) := by decide +kernel
theorem dX4_loads_31 : decode cX4_loads 31 = .ok (.iload_n 3, 1) := by decide +kernel
theorem dX4_loads_32 : decode cX4_loads 32 = .ok (.bipush (-9), 2) := by decide +kernel
theorem dX4_loads_34 : decode cX4_loads 34 = .ok (.if_icmp .eq 7, 3) := by decide +kernel
theorem dX4_loads_37 : decode cX4_loads 37 = .ok (.iload_n 3, 1) := by decide +kernel
theorem dX4_loads_38 : decode cX4_loads 38 = .ok (.goto 15, 3) := by decide +kernel
theorem dX4_loads_41 : decode cX4_loads 41 = .ok (.aload_n 0, 1) := by decide +kernel
theorem dX4_loads_42 : decode cX4_loads 42 = .ok (.iconst 1, 1) := by decide +kernel
theorem dX4_loads_43 : decode cX4_loads 43 = .ok (.aload_n 0, 1) := by decide +kernel
theorem dX4_loads_44 : decode cX4_loads 44 = .ok (.iload_n 1, 1) := by decide +kernel
theorem dX4_loads_45 : decode cX4_loads 45 = .ok (.bipush 9, 2) := by decide +kernel
theorem dX4_loads_47 : decode cX4_loads 47 = .ok (.invokevirtual 72, 3) := by decide +kernel
theorem dX4_loads_50 : decode cX4_loads 50 = .ok (.invokevirtual 118, 3) := by decide +kernel
theorem dX4_loads_53 : decode cX4_loads 53 = .ok (.istore 4, 2) := by decide +kernel
theorem dX4_loads_55 : decode cX4_loads 55 = .ok (.iload 4, 2) := by decide +kernel
theorem dX4_loads_57 : decode cX4_loads 57 = .ok (.bipush (-9), 2) := by decide +kernel
theorem dX4_loads_59 : decode cX4_loads 59 = .ok (.if_icmp .ne 6, 3) := by decide +kernel
theorem dX4_loads_62 : decode cX4_loads 62 = .ok (.bipush (-9), 2) := by decide +kernel
theorem dX4_loads_64 : decode cX4_loads 64 = .ok (.ireturn, 1) := by decide +kernel
theorem dX4_loads_65 : decode cX4_loads 65 = .ok (.aload_n 0, 1) := by decide +kernel
theorem dX4_loads_66 : decode cX4_loads 66 = .ok (.iload 4, 2) := by decide +kernel
theorem dX4_loads_68 : decode cX4_loads 68 = .ok (.invokevirtual 87, 3) := by decide +kernel
theorem dX4_loads_71 : decode cX4_loads 71 = .ok (.aload_n 0, 1) := by decide +kernel
theorem dX4_loads_72 : decode cX4_loads 72 = .ok (.invokevirtual 114, 3) := by decide +kernel
theorem dX4_loads_75 : decode cX4_loads 75 = .ok (.istore_n 2, 1) := by decide +kernel
theorem dX4_loads_76 : decode cX4_loads 76 = .ok (.aload_n 0, 1) := by decide +kernel
theorem dX4_loads_77 : decode cX4_loads 77 = .ok (.getfield 41, 3) := by decide +kernel
theorem dX4_loads_80 : decode cX4_loads 80 = .ok (.iload_n 2, 1) := by decide +kernel
theorem dX4_loads_81 : decode cX4_loads 81 = .ok (.iload_n 1, 1) := by decide +kernel
theorem dX4_loads_82 : decode cX4_loads 82 = .ok (.iastore, 1) := by decide +kernel
theorem dX4_loads_83 : decode cX4_loads 83 = .ok (.iload_n 2, 1) := by decide +kernel
theorem dX4_loads_84 : decode cX4_loads 84 = .ok (.ireturn, 1) := by decide +kernel
theorem dX4_load_0 : decode cX4_load 0 = .ok (.aload_n 0, 1) := by decide +kernel
theorem dX4_load_1 : decode cX4_load 1 = .ok (.iload_n 1, 1) := by decide +kernel
theorem dX4_load_2 : decode cX4_load 2 = .ok (.invokevirtual 76, 3) := by decide +kernel
theorem dX4_load_5 : decode cX4_load 5 = .ok (.ifCond .ne 5, 3) := by decide +kernel
theorem dX4_load_8 : decode cX4_load 8 = .ok (.iconst (-1), 1) := by decide +kernel
theorem dX4_load_9 : decode cX4_load 9 = .ok (.ireturn, 1) := by decide +kernel
theorem dX4_load_10 : decode cX4_load 10 = .ok (.aload_n 0, 1) := by decide +kernel
theorem dX4_load_11 : decode cX4_load 11 = .ok (.iload_n 1, 1) := by decide +kernel
theorem dX4_load_12 : decode cX4_load 12 = .ok (.invokevirtual 122, 3) := by decide +kernel
theorem dX4_load_15 : decode cX4_load 15 = .ok (.istore_n 2, 1) := by decide +kernel
theorem dX4_load_16 : decode cX4_load 16 = .ok (.iload_n 2, 1) := by decide +kernel
theorem dX4_load_17 : decode cX4_load 17 = .ok (.bipush (-9), 2) := by decide +kernel
theorem dX4_load_19 : decode cX4_load 19 = .ok (.if_icmp .ne 8, 3) := by decide +kernel
theorem dX4_load_22 : decode cX4_load 22 = .ok (.bipush (-4), 2) := by decide +kernel
theorem dX4_load_24 : decode cX4_load 24 = .ok (.goto 4, 3) := by decide +kernel
theorem dX4_load_27 : decode cX4_load 27 = .ok (.iload_n 2, 1) := by decide +kernel
theorem dX4_load_28 : decode cX4_load 28 = .ok (.ireturn, 1) := by decide +kernel
theorem dX4_unload_0 : decode cX4_unload 0 = .ok (.aload_n 0, 1) := by decide +kernel
theorem dX4_unload_1 : decode cX4_unload 1 = .ok (.iload_n 1, 1) := by decide +kernel
theorem dX4_unload_2 : decode cX4_unload 2 = .ok (.invokevirtual 76, 3) := by decide +kernel
theorem dX4_unload_5 : decode cX4_unload 5 = .ok (.ifCond .ne 5, 3) := by decide +kernel
theorem dX4_unload_8 : decode cX4_unload 8 = .ok (.iconst (-1), 1) := by decide +kernel
theorem dX4_unload_9 : decode cX4_unload 9 = .ok (.ireturn, 1) := by decide +kernel
theorem dX4_unload_10 : decode cX4_unload 10 = .ok (.aload_n 0, 1) := by decide +kernel
theorem dX4_unload_11 : decode cX4_unload 11 = .ok (.iload_n 1, 1) := by decide +kernel
theorem dX4_unload_12 : decode cX4_unload 12 = .ok (.invokevirtual 105, 3) := by decide +kernel
theorem dX4_unload_15 : decode cX4_unload 15 = .ok (.istore_n 2, 1) := by decide +kernel
theorem dX4_unload_16 : decode cX4_unload 16 = .ok (.iload_n 2, 1) := by decide +kernel
theorem dX4_unload_17 : decode cX4_unload 17 = .ok (.bipush (-9), 2) := by decide +kernel
theorem dX4_unload_19 : decode cX4_unload 19 = .ok (.if_icmp .ne 6, 3) := by decide +kernel
theorem dX4_unload_22 : decode cX4_unload 22 = .ok (.bipush (-3), 2) := by decide +kernel
theorem dX4_unload_24 : decode cX4_unload 24 = .ok (.ireturn, 1) := by decide +kernel
theorem dX4_unload_25 : decode cX4_unload 25 = .ok (.aload_n 0, 1) := by decide +kernel
theorem dX4_unload_26 : decode cX4_unload 26 = .ok (.iload_n 1, 1) := by decide +kernel
theorem dX4_unload_27 : decode cX4_unload 27 = .ok (.invokevirtual 87, 3) := by decide +kernel
theorem dX4_unload_30 : decode cX4_unload 30 = .ok (.iload_n 2, 1) := by decide +kernel
theorem dX4_unload_31 : decode cX4_unload 31 = .ok (.ireturn, 1) := by decide +kernel
theorem dX4_play_0 : decode cX4_play 0 = .ok (.aload_n 0, 1) := by decide +kernel
theorem dX4_play_1 : decode cX4_play 1 = .ok (.iload_n 1, 1) := by decide +kernel
theorem dX4_play_2 : decode cX4_play 2 = .ok (.invokevirtual 76, 3) := by decide +kernel
theorem dX4_play_5 : decode cX4_play 5 = .ok (.ifCond .ne 5, 3) := by decide +kernel
theorem dX4_play_8 : decode cX4_play 8 = .ok (.iconst (-1), 1) := by decide +kernel
theorem dX4_play_9 : decode cX4_play 9 = .ok (.ireturn, 1) := by decide +kernel
theorem dX4_play_10 : decode cX4_play 10 = .ok (.aload_n 0, 1) := by decide +kernel
theorem dX4_play_11 : decode cX4_play 11 = .ok (.getfield 125, 3) := by decide +kernel
theorem dX4_play_14 : decode cX4_play 14 = .ok (.ifCond .eq 6, 3) := by decide +kernel
theorem dX4_play_17 : decode cX4_play 17 = .ok (.bipush (-3), 2) := by decide +kernel
theorem dX4_play_19 : decode cX4_play 19 = .ok (.ireturn, 1) := by decide +kernel
theorem dX4_play_20 : decode cX4_play 20 = .ok (.aload_n 0, 1) := by decide +kernel
theorem dX4_play_21 : decode cX4_play 21 = .ok (.iload_n 1, 1) := by decide +kernel
theorem dX4_play_22 : decode cX4_play 22 = .ok (.invokevirtual 122, 3) := by decide +kernel
theorem dX4_play_25 : decode cX4_play 25 = .ok (.istore_n 2, 1) := by decide +kernel
theorem dX4_play_26 : decode cX4_play 26 = .ok (.iload_n 2, 1) := by decide +kernel
theorem dX4_play_27 : decode cX4_play 27 = .ok (.bipush (-9), 2) := by decide +kernel
theorem dX4_play_29 : decode cX4_play 29 = .ok (.if_icmp .ne 6, 3) := by decide +kernel
theorem dX4_play_32 : decode cX4_play 32 = .ok (.bipush (-4), 2) := by decide +kernel
theorem dX4_play_34 : decode cX4_play 34 = .ok (.ireturn, 1) := by decide +kernel
theorem dX4_play_35 : decode cX4_play 35 = .ok (.aload_n 0, 1) := by decide +kernel
theorem dX4_play_36 : decode cX4_play 36 = .ok (.getfield 34, 3) := by decide +kernel
theorem dX4_play_39 : decode cX4_play 39 = .ok (.iload_n 1, 1) := by decide +kernel
theorem dX4_play_40 : decode cX4_play 40 = .ok (.aload_n 0, 1) := by decide +kernel
theorem dX4_play_41 : decode cX4_play 41 = .ok (.getfield 91, 3) := by decide +kernel
theorem dX4_play_44 : decode cX4_play 44 = .ok (.iastore, 1) := by decide +kernel
theorem dX4_play_45 : decode cX4_play 45 = .ok (.iload_n 2, 1) := by decide +kernel
theorem dX4_play_46 : decode cX4_play 46 = .ok (.ireturn, 1) := by decide +kernel
theorem dX4_stop_0 : decode cX4_stop 0 = .ok (.aload_n 0, 1) := by decide +kernel
theorem dX4_stop_1 : decode cX4_stop 1 = .ok (.iload_n 1, 1) := by decide +kernel
theorem dX4_stop_2 : decode cX4_stop 2 = .ok (.invokevirtual 76, 3) := by decide +kernel
theorem dX4_stop_5 : decode cX4_stop 5 = .ok (.ifCond .ne 5, 3) := by decide +kernel
theorem dX4_stop_8 : decode cX4_stop 8 = .ok (.iconst (-1), 1) := by decide +kernel
theorem dX4_stop_9 : decode cX4_stop 9 = .ok (.ireturn, 1) := by decide +kernel
theorem dX4_stop_10 : decode cX4_stop 10 = .ok (.aload_n 0, 1) := by decide +kernel
theorem dX4_stop_11 : decode cX4_stop 11 = .ok (.iload_n 1, 1) := by decide +kernel
theorem dX4_stop_12 : decode cX4_stop 12 = .ok (.aload_n 0, 1) := by decide +kernel
theorem dX4_stop_13 : decode cX4_stop 13 = .ok (.getfield 34, 3) := by decide +kernel
theorem dX4_stop_16 : decode cX4_stop 16 = .ok (.iload_n 1, 1) := by decide +kernel
theorem dX4_stop_17 : decode cX4_stop 17 = .ok (.iaload, 1) := by decide +kernel
theorem dX4_stop_18 : decode cX4_stop 18 = .ok (.aload_n 0, 1) := by decide +kernel
theorem dX4_stop_19 : decode cX4_stop 19 = .ok (.getfield 91, 3) := by decide +kernel
theorem dX4_stop_22 : decode cX4_stop 22 = .ok (.invokevirtual 108, 3) := by decide +kernel
theorem dX4_stop_25 : decode cX4_stop 25 = .ok (.ifCond .eq 7, 3) := by decide +kernel
theorem dX4_stop_28 : decode cX4_stop 28 = .ok (.iconst 1, 1) := by decide +kernel
theorem dX4_stop_29 : decode cX4_stop 29 = .ok (.goto 4, 3) := by decide +kernel
theorem dX4_stop_32 : decode cX4_stop 32 = .ok (.iconst 0, 1) := by decide +kernel
theorem dX4_stop_33 : decode cX4_stop 33 = .ok (.istore_n 2, 1) := by decide +kernel
theorem dX4_stop_34 : decode cX4_stop 34 = .ok (.aload_n 0, 1) := by decide +kernel
theorem dX4_stop_35 : decode cX4_stop 35 = .ok (.getfield 34, 3) := by decide +kernel
theorem dX4_stop_38 : decode cX4_stop 38 = .ok (.iload_n 1, 1) := by decide +kernel
theorem dX4_stop_39 : decode cX4_stop 39 = .ok (.bipush (-9), 2) := by decide +kernel
theorem dX4_stop_41 : decode cX4_stop 41 = .ok (.iastore, 1) := by decide +kernel
theorem dX4_stop_42 : decode cX4_stop 42 = .ok (.iload_n 2, 1) := by decide +kernel
theorem dX4_stop_43 : decode cX4_stop 43 = .ok (.ireturn, 1) := by decide +kernel
theorem dX4_press_0 : decode cX4_press 0 = .ok (.iload_n 1, 1) := by decide +kernel
theorem dX4_press_1 : decode cX4_press 1 = .ok (.iconst 0, 1) := by decide +kernel
theorem dX4_press_2 : decode cX4_press 2 = .ok (.iconst 3, 1) := by decide +kernel
theorem dX4_press_3 : decode cX4_press 3 = .ok (.invokestatic 59, 3) := by decide +kernel
theorem dX4_press_6 : decode cX4_press 6 = .ok (.ifCond .ne 5, 3) := by decide +kernel
theorem dX4_press_9 : decode cX4_press 9 = .ok (.iconst (-1), 1) := by decide +kernel
theorem dX4_press_10 : decode cX4_press 10 = .ok (.ireturn, 1) := by decide +kernel
theorem dX4_press_11 : decode cX4_press 11 = .ok (.aload_n 0, 1) := by decide +kernel
theorem dX4_press_12 : decode cX4_press 12 = .ok (.getfield 44, 3) := by decide +kernel
theorem dX4_press_15 : decode cX4_press 15 = .ok (.iload_n 1, 1) := by decide +kernel
theorem dX4_press_16 : decode cX4_press 16 = .ok (.iaload, 1) := by decide +kernel
theorem dX4_press_17 : decode cX4_press 17 = .ok (.bipush (-9), 2) := by decide +kernel
theorem dX4_press_19 : decode cX4_press 19 = .ok (.if_icmp .ne 10, 3) := by decide +kernel
theorem dX4_press_22 : decode cX4_press 22 = .ok (.aload_n 0, 1) := by decide +kernel
theorem dX4_press_23 : decode cX4_press 23 = .ok (.getfield 125, 3) := by decide +kernel
theorem dX4_press_26 : decode cX4_press 26 = .ok (.ifCond .eq 6, 3) := by decide +kernel
theorem dX4_press_29 : decode cX4_press 29 = .ok (.bipush (-3), 2) := by decide +kernel
theorem dX4_press_31 : decode cX4_press 31 = .ok (.ireturn, 1) := by decide +kernel
theorem dX4_press_32 : decode cX4_press 32 = .ok (.aload_n 0, 1) := by decide +kernel
theorem dX4_press_33 : decode cX4_press 33 = .ok (.getfield 44, 3) := by decide +kernel
theorem dX4_press_36 : decode cX4_press 36 = .ok (.iload_n 1, 1) := by decide +kernel
theorem dX4_press_37 : decode cX4_press 37 = .ok (.aload_n 0, 1) := by decide +kernel
theorem dX4_press_38 : decode cX4_press 38 = .ok (.getfield 91, 3) := by decide +kernel
theorem dX4_press_41 : decode cX4_press 41 = .ok (.iastore, 1) := by decide +kernel
theorem dX4_press_42 : decode cX4_press 42 = .ok (.iconst 0, 1) := by decide +kernel
theorem dX4_press_43 : decode cX4_press 43 = .ok (.istore_n 2, 1) := by decide +kernel
theorem dX4_press_44 : decode cX4_press 44 = .ok (.iconst 0, 1) := by decide +kernel
theorem dX4_press_45 : decode cX4_press 45 = .ok (.istore_n 3, 1) := by decide +kernel
theorem dX4_press_46 : decode cX4_press 46 = .ok (.iload_n 3, 1) := by decide +kernel
theorem dX4_press_47 : decode cX4_press 47 = .ok (.aload_n 0, 1) := by decide +kernel
theorem dX4_press_48 : decode cX4_press 48 = .ok (.getfield 56, 3) := by decide +kernel
theorem dX4_press_51 : decode cX4_press 51 = .ok (.if_icmp .ge 101, 3) := by decide +kernel
theorem dX4_press_54 : decode cX4_press 54 = .ok (.aload_n 0, 1) := by decide +kernel
theorem dX4_press_55 : decode cX4_press 55 = .ok (.iload_n 3, 1) := by decide +kernel
theorem dX4_press_56 : decode cX4_press 56 = .ok (.invokevirtual 105, 3) := by decide +kernel
theorem dX4_press_59 : decode cX4_press 59 = .ok (.bipush (-9), 2) := by decide +kernel
theorem dX4_press_61 : decode cX4_press 61 = .ok (.if_icmp .eq 18, 3) := by decide +kernel
theorem dX4_press_64 : decode cX4_press 64 = .ok (.aload_n 0, 1) := by decide +kernel
theorem dX4_press_65 : decode cX4_press 65 = .ok (.iload_n 3, 1) := by decide +kernel
theorem dX4_press_66 : decode cX4_press 66 = .ok (.bipush 10, 2) := by decide +kernel
theorem dX4_press_68 : decode cX4_press 68 = .ok (.invokevirtual 72, 3) := by decide +kernel
theorem dX4_press_71 : decode cX4_press 71 = .ok (.iload_n 1, 1) := by decide +kernel
theorem dX4_press_72 : decode cX4_press 72 = .ok (.if_icmp .ne 7, 3) := by decide +kernel
theorem dX4_press_75 : decode cX4_press 75 = .ok (.iconst 1, 1) := by decide +kernel
theorem dX4_press_76 : decode cX4_press 76 = .ok (.goto 4, 3) := by decide +kernel
theorem dX4_press_79 : decode cX4_press 79 = .ok (.iconst 0, 1) := by decide +kernel
theorem dX4_press_80 : decode cX4_press 80 = .ok (.istore 4, 2) := by decide +kernel
theorem dX4_press_82 : decode cX4_press 82 = .ok (.aload_n 0, 1) := by decide +kernel
theorem dX4_press_83 : decode cX4_press 83 = .ok (.getfield 47, 3) := by decide +kernel
theorem dX4_press_86 : decode cX4_press 86 = .ok (.bipush 12, 2) := by decide +kernel
theorem dX4_press_88 : decode cX4_press 88 = .ok (.iload_n 1, 1) := by decide +kernel
theorem dX4_press_89 : decode cX4_press 89 = .ok (.imul, 1) := by decide +kernel
theorem dX4_press_90 : decode cX4_press 90 = .ok (.iload_n 3, 1) := by decide +kernel
theorem dX4_press_91 : decode cX4_press 91 = .ok (.iadd, 1) := by decide +kernel
theorem dX4_press_92 : decode cX4_press 92 = .ok (.iload 4, 2) := by decide +kernel
theorem dX4_press_94 : decode cX4_press 94 = .ok (.ifCond .eq 13, 3) := by decide +kernel
theorem dX4_press_97 : decode cX4_press 97 = .ok (.aload_n 0, 1) := by decide +kernel
theorem dX4_press_98 : decode cX4_press 98 = .ok (.iload_n 3, 1) := by decide +kernel
theorem dX4_press_99 : decode cX4_press 99 = .ok (.bipush 11, 2) := by decide +kernel
theorem dX4_press_101 : decode cX4_press 101 = .ok (.invokevirtual 72, 3) := by decide +kernel
theorem dX4_press_104 : decode cX4_press 104 = .ok (.goto 4, 3) := by decide +kernel
theorem dX4_press_107 : decode cX4_press 107 = .ok (.iconst 0, 1) := by decide +kernel
theorem dX4_press_108 : decode cX4_press 108 = .ok (.iastore, 1) := by decide +kernel
theorem dX4_press_109 : decode cX4_press 109 = .ok (.aload_n 0, 1) := by decide +kernel
theorem dX4_press_110 : decode cX4_press 110 = .ok (.getfield 34, 3) := by decide +kernel
theorem dX4_press_113 : decode cX4_press 113 = .ok (.iload_n 3, 1) := by decide +kernel
theorem dX4_press_114 : decode cX4_press 114 = .ok (.iload 4, 2) := by decide +kernel
theorem dX4_press_116 : decode cX4_press 116 = .ok (.ifCond .eq 10, 3) := by decide +kernel
theorem dX4_press_119 : decode cX4_press 119 = .ok (.aload_n 0, 1) := by decide +kernel
theorem dX4_press_120 : decode cX4_press 120 = .ok (.getfield 91, 3) := by decide +kernel
theorem dX4_press_123 : decode cX4_press 123 = .ok (.goto 9, 3) := by decide +kernel
theorem dX4_press_126 : decode cX4_press 126 = .ok (.aload_n 0, 1) := by decide +kernel
theorem dX4_press_127 : decode cX4_press 127 = .ok (.getfield 34, 3) := by decide +kernel
theorem dX4_press_130 : decode cX4_press 130 = .ok (.iload_n 3, 1) := by decide +kernel
theorem dX4_press_131 : decode cX4_press 131 = .ok (.iaload, 1) := by decide +kernel
theorem dX4_press_132 : decode cX4_press 132 = .ok (.iastore, 1) := by decide +kernel
theorem dX4_press_133 : decode cX4_press 133 = .ok (.iload_n 2, 1) := by decide +kernel
theorem dX4_press_134 : decode cX4_press 134 = .ok (.iload 4, 2) := by decide +kernel
theorem dX4_press_136 : decode cX4_press 136 = .ok (.ifCond .eq 7, 3) := by decide +kernel
theorem dX4_press_139 : decode cX4_press 139 = .ok (.iconst 1, 1) := by decide +kernel
theorem dX4_press_140 : decode cX4_press 140 = .ok (.goto 4, 3) := by decide +kernel
theorem dX4_press_143 : decode cX4_press 143 = .ok (.iconst 0, 1) := by decide +kernel
theorem dX4_press_144 : decode cX4_press 144 = .ok (.iadd, 1) := by decide +kernel
theorem dX4_press_145 : decode cX4_press 145 = .ok (.istore_n 2, 1) := by decide +kernel
theorem dX4_press_146 : decode cX4_press 146 = .ok (.iinc 3 1, 3) := by decide +kernel
theorem dX4_press_149 : decode cX4_press 149 = .ok (.goto (-103), 3) := by decide +kernel
theorem dX4_press_152 : decode cX4_press 152 = .ok (.iload_n 2, 1) := by decide +kernel
theorem dX4_press_153 : decode cX4_press 153 = .ok (.ireturn, 1) := by decide +kernel
theorem dX4_comesUp_0 : decode cX4_comesUp 0 = .ok (.aload_n 0, 1) := by decide +kernel
theorem dX4_comesUp_1 : decode cX4_comesUp 1 = .ok (.getfield 44, 3) := by decide +kernel
theorem dX4_comesUp_4 : decode cX4_comesUp 4 = .ok (.iload_n 1, 1) := by decide +kernel
theorem dX4_comesUp_5 : decode cX4_comesUp 5 = .ok (.bipush (-9), 2) := by decide +kernel
theorem dX4_comesUp_7 : decode cX4_comesUp 7 = .ok (.iastore, 1) := by decide +kernel
theorem dX4_comesUp_8 : decode cX4_comesUp 8 = .ok (.iconst 0, 1) := by decide +kernel
theorem dX4_comesUp_9 : decode cX4_comesUp 9 = .ok (.istore_n 2, 1) := by decide +kernel
theorem dX4_comesUp_10 : decode cX4_comesUp 10 = .ok (.iload_n 2, 1) := by decide +kernel
theorem dX4_comesUp_11 : decode cX4_comesUp 11 = .ok (.bipush 12, 2) := by decide +kernel
theorem dX4_comesUp_13 : decode cX4_comesUp 13 = .ok (.if_icmp .ge 21, 3) := by decide +kernel
theorem dX4_comesUp_16 : decode cX4_comesUp 16 = .ok (.aload_n 0, 1) := by decide +kernel
theorem dX4_comesUp_17 : decode cX4_comesUp 17 = .ok (.getfield 47, 3) := by decide +kernel
theorem dX4_comesUp_20 : decode cX4_comesUp 20 = .ok (.bipush 12, 2) := by decide +kernel
theorem dX4_comesUp_22 : decode cX4_comesUp 22 = .ok (.iload_n 1, 1) := by decide +kernel
theorem dX4_comesUp_23 : decode cX4_comesUp 23 = .ok (.imul, 1) := by decide +kernel
theorem dX4_comesUp_24 : decode cX4_comesUp 24 = .ok (.iload_n 2, 1) := by decide +kernel
theorem dX4_comesUp_25 : decode cX4_comesUp 25 = .ok (.iadd, 1) := by decide +kernel
theorem dX4_comesUp_26 : decode cX4_comesUp 26 = .ok (.iconst 0, 1) := by decide +kernel
theorem dX4_comesUp_27 : decode cX4_comesUp 27 = .ok (.iastore, 1) := by decide +kernel
theorem dX4_comesUp_28 : decode cX4_comesUp 28 = .ok (.iinc 2 1, 3) := by decide +kernel
theorem dX4_comesUp_31 : decode cX4_comesUp 31 = .ok (.goto (-21), 3) := by decide +kernel
theorem dX4_comesUp_34 : decode cX4_comesUp 34 = .ok (.return_, 1) := by decide +kernel
theorem dX4_free_0 : decode cX4_free 0 = .ok (.iload_n 1, 1) := by decide +kernel
theorem dX4_free_1 : decode cX4_free 1 = .ok (.iconst 0, 1) := by decide +kernel
theorem dX4_free_2 : decode cX4_free 2 = .ok (.iconst 3, 1) := by decide +kernel
theorem dX4_free_3 : decode cX4_free 3 = .ok (.invokestatic 59, 3) := by decide +kernel
theorem dX4_free_6 : decode cX4_free 6 = .ok (.ifCond .ne 5, 3) := by decide +kernel
theorem dX4_free_9 : decode cX4_free 9 = .ok (.iconst (-1), 1) := by decide +kernel
theorem dX4_free_10 : decode cX4_free 10 = .ok (.ireturn, 1) := by decide +kernel
theorem dX4_free_11 : decode cX4_free 11 = .ok (.aload_n 0, 1) := by decide +kernel
theorem dX4_free_12 : decode cX4_free 12 = .ok (.getfield 44, 3) := by decide +kernel
theorem dX4_free_15 : decode cX4_free 15 = .ok (.iload_n 1, 1) := by decide +kernel
theorem dX4_free_16 : decode cX4_free 16 = .ok (.iaload, 1) := by decide +kernel
theorem dX4_free_17 : decode cX4_free 17 = .ok (.bipush (-9), 2) := by decide +kernel
theorem dX4_free_19 : decode cX4_free 19 = .ok (.if_icmp .ne 6, 3) := by decide +kernel
theorem dX4_free_22 : decode cX4_free 22 = .ok (.bipush (-3), 2) := by decide +kernel
theorem dX4_free_24 : decode cX4_free 24 = .ok (.ireturn, 1) := by decide +kernel
theorem dX4_free_25 : decode cX4_free 25 = .ok (.aload_n 0, 1) := by decide +kernel
theorem dX4_free_26 : decode cX4_free 26 = .ok (.getfield 91, 3) := by decide +kernel
theorem dX4_free_29 : decode cX4_free 29 = .ok (.aload_n 0, 1) := by decide +kernel
theorem dX4_free_30 : decode cX4_free 30 = .ok (.getfield 44, 3) := by decide +kernel
theorem dX4_free_33 : decode cX4_free 33 = .ok (.iload_n 1, 1) := by decide +kernel
theorem dX4_free_34 : decode cX4_free 34 = .ok (.iaload, 1) := by decide +kernel
theorem dX4_free_35 : decode cX4_free 35 = .ok (.isub, 1) := by decide +kernel
theorem dX4_free_36 : decode cX4_free 36 = .ok (.istore_n 2, 1) := by decide +kernel
theorem dX4_free_37 : decode cX4_free 37 = .ok (.aload_n 0, 1) := by decide +kernel
theorem dX4_free_38 : decode cX4_free 38 = .ok (.iload_n 1, 1) := by decide +kernel
theorem dX4_free_39 : decode cX4_free 39 = .ok (.invokevirtual 129, 3) := by decide +kernel
theorem dX4_free_42 : decode cX4_free 42 = .ok (.iload_n 2, 1) := by decide +kernel
theorem dX4_free_43 : decode cX4_free 43 = .ok (.ireturn, 1) := by decide +kernel
theorem dX4_isLostBy_0 : decode cX4_isLostBy 0 = .ok (.aload_n 0, 1) := by decide +kernel
theorem dX4_isLostBy_1 : decode cX4_isLostBy 1 = .ok (.getfield 125, 3) := by decide +kernel
theorem dX4_isLostBy_4 : decode cX4_isLostBy 4 = .ok (.ifCond .ne 27, 3) := by decide +kernel
theorem dX4_isLostBy_7 : decode cX4_isLostBy 7 = .ok (.aload_n 0, 1) := by decide +kernel
theorem dX4_isLostBy_8 : decode cX4_isLostBy 8 = .ok (.getfield 132, 3) := by decide +kernel
theorem dX4_isLostBy_11 : decode cX4_isLostBy 11 = .ok (.ifCond .le 20, 3) := by decide +kernel
theorem dX4_isLostBy_14 : decode cX4_isLostBy 14 = .ok (.aload_n 0, 1) := by decide +kernel
theorem dX4_isLostBy_15 : decode cX4_isLostBy 15 = .ok (.getfield 135, 3) := by decide +kernel
theorem dX4_isLostBy_18 : decode cX4_isLostBy 18 = .ok (.aload_n 0, 1) := by decide +kernel
theorem dX4_isLostBy_19 : decode cX4_isLostBy 19 = .ok (.getfield 132, 3) := by decide +kernel
theorem dX4_isLostBy_22 : decode cX4_isLostBy 22 = .ok (.iadd, 1) := by decide +kernel
theorem dX4_isLostBy_23 : decode cX4_isLostBy 23 = .ok (.iload_n 1, 1) := by decide +kernel
theorem dX4_isLostBy_24 : decode cX4_isLostBy 24 = .ok (.if_icmp .gt 7, 3) := by decide +kernel
theorem dX4_isLostBy_27 : decode cX4_isLostBy 27 = .ok (.iconst 1, 1) := by decide +kernel
theorem dX4_isLostBy_28 : decode cX4_isLostBy 28 = .ok (.goto 4, 3) := by decide +kernel
theorem dX4_isLostBy_31 : decode cX4_isLostBy 31 = .ok (.iconst 0, 1) := by decide +kernel
theorem dX4_isLostBy_32 : decode cX4_isLostBy 32 = .ok (.ireturn, 1) := by decide +kernel
theorem dX4_startAt_0 : decode cX4_startAt 0 = .ok (.iload_n 2, 1) := by decide +kernel
theorem dX4_startAt_1 : decode cX4_startAt 1 = .ok (.istore 4, 2) := by decide +kernel
theorem dX4_startAt_3 : decode cX4_startAt 3 = .ok (.iconst 0, 1) := by decide +kernel
theorem dX4_startAt_4 : decode cX4_startAt 4 = .ok (.istore 5, 2) := by decide +kernel
theorem dX4_startAt_6 : decode cX4_startAt 6 = .ok (.iload 5, 2) := by decide +kernel
theorem dX4_startAt_8 : decode cX4_startAt 8 = .ok (.iconst 4, 1) := by decide +kernel
theorem dX4_startAt_9 : decode cX4_startAt 9 = .ok (.if_icmp .ge 81, 3) := by decide +kernel
theorem dX4_startAt_12 : decode cX4_startAt 12 = .ok (.aload_n 0, 1) := by decide +kernel
theorem dX4_startAt_13 : decode cX4_startAt 13 = .ok (.getfield 47, 3) := by decide +kernel
theorem dX4_startAt_16 : decode cX4_startAt 16 = .ok (.bipush 12, 2) := by decide +kernel
theorem dX4_startAt_18 : decode cX4_startAt 18 = .ok (.iload 5, 2) := by decide +kernel
theorem dX4_startAt_20 : decode cX4_startAt 20 = .ok (.imul, 1) := by decide +kernel
theorem dX4_startAt_21 : decode cX4_startAt 21 = .ok (.iload_n 1, 1) := by decide +kernel
theorem dX4_startAt_22 : decode cX4_startAt 22 = .ok (.iadd, 1) := by decide +kernel
theorem dX4_startAt_23 : decode cX4_startAt 23 = .ok (.iaload, 1) := by decide +kernel
theorem dX4_startAt_24 : decode cX4_startAt 24 = .ok (.istore 6, 2) := by decide +kernel
theorem dX4_startAt_26 : decode cX4_startAt 26 = .ok (.aload_n 0, 1) := by decide +kernel
theorem dX4_startAt_27 : decode cX4_startAt 27 = .ok (.getfield 44, 3) := by decide +kernel
theorem dX4_startAt_30 : decode cX4_startAt 30 = .ok (.iload 5, 2) := by decide +kernel
theorem dX4_startAt_32 : decode cX4_startAt 32 = .ok (.iaload, 1) := by decide +kernel
theorem dX4_startAt_33 : decode cX4_startAt 33 = .ok (.bipush (-9), 2) := by decide +kernel
theorem dX4_startAt_35 : decode cX4_startAt 35 = .ok (.if_icmp .eq 49, 3) := by decide +kernel
theorem dX4_startAt_38 : decode cX4_startAt 38 = .ok (.iload 6, 2) := by decide +kernel
theorem dX4_startAt_40 : decode cX4_startAt 40 = .ok (.ifCond .le 44, 3) := by decide +kernel
theorem dX4_startAt_43 : decode cX4_startAt 43 = .ok (.iload_n 3, 1) := by decide +kernel
theorem dX4_startAt_44 : decode cX4_startAt 44 = .ok (.iload_n 3, 1) := by decide +kernel
theorem dX4_startAt_45 : decode cX4_startAt 45 = .ok (.aload_n 0, 1) := by decide +kernel
theorem dX4_startAt_46 : decode cX4_startAt 46 = .ok (.getfield 44, 3) := by decide +kernel
theorem dX4_startAt_49 : decode cX4_startAt 49 = .ok (.iload 5, 2) := by decide +kernel
theorem dX4_startAt_51 : decode cX4_startAt 51 = .ok (.iaload, 1) := by decide +kernel
theorem dX4_startAt_52 : decode cX4_startAt 52 = .ok (.isub, 1) := by decide +kernel
theorem dX4_startAt_53 : decode cX4_startAt 53 = .ok (.iload 6, 2) := by decide +kernel
theorem dX4_startAt_55 : decode cX4_startAt 55 = .ok (.irem, 1) := by decide +kernel
theorem dX4_startAt_56 : decode cX4_startAt 56 = .ok (.isub, 1) := by decide +kernel
theorem dX4_startAt_57 : decode cX4_startAt 57 = .ok (.istore 7, 2) := by decide +kernel
theorem dX4_startAt_59 : decode cX4_startAt 59 = .ok (.iload 7, 2) := by decide +kernel
theorem dX4_startAt_61 : decode cX4_startAt 61 = .ok (.aload_n 0, 1) := by decide +kernel
theorem dX4_startAt_62 : decode cX4_startAt 62 = .ok (.getfield 91, 3) := by decide +kernel
theorem dX4_startAt_65 : decode cX4_startAt 65 = .ok (.if_icmp .le 15, 3) := by decide +kernel
theorem dX4_startAt_68 : decode cX4_startAt 68 = .ok (.iload 7, 2) := by decide +kernel
theorem dX4_startAt_70 : decode cX4_startAt 70 = .ok (.iload 4, 2) := by decide +kernel
theorem dX4_startAt_72 : decode cX4_startAt 72 = .ok (.if_icmp .le 8, 3) := by decide +kernel
theorem dX4_startAt_75 : decode cX4_startAt 75 = .ok (.iload 7, 2) := by decide +kernel
theorem dX4_startAt_77 : decode cX4_startAt 77 = .ok (.goto 5, 3) := by decide +kernel
theorem dX4_startAt_80 : decode cX4_startAt 80 = .ok (.iload 4, 2) := by decide +kernel
theorem dX4_startAt_82 : decode cX4_startAt 82 = .ok (.istore 4, 2) := by decide +kernel
theorem dX4_startAt_84 : decode cX4_startAt 84 = .ok (.iinc 5 1, 3) := by decide +kernel
theorem dX4_startAt_87 : decode cX4_startAt 87 = .ok (.goto (-81), 3) := by decide +kernel
theorem dX4_startAt_90 : decode cX4_startAt 90 = .ok (.iload 4, 2) := by decide +kernel
theorem dX4_startAt_92 : decode cX4_startAt 92 = .ok (.ireturn, 1) := by decide +kernel
theorem dX4_getsLost_0 : decode cX4_getsLost 0 = .ok (.iconst 0, 1) := by decide +kernel
theorem dX4_getsLost_1 : decode cX4_getsLost 1 = .ok (.istore_n 2, 1) := by decide +kernel
theorem dX4_getsLost_2 : decode cX4_getsLost 2 = .ok (.iload_n 2, 1) := by decide +kernel
theorem dX4_getsLost_3 : decode cX4_getsLost 3 = .ok (.aload_n 0, 1) := by decide +kernel
theorem dX4_getsLost_4 : decode cX4_getsLost 4 = .ok (.getfield 56, 3) := by decide +kernel
theorem dX4_getsLost_7 : decode cX4_getsLost 7 = .ok (.if_icmp .ge 57, 3) := by decide +kernel
theorem dX4_getsLost_10 : decode cX4_getsLost 10 = .ok (.aload_n 0, 1) := by decide +kernel
theorem dX4_getsLost_11 : decode cX4_getsLost 11 = .ok (.getfield 34, 3) := by decide +kernel
theorem dX4_getsLost_14 : decode cX4_getsLost 14 = .ok (.iload_n 2, 1) := by decide +kernel
theorem dX4_getsLost_15 : decode cX4_getsLost 15 = .ok (.aload_n 0, 1) := by decide +kernel
theorem dX4_getsLost_16 : decode cX4_getsLost 16 = .ok (.iload_n 2, 1) := by decide +kernel
theorem dX4_getsLost_17 : decode cX4_getsLost 17 = .ok (.aload_n 0, 1) := by decide +kernel
theorem dX4_getsLost_18 : decode cX4_getsLost 18 = .ok (.iload_n 2, 1) := by decide +kernel
theorem dX4_getsLost_19 : decode cX4_getsLost 19 = .ok (.aload_n 0, 1) := by decide +kernel
theorem dX4_getsLost_20 : decode cX4_getsLost 20 = .ok (.getfield 34, 3) := by decide +kernel
theorem dX4_getsLost_23 : decode cX4_getsLost 23 = .ok (.iload_n 2, 1) := by decide +kernel
theorem dX4_getsLost_24 : decode cX4_getsLost 24 = .ok (.iaload, 1) := by decide +kernel
theorem dX4_getsLost_25 : decode cX4_getsLost 25 = .ok (.iload_n 1, 1) := by decide +kernel
theorem dX4_getsLost_26 : decode cX4_getsLost 26 = .ok (.iconst 1, 1) := by decide +kernel
theorem dX4_getsLost_27 : decode cX4_getsLost 27 = .ok (.isub, 1) := by decide +kernel
theorem dX4_getsLost_28 : decode cX4_getsLost 28 = .ok (.invokevirtual 138, 3) := by decide +kernel
theorem dX4_getsLost_31 : decode cX4_getsLost 31 = .ok (.iload_n 1, 1) := by decide +kernel
theorem dX4_getsLost_32 : decode cX4_getsLost 32 = .ok (.invokevirtual 108, 3) := by decide +kernel
theorem dX4_getsLost_35 : decode cX4_getsLost 35 = .ok (.ifCond .eq 8, 3) := by decide +kernel
theorem dX4_getsLost_38 : decode cX4_getsLost 38 = .ok (.bipush (-9), 2) := by decide +kernel
theorem dX4_getsLost_40 : decode cX4_getsLost 40 = .ok (.goto 17, 3) := by decide +kernel
theorem dX4_getsLost_43 : decode cX4_getsLost 43 = .ok (.aload_n 0, 1) := by decide +kernel
theorem dX4_getsLost_44 : decode cX4_getsLost 44 = .ok (.iload_n 2, 1) := by decide +kernel
theorem dX4_getsLost_45 : decode cX4_getsLost 45 = .ok (.aload_n 0, 1) := by decide +kernel
theorem dX4_getsLost_46 : decode cX4_getsLost 46 = .ok (.getfield 34, 3) := by decide +kernel
theorem dX4_getsLost_49 : decode cX4_getsLost 49 = .ok (.iload_n 2, 1) := by decide +kernel
theorem dX4_getsLost_50 : decode cX4_getsLost 50 = .ok (.iaload, 1) := by decide +kernel
theorem dX4_getsLost_51 : decode cX4_getsLost 51 = .ok (.iload_n 1, 1) := by decide +kernel
theorem dX4_getsLost_52 : decode cX4_getsLost 52 = .ok (.iconst 1, 1) := by decide +kernel
theorem dX4_getsLost_53 : decode cX4_getsLost 53 = .ok (.isub, 1) := by decide +kernel
theorem dX4_getsLost_54 : decode cX4_getsLost 54 = .ok (.invokevirtual 138, 3) := by decide +kernel
theorem dX4_getsLost_57 : decode cX4_getsLost 57 = .ok (.iastore, 1) := by decide +kernel
theorem dX4_getsLost_58 : decode cX4_getsLost 58 = .ok (.iinc 2 1, 3) := by decide +kernel
theorem dX4_getsLost_61 : decode cX4_getsLost 61 = .ok (.goto (-59), 3) := by decide +kernel
theorem dX4_getsLost_64 : decode cX4_getsLost 64 = .ok (.iconst 0, 1) := by decide +kernel
theorem dX4_getsLost_65 : decode cX4_getsLost 65 = .ok (.istore_n 2, 1) := by decide +kernel
theorem dX4_getsLost_66 : decode cX4_getsLost 66 = .ok (.iload_n 2, 1) := by decide +kernel
theorem dX4_getsLost_67 : decode cX4_getsLost 67 = .ok (.iconst 4, 1) := by decide +kernel
theorem dX4_getsLost_68 : decode cX4_getsLost 68 = .ok (.if_icmp .ge 14, 3) := by decide +kernel
theorem dX4_getsLost_71 : decode cX4_getsLost 71 = .ok (.aload_n 0, 1) := by decide +kernel
theorem dX4_getsLost_72 : decode cX4_getsLost 72 = .ok (.iload_n 2, 1) := by decide +kernel
theorem dX4_getsLost_73 : decode cX4_getsLost 73 = .ok (.invokevirtual 129, 3) := by decide +kernel
theorem dX4_getsLost_76 : decode cX4_getsLost 76 = .ok (.iinc 2 1, 3) := by decide +kernel
theorem dX4_getsLost_79 : decode cX4_getsLost 79 = .ok (.goto (-13), 3) := by decide +kernel
theorem dX4_getsLost_82 : decode cX4_getsLost 82 = .ok (.aload_n 0, 1) := by decide +kernel
theorem dX4_getsLost_83 : decode cX4_getsLost 83 = .ok (.iconst 1, 1) := by decide +kernel
theorem dX4_getsLost_84 : decode cX4_getsLost 84 = .ok (.putfield 125, 3) := by decide +kernel
theorem dX4_getsLost_87 : decode cX4_getsLost 87 = .ok (.return_, 1) := by decide +kernel
theorem dX4_manyPlay_0 : decode cX4_manyPlay 0 = .ok (.iconst 0, 1) := by decide +kernel
theorem dX4_manyPlay_1 : decode cX4_manyPlay 1 = .ok (.istore_n 1, 1) := by decide +kernel
theorem dX4_manyPlay_2 : decode cX4_manyPlay 2 = .ok (.iconst 0, 1) := by decide +kernel
theorem dX4_manyPlay_3 : decode cX4_manyPlay 3 = .ok (.istore_n 2, 1) := by decide +kernel
theorem dX4_manyPlay_4 : decode cX4_manyPlay 4 = .ok (.iload_n 2, 1) := by decide +kernel
theorem dX4_manyPlay_5 : decode cX4_manyPlay 5 = .ok (.aload_n 0, 1) := by decide +kernel
theorem dX4_manyPlay_6 : decode cX4_manyPlay 6 = .ok (.getfield 56, 3) := by decide +kernel
theorem dX4_manyPlay_9 : decode cX4_manyPlay 9 = .ok (.if_icmp .ge 35, 3) := by decide +kernel
theorem dX4_manyPlay_12 : decode cX4_manyPlay 12 = .ok (.iload_n 1, 1) := by decide +kernel
theorem dX4_manyPlay_13 : decode cX4_manyPlay 13 = .ok (.aload_n 0, 1) := by decide +kernel
theorem dX4_manyPlay_14 : decode cX4_manyPlay 14 = .ok (.iload_n 2, 1) := by decide +kernel
theorem dX4_manyPlay_15 : decode cX4_manyPlay 15 = .ok (.aload_n 0, 1) := by decide +kernel
theorem dX4_manyPlay_16 : decode cX4_manyPlay 16 = .ok (.getfield 34, 3) := by decide +kernel
theorem dX4_manyPlay_19 : decode cX4_manyPlay 19 = .ok (.iload_n 2, 1) := by decide +kernel
theorem dX4_manyPlay_20 : decode cX4_manyPlay 20 = .ok (.iaload, 1) := by decide +kernel
theorem dX4_manyPlay_21 : decode cX4_manyPlay 21 = .ok (.aload_n 0, 1) := by decide +kernel
theorem dX4_manyPlay_22 : decode cX4_manyPlay 22 = .ok (.getfield 91, 3) := by decide +kernel
theorem dX4_manyPlay_25 : decode cX4_manyPlay 25 = .ok (.invokevirtual 108, 3) := by decide +kernel
theorem dX4_manyPlay_28 : decode cX4_manyPlay 28 = .ok (.ifCond .eq 7, 3) := by decide +kernel
theorem dX4_manyPlay_31 : decode cX4_manyPlay 31 = .ok (.iconst 1, 1) := by decide +kernel
theorem dX4_manyPlay_32 : decode cX4_manyPlay 32 = .ok (.goto 4, 3) := by decide +kernel
theorem dX4_manyPlay_35 : decode cX4_manyPlay 35 = .ok (.iconst 0, 1) := by decide +kernel
theorem dX4_manyPlay_36 : decode cX4_manyPlay 36 = .ok (.iadd, 1) := by decide +kernel
theorem dX4_manyPlay_37 : decode cX4_manyPlay 37 = .ok (.istore_n 1, 1) := by decide +kernel
theorem dX4_manyPlay_38 : decode cX4_manyPlay 38 = .ok (.iinc 2 1, 3) := by decide +kernel
theorem dX4_manyPlay_41 : decode cX4_manyPlay 41 = .ok (.goto (-37), 3) := by decide +kernel
theorem dX4_manyPlay_44 : decode cX4_manyPlay 44 = .ok (.iload_n 1, 1) := by decide +kernel
theorem dX4_manyPlay_45 : decode cX4_manyPlay 45 = .ok (.ireturn, 1) := by decide +kernel
theorem dX4_pass_0 : decode cX4_pass 0 = .ok (.iload_n 1, 1) := by decide +kernel
theorem dX4_pass_1 : decode cX4_pass 1 = .ok (.iconst 1, 1) := by decide +kernel
theorem dX4_pass_2 : decode cX4_pass 2 = .ok (.ldc 142, 2) := by decide +kernel
theorem dX4_pass_4 : decode cX4_pass 4 = .ok (.invokestatic 59, 3) := by decide +kernel
theorem dX4_pass_7 : decode cX4_pass 7 = .ok (.ifCond .ne 6, 3) := by decide +kernel
theorem dX4_pass_10 : decode cX4_pass 10 = .ok (.bipush (-2), 2) := by decide +kernel
theorem dX4_pass_12 : decode cX4_pass 12 = .ok (.ireturn, 1) := by decide +kernel
theorem dX4_pass_13 : decode cX4_pass 13 = .ok (.aload_n 0, 1) := by decide +kernel
theorem dX4_pass_14 : decode cX4_pass 14 = .ok (.getfield 91, 3) := by decide +kernel
theorem dX4_pass_17 : decode cX4_pass 17 = .ok (.iload_n 1, 1) := by decide +kernel
theorem dX4_pass_18 : decode cX4_pass 18 = .ok (.iadd, 1) := by decide +kernel
theorem dX4_pass_19 : decode cX4_pass 19 = .ok (.ldc 104, 2) := by decide +kernel
theorem dX4_pass_21 : decode cX4_pass 21 = .ok (.if_icmp .le 6, 3) := by decide +kernel
theorem dX4_pass_24 : decode cX4_pass 24 = .ok (.bipush (-3), 2) := by decide +kernel
theorem dX4_pass_26 : decode cX4_pass 26 = .ok (.ireturn, 1) := by decide +kernel
theorem dX4_pass_27 : decode cX4_pass 27 = .ok (.aload_n 0, 1) := by decide +kernel
theorem dX4_pass_28 : decode cX4_pass 28 = .ok (.getfield 91, 3) := by decide +kernel
theorem dX4_pass_31 : decode cX4_pass 31 = .ok (.iload_n 1, 1) := by decide +kernel
theorem dX4_pass_32 : decode cX4_pass 32 = .ok (.iadd, 1) := by decide +kernel
theorem dX4_pass_33 : decode cX4_pass 33 = .ok (.istore_n 2, 1) := by decide +kernel
theorem dX4_pass_34 : decode cX4_pass 34 = .ok (.aload_n 0, 1) := by decide +kernel
theorem dX4_pass_35 : decode cX4_pass 35 = .ok (.iload_n 2, 1) := by decide +kernel
theorem dX4_pass_36 : decode cX4_pass 36 = .ok (.invokevirtual 143, 3) := by decide +kernel
theorem dX4_pass_39 : decode cX4_pass 39 = .ok (.ifCond .eq 19, 3) := by decide +kernel
theorem dX4_pass_42 : decode cX4_pass 42 = .ok (.aload_n 0, 1) := by decide +kernel
theorem dX4_pass_43 : decode cX4_pass 43 = .ok (.aload_n 0, 1) := by decide +kernel
theorem dX4_pass_44 : decode cX4_pass 44 = .ok (.getfield 135, 3) := by decide +kernel
theorem dX4_pass_47 : decode cX4_pass 47 = .ok (.aload_n 0, 1) := by decide +kernel
theorem dX4_pass_48 : decode cX4_pass 48 = .ok (.getfield 132, 3) := by decide +kernel
theorem dX4_pass_51 : decode cX4_pass 51 = .ok (.iadd, 1) := by decide +kernel
theorem dX4_pass_52 : decode cX4_pass 52 = .ok (.invokevirtual 146, 3) := by decide +kernel
theorem dX4_pass_55 : decode cX4_pass 55 = .ok (.goto 37, 3) := by decide +kernel
theorem dX4_pass_58 : decode cX4_pass 58 = .ok (.iconst 0, 1) := by decide +kernel
theorem dX4_pass_59 : decode cX4_pass 59 = .ok (.istore_n 3, 1) := by decide +kernel
theorem dX4_pass_60 : decode cX4_pass 60 = .ok (.iload_n 3, 1) := by decide +kernel
theorem dX4_pass_61 : decode cX4_pass 61 = .ok (.aload_n 0, 1) := by decide +kernel
theorem dX4_pass_62 : decode cX4_pass 62 = .ok (.getfield 56, 3) := by decide +kernel
theorem dX4_pass_65 : decode cX4_pass 65 = .ok (.if_icmp .ge 27, 3) := by decide +kernel
theorem dX4_pass_68 : decode cX4_pass 68 = .ok (.aload_n 0, 1) := by decide +kernel
theorem dX4_pass_69 : decode cX4_pass 69 = .ok (.getfield 34, 3) := by decide +kernel
theorem dX4_pass_72 : decode cX4_pass 72 = .ok (.iload_n 3, 1) := by decide +kernel
theorem dX4_pass_73 : decode cX4_pass 73 = .ok (.aload_n 0, 1) := by decide +kernel
theorem dX4_pass_74 : decode cX4_pass 74 = .ok (.iload_n 3, 1) := by decide +kernel
theorem dX4_pass_75 : decode cX4_pass 75 = .ok (.aload_n 0, 1) := by decide +kernel
theorem dX4_pass_76 : decode cX4_pass 76 = .ok (.getfield 34, 3) := by decide +kernel
theorem dX4_pass_79 : decode cX4_pass 79 = .ok (.iload_n 3, 1) := by decide +kernel
theorem dX4_pass_80 : decode cX4_pass 80 = .ok (.iaload, 1) := by decide +kernel
theorem dX4_pass_81 : decode cX4_pass 81 = .ok (.iload_n 2, 1) := by decide +kernel
theorem dX4_pass_82 : decode cX4_pass 82 = .ok (.invokevirtual 138, 3) := by decide +kernel
theorem dX4_pass_85 : decode cX4_pass 85 = .ok (.iastore, 1) := by decide +kernel
theorem dX4_pass_86 : decode cX4_pass 86 = .ok (.iinc 3 1, 3) := by decide +kernel
theorem dX4_pass_89 : decode cX4_pass 89 = .ok (.goto (-29), 3) := by decide +kernel
theorem dX4_pass_92 : decode cX4_pass 92 = .ok (.aload_n 0, 1) := by decide +kernel
theorem dX4_pass_93 : decode cX4_pass 93 = .ok (.iload_n 2, 1) := by decide +kernel
theorem dX4_pass_94 : decode cX4_pass 94 = .ok (.putfield 91, 3) := by decide +kernel
theorem dX4_pass_97 : decode cX4_pass 97 = .ok (.aload_n 0, 1) := by decide +kernel
theorem dX4_pass_98 : decode cX4_pass 98 = .ok (.invokevirtual 149, 3) := by decide +kernel
theorem dX4_pass_101 : decode cX4_pass 101 = .ok (.ireturn, 1) := by decide +kernel
theorem dX4_hello_0 : decode cX4_hello 0 = .ok (.aload_n 0, 1) := by decide +kernel
theorem dX4_hello_1 : decode cX4_hello 1 = .ok (.getfield 125, 3) := by decide +kernel
theorem dX4_hello_4 : decode cX4_hello 4 = .ok (.ifCond .eq 7, 3) := by decide +kernel
theorem dX4_hello_7 : decode cX4_hello 7 = .ok (.iconst 1, 1) := by decide +kernel
theorem dX4_hello_8 : decode cX4_hello 8 = .ok (.goto 4, 3) := by decide +kernel
theorem dX4_hello_11 : decode cX4_hello 11 = .ok (.iconst 0, 1) := by decide +kernel
theorem dX4_hello_12 : decode cX4_hello 12 = .ok (.istore_n 1, 1) := by decide +kernel
theorem dX4_hello_13 : decode cX4_hello 13 = .ok (.aload_n 0, 1) := by decide +kernel
theorem dX4_hello_14 : decode cX4_hello 14 = .ok (.iconst 0, 1) := by decide +kernel
theorem dX4_hello_15 : decode cX4_hello 15 = .ok (.putfield 125, 3) := by decide +kernel
theorem dX4_hello_18 : decode cX4_hello 18 = .ok (.aload_n 0, 1) := by decide +kernel
theorem dX4_hello_19 : decode cX4_hello 19 = .ok (.aload_n 0, 1) := by decide +kernel
theorem dX4_hello_20 : decode cX4_hello 20 = .ok (.getfield 91, 3) := by decide +kernel
theorem dX4_hello_23 : decode cX4_hello 23 = .ok (.putfield 135, 3) := by decide +kernel
theorem dX4_hello_26 : decode cX4_hello 26 = .ok (.iload_n 1, 1) := by decide +kernel
theorem dX4_hello_27 : decode cX4_hello 27 = .ok (.ireturn, 1) := by decide +kernel
theorem dX4_watch_0 : decode cX4_watch 0 = .ok (.iload_n 1, 1) := by decide +kernel
theorem dX4_watch_1 : decode cX4_watch 1 = .ok (.iconst 0, 1) := by decide +kernel
theorem dX4_watch_2 : decode cX4_watch 2 = .ok (.sipush 10000, 3) := by decide +kernel
theorem dX4_watch_5 : decode cX4_watch 5 = .ok (.invokestatic 59, 3) := by decide +kernel
theorem dX4_watch_8 : decode cX4_watch 8 = .ok (.ifCond .ne 6, 3) := by decide +kernel
theorem dX4_watch_11 : decode cX4_watch 11 = .ok (.bipush (-2), 2) := by decide +kernel
theorem dX4_watch_13 : decode cX4_watch 13 = .ok (.ireturn, 1) := by decide +kernel
theorem dX4_watch_14 : decode cX4_watch 14 = .ok (.aload_n 0, 1) := by decide +kernel
theorem dX4_watch_15 : decode cX4_watch 15 = .ok (.getfield 132, 3) := by decide +kernel
theorem dX4_watch_18 : decode cX4_watch 18 = .ok (.istore_n 2, 1) := by decide +kernel
theorem dX4_watch_19 : decode cX4_watch 19 = .ok (.aload_n 0, 1) := by decide +kernel
theorem dX4_watch_20 : decode cX4_watch 20 = .ok (.iload_n 1, 1) := by decide +kernel
theorem dX4_watch_21 : decode cX4_watch 21 = .ok (.putfield 132, 3) := by decide +kernel
theorem dX4_watch_24 : decode cX4_watch 24 = .ok (.aload_n 0, 1) := by decide +kernel
theorem dX4_watch_25 : decode cX4_watch 25 = .ok (.aload_n 0, 1) := by decide +kernel
theorem dX4_watch_26 : decode cX4_watch 26 = .ok (.getfield 91, 3) := by decide +kernel
theorem dX4_watch_29 : decode cX4_watch 29 = .ok (.putfield 135, 3) := by decide +kernel
theorem dX4_watch_32 : decode cX4_watch 32 = .ok (.iload_n 2, 1) := by decide +kernel
theorem dX4_watch_33 : decode cX4_watch 33 = .ok (.ireturn, 1) := by decide +kernel
theorem dX4_master_0 : decode cX4_master 0 = .ok (.iload_n 1, 1) := by decide +kernel
theorem dX4_master_1 : decode cX4_master 1 = .ok (.iconst 0, 1) := by decide +kernel
theorem dX4_master_2 : decode cX4_master 2 = .ok (.bipush 100, 2) := by decide +kernel
theorem dX4_master_4 : decode cX4_master 4 = .ok (.invokestatic 59, 3) := by decide +kernel
theorem dX4_master_7 : decode cX4_master 7 = .ok (.ifCond .ne 6, 3) := by decide +kernel
theorem dX4_master_10 : decode cX4_master 10 = .ok (.bipush (-2), 2) := by decide +kernel
theorem dX4_master_12 : decode cX4_master 12 = .ok (.ireturn, 1) := by decide +kernel
theorem dX4_master_13 : decode cX4_master 13 = .ok (.aload_n 0, 1) := by decide +kernel
theorem dX4_master_14 : decode cX4_master 14 = .ok (.getfield 50, 3) := by decide +kernel
theorem dX4_master_17 : decode cX4_master 17 = .ok (.istore_n 2, 1) := by decide +kernel
theorem dX4_master_18 : decode cX4_master 18 = .ok (.aload_n 0, 1) := by decide +kernel
theorem dX4_master_19 : decode cX4_master 19 = .ok (.iload_n 1, 1) := by decide +kernel
theorem dX4_master_20 : decode cX4_master 20 = .ok (.putfield 50, 3) := by decide +kernel
theorem dX4_master_23 : decode cX4_master 23 = .ok (.iload_n 2, 1) := by decide +kernel
theorem dX4_master_24 : decode cX4_master 24 = .ok (.ireturn, 1) := by decide +kernel
theorem dX4_levelBy_0 : decode cX4_levelBy 0 = .ok (.iload_n 0, 1) := by decide +kernel
theorem dX4_levelBy_1 : decode cX4_levelBy 1 = .ok (.bipush 100, 2) := by decide +kernel
theorem dX4_levelBy_3 : decode cX4_levelBy 3 = .ok (.iload_n 0, 1) := by decide +kernel
theorem dX4_levelBy_4 : decode cX4_levelBy 4 = .ok (.isub, 1) := by decide +kernel
theorem dX4_levelBy_5 : decode cX4_levelBy 5 = .ok (.iload_n 1, 1) := by decide +kernel
theorem dX4_levelBy_6 : decode cX4_levelBy 6 = .ok (.imul, 1) := by decide +kernel
theorem dX4_levelBy_7 : decode cX4_levelBy 7 = .ok (.iload_n 2, 1) := by decide +kernel
theorem dX4_levelBy_8 : decode cX4_levelBy 8 = .ok (.idiv, 1) := by decide +kernel
theorem dX4_levelBy_9 : decode cX4_levelBy 9 = .ok (.iadd, 1) := by decide +kernel
theorem dX4_levelBy_10 : decode cX4_levelBy 10 = .ok (.ireturn, 1) := by decide +kernel
theorem dX4_envelopeAt_0 : decode cX4_envelopeAt 0 = .ok (.aload_n 0, 1) := by decide +kernel
theorem dX4_envelopeAt_1 : decode cX4_envelopeAt 1 = .ok (.iload_n 1, 1) := by decide +kernel
theorem dX4_envelopeAt_2 : decode cX4_envelopeAt 2 = .ok (.iconst 2, 1) := by decide +kernel
theorem dX4_envelopeAt_3 : decode cX4_envelopeAt 3 = .ok (.invokevirtual 72, 3) := by decide +kernel
theorem dX4_envelopeAt_6 : decode cX4_envelopeAt 6 = .ok (.istore_n 3, 1) := by decide +kernel
theorem dX4_envelopeAt_7 : decode cX4_envelopeAt 7 = .ok (.aload_n 0, 1) := by decide +kernel
theorem dX4_envelopeAt_8 : decode cX4_envelopeAt 8 = .ok (.iload_n 1, 1) := by decide +kernel
theorem dX4_envelopeAt_9 : decode cX4_envelopeAt 9 = .ok (.iconst 4, 1) := by decide +kernel
theorem dX4_envelopeAt_10 : decode cX4_envelopeAt 10 = .ok (.invokevirtual 72, 3) := by decide +kernel
theorem dX4_envelopeAt_13 : decode cX4_envelopeAt 13 = .ok (.istore 4, 2) := by decide +kernel
theorem dX4_envelopeAt_15 : decode cX4_envelopeAt 15 = .ok (.aload_n 0, 1) := by decide +kernel
theorem dX4_envelopeAt_16 : decode cX4_envelopeAt 16 = .ok (.iload_n 1, 1) := by decide +kernel
theorem dX4_envelopeAt_17 : decode cX4_envelopeAt 17 = .ok (.iconst 0, 1) := by decide +kernel
theorem dX4_envelopeAt_18 : decode cX4_envelopeAt 18 = .ok (.invokevirtual 72, 3) := by decide +kernel
theorem dX4_envelopeAt_21 : decode cX4_envelopeAt 21 = .ok (.istore 5, 2) := by decide +kernel
theorem dX4_envelopeAt_23 : decode cX4_envelopeAt 23 = .ok (.iload_n 2, 1) := by decide +kernel
theorem dX4_envelopeAt_24 : decode cX4_envelopeAt 24 = .ok (.iload_n 3, 1) := by decide +kernel
theorem dX4_envelopeAt_25 : decode cX4_envelopeAt 25 = .ok (.if_icmp .ge 17, 3) := by decide +kernel
theorem dX4_envelopeAt_28 : decode cX4_envelopeAt 28 = .ok (.aload_n 0, 1) := by decide +kernel
theorem dX4_envelopeAt_29 : decode cX4_envelopeAt 29 = .ok (.iload_n 1, 1) := by decide +kernel
theorem dX4_envelopeAt_30 : decode cX4_envelopeAt 30 = .ok (.iconst 3, 1) := by decide +kernel
theorem dX4_envelopeAt_31 : decode cX4_envelopeAt 31 = .ok (.invokevirtual 72, 3) := by decide +kernel
theorem dX4_envelopeAt_34 : decode cX4_envelopeAt 34 = .ok (.iload_n 2, 1) := by decide +kernel
theorem dX4_envelopeAt_35 : decode cX4_envelopeAt 35 = .ok (.iload_n 3, 1) := by decide +kernel
theorem dX4_envelopeAt_36 : decode cX4_envelopeAt 36 = .ok (.invokestatic 152, 3) := by decide +kernel
theorem dX4_envelopeAt_39 : decode cX4_envelopeAt 39 = .ok (.goto 5, 3) := by decide +kernel
theorem dX4_envelopeAt_42 : decode cX4_envelopeAt 42 = .ok (.bipush 100, 2) := by decide +kernel
theorem dX4_envelopeAt_44 : decode cX4_envelopeAt 44 = .ok (.istore 6, 2) := by decide +kernel
theorem dX4_envelopeAt_46 : decode cX4_envelopeAt 46 = .ok (.iload 5, 2) := by decide +kernel
theorem dX4_envelopeAt_48 : decode cX4_envelopeAt 48 = .ok (.iload_n 2, 1) := by decide +kernel
theorem dX4_envelopeAt_49 : decode cX4_envelopeAt 49 = .ok (.isub, 1) := by decide +kernel
theorem dX4_envelopeAt_50 : decode cX4_envelopeAt 50 = .ok (.istore 7, 2) := by decide +kernel
theorem dX4_envelopeAt_52 : decode cX4_envelopeAt 52 = .ok (.iload 5, 2) := by decide +kernel
theorem dX4_envelopeAt_54 : decode cX4_envelopeAt 54 = .ok (.bipush (-9), 2) := by decide +kernel
theorem dX4_envelopeAt_56 : decode cX4_envelopeAt 56 = .ok (.if_icmp .eq 26, 3) := by decide +kernel
theorem dX4_envelopeAt_59 : decode cX4_envelopeAt 59 = .ok (.iload 7, 2) := by decide +kernel
theorem dX4_envelopeAt_61 : decode cX4_envelopeAt 61 = .ok (.iload 4, 2) := by decide +kernel
theorem dX4_envelopeAt_63 : decode cX4_envelopeAt 63 = .ok (.if_icmp .ge 19, 3) := by decide +kernel
theorem dX4_envelopeAt_66 : decode cX4_envelopeAt 66 = .ok (.aload_n 0, 1) := by decide +kernel
theorem dX4_envelopeAt_67 : decode cX4_envelopeAt 67 = .ok (.iload_n 1, 1) := by decide +kernel
theorem dX4_envelopeAt_68 : decode cX4_envelopeAt 68 = .ok (.iconst 5, 1) := by decide +kernel
theorem dX4_envelopeAt_69 : decode cX4_envelopeAt 69 = .ok (.invokevirtual 72, 3) := by decide +kernel
theorem dX4_envelopeAt_72 : decode cX4_envelopeAt 72 = .ok (.iload 7, 2) := by decide +kernel
theorem dX4_envelopeAt_74 : decode cX4_envelopeAt 74 = .ok (.iload 4, 2) := by decide +kernel
theorem dX4_envelopeAt_76 : decode cX4_envelopeAt 76 = .ok (.invokestatic 152, 3) := by decide +kernel
theorem dX4_envelopeAt_79 : decode cX4_envelopeAt 79 = .ok (.goto 5, 3) := by decide +kernel
theorem dX4_envelopeAt_82 : decode cX4_envelopeAt 82 = .ok (.bipush 100, 2) := by decide +kernel
theorem dX4_envelopeAt_84 : decode cX4_envelopeAt 84 = .ok (.istore 8, 2) := by decide +kernel
theorem dX4_envelopeAt_86 : decode cX4_envelopeAt 86 = .ok (.iload 6, 2) := by decide +kernel
theorem dX4_envelopeAt_88 : decode cX4_envelopeAt 88 = .ok (.iload 8, 2) := by decide +kernel
theorem dX4_envelopeAt_90 : decode cX4_envelopeAt 90 = .ok (.if_icmp .ge 8, 3) := by decide +kernel
theorem dX4_envelopeAt_93 : decode cX4_envelopeAt 93 = .ok (.iload 6, 2) := by decide +kernel
theorem dX4_envelopeAt_95 : decode cX4_envelopeAt 95 = .ok (.goto 5, 3) := by decide +kernel
theorem dX4_envelopeAt_98 : decode cX4_envelopeAt 98 = .ok (.iload 8, 2) := by decide +kernel
theorem dX4_envelopeAt_100 : decode cX4_envelopeAt 100 = .ok (.ireturn, 1) := by decide +kernel
theorem dX4_waveAt_0 : decode cX4_waveAt 0 = .ok (.aload_n 0, 1) := by decide +kernel
theorem dX4_waveAt_1 : decode cX4_waveAt 1 = .ok (.getfield 19, 3) := by decide +kernel
theorem dX4_waveAt_4 : decode cX4_waveAt 4 = .ok (.iload_n 1, 1) := by decide +kernel
theorem dX4_waveAt_5 : decode cX4_waveAt 5 = .ok (.iaload, 1) := by decide +kernel
theorem dX4_waveAt_6 : decode cX4_waveAt 6 = .ok (.istore_n 3, 1) := by decide +kernel
theorem dX4_waveAt_7 : decode cX4_waveAt 7 = .ok (.aload_n 0, 1) := by decide +kernel
theorem dX4_waveAt_8 : decode cX4_waveAt 8 = .ok (.getfield 22, 3) := by decide +kernel
theorem dX4_waveAt_11 : decode cX4_waveAt 11 = .ok (.iload_n 1, 1) := by decide +kernel
theorem dX4_waveAt_12 : decode cX4_waveAt 12 = .ok (.iaload, 1) := by decide +kernel
theorem dX4_waveAt_13 : decode cX4_waveAt 13 = .ok (.istore 4, 2) := by decide +kernel
theorem dX4_waveAt_15 : decode cX4_waveAt 15 = .ok (.aload_n 0, 1) := by decide +kernel
theorem dX4_waveAt_16 : decode cX4_waveAt 16 = .ok (.getfield 25, 3) := by decide +kernel
theorem dX4_waveAt_19 : decode cX4_waveAt 19 = .ok (.iload_n 1, 1) := by decide +kernel
theorem dX4_waveAt_20 : decode cX4_waveAt 20 = .ok (.iaload, 1) := by decide +kernel
theorem dX4_waveAt_21 : decode cX4_waveAt 21 = .ok (.istore 5, 2) := by decide +kernel
theorem dX4_waveAt_23 : decode cX4_waveAt 23 = .ok (.aload_n 0, 1) := by decide +kernel
theorem dX4_waveAt_24 : decode cX4_waveAt 24 = .ok (.iload_n 1, 1) := by decide +kernel
theorem dX4_waveAt_25 : decode cX4_waveAt 25 = .ok (.iconst 0, 1) := by decide +kernel
theorem dX4_waveAt_26 : decode cX4_waveAt 26 = .ok (.invokevirtual 72, 3) := by decide +kernel
theorem dX4_waveAt_29 : decode cX4_waveAt 29 = .ok (.istore 6, 2) := by decide +kernel
theorem dX4_waveAt_31 : decode cX4_waveAt 31 = .ok (.iload 5, 2) := by decide +kernel
theorem dX4_waveAt_33 : decode cX4_waveAt 33 = .ok (.ifCond .le 17, 3) := by decide +kernel
theorem dX4_waveAt_36 : decode cX4_waveAt 36 = .ok (.iload_n 2, 1) := by decide +kernel
theorem dX4_waveAt_37 : decode cX4_waveAt 37 = .ok (.aload_n 0, 1) := by decide +kernel
theorem dX4_waveAt_38 : decode cX4_waveAt 38 = .ok (.getfield 28, 3) := by decide +kernel
theorem dX4_waveAt_41 : decode cX4_waveAt 41 = .ok (.iload_n 1, 1) := by decide +kernel
theorem dX4_waveAt_42 : decode cX4_waveAt 42 = .ok (.iaload, 1) := by decide +kernel
theorem dX4_waveAt_43 : decode cX4_waveAt 43 = .ok (.iadd, 1) := by decide +kernel
theorem dX4_waveAt_44 : decode cX4_waveAt 44 = .ok (.iload 5, 2) := by decide +kernel
theorem dX4_waveAt_46 : decode cX4_waveAt 46 = .ok (.irem, 1) := by decide +kernel
theorem dX4_waveAt_47 : decode cX4_waveAt 47 = .ok (.goto 4, 3) := by decide +kernel
theorem dX4_waveAt_50 : decode cX4_waveAt 50 = .ok (.iconst 0, 1) := by decide +kernel
theorem dX4_waveAt_51 : decode cX4_waveAt 51 = .ok (.istore 7, 2) := by decide +kernel
theorem dX4_waveAt_53 : decode cX4_waveAt 53 = .ok (.aload_n 0, 1) := by decide +kernel
theorem dX4_waveAt_54 : decode cX4_waveAt 54 = .ok (.getfield 16, 3) := by decide +kernel
theorem dX4_waveAt_57 : decode cX4_waveAt 57 = .ok (.iload_n 1, 1) := by decide +kernel
theorem dX4_waveAt_58 : decode cX4_waveAt 58 = .ok (.iaload, 1) := by decide +kernel
theorem dX4_waveAt_59 : decode cX4_waveAt 59 = .ok (.tableswitch 93 0 2 #[25, 27, 48], 25) := by decide +kernel
theorem dX4_waveAt_84 : decode cX4_waveAt 84 = .ok (.iload_n 3, 1) := by decide +kernel
theorem dX4_waveAt_85 : decode cX4_waveAt 85 = .ok (.ireturn, 1) := by decide +kernel
theorem dX4_waveAt_86 : decode cX4_waveAt 86 = .ok (.iconst 2, 1) := by decide +kernel
theorem dX4_waveAt_87 : decode cX4_waveAt 87 = .ok (.iload 7, 2) := by decide +kernel
theorem dX4_waveAt_89 : decode cX4_waveAt 89 = .ok (.imul, 1) := by decide +kernel
theorem dX4_waveAt_90 : decode cX4_waveAt 90 = .ok (.iload 5, 2) := by decide +kernel
theorem dX4_waveAt_92 : decode cX4_waveAt 92 = .ok (.if_icmp .ge 10, 3) := by decide +kernel
theorem dX4_waveAt_95 : decode cX4_waveAt 95 = .ok (.iload 4, 2) := by decide +kernel
theorem dX4_waveAt_97 : decode cX4_waveAt 97 = .ok (.iload_n 3, 1) := by decide +kernel
theorem dX4_waveAt_98 : decode cX4_waveAt 98 = .ok (.iadd, 1) := by decide +kernel
theorem dX4_waveAt_99 : decode cX4_waveAt 99 = .ok (.goto 7, 3) := by decide +kernel
theorem dX4_waveAt_102 : decode cX4_waveAt 102 = .ok (.iload 4, 2) := by decide +kernel
theorem dX4_waveAt_104 : decode cX4_waveAt 104 = .ok (.iload_n 3, 1) := by decide +kernel
theorem dX4_waveAt_105 : decode cX4_waveAt 105 = .ok (.isub, 1) := by decide +kernel
theorem dX4_waveAt_106 : decode cX4_waveAt 106 = .ok (.ireturn, 1) := by decide +kernel
theorem dX4_waveAt_107 : decode cX4_waveAt 107 = .ok (.iconst 2, 1) := by decide +kernel
theorem dX4_waveAt_108 : decode cX4_waveAt 108 = .ok (.iload 7, 2) := by decide +kernel
theorem dX4_waveAt_110 : decode cX4_waveAt 110 = .ok (.imul, 1) := by decide +kernel
theorem dX4_waveAt_111 : decode cX4_waveAt 111 = .ok (.iload 5, 2) := by decide +kernel
theorem dX4_waveAt_113 : decode cX4_waveAt 113 = .ok (.if_icmp .ge 21, 3) := by decide +kernel
theorem dX4_waveAt_116 : decode cX4_waveAt 116 = .ok (.iload 4, 2) := by decide +kernel
theorem dX4_waveAt_118 : decode cX4_waveAt 118 = .ok (.iload_n 3, 1) := by decide +kernel
theorem dX4_waveAt_119 : decode cX4_waveAt 119 = .ok (.iconst 4, 1) := by decide +kernel
theorem dX4_waveAt_120 : decode cX4_waveAt 120 = .ok (.iload 7, 2) := by decide +kernel
theorem dX4_waveAt_122 : decode cX4_waveAt 122 = .ok (.imul, 1) := by decide +kernel
theorem dX4_waveAt_123 : decode cX4_waveAt 123 = .ok (.iload 5, 2) := by decide +kernel
theorem dX4_waveAt_125 : decode cX4_waveAt 125 = .ok (.isub, 1) := by decide +kernel
theorem dX4_waveAt_126 : decode cX4_waveAt 126 = .ok (.imul, 1) := by decide +kernel
theorem dX4_waveAt_127 : decode cX4_waveAt 127 = .ok (.iload 5, 2) := by decide +kernel
theorem dX4_waveAt_129 : decode cX4_waveAt 129 = .ok (.idiv, 1) := by decide +kernel
theorem dX4_waveAt_130 : decode cX4_waveAt 130 = .ok (.iadd, 1) := by decide +kernel
theorem dX4_waveAt_131 : decode cX4_waveAt 131 = .ok (.goto 20, 3) := by decide +kernel
theorem dX4_waveAt_134 : decode cX4_waveAt 134 = .ok (.iload 4, 2) := by decide +kernel
theorem dX4_waveAt_136 : decode cX4_waveAt 136 = .ok (.iload_n 3, 1) := by decide +kernel
theorem dX4_waveAt_137 : decode cX4_waveAt 137 = .ok (.iconst 3, 1) := by decide +kernel
theorem dX4_waveAt_138 : decode cX4_waveAt 138 = .ok (.iload 5, 2) := by decide +kernel
theorem dX4_waveAt_140 : decode cX4_waveAt 140 = .ok (.imul, 1) := by decide +kernel
theorem dX4_waveAt_141 : decode cX4_waveAt 141 = .ok (.iconst 4, 1) := by decide +kernel
theorem dX4_waveAt_142 : decode cX4_waveAt 142 = .ok (.iload 7, 2) := by decide +kernel
theorem dX4_waveAt_144 : decode cX4_waveAt 144 = .ok (.imul, 1) := by decide +kernel
theorem dX4_waveAt_145 : decode cX4_waveAt 145 = .ok (.isub, 1) := by decide +kernel
theorem dX4_waveAt_146 : decode cX4_waveAt 146 = .ok (.imul, 1) := by decide +kernel
theorem dX4_waveAt_147 : decode cX4_waveAt 147 = .ok (.iload 5, 2) := by decide +kernel
theorem dX4_waveAt_149 : decode cX4_waveAt 149 = .ok (.idiv, 1) := by decide +kernel
theorem dX4_waveAt_150 : decode cX4_waveAt 150 = .ok (.iadd, 1) := by decide +kernel
theorem dX4_waveAt_151 : decode cX4_waveAt 151 = .ok (.ireturn, 1) := by decide +kernel
theorem dX4_waveAt_152 : decode cX4_waveAt 152 = .ok (.iload 6, 2) := by decide +kernel
theorem dX4_waveAt_154 : decode cX4_waveAt 154 = .ok (.bipush (-9), 2) := by decide +kernel
theorem dX4_waveAt_156 : decode cX4_waveAt 156 = .ok (.if_icmp .ne 7, 3) := by decide +kernel
theorem dX4_waveAt_159 : decode cX4_waveAt 159 = .ok (.iload_n 3, 1) := by decide +kernel
theorem dX4_waveAt_160 : decode cX4_waveAt 160 = .ok (.goto 14, 3) := by decide +kernel
theorem dX4_waveAt_163 : decode cX4_waveAt 163 = .ok (.iload_n 3, 1) := by decide +kernel
theorem dX4_waveAt_164 : decode cX4_waveAt 164 = .ok (.iload 4, 2) := by decide +kernel
theorem dX4_waveAt_166 : decode cX4_waveAt 166 = .ok (.iload_n 3, 1) := by decide +kernel
theorem dX4_waveAt_167 : decode cX4_waveAt 167 = .ok (.isub, 1) := by decide +kernel
theorem dX4_waveAt_168 : decode cX4_waveAt 168 = .ok (.iload_n 2, 1) := by decide +kernel
theorem dX4_waveAt_169 : decode cX4_waveAt 169 = .ok (.imul, 1) := by decide +kernel
theorem dX4_waveAt_170 : decode cX4_waveAt 170 = .ok (.iload 6, 2) := by decide +kernel
theorem dX4_waveAt_172 : decode cX4_waveAt 172 = .ok (.idiv, 1) := by decide +kernel
theorem dX4_waveAt_173 : decode cX4_waveAt 173 = .ok (.iadd, 1) := by decide +kernel
theorem dX4_waveAt_174 : decode cX4_waveAt 174 = .ok (.ireturn, 1) := by decide +kernel
theorem dX4_beyond_0 : decode cX4_beyond 0 = .ok (.iload_n 0, 1) := by decide +kernel
theorem dX4_beyond_1 : decode cX4_beyond 1 = .ok (.invokestatic 155, 3) := by decide +kernel
theorem dX4_beyond_4 : decode cX4_beyond 4 = .ok (.iload_n 1, 1) := by decide +kernel
theorem dX4_beyond_5 : decode cX4_beyond 5 = .ok (.if_icmp .gt 7, 3) := by decide +kernel
theorem dX4_beyond_8 : decode cX4_beyond 8 = .ok (.iconst 0, 1) := by decide +kernel
theorem dX4_beyond_9 : decode cX4_beyond 9 = .ok (.goto 16, 3) := by decide +kernel
theorem dX4_beyond_12 : decode cX4_beyond 12 = .ok (.iload_n 0, 1) := by decide +kernel
theorem dX4_beyond_13 : decode cX4_beyond 13 = .ok (.ifCond .ge 9, 3) := by decide +kernel
theorem dX4_beyond_16 : decode cX4_beyond 16 = .ok (.iload_n 0, 1) := by decide +kernel
theorem dX4_beyond_17 : decode cX4_beyond 17 = .ok (.iload_n 1, 1) := by decide +kernel
theorem dX4_beyond_18 : decode cX4_beyond 18 = .ok (.iadd, 1) := by decide +kernel
theorem dX4_beyond_19 : decode cX4_beyond 19 = .ok (.goto 6, 3) := by decide +kernel
theorem dX4_beyond_22 : decode cX4_beyond 22 = .ok (.iload_n 0, 1) := by decide +kernel
theorem dX4_beyond_23 : decode cX4_beyond 23 = .ok (.iload_n 1, 1) := by decide +kernel
theorem dX4_beyond_24 : decode cX4_beyond 24 = .ok (.isub, 1) := by decide +kernel
theorem dX4_beyond_25 : decode cX4_beyond 25 = .ok (.ireturn, 1) := by decide +kernel
theorem dX4_byHand_0 : decode cX4_byHand 0 = .ok (.aload_n 0, 1) := by decide +kernel
theorem dX4_byHand_1 : decode cX4_byHand 1 = .ok (.getfield 19, 3) := by decide +kernel
theorem dX4_byHand_4 : decode cX4_byHand 4 = .ok (.iload_n 1, 1) := by decide +kernel
theorem dX4_byHand_5 : decode cX4_byHand 5 = .ok (.iaload, 1) := by decide +kernel
theorem dX4_byHand_6 : decode cX4_byHand 6 = .ok (.istore_n 3, 1) := by decide +kernel
theorem dX4_byHand_7 : decode cX4_byHand 7 = .ok (.aload_n 0, 1) := by decide +kernel
theorem dX4_byHand_8 : decode cX4_byHand 8 = .ok (.getfield 7, 3) := by decide +kernel
theorem dX4_byHand_11 : decode cX4_byHand 11 = .ok (.iload_n 2, 1) := by decide +kernel
theorem dX4_byHand_12 : decode cX4_byHand 12 = .ok (.iaload, 1) := by decide +kernel
theorem dX4_byHand_13 : decode cX4_byHand 13 = .ok (.aload_n 0, 1) := by decide +kernel
theorem dX4_byHand_14 : decode cX4_byHand 14 = .ok (.getfield 22, 3) := by decide +kernel
theorem dX4_byHand_17 : decode cX4_byHand 17 = .ok (.iload_n 1, 1) := by decide +kernel
theorem dX4_byHand_18 : decode cX4_byHand 18 = .ok (.iaload, 1) := by decide +kernel
theorem dX4_byHand_19 : decode cX4_byHand 19 = .ok (.isub, 1) := by decide +kernel
theorem dX4_byHand_20 : decode cX4_byHand 20 = .ok (.istore 4, 2) := by decide +kernel
theorem dX4_byHand_22 : decode cX4_byHand 22 = .ok (.aload_n 0, 1) := by decide +kernel
theorem dX4_byHand_23 : decode cX4_byHand 23 = .ok (.getfield 16, 3) := by decide +kernel
theorem dX4_byHand_26 : decode cX4_byHand 26 = .ok (.iload_n 1, 1) := by decide +kernel
theorem dX4_byHand_27 : decode cX4_byHand 27 = .ok (.iaload, 1) := by decide +kernel
theorem dX4_byHand_28 : decode cX4_byHand 28 = .ok (.iconst 4, 1) := by decide +kernel
theorem dX4_byHand_29 : decode cX4_byHand 29 = .ok (.if_icmp .ne 30, 3) := by decide +kernel
theorem dX4_byHand_32 : decode cX4_byHand 32 = .ok (.iload_n 3, 1) := by decide +kernel
theorem dX4_byHand_33 : decode cX4_byHand 33 = .ok (.ineg, 1) := by decide +kernel
theorem dX4_byHand_34 : decode cX4_byHand 34 = .ok (.iload 4, 2) := by decide +kernel
theorem dX4_byHand_36 : decode cX4_byHand 36 = .ok (.aload_n 0, 1) := by decide +kernel
theorem dX4_byHand_37 : decode cX4_byHand 37 = .ok (.getfield 25, 3) := by decide +kernel
theorem dX4_byHand_40 : decode cX4_byHand 40 = .ok (.iload_n 1, 1) := by decide +kernel
theorem dX4_byHand_41 : decode cX4_byHand 41 = .ok (.iaload, 1) := by decide +kernel
theorem dX4_byHand_42 : decode cX4_byHand 42 = .ok (.invokestatic 158, 3) := by decide +kernel
theorem dX4_byHand_45 : decode cX4_byHand 45 = .ok (.imul, 1) := by decide +kernel
theorem dX4_byHand_46 : decode cX4_byHand 46 = .ok (.bipush 100, 2) := by decide +kernel
theorem dX4_byHand_48 : decode cX4_byHand 48 = .ok (.idiv, 1) := by decide +kernel
theorem dX4_byHand_49 : decode cX4_byHand 49 = .ok (.aload_n 0, 1) := by decide +kernel
theorem dX4_byHand_50 : decode cX4_byHand 50 = .ok (.getfield 28, 3) := by decide +kernel
theorem dX4_byHand_53 : decode cX4_byHand 53 = .ok (.iload_n 1, 1) := by decide +kernel
theorem dX4_byHand_54 : decode cX4_byHand 54 = .ok (.iaload, 1) := by decide +kernel
theorem dX4_byHand_55 : decode cX4_byHand 55 = .ok (.invokestatic 161, 3) := by decide +kernel
theorem dX4_byHand_58 : decode cX4_byHand 58 = .ok (.ireturn, 1) := by decide +kernel
theorem dX4_byHand_59 : decode cX4_byHand 59 = .ok (.aload_n 0, 1) := by decide +kernel
theorem dX4_byHand_60 : decode cX4_byHand 60 = .ok (.getfield 16, 3) := by decide +kernel
theorem dX4_byHand_63 : decode cX4_byHand 63 = .ok (.iload_n 1, 1) := by decide +kernel
theorem dX4_byHand_64 : decode cX4_byHand 64 = .ok (.iaload, 1) := by decide +kernel
theorem dX4_byHand_65 : decode cX4_byHand 65 = .ok (.iconst 5, 1) := by decide +kernel
theorem dX4_byHand_66 : decode cX4_byHand 66 = .ok (.if_icmp .ne 35, 3) := by decide +kernel
theorem dX4_byHand_69 : decode cX4_byHand 69 = .ok (.iload_n 3, 1) := by decide +kernel
theorem dX4_byHand_70 : decode cX4_byHand 70 = .ok (.ineg, 1) := by decide +kernel
theorem dX4_byHand_71 : decode cX4_byHand 71 = .ok (.aload_n 0, 1) := by decide +kernel
theorem dX4_byHand_72 : decode cX4_byHand 72 = .ok (.getfield 13, 3) := by decide +kernel
theorem dX4_byHand_75 : decode cX4_byHand 75 = .ok (.iload_n 2, 1) := by decide +kernel
theorem dX4_byHand_76 : decode cX4_byHand 76 = .ok (.iaload, 1) := by decide +kernel
theorem dX4_byHand_77 : decode cX4_byHand 77 = .ok (.aload_n 0, 1) := by decide +kernel
theorem dX4_byHand_78 : decode cX4_byHand 78 = .ok (.getfield 25, 3) := by decide +kernel
theorem dX4_byHand_81 : decode cX4_byHand 81 = .ok (.iload_n 1, 1) := by decide +kernel
theorem dX4_byHand_82 : decode cX4_byHand 82 = .ok (.iaload, 1) := by decide +kernel
theorem dX4_byHand_83 : decode cX4_byHand 83 = .ok (.invokestatic 158, 3) := by decide +kernel
theorem dX4_byHand_86 : decode cX4_byHand 86 = .ok (.imul, 1) := by decide +kernel
theorem dX4_byHand_87 : decode cX4_byHand 87 = .ok (.sipush 1000, 3) := by decide +kernel
theorem dX4_byHand_90 : decode cX4_byHand 90 = .ok (.idiv, 1) := by decide +kernel
theorem dX4_byHand_91 : decode cX4_byHand 91 = .ok (.aload_n 0, 1) := by decide +kernel
theorem dX4_byHand_92 : decode cX4_byHand 92 = .ok (.getfield 28, 3) := by decide +kernel
theorem dX4_byHand_95 : decode cX4_byHand 95 = .ok (.iload_n 1, 1) := by decide +kernel
theorem dX4_byHand_96 : decode cX4_byHand 96 = .ok (.iaload, 1) := by decide +kernel
theorem dX4_byHand_97 : decode cX4_byHand 97 = .ok (.invokestatic 161, 3) := by decide +kernel
theorem dX4_byHand_100 : decode cX4_byHand 100 = .ok (.ireturn, 1) := by decide +kernel
theorem dX4_byHand_101 : decode cX4_byHand 101 = .ok (.aload_n 0, 1) := by decide +kernel
theorem dX4_byHand_102 : decode cX4_byHand 102 = .ok (.getfield 25, 3) := by decide +kernel
theorem dX4_byHand_105 : decode cX4_byHand 105 = .ok (.iload_n 1, 1) := by decide +kernel
theorem dX4_byHand_106 : decode cX4_byHand 106 = .ok (.iaload, 1) := by decide +kernel
theorem dX4_byHand_107 : decode cX4_byHand 107 = .ok (.ifCond .ne 16, 3) := by decide +kernel
theorem dX4_byHand_110 : decode cX4_byHand 110 = .ok (.iload 4, 2) := by decide +kernel
theorem dX4_byHand_112 : decode cX4_byHand 112 = .ok (.ifCond .le 7, 3) := by decide +kernel
theorem dX4_byHand_115 : decode cX4_byHand 115 = .ok (.iconst 1, 1) := by decide +kernel
theorem dX4_byHand_116 : decode cX4_byHand 116 = .ok (.goto 17, 3) := by decide +kernel
theorem dX4_byHand_119 : decode cX4_byHand 119 = .ok (.iconst 0, 1) := by decide +kernel
theorem dX4_byHand_120 : decode cX4_byHand 120 = .ok (.goto 13, 3) := by decide +kernel
theorem dX4_byHand_123 : decode cX4_byHand 123 = .ok (.iload 4, 2) := by decide +kernel
theorem dX4_byHand_125 : decode cX4_byHand 125 = .ok (.ifCond .ge 7, 3) := by decide +kernel
theorem dX4_byHand_128 : decode cX4_byHand 128 = .ok (.iconst 1, 1) := by decide +kernel
theorem dX4_byHand_129 : decode cX4_byHand 129 = .ok (.goto 4, 3) := by decide +kernel
theorem dX4_byHand_132 : decode cX4_byHand 132 = .ok (.iconst 0, 1) := by decide +kernel
theorem dX4_byHand_133 : decode cX4_byHand 133 = .ok (.istore 5, 2) := by decide +kernel
theorem dX4_byHand_135 : decode cX4_byHand 135 = .ok (.iload 5, 2) := by decide +kernel
theorem dX4_byHand_137 : decode cX4_byHand 137 = .ok (.ifCond .eq 23, 3) := by decide +kernel
theorem dX4_byHand_140 : decode cX4_byHand 140 = .ok (.iload_n 3, 1) := by decide +kernel
theorem dX4_byHand_141 : decode cX4_byHand 141 = .ok (.ineg, 1) := by decide +kernel
theorem dX4_byHand_142 : decode cX4_byHand 142 = .ok (.iload 4, 2) := by decide +kernel
theorem dX4_byHand_144 : decode cX4_byHand 144 = .ok (.imul, 1) := by decide +kernel
theorem dX4_byHand_145 : decode cX4_byHand 145 = .ok (.bipush 100, 2) := by decide +kernel
theorem dX4_byHand_147 : decode cX4_byHand 147 = .ok (.idiv, 1) := by decide +kernel
theorem dX4_byHand_148 : decode cX4_byHand 148 = .ok (.aload_n 0, 1) := by decide +kernel
theorem dX4_byHand_149 : decode cX4_byHand 149 = .ok (.getfield 28, 3) := by decide +kernel
theorem dX4_byHand_152 : decode cX4_byHand 152 = .ok (.iload_n 1, 1) := by decide +kernel
theorem dX4_byHand_153 : decode cX4_byHand 153 = .ok (.iaload, 1) := by decide +kernel
theorem dX4_byHand_154 : decode cX4_byHand 154 = .ok (.invokestatic 161, 3) := by decide +kernel
theorem dX4_byHand_157 : decode cX4_byHand 157 = .ok (.goto 4, 3) := by decide +kernel
theorem dX4_byHand_160 : decode cX4_byHand 160 = .ok (.iconst 0, 1) := by decide +kernel
theorem dX4_byHand_161 : decode cX4_byHand 161 = .ok (.ireturn, 1) := by decide +kernel
theorem dX4_partAt_0 : decode cX4_partAt 0 = .ok (.aload_n 0, 1) := by decide +kernel
theorem dX4_partAt_1 : decode cX4_partAt 1 = .ok (.iload_n 1, 1) := by decide +kernel
theorem dX4_partAt_2 : decode cX4_partAt 2 = .ok (.iload_n 3, 1) := by decide +kernel
theorem dX4_partAt_3 : decode cX4_partAt 3 = .ok (.iload 4, 2) := by decide +kernel
theorem dX4_partAt_5 : decode cX4_partAt 5 = .ok (.invokevirtual 111, 3) := by decide +kernel
theorem dX4_partAt_8 : decode cX4_partAt 8 = .ok (.ifCond .ne 5, 3) := by decide +kernel
theorem dX4_partAt_11 : decode cX4_partAt 11 = .ok (.iconst 0, 1) := by decide +kernel
theorem dX4_partAt_12 : decode cX4_partAt 12 = .ok (.ireturn, 1) := by decide +kernel
theorem dX4_partAt_13 : decode cX4_partAt 13 = .ok (.iload 4, 2) := by decide +kernel
theorem dX4_partAt_15 : decode cX4_partAt 15 = .ok (.iload_n 3, 1) := by decide +kernel
theorem dX4_partAt_16 : decode cX4_partAt 16 = .ok (.isub, 1) := by decide +kernel
theorem dX4_partAt_17 : decode cX4_partAt 17 = .ok (.aload_n 0, 1) := by decide +kernel
theorem dX4_partAt_18 : decode cX4_partAt 18 = .ok (.iload_n 1, 1) := by decide +kernel
theorem dX4_partAt_19 : decode cX4_partAt 19 = .ok (.iconst 1, 1) := by decide +kernel
theorem dX4_partAt_20 : decode cX4_partAt 20 = .ok (.invokevirtual 72, 3) := by decide +kernel
theorem dX4_partAt_23 : decode cX4_partAt 23 = .ok (.isub, 1) := by decide +kernel
theorem dX4_partAt_24 : decode cX4_partAt 24 = .ok (.istore 5, 2) := by decide +kernel
theorem dX4_partAt_26 : decode cX4_partAt 26 = .ok (.aload_n 0, 1) := by decide +kernel
theorem dX4_partAt_27 : decode cX4_partAt 27 = .ok (.getfield 16, 3) := by decide +kernel
theorem dX4_partAt_30 : decode cX4_partAt 30 = .ok (.iload_n 1, 1) := by decide +kernel
theorem dX4_partAt_31 : decode cX4_partAt 31 = .ok (.iaload, 1) := by decide +kernel
theorem dX4_partAt_32 : decode cX4_partAt 32 = .ok (.iconst 4, 1) := by decide +kernel
theorem dX4_partAt_33 : decode cX4_partAt 33 = .ok (.if_icmp .ge 24, 3) := by decide +kernel
theorem dX4_partAt_36 : decode cX4_partAt 36 = .ok (.aload_n 0, 1) := by decide +kernel
theorem dX4_partAt_37 : decode cX4_partAt 37 = .ok (.iload_n 1, 1) := by decide +kernel
theorem dX4_partAt_38 : decode cX4_partAt 38 = .ok (.iload 5, 2) := by decide +kernel
theorem dX4_partAt_40 : decode cX4_partAt 40 = .ok (.invokevirtual 164, 3) := by decide +kernel
theorem dX4_partAt_43 : decode cX4_partAt 43 = .ok (.aload_n 0, 1) := by decide +kernel
theorem dX4_partAt_44 : decode cX4_partAt 44 = .ok (.iload_n 1, 1) := by decide +kernel
theorem dX4_partAt_45 : decode cX4_partAt 45 = .ok (.iload 5, 2) := by decide +kernel
theorem dX4_partAt_47 : decode cX4_partAt 47 = .ok (.invokevirtual 167, 3) := by decide +kernel
theorem dX4_partAt_50 : decode cX4_partAt 50 = .ok (.imul, 1) := by decide +kernel
theorem dX4_partAt_51 : decode cX4_partAt 51 = .ok (.bipush 100, 2) := by decide +kernel
theorem dX4_partAt_53 : decode cX4_partAt 53 = .ok (.idiv, 1) := by decide +kernel
theorem dX4_partAt_54 : decode cX4_partAt 54 = .ok (.goto 9, 3) := by decide +kernel
theorem dX4_partAt_57 : decode cX4_partAt 57 = .ok (.aload_n 0, 1) := by decide +kernel
theorem dX4_partAt_58 : decode cX4_partAt 58 = .ok (.iload_n 1, 1) := by decide +kernel
theorem dX4_partAt_59 : decode cX4_partAt 59 = .ok (.iload_n 2, 1) := by decide +kernel
theorem dX4_partAt_60 : decode cX4_partAt 60 = .ok (.invokevirtual 170, 3) := by decide +kernel
theorem dX4_partAt_63 : decode cX4_partAt 63 = .ok (.istore 6, 2) := by decide +kernel
theorem dX4_partAt_65 : decode cX4_partAt 65 = .ok (.iload 6, 2) := by decide +kernel
theorem dX4_partAt_67 : decode cX4_partAt 67 = .ok (.aload_n 0, 1) := by decide +kernel
theorem dX4_partAt_68 : decode cX4_partAt 68 = .ok (.iload_n 1, 1) := by decide +kernel
theorem dX4_partAt_69 : decode cX4_partAt 69 = .ok (.bipush 8, 2) := by decide +kernel
theorem dX4_partAt_71 : decode cX4_partAt 71 = .ok (.invokevirtual 72, 3) := by decide +kernel
theorem dX4_partAt_74 : decode cX4_partAt 74 = .ok (.imul, 1) := by decide +kernel
theorem dX4_partAt_75 : decode cX4_partAt 75 = .ok (.bipush 100, 2) := by decide +kernel
theorem dX4_partAt_77 : decode cX4_partAt 77 = .ok (.idiv, 1) := by decide +kernel
theorem dX4_partAt_78 : decode cX4_partAt 78 = .ok (.aload_n 0, 1) := by decide +kernel
theorem dX4_partAt_79 : decode cX4_partAt 79 = .ok (.iload_n 1, 1) := by decide +kernel
theorem dX4_partAt_80 : decode cX4_partAt 80 = .ok (.iload_n 2, 1) := by decide +kernel
theorem dX4_partAt_81 : decode cX4_partAt 81 = .ok (.ifCond .ne 8, 3) := by decide +kernel
theorem dX4_partAt_84 : decode cX4_partAt 84 = .ok (.bipush 6, 2) := by decide +kernel
theorem dX4_partAt_86 : decode cX4_partAt 86 = .ok (.goto 5, 3) := by decide +kernel
theorem dX4_partAt_89 : decode cX4_partAt 89 = .ok (.bipush 7, 2) := by decide +kernel
theorem dX4_partAt_91 : decode cX4_partAt 91 = .ok (.invokevirtual 72, 3) := by decide +kernel
theorem dX4_partAt_94 : decode cX4_partAt 94 = .ok (.imul, 1) := by decide +kernel
theorem dX4_partAt_95 : decode cX4_partAt 95 = .ok (.bipush 100, 2) := by decide +kernel
theorem dX4_partAt_97 : decode cX4_partAt 97 = .ok (.idiv, 1) := by decide +kernel
theorem dX4_partAt_98 : decode cX4_partAt 98 = .ok (.ireturn, 1) := by decide +kernel
theorem dX4_rawAt_0 : decode cX4_rawAt 0 = .ok (.aload_n 0, 1) := by decide +kernel
theorem dX4_rawAt_1 : decode cX4_rawAt 1 = .ok (.iload_n 2, 1) := by decide +kernel
theorem dX4_rawAt_2 : decode cX4_rawAt 2 = .ok (.invokevirtual 143, 3) := by decide +kernel
theorem dX4_rawAt_5 : decode cX4_rawAt 5 = .ok (.ifCond .eq 5, 3) := by decide +kernel
theorem dX4_rawAt_8 : decode cX4_rawAt 8 = .ok (.iconst 0, 1) := by decide +kernel
theorem dX4_rawAt_9 : decode cX4_rawAt 9 = .ok (.ireturn, 1) := by decide +kernel
theorem dX4_rawAt_10 : decode cX4_rawAt 10 = .ok (.iconst 0, 1) := by decide +kernel
theorem dX4_rawAt_11 : decode cX4_rawAt 11 = .ok (.istore 4, 2) := by decide +kernel
theorem dX4_rawAt_13 : decode cX4_rawAt 13 = .ok (.iconst 0, 1) := by decide +kernel
theorem dX4_rawAt_14 : decode cX4_rawAt 14 = .ok (.istore 5, 2) := by decide +kernel
theorem dX4_rawAt_16 : decode cX4_rawAt 16 = .ok (.iload 5, 2) := by decide +kernel
theorem dX4_rawAt_18 : decode cX4_rawAt 18 = .ok (.aload_n 0, 1) := by decide +kernel
theorem dX4_rawAt_19 : decode cX4_rawAt 19 = .ok (.getfield 56, 3) := by decide +kernel
theorem dX4_rawAt_22 : decode cX4_rawAt 22 = .ok (.if_icmp .ge 55, 3) := by decide +kernel
theorem dX4_rawAt_25 : decode cX4_rawAt 25 = .ok (.iload_n 3, 1) := by decide +kernel
theorem dX4_rawAt_26 : decode cX4_rawAt 26 = .ok (.iload 5, 2) := by decide +kernel
theorem dX4_rawAt_28 : decode cX4_rawAt 28 = .ok (.ishr, 1) := by decide +kernel
theorem dX4_rawAt_29 : decode cX4_rawAt 29 = .ok (.iconst 1, 1) := by decide +kernel
theorem dX4_rawAt_30 : decode cX4_rawAt 30 = .ok (.iand, 1) := by decide +kernel
theorem dX4_rawAt_31 : decode cX4_rawAt 31 = .ok (.iconst 1, 1) := by decide +kernel
theorem dX4_rawAt_32 : decode cX4_rawAt 32 = .ok (.if_icmp .ne 8, 3) := by decide +kernel
theorem dX4_rawAt_35 : decode cX4_rawAt 35 = .ok (.bipush (-9), 2) := by decide +kernel
theorem dX4_rawAt_37 : decode cX4_rawAt 37 = .ok (.goto 10, 3) := by decide +kernel
theorem dX4_rawAt_40 : decode cX4_rawAt 40 = .ok (.aload_n 0, 1) := by decide +kernel
theorem dX4_rawAt_41 : decode cX4_rawAt 41 = .ok (.getfield 34, 3) := by decide +kernel
theorem dX4_rawAt_44 : decode cX4_rawAt 44 = .ok (.iload 5, 2) := by decide +kernel
theorem dX4_rawAt_46 : decode cX4_rawAt 46 = .ok (.iaload, 1) := by decide +kernel
theorem dX4_rawAt_47 : decode cX4_rawAt 47 = .ok (.istore 6, 2) := by decide +kernel
theorem dX4_rawAt_49 : decode cX4_rawAt 49 = .ok (.iload 4, 2) := by decide +kernel
theorem dX4_rawAt_51 : decode cX4_rawAt 51 = .ok (.aload_n 0, 1) := by decide +kernel
theorem dX4_rawAt_52 : decode cX4_rawAt 52 = .ok (.iload 5, 2) := by decide +kernel
theorem dX4_rawAt_54 : decode cX4_rawAt 54 = .ok (.iload_n 1, 1) := by decide +kernel
theorem dX4_rawAt_55 : decode cX4_rawAt 55 = .ok (.aload_n 0, 1) := by decide +kernel
theorem dX4_rawAt_56 : decode cX4_rawAt 56 = .ok (.iload 5, 2) := by decide +kernel
theorem dX4_rawAt_58 : decode cX4_rawAt 58 = .ok (.iload 6, 2) := by decide +kernel
theorem dX4_rawAt_60 : decode cX4_rawAt 60 = .ok (.iload_n 2, 1) := by decide +kernel
theorem dX4_rawAt_61 : decode cX4_rawAt 61 = .ok (.invokevirtual 138, 3) := by decide +kernel
theorem dX4_rawAt_64 : decode cX4_rawAt 64 = .ok (.iload_n 2, 1) := by decide +kernel
theorem dX4_rawAt_65 : decode cX4_rawAt 65 = .ok (.invokevirtual 173, 3) := by decide +kernel
theorem dX4_rawAt_68 : decode cX4_rawAt 68 = .ok (.iadd, 1) := by decide +kernel
theorem dX4_rawAt_69 : decode cX4_rawAt 69 = .ok (.istore 4, 2) := by decide +kernel
theorem dX4_rawAt_71 : decode cX4_rawAt 71 = .ok (.iinc 5 1, 3) := by decide +kernel
theorem dX4_rawAt_74 : decode cX4_rawAt 74 = .ok (.goto (-58), 3) := by decide +kernel
theorem dX4_rawAt_77 : decode cX4_rawAt 77 = .ok (.iload 4, 2) := by decide +kernel
theorem dX4_rawAt_79 : decode cX4_rawAt 79 = .ok (.ireturn, 1) := by decide +kernel
theorem dX4_part_0 : decode cX4_part 0 = .ok (.aload_n 0, 1) := by decide +kernel
theorem dX4_part_1 : decode cX4_part 1 = .ok (.iload_n 1, 1) := by decide +kernel
theorem dX4_part_2 : decode cX4_part 2 = .ok (.invokevirtual 76, 3) := by decide +kernel
theorem dX4_part_5 : decode cX4_part 5 = .ok (.ifCond .eq 10, 3) := by decide +kernel
theorem dX4_part_8 : decode cX4_part 8 = .ok (.iload_n 2, 1) := by decide +kernel
theorem dX4_part_9 : decode cX4_part 9 = .ok (.invokestatic 101, 3) := by decide +kernel
theorem dX4_part_12 : decode cX4_part 12 = .ok (.ifCond .ne 5, 3) := by decide +kernel
theorem dX4_part_15 : decode cX4_part 15 = .ok (.iconst (-1), 1) := by decide +kernel
theorem dX4_part_16 : decode cX4_part 16 = .ok (.ireturn, 1) := by decide +kernel
theorem dX4_part_17 : decode cX4_part 17 = .ok (.aload_n 0, 1) := by decide +kernel
theorem dX4_part_18 : decode cX4_part 18 = .ok (.iload_n 1, 1) := by decide +kernel
theorem dX4_part_19 : decode cX4_part 19 = .ok (.iload_n 2, 1) := by decide +kernel
theorem dX4_part_20 : decode cX4_part 20 = .ok (.aload_n 0, 1) := by decide +kernel
theorem dX4_part_21 : decode cX4_part 21 = .ok (.getfield 34, 3) := by decide +kernel
theorem dX4_part_24 : decode cX4_part 24 = .ok (.iload_n 1, 1) := by decide +kernel
theorem dX4_part_25 : decode cX4_part 25 = .ok (.iaload, 1) := by decide +kernel
theorem dX4_part_26 : decode cX4_part 26 = .ok (.aload_n 0, 1) := by decide +kernel
theorem dX4_part_27 : decode cX4_part 27 = .ok (.getfield 91, 3) := by decide +kernel
theorem dX4_part_30 : decode cX4_part 30 = .ok (.invokevirtual 173, 3) := by decide +kernel
theorem dX4_part_33 : decode cX4_part 33 = .ok (.sipush 10000, 3) := by decide +kernel
theorem dX4_part_36 : decode cX4_part 36 = .ok (.iadd, 1) := by decide +kernel
theorem dX4_part_37 : decode cX4_part 37 = .ok (.ireturn, 1) := by decide +kernel
theorem dX4_envelope_0 : decode cX4_envelope 0 = .ok (.aload_n 0, 1) := by decide +kernel
theorem dX4_envelope_1 : decode cX4_envelope 1 = .ok (.iload_n 1, 1) := by decide +kernel
theorem dX4_envelope_2 : decode cX4_envelope 2 = .ok (.invokevirtual 76, 3) := by decide +kernel
theorem dX4_envelope_5 : decode cX4_envelope 5 = .ok (.ifCond .ne 5, 3) := by decide +kernel
theorem dX4_envelope_8 : decode cX4_envelope 8 = .ok (.iconst (-1), 1) := by decide +kernel
theorem dX4_envelope_9 : decode cX4_envelope 9 = .ok (.ireturn, 1) := by decide +kernel
theorem dX4_envelope_10 : decode cX4_envelope 10 = .ok (.aload_n 0, 1) := by decide +kernel
theorem dX4_envelope_11 : decode cX4_envelope 11 = .ok (.iload_n 1, 1) := by decide +kernel
theorem dX4_envelope_12 : decode cX4_envelope 12 = .ok (.aload_n 0, 1) := by decide +kernel
theorem dX4_envelope_13 : decode cX4_envelope 13 = .ok (.getfield 34, 3) := by decide +kernel
theorem dX4_envelope_16 : decode cX4_envelope 16 = .ok (.iload_n 1, 1) := by decide +kernel
theorem dX4_envelope_17 : decode cX4_envelope 17 = .ok (.iaload, 1) := by decide +kernel
theorem dX4_envelope_18 : decode cX4_envelope 18 = .ok (.aload_n 0, 1) := by decide +kernel
theorem dX4_envelope_19 : decode cX4_envelope 19 = .ok (.getfield 91, 3) := by decide +kernel
theorem dX4_envelope_22 : decode cX4_envelope 22 = .ok (.invokevirtual 111, 3) := by decide +kernel
theorem dX4_envelope_25 : decode cX4_envelope 25 = .ok (.ifCond .eq 17, 3) := by decide +kernel
theorem dX4_envelope_28 : decode cX4_envelope 28 = .ok (.aload_n 0, 1) := by decide +kernel
theorem dX4_envelope_29 : decode cX4_envelope 29 = .ok (.getfield 16, 3) := by decide +kernel
theorem dX4_envelope_32 : decode cX4_envelope 32 = .ok (.iload_n 1, 1) := by decide +kernel
theorem dX4_envelope_33 : decode cX4_envelope 33 = .ok (.iaload, 1) := by decide +kernel
theorem dX4_envelope_34 : decode cX4_envelope 34 = .ok (.iconst 4, 1) := by decide +kernel
theorem dX4_envelope_35 : decode cX4_envelope 35 = .ok (.if_icmp .ge 7, 3) := by decide +kernel
theorem dX4_envelope_38 : decode cX4_envelope 38 = .ok (.iconst 1, 1) := by decide +kernel
theorem dX4_envelope_39 : decode cX4_envelope 39 = .ok (.goto 4, 3) := by decide +kernel
theorem dX4_envelope_42 : decode cX4_envelope 42 = .ok (.iconst 0, 1) := by decide +kernel
theorem dX4_envelope_43 : decode cX4_envelope 43 = .ok (.istore_n 2, 1) := by decide +kernel
theorem dX4_envelope_44 : decode cX4_envelope 44 = .ok (.iload_n 2, 1) := by decide +kernel
theorem dX4_envelope_45 : decode cX4_envelope 45 = .ok (.ifCond .eq 29, 3) := by decide +kernel
theorem dX4_envelope_48 : decode cX4_envelope 48 = .ok (.aload_n 0, 1) := by decide +kernel
theorem dX4_envelope_49 : decode cX4_envelope 49 = .ok (.iload_n 1, 1) := by decide +kernel
theorem dX4_envelope_50 : decode cX4_envelope 50 = .ok (.aload_n 0, 1) := by decide +kernel
theorem dX4_envelope_51 : decode cX4_envelope 51 = .ok (.getfield 91, 3) := by decide +kernel
theorem dX4_envelope_54 : decode cX4_envelope 54 = .ok (.aload_n 0, 1) := by decide +kernel
theorem dX4_envelope_55 : decode cX4_envelope 55 = .ok (.getfield 34, 3) := by decide +kernel
theorem dX4_envelope_58 : decode cX4_envelope 58 = .ok (.iload_n 1, 1) := by decide +kernel
theorem dX4_envelope_59 : decode cX4_envelope 59 = .ok (.iaload, 1) := by decide +kernel
theorem dX4_envelope_60 : decode cX4_envelope 60 = .ok (.isub, 1) := by decide +kernel
theorem dX4_envelope_61 : decode cX4_envelope 61 = .ok (.aload_n 0, 1) := by decide +kernel
theorem dX4_envelope_62 : decode cX4_envelope 62 = .ok (.iload_n 1, 1) := by decide +kernel
theorem dX4_envelope_63 : decode cX4_envelope 63 = .ok (.iconst 1, 1) := by decide +kernel
theorem dX4_envelope_64 : decode cX4_envelope 64 = .ok (.invokevirtual 72, 3) := by decide +kernel
theorem dX4_envelope_67 : decode cX4_envelope 67 = .ok (.isub, 1) := by decide +kernel
theorem dX4_envelope_68 : decode cX4_envelope 68 = .ok (.invokevirtual 167, 3) := by decide +kernel
theorem dX4_envelope_71 : decode cX4_envelope 71 = .ok (.goto 5, 3) := by decide +kernel
theorem dX4_envelope_74 : decode cX4_envelope 74 = .ok (.bipush (-9), 2) := by decide +kernel
theorem dX4_envelope_76 : decode cX4_envelope 76 = .ok (.ireturn, 1) := by decide +kernel
theorem dX4_force_0 : decode cX4_force 0 = .ok (.iload_n 1, 1) := by decide +kernel
theorem dX4_force_1 : decode cX4_force 1 = .ok (.invokestatic 101, 3) := by decide +kernel
theorem dX4_force_4 : decode cX4_force 4 = .ok (.ifCond .ne 5, 3) := by decide +kernel
theorem dX4_force_7 : decode cX4_force 7 = .ok (.iconst (-1), 1) := by decide +kernel
theorem dX4_force_8 : decode cX4_force 8 = .ok (.ireturn, 1) := by decide +kernel
theorem dX4_force_9 : decode cX4_force 9 = .ok (.iload_n 2, 1) := by decide +kernel
theorem dX4_force_10 : decode cX4_force 10 = .ok (.iconst 0, 1) := by decide +kernel
theorem dX4_force_11 : decode cX4_force 11 = .ok (.iconst 1, 1) := by decide +kernel
theorem dX4_force_12 : decode cX4_force 12 = .ok (.invokestatic 59, 3) := by decide +kernel
theorem dX4_force_15 : decode cX4_force 15 = .ok (.ifCond .ne 6, 3) := by decide +kernel
theorem dX4_force_18 : decode cX4_force 18 = .ok (.bipush (-2), 2) := by decide +kernel
theorem dX4_force_20 : decode cX4_force 20 = .ok (.ireturn, 1) := by decide +kernel
theorem dX4_force_21 : decode cX4_force 21 = .ok (.aload_n 0, 1) := by decide +kernel
theorem dX4_force_22 : decode cX4_force 22 = .ok (.iload_n 1, 1) := by decide +kernel
theorem dX4_force_23 : decode cX4_force 23 = .ok (.aload_n 0, 1) := by decide +kernel
theorem dX4_force_24 : decode cX4_force 24 = .ok (.getfield 91, 3) := by decide +kernel
theorem dX4_force_27 : decode cX4_force 27 = .ok (.iconst 0, 1) := by decide +kernel
theorem dX4_force_28 : decode cX4_force 28 = .ok (.invokevirtual 177, 3) := by decide +kernel
theorem dX4_force_31 : decode cX4_force 31 = .ok (.istore_n 3, 1) := by decide +kernel
theorem dX4_force_32 : decode cX4_force 32 = .ok (.iload_n 2, 1) := by decide +kernel
theorem dX4_force_33 : decode cX4_force 33 = .ok (.ifCond .ne 10, 3) := by decide +kernel
theorem dX4_force_36 : decode cX4_force 36 = .ok (.iload_n 3, 1) := by decide +kernel
theorem dX4_force_37 : decode cX4_force 37 = .ok (.ldc 142, 2) := by decide +kernel
theorem dX4_force_39 : decode cX4_force 39 = .ok (.iadd, 1) := by decide +kernel
theorem dX4_force_40 : decode cX4_force 40 = .ok (.goto 22, 3) := by decide +kernel
theorem dX4_force_43 : decode cX4_force 43 = .ok (.iload_n 3, 1) := by decide +kernel
theorem dX4_force_44 : decode cX4_force 44 = .ok (.sipush 1000, 3) := by decide +kernel
theorem dX4_force_47 : decode cX4_force 47 = .ok (.invokestatic 161, 3) := by decide +kernel
theorem dX4_force_50 : decode cX4_force 50 = .ok (.aload_n 0, 1) := by decide +kernel
theorem dX4_force_51 : decode cX4_force 51 = .ok (.getfield 50, 3) := by decide +kernel
theorem dX4_force_54 : decode cX4_force 54 = .ok (.imul, 1) := by decide +kernel
theorem dX4_force_55 : decode cX4_force 55 = .ok (.bipush 100, 2) := by decide +kernel
theorem dX4_force_57 : decode cX4_force 57 = .ok (.idiv, 1) := by decide +kernel
theorem dX4_force_58 : decode cX4_force 58 = .ok (.sipush 10000, 3) := by decide +kernel
theorem dX4_force_61 : decode cX4_force 61 = .ok (.iadd, 1) := by decide +kernel
theorem dX4_force_62 : decode cX4_force 62 = .ok (.ireturn, 1) := by decide +kernel
theorem dX4_rate_0 : decode cX4_rate 0 = .ok (.iload_n 1, 1) := by decide +kernel
theorem dX4_rate_1 : decode cX4_rate 1 = .ok (.iconst 1, 1) := by decide +kernel
theorem dX4_rate_2 : decode cX4_rate 2 = .ok (.sipush 1000, 3) := by decide +kernel
theorem dX4_rate_5 : decode cX4_rate 5 = .ok (.invokestatic 59, 3) := by decide +kernel
theorem dX4_rate_8 : decode cX4_rate 8 = .ok (.ifCond .ne 6, 3) := by decide +kernel
theorem dX4_rate_11 : decode cX4_rate 11 = .ok (.bipush (-2), 2) := by decide +kernel
theorem dX4_rate_13 : decode cX4_rate 13 = .ok (.ireturn, 1) := by decide +kernel
theorem dX4_rate_14 : decode cX4_rate 14 = .ok (.aload_n 0, 1) := by decide +kernel
theorem dX4_rate_15 : decode cX4_rate 15 = .ok (.getfield 53, 3) := by decide +kernel
theorem dX4_rate_18 : decode cX4_rate 18 = .ok (.istore_n 2, 1) := by decide +kernel
theorem dX4_rate_19 : decode cX4_rate 19 = .ok (.aload_n 0, 1) := by decide +kernel
theorem dX4_rate_20 : decode cX4_rate 20 = .ok (.iload_n 1, 1) := by decide +kernel
theorem dX4_rate_21 : decode cX4_rate 21 = .ok (.putfield 53, 3) := by decide +kernel
theorem dX4_rate_24 : decode cX4_rate 24 = .ok (.iload_n 2, 1) := by decide +kernel
theorem dX4_rate_25 : decode cX4_rate 25 = .ok (.ireturn, 1) := by decide +kernel
theorem dX4_frame_0 : decode cX4_frame 0 = .ok (.iload_n 1, 1) := by decide +kernel
theorem dX4_frame_1 : decode cX4_frame 1 = .ok (.iconst 0, 1) := by decide +kernel
theorem dX4_frame_2 : decode cX4_frame 2 = .ok (.ldc 180, 2) := by decide +kernel
theorem dX4_frame_4 : decode cX4_frame 4 = .ok (.invokestatic 59, 3) := by decide +kernel
theorem dX4_frame_7 : decode cX4_frame 7 = .ok (.ifCond .eq 16, 3) := by decide +kernel
theorem dX4_frame_10 : decode cX4_frame 10 = .ok (.sipush 1000, 3) := by decide +kernel
theorem dX4_frame_13 : decode cX4_frame 13 = .ok (.iload_n 1, 1) := by decide +kernel
theorem dX4_frame_14 : decode cX4_frame 14 = .ok (.imul, 1) := by decide +kernel
theorem dX4_frame_15 : decode cX4_frame 15 = .ok (.aload_n 0, 1) := by decide +kernel
theorem dX4_frame_16 : decode cX4_frame 16 = .ok (.getfield 53, 3) := by decide +kernel
theorem dX4_frame_19 : decode cX4_frame 19 = .ok (.idiv, 1) := by decide +kernel
theorem dX4_frame_20 : decode cX4_frame 20 = .ok (.goto 5, 3) := by decide +kernel
theorem dX4_frame_23 : decode cX4_frame 23 = .ok (.bipush (-2), 2) := by decide +kernel
theorem dX4_frame_25 : decode cX4_frame 25 = .ok (.ireturn, 1) := by decide +kernel
theorem dX4_frames_0 : decode cX4_frames 0 = .ok (.aload_n 0, 1) := by decide +kernel
theorem dX4_frames_1 : decode cX4_frames 1 = .ok (.getfield 91, 3) := by decide +kernel
theorem dX4_frames_4 : decode cX4_frames 4 = .ok (.i2l, 1) := by decide +kernel
theorem dX4_frames_5 : decode cX4_frames 5 = .ok (.lconst 1, 1) := by decide +kernel
theorem dX4_frames_6 : decode cX4_frames 6 = .ok (.ladd, 1) := by decide +kernel
theorem dX4_frames_7 : decode cX4_frames 7 = .ok (.aload_n 0, 1) := by decide +kernel
theorem dX4_frames_8 : decode cX4_frames 8 = .ok (.getfield 53, 3) := by decide +kernel
theorem dX4_frames_11 : decode cX4_frames 11 = .ok (.i2l, 1) := by decide +kernel
theorem dX4_frames_12 : decode cX4_frames 12 = .ok (.lmul, 1) := by decide +kernel
theorem dX4_frames_13 : decode cX4_frames 13 = .ok (.lconst 1, 1) := by decide +kernel
theorem dX4_frames_14 : decode cX4_frames 14 = .ok (.lsub, 1) := by decide +kernel
theorem dX4_frames_15 : decode cX4_frames 15 = .ok (.ldc2_w 181, 3) := by decide +kernel
theorem dX4_frames_18 : decode cX4_frames 18 = .ok (.ldiv, 1) := by decide +kernel
theorem dX4_frames_19 : decode cX4_frames 19 = .ok (.l2i, 1) := by decide +kernel
theorem dX4_frames_20 : decode cX4_frames 20 = .ok (.iconst 1, 1) := by decide +kernel
theorem dX4_frames_21 : decode cX4_frames 21 = .ok (.iadd, 1) := by decide +kernel
theorem dX4_frames_22 : decode cX4_frames 22 = .ok (.ireturn, 1) := by decide +kernel
theorem dX4_peak_0 : decode cX4_peak 0 = .ok (.iload_n 1, 1) := by decide +kernel
theorem dX4_peak_1 : decode cX4_peak 1 = .ok (.invokestatic 101, 3) := by decide +kernel
theorem dX4_peak_4 : decode cX4_peak 4 = .ok (.ifCond .ne 5, 3) := by decide +kernel
theorem dX4_peak_7 : decode cX4_peak 7 = .ok (.iconst (-1), 1) := by decide +kernel
theorem dX4_peak_8 : decode cX4_peak 8 = .ok (.ireturn, 1) := by decide +kernel
theorem dX4_peak_9 : decode cX4_peak 9 = .ok (.iload_n 2, 1) := by decide +kernel
theorem dX4_peak_10 : decode cX4_peak 10 = .ok (.iconst 1, 1) := by decide +kernel
theorem dX4_peak_11 : decode cX4_peak 11 = .ok (.sipush 2000, 3) := by decide +kernel
theorem dX4_peak_14 : decode cX4_peak 14 = .ok (.invokestatic 59, 3) := by decide +kernel
theorem dX4_peak_17 : decode cX4_peak 17 = .ok (.ifCond .eq 12, 3) := by decide +kernel
theorem dX4_peak_20 : decode cX4_peak 20 = .ok (.iload_n 3, 1) := by decide +kernel
theorem dX4_peak_21 : decode cX4_peak 21 = .ok (.iconst 0, 1) := by decide +kernel
theorem dX4_peak_22 : decode cX4_peak 22 = .ok (.iconst 1, 1) := by decide +kernel
theorem dX4_peak_23 : decode cX4_peak 23 = .ok (.invokestatic 59, 3) := by decide +kernel
theorem dX4_peak_26 : decode cX4_peak 26 = .ok (.ifCond .ne 6, 3) := by decide +kernel
theorem dX4_peak_29 : decode cX4_peak 29 = .ok (.bipush (-2), 2) := by decide +kernel
theorem dX4_peak_31 : decode cX4_peak 31 = .ok (.ireturn, 1) := by decide +kernel
theorem dX4_peak_32 : decode cX4_peak 32 = .ok (.iconst (-1), 1) := by decide +kernel
theorem dX4_peak_33 : decode cX4_peak 33 = .ok (.istore 4, 2) := by decide +kernel
theorem dX4_peak_35 : decode cX4_peak 35 = .ok (.iconst 0, 1) := by decide +kernel
theorem dX4_peak_36 : decode cX4_peak 36 = .ok (.istore 5, 2) := by decide +kernel
theorem dX4_peak_38 : decode cX4_peak 38 = .ok (.iconst 0, 1) := by decide +kernel
theorem dX4_peak_39 : decode cX4_peak 39 = .ok (.istore 6, 2) := by decide +kernel
theorem dX4_peak_41 : decode cX4_peak 41 = .ok (.iload 6, 2) := by decide +kernel
theorem dX4_peak_43 : decode cX4_peak 43 = .ok (.iload_n 2, 1) := by decide +kernel
theorem dX4_peak_44 : decode cX4_peak 44 = .ok (.if_icmp .ge 42, 3) := by decide +kernel
theorem dX4_peak_47 : decode cX4_peak 47 = .ok (.aload_n 0, 1) := by decide +kernel
theorem dX4_peak_48 : decode cX4_peak 48 = .ok (.iload_n 1, 1) := by decide +kernel
theorem dX4_peak_49 : decode cX4_peak 49 = .ok (.aload_n 0, 1) := by decide +kernel
theorem dX4_peak_50 : decode cX4_peak 50 = .ok (.getfield 91, 3) := by decide +kernel
theorem dX4_peak_53 : decode cX4_peak 53 = .ok (.iload 6, 2) := by decide +kernel
theorem dX4_peak_55 : decode cX4_peak 55 = .ok (.iadd, 1) := by decide +kernel
theorem dX4_peak_56 : decode cX4_peak 56 = .ok (.iconst 0, 1) := by decide +kernel
theorem dX4_peak_57 : decode cX4_peak 57 = .ok (.invokevirtual 177, 3) := by decide +kernel
theorem dX4_peak_60 : decode cX4_peak 60 = .ok (.invokestatic 155, 3) := by decide +kernel
theorem dX4_peak_63 : decode cX4_peak 63 = .ok (.istore 7, 2) := by decide +kernel
theorem dX4_peak_65 : decode cX4_peak 65 = .ok (.iload 7, 2) := by decide +kernel
theorem dX4_peak_67 : decode cX4_peak 67 = .ok (.iload 4, 2) := by decide +kernel
theorem dX4_peak_69 : decode cX4_peak 69 = .ok (.if_icmp .le 11, 3) := by decide +kernel
theorem dX4_peak_72 : decode cX4_peak 72 = .ok (.iload 7, 2) := by decide +kernel
theorem dX4_peak_74 : decode cX4_peak 74 = .ok (.istore 4, 2) := by decide +kernel
theorem dX4_peak_76 : decode cX4_peak 76 = .ok (.iload 6, 2) := by decide +kernel
theorem dX4_peak_78 : decode cX4_peak 78 = .ok (.istore 5, 2) := by decide +kernel
theorem dX4_peak_80 : decode cX4_peak 80 = .ok (.iinc 6 1, 3) := by decide +kernel
theorem dX4_peak_83 : decode cX4_peak 83 = .ok (.goto (-42), 3) := by decide +kernel
theorem dX4_peak_86 : decode cX4_peak 86 = .ok (.iload_n 3, 1) := by decide +kernel
theorem dX4_peak_87 : decode cX4_peak 87 = .ok (.ifCond .ne 8, 3) := by decide +kernel
theorem dX4_peak_90 : decode cX4_peak 90 = .ok (.iload 4, 2) := by decide +kernel
theorem dX4_peak_92 : decode cX4_peak 92 = .ok (.goto 5, 3) := by decide +kernel
theorem dX4_peak_95 : decode cX4_peak 95 = .ok (.iload 5, 2) := by decide +kernel
theorem dX4_peak_97 : decode cX4_peak 97 = .ok (.ireturn, 1) := by decide +kernel
theorem dX4_isHeldBack_0 : decode cX4_isHeldBack 0 = .ok (.aload_n 0, 1) := by decide +kernel
theorem dX4_isHeldBack_1 : decode cX4_isHeldBack 1 = .ok (.iconst 0, 1) := by decide +kernel
theorem dX4_isHeldBack_2 : decode cX4_isHeldBack 2 = .ok (.iload_n 1, 1) := by decide +kernel
theorem dX4_isHeldBack_3 : decode cX4_isHeldBack 3 = .ok (.iload_n 2, 1) := by decide +kernel
theorem dX4_isHeldBack_4 : decode cX4_isHeldBack 4 = .ok (.invokevirtual 177, 3) := by decide +kernel
theorem dX4_isHeldBack_7 : decode cX4_isHeldBack 7 = .ok (.invokestatic 155, 3) := by decide +kernel
theorem dX4_isHeldBack_10 : decode cX4_isHeldBack 10 = .ok (.sipush 1000, 3) := by decide +kernel
theorem dX4_isHeldBack_13 : decode cX4_isHeldBack 13 = .ok (.if_icmp .gt 19, 3) := by decide +kernel
theorem dX4_isHeldBack_16 : decode cX4_isHeldBack 16 = .ok (.aload_n 0, 1) := by decide +kernel
theorem dX4_isHeldBack_17 : decode cX4_isHeldBack 17 = .ok (.iconst 1, 1) := by decide +kernel
theorem dX4_isHeldBack_18 : decode cX4_isHeldBack 18 = .ok (.iload_n 1, 1) := by decide +kernel
theorem dX4_isHeldBack_19 : decode cX4_isHeldBack 19 = .ok (.iload_n 2, 1) := by decide +kernel
theorem dX4_isHeldBack_20 : decode cX4_isHeldBack 20 = .ok (.invokevirtual 177, 3) := by decide +kernel
theorem dX4_isHeldBack_23 : decode cX4_isHeldBack 23 = .ok (.invokestatic 155, 3) := by decide +kernel
theorem dX4_isHeldBack_26 : decode cX4_isHeldBack 26 = .ok (.sipush 1000, 3) := by decide +kernel
theorem dX4_isHeldBack_29 : decode cX4_isHeldBack 29 = .ok (.if_icmp .le 7, 3) := by decide +kernel
theorem dX4_isHeldBack_32 : decode cX4_isHeldBack 32 = .ok (.iconst 1, 1) := by decide +kernel
theorem dX4_isHeldBack_33 : decode cX4_isHeldBack 33 = .ok (.goto 4, 3) := by decide +kernel
theorem dX4_isHeldBack_36 : decode cX4_isHeldBack 36 = .ok (.iconst 0, 1) := by decide +kernel
theorem dX4_isHeldBack_37 : decode cX4_isHeldBack 37 = .ok (.ireturn, 1) := by decide +kernel
theorem dX4_soLong_0 : decode cX4_soLong 0 = .ok (.iload_n 1, 1) := by decide +kernel
theorem dX4_soLong_1 : decode cX4_soLong 1 = .ok (.iconst 1, 1) := by decide +kernel
theorem dX4_soLong_2 : decode cX4_soLong 2 = .ok (.sipush 2000, 3) := by decide +kernel
theorem dX4_soLong_5 : decode cX4_soLong 5 = .ok (.invokestatic 59, 3) := by decide +kernel
theorem dX4_soLong_8 : decode cX4_soLong 8 = .ok (.ifCond .ne 6, 3) := by decide +kernel
theorem dX4_soLong_11 : decode cX4_soLong 11 = .ok (.bipush (-2), 2) := by decide +kernel
theorem dX4_soLong_13 : decode cX4_soLong 13 = .ok (.ireturn, 1) := by decide +kernel
theorem dX4_soLong_14 : decode cX4_soLong 14 = .ok (.iconst 0, 1) := by decide +kernel
theorem dX4_soLong_15 : decode cX4_soLong 15 = .ok (.istore_n 2, 1) := by decide +kernel
theorem dX4_soLong_16 : decode cX4_soLong 16 = .ok (.iconst 0, 1) := by decide +kernel
theorem dX4_soLong_17 : decode cX4_soLong 17 = .ok (.istore_n 3, 1) := by decide +kernel
theorem dX4_soLong_18 : decode cX4_soLong 18 = .ok (.iload_n 3, 1) := by decide +kernel
theorem dX4_soLong_19 : decode cX4_soLong 19 = .ok (.iload_n 1, 1) := by decide +kernel
theorem dX4_soLong_20 : decode cX4_soLong 20 = .ok (.if_icmp .ge 31, 3) := by decide +kernel
theorem dX4_soLong_23 : decode cX4_soLong 23 = .ok (.iload_n 2, 1) := by decide +kernel
theorem dX4_soLong_24 : decode cX4_soLong 24 = .ok (.aload_n 0, 1) := by decide +kernel
theorem dX4_soLong_25 : decode cX4_soLong 25 = .ok (.aload_n 0, 1) := by decide +kernel
theorem dX4_soLong_26 : decode cX4_soLong 26 = .ok (.getfield 91, 3) := by decide +kernel
theorem dX4_soLong_29 : decode cX4_soLong 29 = .ok (.iload_n 3, 1) := by decide +kernel
theorem dX4_soLong_30 : decode cX4_soLong 30 = .ok (.iadd, 1) := by decide +kernel
theorem dX4_soLong_31 : decode cX4_soLong 31 = .ok (.iconst 0, 1) := by decide +kernel
theorem dX4_soLong_32 : decode cX4_soLong 32 = .ok (.invokevirtual 183, 3) := by decide +kernel
theorem dX4_soLong_35 : decode cX4_soLong 35 = .ok (.ifCond .eq 7, 3) := by decide +kernel
theorem dX4_soLong_38 : decode cX4_soLong 38 = .ok (.iconst 1, 1) := by decide +kernel
theorem dX4_soLong_39 : decode cX4_soLong 39 = .ok (.goto 4, 3) := by decide +kernel
theorem dX4_soLong_42 : decode cX4_soLong 42 = .ok (.iconst 0, 1) := by decide +kernel
theorem dX4_soLong_43 : decode cX4_soLong 43 = .ok (.iadd, 1) := by decide +kernel
theorem dX4_soLong_44 : decode cX4_soLong 44 = .ok (.istore_n 2, 1) := by decide +kernel
theorem dX4_soLong_45 : decode cX4_soLong 45 = .ok (.iinc 3 1, 3) := by decide +kernel
theorem dX4_soLong_48 : decode cX4_soLong 48 = .ok (.goto (-30), 3) := by decide +kernel
theorem dX4_soLong_51 : decode cX4_soLong 51 = .ok (.iload_n 2, 1) := by decide +kernel
theorem dX4_soLong_52 : decode cX4_soLong 52 = .ok (.ireturn, 1) := by decide +kernel
theorem dX4_isQuiet_0 : decode cX4_isQuiet 0 = .ok (.iconst 0, 1) := by decide +kernel
theorem dX4_isQuiet_1 : decode cX4_isQuiet 1 = .ok (.istore_n 3, 1) := by decide +kernel
theorem dX4_isQuiet_2 : decode cX4_isQuiet 2 = .ok (.iload_n 3, 1) := by decide +kernel
theorem dX4_isQuiet_3 : decode cX4_isQuiet 3 = .ok (.iload_n 1, 1) := by decide +kernel
theorem dX4_isQuiet_4 : decode cX4_isQuiet 4 = .ok (.if_icmp .ge 25, 3) := by decide +kernel
theorem dX4_isQuiet_7 : decode cX4_isQuiet 7 = .ok (.aload_n 0, 1) := by decide +kernel
theorem dX4_isQuiet_8 : decode cX4_isQuiet 8 = .ok (.aload_n 0, 1) := by decide +kernel
theorem dX4_isQuiet_9 : decode cX4_isQuiet 9 = .ok (.getfield 91, 3) := by decide +kernel
theorem dX4_isQuiet_12 : decode cX4_isQuiet 12 = .ok (.iload_n 3, 1) := by decide +kernel
theorem dX4_isQuiet_13 : decode cX4_isQuiet 13 = .ok (.iadd, 1) := by decide +kernel
theorem dX4_isQuiet_14 : decode cX4_isQuiet 14 = .ok (.iload_n 2, 1) := by decide +kernel
theorem dX4_isQuiet_15 : decode cX4_isQuiet 15 = .ok (.invokevirtual 183, 3) := by decide +kernel
theorem dX4_isQuiet_18 : decode cX4_isQuiet 18 = .ok (.ifCond .eq 5, 3) := by decide +kernel
theorem dX4_isQuiet_21 : decode cX4_isQuiet 21 = .ok (.iconst 0, 1) := by decide +kernel
theorem dX4_isQuiet_22 : decode cX4_isQuiet 22 = .ok (.ireturn, 1) := by decide +kernel
theorem dX4_isQuiet_23 : decode cX4_isQuiet 23 = .ok (.iinc 3 1, 3) := by decide +kernel
theorem dX4_isQuiet_26 : decode cX4_isQuiet 26 = .ok (.goto (-24), 3) := by decide +kernel
theorem dX4_isQuiet_29 : decode cX4_isQuiet 29 = .ok (.iconst 1, 1) := by decide +kernel
theorem dX4_isQuiet_30 : decode cX4_isQuiet 30 = .ok (.ireturn, 1) := by decide +kernel
theorem dX4_manyOf_0 : decode cX4_manyOf 0 = .ok (.iconst 0, 1) := by decide +kernel
theorem dX4_manyOf_1 : decode cX4_manyOf 1 = .ok (.istore_n 1, 1) := by decide +kernel
theorem dX4_manyOf_2 : decode cX4_manyOf 2 = .ok (.iload_n 0, 1) := by decide +kernel
theorem dX4_manyOf_3 : decode cX4_manyOf 3 = .ok (.istore_n 2, 1) := by decide +kernel
theorem dX4_manyOf_4 : decode cX4_manyOf 4 = .ok (.iload_n 2, 1) := by decide +kernel
theorem dX4_manyOf_5 : decode cX4_manyOf 5 = .ok (.ifCond .le 16, 3) := by decide +kernel
theorem dX4_manyOf_8 : decode cX4_manyOf 8 = .ok (.iload_n 1, 1) := by decide +kernel
theorem dX4_manyOf_9 : decode cX4_manyOf 9 = .ok (.iload_n 2, 1) := by decide +kernel
theorem dX4_manyOf_10 : decode cX4_manyOf 10 = .ok (.iconst 1, 1) := by decide +kernel
theorem dX4_manyOf_11 : decode cX4_manyOf 11 = .ok (.iand, 1) := by decide +kernel
theorem dX4_manyOf_12 : decode cX4_manyOf 12 = .ok (.iadd, 1) := by decide +kernel
theorem dX4_manyOf_13 : decode cX4_manyOf 13 = .ok (.istore_n 1, 1) := by decide +kernel
theorem dX4_manyOf_14 : decode cX4_manyOf 14 = .ok (.iload_n 2, 1) := by decide +kernel
theorem dX4_manyOf_15 : decode cX4_manyOf 15 = .ok (.iconst 1, 1) := by decide +kernel
theorem dX4_manyOf_16 : decode cX4_manyOf 16 = .ok (.ishr, 1) := by decide +kernel
theorem dX4_manyOf_17 : decode cX4_manyOf 17 = .ok (.istore_n 2, 1) := by decide +kernel
theorem dX4_manyOf_18 : decode cX4_manyOf 18 = .ok (.goto (-14), 3) := by decide +kernel
theorem dX4_manyOf_21 : decode cX4_manyOf 21 = .ok (.iload_n 1, 1) := by decide +kernel
theorem dX4_manyOf_22 : decode cX4_manyOf 22 = .ok (.ireturn, 1) := by decide +kernel
theorem dX4_quiet_0 : decode cX4_quiet 0 = .ok (.iload_n 1, 1) := by decide +kernel
theorem dX4_quiet_1 : decode cX4_quiet 1 = .ok (.iconst 1, 1) := by decide +kernel
theorem dX4_quiet_2 : decode cX4_quiet 2 = .ok (.sipush 400, 3) := by decide +kernel
theorem dX4_quiet_5 : decode cX4_quiet 5 = .ok (.invokestatic 59, 3) := by decide +kernel
theorem dX4_quiet_8 : decode cX4_quiet 8 = .ok (.ifCond .ne 6, 3) := by decide +kernel
theorem dX4_quiet_11 : decode cX4_quiet 11 = .ok (.bipush (-2), 2) := by decide +kernel
theorem dX4_quiet_13 : decode cX4_quiet 13 = .ok (.ireturn, 1) := by decide +kernel
theorem dX4_quiet_14 : decode cX4_quiet 14 = .ok (.iconst 0, 1) := by decide +kernel
theorem dX4_quiet_15 : decode cX4_quiet 15 = .ok (.istore_n 2, 1) := by decide +kernel
theorem dX4_quiet_16 : decode cX4_quiet 16 = .ok (.iconst 0, 1) := by decide +kernel
theorem dX4_quiet_17 : decode cX4_quiet 17 = .ok (.istore_n 3, 1) := by decide +kernel
theorem dX4_quiet_18 : decode cX4_quiet 18 = .ok (.iload_n 3, 1) := by decide +kernel
theorem dX4_quiet_19 : decode cX4_quiet 19 = .ok (.aload_n 0, 1) := by decide +kernel
theorem dX4_quiet_20 : decode cX4_quiet 20 = .ok (.getfield 56, 3) := by decide +kernel
theorem dX4_quiet_23 : decode cX4_quiet 23 = .ok (.if_icmp .ge 37, 3) := by decide +kernel
theorem dX4_quiet_26 : decode cX4_quiet 26 = .ok (.iload_n 2, 1) := by decide +kernel
theorem dX4_quiet_27 : decode cX4_quiet 27 = .ok (.aload_n 0, 1) := by decide +kernel
theorem dX4_quiet_28 : decode cX4_quiet 28 = .ok (.iload_n 3, 1) := by decide +kernel
theorem dX4_quiet_29 : decode cX4_quiet 29 = .ok (.aload_n 0, 1) := by decide +kernel
theorem dX4_quiet_30 : decode cX4_quiet 30 = .ok (.getfield 34, 3) := by decide +kernel
theorem dX4_quiet_33 : decode cX4_quiet 33 = .ok (.iload_n 3, 1) := by decide +kernel
theorem dX4_quiet_34 : decode cX4_quiet 34 = .ok (.iaload, 1) := by decide +kernel
theorem dX4_quiet_35 : decode cX4_quiet 35 = .ok (.aload_n 0, 1) := by decide +kernel
theorem dX4_quiet_36 : decode cX4_quiet 36 = .ok (.getfield 91, 3) := by decide +kernel
theorem dX4_quiet_39 : decode cX4_quiet 39 = .ok (.invokevirtual 108, 3) := by decide +kernel
theorem dX4_quiet_42 : decode cX4_quiet 42 = .ok (.ifCond .eq 9, 3) := by decide +kernel
theorem dX4_quiet_45 : decode cX4_quiet 45 = .ok (.iconst 1, 1) := by decide +kernel
theorem dX4_quiet_46 : decode cX4_quiet 46 = .ok (.iload_n 3, 1) := by decide +kernel
theorem dX4_quiet_47 : decode cX4_quiet 47 = .ok (.ishl, 1) := by decide +kernel
theorem dX4_quiet_48 : decode cX4_quiet 48 = .ok (.goto 4, 3) := by decide +kernel
theorem dX4_quiet_51 : decode cX4_quiet 51 = .ok (.iconst 0, 1) := by decide +kernel
theorem dX4_quiet_52 : decode cX4_quiet 52 = .ok (.ior, 1) := by decide +kernel
theorem dX4_quiet_53 : decode cX4_quiet 53 = .ok (.istore_n 2, 1) := by decide +kernel
theorem dX4_quiet_54 : decode cX4_quiet 54 = .ok (.iinc 3 1, 3) := by decide +kernel
theorem dX4_quiet_57 : decode cX4_quiet 57 = .ok (.goto (-39), 3) := by decide +kernel
theorem dX4_quiet_60 : decode cX4_quiet 60 = .ok (.bipush (-9), 2) := by decide +kernel
theorem dX4_quiet_62 : decode cX4_quiet 62 = .ok (.istore_n 3, 1) := by decide +kernel
theorem dX4_quiet_63 : decode cX4_quiet 63 = .ok (.iconst 0, 1) := by decide +kernel
theorem dX4_quiet_64 : decode cX4_quiet 64 = .ok (.istore 4, 2) := by decide +kernel
theorem dX4_quiet_66 : decode cX4_quiet 66 = .ok (.iload 4, 2) := by decide +kernel
theorem dX4_quiet_68 : decode cX4_quiet 68 = .ok (.iload_n 2, 1) := by decide +kernel
theorem dX4_quiet_69 : decode cX4_quiet 69 = .ok (.if_icmp .gt 61, 3) := by decide +kernel
theorem dX4_quiet_72 : decode cX4_quiet 72 = .ok (.iload 4, 2) := by decide +kernel
theorem dX4_quiet_74 : decode cX4_quiet 74 = .ok (.iload_n 2, 1) := by decide +kernel
theorem dX4_quiet_75 : decode cX4_quiet 75 = .ok (.iconst (-1), 1) := by decide +kernel
theorem dX4_quiet_76 : decode cX4_quiet 76 = .ok (.ixor, 1) := by decide +kernel
theorem dX4_quiet_77 : decode cX4_quiet 77 = .ok (.iand, 1) := by decide +kernel
theorem dX4_quiet_78 : decode cX4_quiet 78 = .ok (.ifCond .ne 25, 3) := by decide +kernel
theorem dX4_quiet_81 : decode cX4_quiet 81 = .ok (.iload_n 3, 1) := by decide +kernel
theorem dX4_quiet_82 : decode cX4_quiet 82 = .ok (.bipush (-9), 2) := by decide +kernel
theorem dX4_quiet_84 : decode cX4_quiet 84 = .ok (.if_icmp .eq 15, 3) := by decide +kernel
theorem dX4_quiet_87 : decode cX4_quiet 87 = .ok (.iload 4, 2) := by decide +kernel
theorem dX4_quiet_89 : decode cX4_quiet 89 = .ok (.invokestatic 186, 3) := by decide +kernel
theorem dX4_quiet_92 : decode cX4_quiet 92 = .ok (.iload_n 3, 1) := by decide +kernel
theorem dX4_quiet_93 : decode cX4_quiet 93 = .ok (.invokestatic 186, 3) := by decide +kernel
theorem dX4_quiet_96 : decode cX4_quiet 96 = .ok (.if_icmp .ge 7, 3) := by decide +kernel
theorem dX4_quiet_99 : decode cX4_quiet 99 = .ok (.iconst 1, 1) := by decide +kernel
theorem dX4_quiet_100 : decode cX4_quiet 100 = .ok (.goto 4, 3) := by decide +kernel
theorem dX4_quiet_103 : decode cX4_quiet 103 = .ok (.iconst 0, 1) := by decide +kernel
theorem dX4_quiet_104 : decode cX4_quiet 104 = .ok (.istore 5, 2) := by decide +kernel
theorem dX4_quiet_106 : decode cX4_quiet 106 = .ok (.iload 5, 2) := by decide +kernel
theorem dX4_quiet_108 : decode cX4_quiet 108 = .ok (.ifCond .eq 16, 3) := by decide +kernel
theorem dX4_quiet_111 : decode cX4_quiet 111 = .ok (.aload_n 0, 1) := by decide +kernel
theorem dX4_quiet_112 : decode cX4_quiet 112 = .ok (.iload_n 1, 1) := by decide +kernel
theorem dX4_quiet_113 : decode cX4_quiet 113 = .ok (.iload 4, 2) := by decide +kernel
theorem dX4_quiet_115 : decode cX4_quiet 115 = .ok (.invokevirtual 189, 3) := by decide +kernel
theorem dX4_quiet_118 : decode cX4_quiet 118 = .ok (.ifCond .eq 6, 3) := by decide +kernel
theorem dX4_quiet_121 : decode cX4_quiet 121 = .ok (.iload 4, 2) := by decide +kernel
theorem dX4_quiet_123 : decode cX4_quiet 123 = .ok (.istore_n 3, 1) := by decide +kernel
theorem dX4_quiet_124 : decode cX4_quiet 124 = .ok (.iinc 4 1, 3) := by decide +kernel
theorem dX4_quiet_127 : decode cX4_quiet 127 = .ok (.goto (-61), 3) := by decide +kernel
theorem dX4_quiet_130 : decode cX4_quiet 130 = .ok (.iload_n 3, 1) := by decide +kernel
theorem dX4_quiet_131 : decode cX4_quiet 131 = .ok (.ireturn, 1) := by decide +kernel
theorem dX4_manyOn_0 : decode cX4_manyOn 0 = .ok (.iconst 0, 1) := by decide +kernel
theorem dX4_manyOn_1 : decode cX4_manyOn 1 = .ok (.istore_n 1, 1) := by decide +kernel
theorem dX4_manyOn_2 : decode cX4_manyOn 2 = .ok (.iconst 0, 1) := by decide +kernel
theorem dX4_manyOn_3 : decode cX4_manyOn 3 = .ok (.istore_n 2, 1) := by decide +kernel
theorem dX4_manyOn_4 : decode cX4_manyOn 4 = .ok (.iload_n 2, 1) := by decide +kernel
theorem dX4_manyOn_5 : decode cX4_manyOn 5 = .ok (.aload_n 0, 1) := by decide +kernel
theorem dX4_manyOn_6 : decode cX4_manyOn 6 = .ok (.getfield 56, 3) := by decide +kernel
theorem dX4_manyOn_9 : decode cX4_manyOn 9 = .ok (.if_icmp .ge 35, 3) := by decide +kernel
theorem dX4_manyOn_12 : decode cX4_manyOn 12 = .ok (.iload_n 1, 1) := by decide +kernel
theorem dX4_manyOn_13 : decode cX4_manyOn 13 = .ok (.aload_n 0, 1) := by decide +kernel
theorem dX4_manyOn_14 : decode cX4_manyOn 14 = .ok (.iload_n 2, 1) := by decide +kernel
theorem dX4_manyOn_15 : decode cX4_manyOn 15 = .ok (.aload_n 0, 1) := by decide +kernel
theorem dX4_manyOn_16 : decode cX4_manyOn 16 = .ok (.getfield 34, 3) := by decide +kernel
theorem dX4_manyOn_19 : decode cX4_manyOn 19 = .ok (.iload_n 2, 1) := by decide +kernel
theorem dX4_manyOn_20 : decode cX4_manyOn 20 = .ok (.iaload, 1) := by decide +kernel
theorem dX4_manyOn_21 : decode cX4_manyOn 21 = .ok (.aload_n 0, 1) := by decide +kernel
theorem dX4_manyOn_22 : decode cX4_manyOn 22 = .ok (.getfield 91, 3) := by decide +kernel
theorem dX4_manyOn_25 : decode cX4_manyOn 25 = .ok (.invokevirtual 111, 3) := by decide +kernel
theorem dX4_manyOn_28 : decode cX4_manyOn 28 = .ok (.ifCond .eq 7, 3) := by decide +kernel
theorem dX4_manyOn_31 : decode cX4_manyOn 31 = .ok (.iconst 1, 1) := by decide +kernel
theorem dX4_manyOn_32 : decode cX4_manyOn 32 = .ok (.goto 4, 3) := by decide +kernel
theorem dX4_manyOn_35 : decode cX4_manyOn 35 = .ok (.iconst 0, 1) := by decide +kernel
theorem dX4_manyOn_36 : decode cX4_manyOn 36 = .ok (.iadd, 1) := by decide +kernel
theorem dX4_manyOn_37 : decode cX4_manyOn 37 = .ok (.istore_n 1, 1) := by decide +kernel
theorem dX4_manyOn_38 : decode cX4_manyOn 38 = .ok (.iinc 2 1, 3) := by decide +kernel
theorem dX4_manyOn_41 : decode cX4_manyOn 41 = .ok (.goto (-37), 3) := by decide +kernel
theorem dX4_manyOn_44 : decode cX4_manyOn 44 = .ok (.iload_n 1, 1) := by decide +kernel
theorem dX4_manyOn_45 : decode cX4_manyOn 45 = .ok (.ireturn, 1) := by decide +kernel
theorem dX4_manyLoaded_0 : decode cX4_manyLoaded 0 = .ok (.iconst 0, 1) := by decide +kernel
theorem dX4_manyLoaded_1 : decode cX4_manyLoaded 1 = .ok (.istore_n 1, 1) := by decide +kernel
theorem dX4_manyLoaded_2 : decode cX4_manyLoaded 2 = .ok (.iconst 0, 1) := by decide +kernel
theorem dX4_manyLoaded_3 : decode cX4_manyLoaded 3 = .ok (.istore_n 2, 1) := by decide +kernel
theorem dX4_manyLoaded_4 : decode cX4_manyLoaded 4 = .ok (.iload_n 2, 1) := by decide +kernel
theorem dX4_manyLoaded_5 : decode cX4_manyLoaded 5 = .ok (.bipush 6, 2) := by decide +kernel
theorem dX4_manyLoaded_7 : decode cX4_manyLoaded 7 = .ok (.if_icmp .ge 28, 3) := by decide +kernel
theorem dX4_manyLoaded_10 : decode cX4_manyLoaded 10 = .ok (.iload_n 1, 1) := by decide +kernel
theorem dX4_manyLoaded_11 : decode cX4_manyLoaded 11 = .ok (.aload_n 0, 1) := by decide +kernel
theorem dX4_manyLoaded_12 : decode cX4_manyLoaded 12 = .ok (.getfield 41, 3) := by decide +kernel
theorem dX4_manyLoaded_15 : decode cX4_manyLoaded 15 = .ok (.iload_n 2, 1) := by decide +kernel
theorem dX4_manyLoaded_16 : decode cX4_manyLoaded 16 = .ok (.iaload, 1) := by decide +kernel
theorem dX4_manyLoaded_17 : decode cX4_manyLoaded 17 = .ok (.bipush (-9), 2) := by decide +kernel
theorem dX4_manyLoaded_19 : decode cX4_manyLoaded 19 = .ok (.if_icmp .eq 7, 3) := by decide +kernel
theorem dX4_manyLoaded_22 : decode cX4_manyLoaded 22 = .ok (.iconst 1, 1) := by decide +kernel
theorem dX4_manyLoaded_23 : decode cX4_manyLoaded 23 = .ok (.goto 4, 3) := by decide +kernel
theorem dX4_manyLoaded_26 : decode cX4_manyLoaded 26 = .ok (.iconst 0, 1) := by decide +kernel
theorem dX4_manyLoaded_27 : decode cX4_manyLoaded 27 = .ok (.iadd, 1) := by decide +kernel
theorem dX4_manyLoaded_28 : decode cX4_manyLoaded 28 = .ok (.istore_n 1, 1) := by decide +kernel
theorem dX4_manyLoaded_29 : decode cX4_manyLoaded 29 = .ok (.iinc 2 1, 3) := by decide +kernel
theorem dX4_manyLoaded_32 : decode cX4_manyLoaded 32 = .ok (.goto (-28), 3) := by decide +kernel
theorem dX4_manyLoaded_35 : decode cX4_manyLoaded 35 = .ok (.iload_n 1, 1) := by decide +kernel
theorem dX4_manyLoaded_36 : decode cX4_manyLoaded 36 = .ok (.ireturn, 1) := by decide +kernel
theorem dX4_manyHeld_0 : decode cX4_manyHeld 0 = .ok (.iconst 0, 1) := by decide +kernel
theorem dX4_manyHeld_1 : decode cX4_manyHeld 1 = .ok (.istore_n 1, 1) := by decide +kernel
theorem dX4_manyHeld_2 : decode cX4_manyHeld 2 = .ok (.iconst 0, 1) := by decide +kernel
theorem dX4_manyHeld_3 : decode cX4_manyHeld 3 = .ok (.istore_n 2, 1) := by decide +kernel
theorem dX4_manyHeld_4 : decode cX4_manyHeld 4 = .ok (.iload_n 2, 1) := by decide +kernel
theorem dX4_manyHeld_5 : decode cX4_manyHeld 5 = .ok (.iconst 4, 1) := by decide +kernel
theorem dX4_manyHeld_6 : decode cX4_manyHeld 6 = .ok (.if_icmp .ge 28, 3) := by decide +kernel
theorem dX4_manyHeld_9 : decode cX4_manyHeld 9 = .ok (.iload_n 1, 1) := by decide +kernel
theorem dX4_manyHeld_10 : decode cX4_manyHeld 10 = .ok (.aload_n 0, 1) := by decide +kernel
theorem dX4_manyHeld_11 : decode cX4_manyHeld 11 = .ok (.getfield 44, 3) := by decide +kernel
theorem dX4_manyHeld_14 : decode cX4_manyHeld 14 = .ok (.iload_n 2, 1) := by decide +kernel
theorem dX4_manyHeld_15 : decode cX4_manyHeld 15 = .ok (.iaload, 1) := by decide +kernel
theorem dX4_manyHeld_16 : decode cX4_manyHeld 16 = .ok (.bipush (-9), 2) := by decide +kernel
theorem dX4_manyHeld_18 : decode cX4_manyHeld 18 = .ok (.if_icmp .eq 7, 3) := by decide +kernel
theorem dX4_manyHeld_21 : decode cX4_manyHeld 21 = .ok (.iconst 1, 1) := by decide +kernel
theorem dX4_manyHeld_22 : decode cX4_manyHeld 22 = .ok (.goto 4, 3) := by decide +kernel
theorem dX4_manyHeld_25 : decode cX4_manyHeld 25 = .ok (.iconst 0, 1) := by decide +kernel
theorem dX4_manyHeld_26 : decode cX4_manyHeld 26 = .ok (.iadd, 1) := by decide +kernel
theorem dX4_manyHeld_27 : decode cX4_manyHeld 27 = .ok (.istore_n 1, 1) := by decide +kernel
theorem dX4_manyHeld_28 : decode cX4_manyHeld 28 = .ok (.iinc 2 1, 3) := by decide +kernel
theorem dX4_manyHeld_31 : decode cX4_manyHeld 31 = .ok (.goto (-27), 3) := by decide +kernel
theorem dX4_manyHeld_34 : decode cX4_manyHeld 34 = .ok (.iload_n 1, 1) := by decide +kernel
theorem dX4_manyHeld_35 : decode cX4_manyHeld 35 = .ok (.ireturn, 1) := by decide +kernel
theorem dX4_many_0 : decode cX4_many 0 = .ok (.iload_n 1, 1) := by decide +kernel
theorem dX4_many_1 : decode cX4_many 1 = .ok (.tableswitch 122 0 10 #[59, 64, 69, 74, 79, 84, 89, 94, 107, 112, 117], 59) := by decide +kernel
theorem dX4_many_60 : decode cX4_many 60 = .ok (.aload_n 0, 1) := by decide +kernel
theorem dX4_many_61 : decode cX4_many 61 = .ok (.getfield 56, 3) := by decide +kernel
theorem dX4_many_64 : decode cX4_many 64 = .ok (.ireturn, 1) := by decide +kernel
theorem dX4_many_65 : decode cX4_many 65 = .ok (.aload_n 0, 1) := by decide +kernel
theorem dX4_many_66 : decode cX4_many 66 = .ok (.invokevirtual 192, 3) := by decide +kernel
theorem dX4_many_69 : decode cX4_many 69 = .ok (.ireturn, 1) := by decide +kernel
theorem dX4_many_70 : decode cX4_many 70 = .ok (.aload_n 0, 1) := by decide +kernel
theorem dX4_many_71 : decode cX4_many 71 = .ok (.invokevirtual 149, 3) := by decide +kernel
theorem dX4_many_74 : decode cX4_many 74 = .ok (.ireturn, 1) := by decide +kernel
theorem dX4_many_75 : decode cX4_many 75 = .ok (.aload_n 0, 1) := by decide +kernel
theorem dX4_many_76 : decode cX4_many 76 = .ok (.invokevirtual 195, 3) := by decide +kernel
theorem dX4_many_79 : decode cX4_many 79 = .ok (.ireturn, 1) := by decide +kernel
theorem dX4_many_80 : decode cX4_many 80 = .ok (.aload_n 0, 1) := by decide +kernel
theorem dX4_many_81 : decode cX4_many 81 = .ok (.getfield 37, 3) := by decide +kernel
theorem dX4_many_84 : decode cX4_many 84 = .ok (.ireturn, 1) := by decide +kernel
theorem dX4_many_85 : decode cX4_many 85 = .ok (.aload_n 0, 1) := by decide +kernel
theorem dX4_many_86 : decode cX4_many 86 = .ok (.invokevirtual 198, 3) := by decide +kernel
theorem dX4_many_89 : decode cX4_many 89 = .ok (.ireturn, 1) := by decide +kernel
theorem dX4_many_90 : decode cX4_many 90 = .ok (.aload_n 0, 1) := by decide +kernel
theorem dX4_many_91 : decode cX4_many 91 = .ok (.getfield 91, 3) := by decide +kernel
theorem dX4_many_94 : decode cX4_many 94 = .ok (.ireturn, 1) := by decide +kernel
theorem dX4_many_95 : decode cX4_many 95 = .ok (.aload_n 0, 1) := by decide +kernel
theorem dX4_many_96 : decode cX4_many 96 = .ok (.getfield 125, 3) := by decide +kernel
theorem dX4_many_99 : decode cX4_many 99 = .ok (.ifCond .eq 7, 3) := by decide +kernel
theorem dX4_many_102 : decode cX4_many 102 = .ok (.iconst 1, 1) := by decide +kernel
theorem dX4_many_103 : decode cX4_many 103 = .ok (.goto 4, 3) := by decide +kernel
theorem dX4_many_106 : decode cX4_many 106 = .ok (.iconst 0, 1) := by decide +kernel
theorem dX4_many_107 : decode cX4_many 107 = .ok (.ireturn, 1) := by decide +kernel
theorem dX4_many_108 : decode cX4_many 108 = .ok (.aload_n 0, 1) := by decide +kernel
theorem dX4_many_109 : decode cX4_many 109 = .ok (.getfield 132, 3) := by decide +kernel
theorem dX4_many_112 : decode cX4_many 112 = .ok (.ireturn, 1) := by decide +kernel
theorem dX4_many_113 : decode cX4_many 113 = .ok (.aload_n 0, 1) := by decide +kernel
theorem dX4_many_114 : decode cX4_many 114 = .ok (.getfield 50, 3) := by decide +kernel
theorem dX4_many_117 : decode cX4_many 117 = .ok (.ireturn, 1) := by decide +kernel
theorem dX4_many_118 : decode cX4_many 118 = .ok (.aload_n 0, 1) := by decide +kernel
theorem dX4_many_119 : decode cX4_many 119 = .ok (.getfield 53, 3) := by decide +kernel
theorem dX4_many_122 : decode cX4_many 122 = .ok (.ireturn, 1) := by decide +kernel
theorem dX4_many_123 : decode cX4_many 123 = .ok (.bipush (-2), 2) := by decide +kernel
theorem dX4_many_125 : decode cX4_many 125 = .ok (.ireturn, 1) := by decide +kernel
end
section
theorem dL_law_0 : decode cL_law 0 = .ok (.new 7, 3) := by decide +kernel
theorem dL_law_3 : decode cL_law 3 = .ok (.dup, 1) := by decide +kernel
theorem dL_law_4 : decode cL_law 4 = .ok (.invokespecial 9, 3) := by decide +kernel
theorem dL_law_7 : decode cL_law 7 = .ok (.astore_n 1, 1) := by decide +kernel
theorem dL_law_8 : decode cL_law 8 = .ok (.new 10, 3) := by decide +kernel
theorem dL_law_11 : decode cL_law 11 = .ok (.dup, 1) := by decide +kernel
theorem dL_law_12 : decode cL_law 12 = .ok (.invokespecial 12, 3) := by decide +kernel
theorem dL_law_15 : decode cL_law 15 = .ok (.astore_n 2, 1) := by decide +kernel
theorem dL_law_16 : decode cL_law 16 = .ok (.iconst 0, 1) := by decide +kernel
theorem dL_law_17 : decode cL_law 17 = .ok (.istore_n 3, 1) := by decide +kernel
theorem dL_law_18 : decode cL_law 18 = .ok (.iload_n 3, 1) := by decide +kernel
theorem dL_law_19 : decode cL_law 19 = .ok (.aload_n 0, 1) := by decide +kernel
theorem dL_law_20 : decode cL_law 20 = .ok (.arraylength, 1) := by decide +kernel
theorem dL_law_21 : decode cL_law 21 = .ok (.bipush 6, 2) := by decide +kernel
theorem dL_law_23 : decode cL_law 23 = .ok (.isub, 1) := by decide +kernel
theorem dL_law_24 : decode cL_law 24 = .ok (.if_icmp .gt 886, 3) := by decide +kernel
theorem dL_law_27 : decode cL_law 27 = .ok (.aload_n 0, 1) := by decide +kernel
theorem dL_law_28 : decode cL_law 28 = .ok (.iload_n 3, 1) := by decide +kernel
theorem dL_law_29 : decode cL_law 29 = .ok (.iaload, 1) := by decide +kernel
theorem dL_law_30 : decode cL_law 30 = .ok (.bipush 31, 2) := by decide +kernel
theorem dL_law_32 : decode cL_law 32 = .ok (.iand, 1) := by decide +kernel
theorem dL_law_33 : decode cL_law 33 = .ok (.tableswitch 871 0 27 #[127, 190, 233, 246, 279, 312, 345, 368, 391, 414, 437, 460, 483, 506, 529, 552, 565, 588, 611, 644, 667, 700, 723, 746, 759, 802, 825, 848], 127) := by decide +kernel
theorem dL_law_160 : decode cL_law 160 = .ok (.aload_n 1, 1) := by decide +kernel
theorem dL_law_161 : decode cL_law 161 = .ok (.aload_n 0, 1) := by decide +kernel
theorem dL_law_162 : decode cL_law 162 = .ok (.iload_n 3, 1) := by decide +kernel
theorem dL_law_163 : decode cL_law 163 = .ok (.iconst 1, 1) := by decide +kernel
theorem dL_law_164 : decode cL_law 164 = .ok (.iadd, 1) := by decide +kernel
theorem dL_law_165 : decode cL_law 165 = .ok (.iaload, 1) := by decide +kernel
theorem dL_law_166 : decode cL_law 166 = .ok (.aload_n 0, 1) := by decide +kernel
theorem dL_law_167 : decode cL_law 167 = .ok (.iload_n 3, 1) := by decide +kernel
theorem dL_law_168 : decode cL_law 168 = .ok (.iconst 2, 1) := by decide +kernel
theorem dL_law_169 : decode cL_law 169 = .ok (.iadd, 1) := by decide +kernel
theorem dL_law_170 : decode cL_law 170 = .ok (.iaload, 1) := by decide +kernel
theorem dL_law_171 : decode cL_law 171 = .ok (.aload_n 0, 1) := by decide +kernel
theorem dL_law_172 : decode cL_law 172 = .ok (.iload_n 3, 1) := by decide +kernel
theorem dL_law_173 : decode cL_law 173 = .ok (.iconst 3, 1) := by decide +kernel
theorem dL_law_174 : decode cL_law 174 = .ok (.iadd, 1) := by decide +kernel
theorem dL_law_175 : decode cL_law 175 = .ok (.iaload, 1) := by decide +kernel
theorem dL_law_176 : decode cL_law 176 = .ok (.aload_n 0, 1) := by decide +kernel
theorem dL_law_177 : decode cL_law 177 = .ok (.iload_n 3, 1) := by decide +kernel
theorem dL_law_178 : decode cL_law 178 = .ok (.iconst 4, 1) := by decide +kernel
theorem dL_law_179 : decode cL_law 179 = .ok (.iadd, 1) := by decide +kernel
theorem dL_law_180 : decode cL_law 180 = .ok (.iaload, 1) := by decide +kernel
theorem dL_law_181 : decode cL_law 181 = .ok (.aload_n 0, 1) := by decide +kernel
theorem dL_law_182 : decode cL_law 182 = .ok (.iload_n 3, 1) := by decide +kernel
theorem dL_law_183 : decode cL_law 183 = .ok (.iconst 5, 1) := by decide +kernel
theorem dL_law_184 : decode cL_law 184 = .ok (.iadd, 1) := by decide +kernel
theorem dL_law_185 : decode cL_law 185 = .ok (.iaload, 1) := by decide +kernel
theorem dL_law_186 : decode cL_law 186 = .ok (.invokevirtual 13, 3) := by decide +kernel
theorem dL_law_189 : decode cL_law 189 = .ok (.aload_n 2, 1) := by decide +kernel
theorem dL_law_190 : decode cL_law 190 = .ok (.aload_n 0, 1) := by decide +kernel
theorem dL_law_191 : decode cL_law 191 = .ok (.iload_n 3, 1) := by decide +kernel
theorem dL_law_192 : decode cL_law 192 = .ok (.iconst 1, 1) := by decide +kernel
theorem dL_law_193 : decode cL_law 193 = .ok (.iadd, 1) := by decide +kernel
theorem dL_law_194 : decode cL_law 194 = .ok (.iaload, 1) := by decide +kernel
theorem dL_law_195 : decode cL_law 195 = .ok (.aload_n 0, 1) := by decide +kernel
theorem dL_law_196 : decode cL_law 196 = .ok (.iload_n 3, 1) := by decide +kernel
theorem dL_law_197 : decode cL_law 197 = .ok (.iconst 2, 1) := by decide +kernel
theorem dL_law_198 : decode cL_law 198 = .ok (.iadd, 1) := by decide +kernel
theorem dL_law_199 : decode cL_law 199 = .ok (.iaload, 1) := by decide +kernel
theorem dL_law_200 : decode cL_law 200 = .ok (.aload_n 0, 1) := by decide +kernel
theorem dL_law_201 : decode cL_law 201 = .ok (.iload_n 3, 1) := by decide +kernel
theorem dL_law_202 : decode cL_law 202 = .ok (.iconst 3, 1) := by decide +kernel
theorem dL_law_203 : decode cL_law 203 = .ok (.iadd, 1) := by decide +kernel
theorem dL_law_204 : decode cL_law 204 = .ok (.iaload, 1) := by decide +kernel
theorem dL_law_205 : decode cL_law 205 = .ok (.aload_n 0, 1) := by decide +kernel
theorem dL_law_206 : decode cL_law 206 = .ok (.iload_n 3, 1) := by decide +kernel
theorem dL_law_207 : decode cL_law 207 = .ok (.iconst 4, 1) := by decide +kernel
theorem dL_law_208 : decode cL_law 208 = .ok (.iadd, 1) := by decide +kernel
theorem dL_law_209 : decode cL_law 209 = .ok (.iaload, 1) := by decide +kernel
theorem dL_law_210 : decode cL_law 210 = .ok (.aload_n 0, 1) := by decide +kernel
theorem dL_law_211 : decode cL_law 211 = .ok (.iload_n 3, 1) := by decide +kernel
theorem dL_law_212 : decode cL_law 212 = .ok (.iconst 5, 1) := by decide +kernel
theorem dL_law_213 : decode cL_law 213 = .ok (.iadd, 1) := by decide +kernel
theorem dL_law_214 : decode cL_law 214 = .ok (.iaload, 1) := by decide +kernel
theorem dL_law_215 : decode cL_law 215 = .ok (.invokevirtual 17, 3) := by decide +kernel
theorem dL_law_218 : decode cL_law 218 = .ok (.if_icmp .eq 686, 3) := by decide +kernel
theorem dL_law_221 : decode cL_law 221 = .ok (.iconst 0, 1) := by decide +kernel
theorem dL_law_222 : decode cL_law 222 = .ok (.ireturn, 1) := by decide +kernel
theorem dL_law_223 : decode cL_law 223 = .ok (.aload_n 1, 1) := by decide +kernel
theorem dL_law_224 : decode cL_law 224 = .ok (.aload_n 0, 1) := by decide +kernel
theorem dL_law_225 : decode cL_law 225 = .ok (.iload_n 3, 1) := by decide +kernel
theorem dL_law_226 : decode cL_law 226 = .ok (.iconst 1, 1) := by decide +kernel
theorem dL_law_227 : decode cL_law 227 = .ok (.iadd, 1) := by decide +kernel
theorem dL_law_228 : decode cL_law 228 = .ok (.iaload, 1) := by decide +kernel
theorem dL_law_229 : decode cL_law 229 = .ok (.aload_n 0, 1) := by decide +kernel
theorem dL_law_230 : decode cL_law 230 = .ok (.iload_n 3, 1) := by decide +kernel
theorem dL_law_231 : decode cL_law 231 = .ok (.iconst 2, 1) := by decide +kernel
theorem dL_law_232 : decode cL_law 232 = .ok (.iadd, 1) := by decide +kernel
theorem dL_law_233 : decode cL_law 233 = .ok (.iaload, 1) := by decide +kernel
theorem dL_law_234 : decode cL_law 234 = .ok (.aload_n 0, 1) := by decide +kernel
theorem dL_law_235 : decode cL_law 235 = .ok (.iload_n 3, 1) := by decide +kernel
theorem dL_law_236 : decode cL_law 236 = .ok (.iconst 3, 1) := by decide +kernel
theorem dL_law_237 : decode cL_law 237 = .ok (.iadd, 1) := by decide +kernel
theorem dL_law_238 : decode cL_law 238 = .ok (.iaload, 1) := by decide +kernel
theorem dL_law_239 : decode cL_law 239 = .ok (.invokevirtual 18, 3) := by decide +kernel
theorem dL_law_242 : decode cL_law 242 = .ok (.aload_n 2, 1) := by decide +kernel
theorem dL_law_243 : decode cL_law 243 = .ok (.aload_n 0, 1) := by decide +kernel
theorem dL_law_244 : decode cL_law 244 = .ok (.iload_n 3, 1) := by decide +kernel
theorem dL_law_245 : decode cL_law 245 = .ok (.iconst 1, 1) := by decide +kernel
theorem dL_law_246 : decode cL_law 246 = .ok (.iadd, 1) := by decide +kernel
theorem dL_law_247 : decode cL_law 247 = .ok (.iaload, 1) := by decide +kernel
theorem dL_law_248 : decode cL_law 248 = .ok (.aload_n 0, 1) := by decide +kernel
theorem dL_law_249 : decode cL_law 249 = .ok (.iload_n 3, 1) := by decide +kernel
theorem dL_law_250 : decode cL_law 250 = .ok (.iconst 2, 1) := by decide +kernel
theorem dL_law_251 : decode cL_law 251 = .ok (.iadd, 1) := by decide +kernel
theorem dL_law_252 : decode cL_law 252 = .ok (.iaload, 1) := by decide +kernel
theorem dL_law_253 : decode cL_law 253 = .ok (.aload_n 0, 1) := by decide +kernel
theorem dL_law_254 : decode cL_law 254 = .ok (.iload_n 3, 1) := by decide +kernel
theorem dL_law_255 : decode cL_law 255 = .ok (.iconst 3, 1) := by decide +kernel
theorem dL_law_256 : decode cL_law 256 = .ok (.iadd, 1) := by decide +kernel
theorem dL_law_257 : decode cL_law 257 = .ok (.iaload, 1) := by decide +kernel
theorem dL_law_258 : decode cL_law 258 = .ok (.invokevirtual 22, 3) := by decide +kernel
theorem dL_law_261 : decode cL_law 261 = .ok (.if_icmp .eq 643, 3) := by decide +kernel
theorem dL_law_264 : decode cL_law 264 = .ok (.iconst 0, 1) := by decide +kernel
theorem dL_law_265 : decode cL_law 265 = .ok (.ireturn, 1) := by decide +kernel
theorem dL_law_266 : decode cL_law 266 = .ok (.aload_n 1, 1) := by decide +kernel
theorem dL_law_267 : decode cL_law 267 = .ok (.invokevirtual 23, 3) := by decide +kernel
theorem dL_law_270 : decode cL_law 270 = .ok (.aload_n 2, 1) := by decide +kernel
theorem dL_law_271 : decode cL_law 271 = .ok (.invokevirtual 27, 3) := by decide +kernel
theorem dL_law_274 : decode cL_law 274 = .ok (.if_icmp .eq 630, 3) := by decide +kernel
theorem dL_law_277 : decode cL_law 277 = .ok (.iconst 0, 1) := by decide +kernel
theorem dL_law_278 : decode cL_law 278 = .ok (.ireturn, 1) := by decide +kernel
theorem dL_law_279 : decode cL_law 279 = .ok (.aload_n 1, 1) := by decide +kernel
theorem dL_law_280 : decode cL_law 280 = .ok (.aload_n 0, 1) := by decide +kernel
theorem dL_law_281 : decode cL_law 281 = .ok (.iload_n 3, 1) := by decide +kernel
theorem dL_law_282 : decode cL_law 282 = .ok (.iconst 1, 1) := by decide +kernel
theorem dL_law_283 : decode cL_law 283 = .ok (.iadd, 1) := by decide +kernel
theorem dL_law_284 : decode cL_law 284 = .ok (.iaload, 1) := by decide +kernel
theorem dL_law_285 : decode cL_law 285 = .ok (.aload_n 0, 1) := by decide +kernel
theorem dL_law_286 : decode cL_law 286 = .ok (.iload_n 3, 1) := by decide +kernel
theorem dL_law_287 : decode cL_law 287 = .ok (.iconst 2, 1) := by decide +kernel
theorem dL_law_288 : decode cL_law 288 = .ok (.iadd, 1) := by decide +kernel
theorem dL_law_289 : decode cL_law 289 = .ok (.iaload, 1) := by decide +kernel
theorem dL_law_290 : decode cL_law 290 = .ok (.invokevirtual 28, 3) := by decide +kernel
theorem dL_law_293 : decode cL_law 293 = .ok (.aload_n 2, 1) := by decide +kernel
theorem dL_law_294 : decode cL_law 294 = .ok (.aload_n 0, 1) := by decide +kernel
theorem dL_law_295 : decode cL_law 295 = .ok (.iload_n 3, 1) := by decide +kernel
theorem dL_law_296 : decode cL_law 296 = .ok (.iconst 1, 1) := by decide +kernel
theorem dL_law_297 : decode cL_law 297 = .ok (.iadd, 1) := by decide +kernel
theorem dL_law_298 : decode cL_law 298 = .ok (.iaload, 1) := by decide +kernel
theorem dL_law_299 : decode cL_law 299 = .ok (.aload_n 0, 1) := by decide +kernel
theorem dL_law_300 : decode cL_law 300 = .ok (.iload_n 3, 1) := by decide +kernel
theorem dL_law_301 : decode cL_law 301 = .ok (.iconst 2, 1) := by decide +kernel
theorem dL_law_302 : decode cL_law 302 = .ok (.iadd, 1) := by decide +kernel
theorem dL_law_303 : decode cL_law 303 = .ok (.iaload, 1) := by decide +kernel
theorem dL_law_304 : decode cL_law 304 = .ok (.invokevirtual 32, 3) := by decide +kernel
theorem dL_law_307 : decode cL_law 307 = .ok (.if_icmp .eq 597, 3) := by decide +kernel
theorem dL_law_310 : decode cL_law 310 = .ok (.iconst 0, 1) := by decide +kernel
theorem dL_law_311 : decode cL_law 311 = .ok (.ireturn, 1) := by decide +kernel
theorem dL_law_312 : decode cL_law 312 = .ok (.aload_n 1, 1) := by decide +kernel
theorem dL_law_313 : decode cL_law 313 = .ok (.aload_n 0, 1) := by decide +kernel
theorem dL_law_314 : decode cL_law 314 = .ok (.iload_n 3, 1) := by decide +kernel
theorem dL_law_315 : decode cL_law 315 = .ok (.iconst 1, 1) := by decide +kernel
theorem dL_law_316 : decode cL_law 316 = .ok (.iadd, 1) := by decide +kernel
theorem dL_law_317 : decode cL_law 317 = .ok (.iaload, 1) := by decide +kernel
theorem dL_law_318 : decode cL_law 318 = .ok (.aload_n 0, 1) := by decide +kernel
theorem dL_law_319 : decode cL_law 319 = .ok (.iload_n 3, 1) := by decide +kernel
theorem dL_law_320 : decode cL_law 320 = .ok (.iconst 2, 1) := by decide +kernel
theorem dL_law_321 : decode cL_law 321 = .ok (.iadd, 1) := by decide +kernel
theorem dL_law_322 : decode cL_law 322 = .ok (.iaload, 1) := by decide +kernel
theorem dL_law_323 : decode cL_law 323 = .ok (.invokevirtual 33, 3) := by decide +kernel
theorem dL_law_326 : decode cL_law 326 = .ok (.aload_n 2, 1) := by decide +kernel
theorem dL_law_327 : decode cL_law 327 = .ok (.aload_n 0, 1) := by decide +kernel
theorem dL_law_328 : decode cL_law 328 = .ok (.iload_n 3, 1) := by decide +kernel
theorem dL_law_329 : decode cL_law 329 = .ok (.iconst 1, 1) := by decide +kernel
theorem dL_law_330 : decode cL_law 330 = .ok (.iadd, 1) := by decide +kernel
theorem dL_law_331 : decode cL_law 331 = .ok (.iaload, 1) := by decide +kernel
theorem dL_law_332 : decode cL_law 332 = .ok (.aload_n 0, 1) := by decide +kernel
theorem dL_law_333 : decode cL_law 333 = .ok (.iload_n 3, 1) := by decide +kernel
theorem dL_law_334 : decode cL_law 334 = .ok (.iconst 2, 1) := by decide +kernel
theorem dL_law_335 : decode cL_law 335 = .ok (.iadd, 1) := by decide +kernel
theorem dL_law_336 : decode cL_law 336 = .ok (.iaload, 1) := by decide +kernel
theorem dL_law_337 : decode cL_law 337 = .ok (.invokevirtual 36, 3) := by decide +kernel
theorem dL_law_340 : decode cL_law 340 = .ok (.if_icmp .eq 564, 3) := by decide +kernel
theorem dL_law_343 : decode cL_law 343 = .ok (.iconst 0, 1) := by decide +kernel
theorem dL_law_344 : decode cL_law 344 = .ok (.ireturn, 1) := by decide +kernel
theorem dL_law_345 : decode cL_law 345 = .ok (.aload_n 1, 1) := by decide +kernel
theorem dL_law_346 : decode cL_law 346 = .ok (.aload_n 0, 1) := by decide +kernel
theorem dL_law_347 : decode cL_law 347 = .ok (.iload_n 3, 1) := by decide +kernel
theorem dL_law_348 : decode cL_law 348 = .ok (.iconst 1, 1) := by decide +kernel
theorem dL_law_349 : decode cL_law 349 = .ok (.iadd, 1) := by decide +kernel
theorem dL_law_350 : decode cL_law 350 = .ok (.iaload, 1) := by decide +kernel
theorem dL_law_351 : decode cL_law 351 = .ok (.aload_n 0, 1) := by decide +kernel
theorem dL_law_352 : decode cL_law 352 = .ok (.iload_n 3, 1) := by decide +kernel
theorem dL_law_353 : decode cL_law 353 = .ok (.iconst 2, 1) := by decide +kernel
theorem dL_law_354 : decode cL_law 354 = .ok (.iadd, 1) := by decide +kernel
theorem dL_law_355 : decode cL_law 355 = .ok (.iaload, 1) := by decide +kernel
theorem dL_law_356 : decode cL_law 356 = .ok (.invokevirtual 37, 3) := by decide +kernel
theorem dL_law_359 : decode cL_law 359 = .ok (.aload_n 2, 1) := by decide +kernel
theorem dL_law_360 : decode cL_law 360 = .ok (.aload_n 0, 1) := by decide +kernel
theorem dL_law_361 : decode cL_law 361 = .ok (.iload_n 3, 1) := by decide +kernel
theorem dL_law_362 : decode cL_law 362 = .ok (.iconst 1, 1) := by decide +kernel
theorem dL_law_363 : decode cL_law 363 = .ok (.iadd, 1) := by decide +kernel
theorem dL_law_364 : decode cL_law 364 = .ok (.iaload, 1) := by decide +kernel
theorem dL_law_365 : decode cL_law 365 = .ok (.aload_n 0, 1) := by decide +kernel
theorem dL_law_366 : decode cL_law 366 = .ok (.iload_n 3, 1) := by decide +kernel
theorem dL_law_367 : decode cL_law 367 = .ok (.iconst 2, 1) := by decide +kernel
theorem dL_law_368 : decode cL_law 368 = .ok (.iadd, 1) := by decide +kernel
theorem dL_law_369 : decode cL_law 369 = .ok (.iaload, 1) := by decide +kernel
theorem dL_law_370 : decode cL_law 370 = .ok (.invokevirtual 40, 3) := by decide +kernel
theorem dL_law_373 : decode cL_law 373 = .ok (.if_icmp .eq 531, 3) := by decide +kernel
theorem dL_law_376 : decode cL_law 376 = .ok (.iconst 0, 1) := by decide +kernel
theorem dL_law_377 : decode cL_law 377 = .ok (.ireturn, 1) := by decide +kernel
theorem dL_law_378 : decode cL_law 378 = .ok (.aload_n 1, 1) := by decide +kernel
theorem dL_law_379 : decode cL_law 379 = .ok (.aload_n 0, 1) := by decide +kernel
theorem dL_law_380 : decode cL_law 380 = .ok (.iload_n 3, 1) := by decide +kernel
theorem dL_law_381 : decode cL_law 381 = .ok (.iconst 1, 1) := by decide +kernel
theorem dL_law_382 : decode cL_law 382 = .ok (.iadd, 1) := by decide +kernel
theorem dL_law_383 : decode cL_law 383 = .ok (.iaload, 1) := by decide +kernel
theorem dL_law_384 : decode cL_law 384 = .ok (.invokevirtual 41, 3) := by decide +kernel
theorem dL_law_387 : decode cL_law 387 = .ok (.aload_n 2, 1) := by decide +kernel
theorem dL_law_388 : decode cL_law 388 = .ok (.aload_n 0, 1) := by decide +kernel
theorem dL_law_389 : decode cL_law 389 = .ok (.iload_n 3, 1) := by decide +kernel
theorem dL_law_390 : decode cL_law 390 = .ok (.iconst 1, 1) := by decide +kernel
theorem dL_law_391 : decode cL_law 391 = .ok (.iadd, 1) := by decide +kernel
theorem dL_law_392 : decode cL_law 392 = .ok (.iaload, 1) := by decide +kernel
theorem dL_law_393 : decode cL_law 393 = .ok (.invokevirtual 45, 3) := by decide +kernel
theorem dL_law_396 : decode cL_law 396 = .ok (.if_icmp .eq 508, 3) := by decide +kernel
theorem dL_law_399 : decode cL_law 399 = .ok (.iconst 0, 1) := by decide +kernel
theorem dL_law_400 : decode cL_law 400 = .ok (.ireturn, 1) := by decide +kernel
theorem dL_law_401 : decode cL_law 401 = .ok (.aload_n 1, 1) := by decide +kernel
theorem dL_law_402 : decode cL_law 402 = .ok (.aload_n 0, 1) := by decide +kernel
theorem dL_law_403 : decode cL_law 403 = .ok (.iload_n 3, 1) := by decide +kernel
theorem dL_law_404 : decode cL_law 404 = .ok (.iconst 1, 1) := by decide +kernel
theorem dL_law_405 : decode cL_law 405 = .ok (.iadd, 1) := by decide +kernel
theorem dL_law_406 : decode cL_law 406 = .ok (.iaload, 1) := by decide +kernel
theorem dL_law_407 : decode cL_law 407 = .ok (.invokevirtual 46, 3) := by decide +kernel
theorem dL_law_410 : decode cL_law 410 = .ok (.aload_n 2, 1) := by decide +kernel
theorem dL_law_411 : decode cL_law 411 = .ok (.aload_n 0, 1) := by decide +kernel
theorem dL_law_412 : decode cL_law 412 = .ok (.iload_n 3, 1) := by decide +kernel
theorem dL_law_413 : decode cL_law 413 = .ok (.iconst 1, 1) := by decide +kernel
theorem dL_law_414 : decode cL_law 414 = .ok (.iadd, 1) := by decide +kernel
theorem dL_law_415 : decode cL_law 415 = .ok (.iaload, 1) := by decide +kernel
theorem dL_law_416 : decode cL_law 416 = .ok (.invokevirtual 49, 3) := by decide +kernel
theorem dL_law_419 : decode cL_law 419 = .ok (.if_icmp .eq 485, 3) := by decide +kernel
theorem dL_law_422 : decode cL_law 422 = .ok (.iconst 0, 1) := by decide +kernel
theorem dL_law_423 : decode cL_law 423 = .ok (.ireturn, 1) := by decide +kernel
theorem dL_law_424 : decode cL_law 424 = .ok (.aload_n 1, 1) := by decide +kernel
theorem dL_law_425 : decode cL_law 425 = .ok (.aload_n 0, 1) := by decide +kernel
theorem dL_law_426 : decode cL_law 426 = .ok (.iload_n 3, 1) := by decide +kernel
theorem dL_law_427 : decode cL_law 427 = .ok (.iconst 1, 1) := by decide +kernel
theorem dL_law_428 : decode cL_law 428 = .ok (.iadd, 1) := by decide +kernel
theorem dL_law_429 : decode cL_law 429 = .ok (.iaload, 1) := by decide +kernel
theorem dL_law_430 : decode cL_law 430 = .ok (.invokevirtual 50, 3) := by decide +kernel
theorem dL_law_433 : decode cL_law 433 = .ok (.aload_n 2, 1) := by decide +kernel
theorem dL_law_434 : decode cL_law 434 = .ok (.aload_n 0, 1) := by decide +kernel
theorem dL_law_435 : decode cL_law 435 = .ok (.iload_n 3, 1) := by decide +kernel
theorem dL_law_436 : decode cL_law 436 = .ok (.iconst 1, 1) := by decide +kernel
theorem dL_law_437 : decode cL_law 437 = .ok (.iadd, 1) := by decide +kernel
theorem dL_law_438 : decode cL_law 438 = .ok (.iaload, 1) := by decide +kernel
theorem dL_law_439 : decode cL_law 439 = .ok (.invokevirtual 53, 3) := by decide +kernel
theorem dL_law_442 : decode cL_law 442 = .ok (.if_icmp .eq 462, 3) := by decide +kernel
theorem dL_law_445 : decode cL_law 445 = .ok (.iconst 0, 1) := by decide +kernel
theorem dL_law_446 : decode cL_law 446 = .ok (.ireturn, 1) := by decide +kernel
theorem dL_law_447 : decode cL_law 447 = .ok (.aload_n 1, 1) := by decide +kernel
theorem dL_law_448 : decode cL_law 448 = .ok (.aload_n 0, 1) := by decide +kernel
theorem dL_law_449 : decode cL_law 449 = .ok (.iload_n 3, 1) := by decide +kernel
theorem dL_law_450 : decode cL_law 450 = .ok (.iconst 1, 1) := by decide +kernel
theorem dL_law_451 : decode cL_law 451 = .ok (.iadd, 1) := by decide +kernel
theorem dL_law_452 : decode cL_law 452 = .ok (.iaload, 1) := by decide +kernel
theorem dL_law_453 : decode cL_law 453 = .ok (.invokevirtual 54, 3) := by decide +kernel
theorem dL_law_456 : decode cL_law 456 = .ok (.aload_n 2, 1) := by decide +kernel
theorem dL_law_457 : decode cL_law 457 = .ok (.aload_n 0, 1) := by decide +kernel
theorem dL_law_458 : decode cL_law 458 = .ok (.iload_n 3, 1) := by decide +kernel
theorem dL_law_459 : decode cL_law 459 = .ok (.iconst 1, 1) := by decide +kernel
theorem dL_law_460 : decode cL_law 460 = .ok (.iadd, 1) := by decide +kernel
theorem dL_law_461 : decode cL_law 461 = .ok (.iaload, 1) := by decide +kernel
theorem dL_law_462 : decode cL_law 462 = .ok (.invokevirtual 57, 3) := by decide +kernel
theorem dL_law_465 : decode cL_law 465 = .ok (.if_icmp .eq 439, 3) := by decide +kernel
theorem dL_law_468 : decode cL_law 468 = .ok (.iconst 0, 1) := by decide +kernel
theorem dL_law_469 : decode cL_law 469 = .ok (.ireturn, 1) := by decide +kernel
theorem dL_law_470 : decode cL_law 470 = .ok (.aload_n 1, 1) := by decide +kernel
theorem dL_law_471 : decode cL_law 471 = .ok (.aload_n 0, 1) := by decide +kernel
theorem dL_law_472 : decode cL_law 472 = .ok (.iload_n 3, 1) := by decide +kernel
theorem dL_law_473 : decode cL_law 473 = .ok (.iconst 1, 1) := by decide +kernel
theorem dL_law_474 : decode cL_law 474 = .ok (.iadd, 1) := by decide +kernel
theorem dL_law_475 : decode cL_law 475 = .ok (.iaload, 1) := by decide +kernel
theorem dL_law_476 : decode cL_law 476 = .ok (.invokevirtual 58, 3) := by decide +kernel
theorem dL_law_479 : decode cL_law 479 = .ok (.aload_n 2, 1) := by decide +kernel
theorem dL_law_480 : decode cL_law 480 = .ok (.aload_n 0, 1) := by decide +kernel
theorem dL_law_481 : decode cL_law 481 = .ok (.iload_n 3, 1) := by decide +kernel
theorem dL_law_482 : decode cL_law 482 = .ok (.iconst 1, 1) := by decide +kernel
theorem dL_law_483 : decode cL_law 483 = .ok (.iadd, 1) := by decide +kernel
theorem dL_law_484 : decode cL_law 484 = .ok (.iaload, 1) := by decide +kernel
theorem dL_law_485 : decode cL_law 485 = .ok (.invokevirtual 61, 3) := by decide +kernel
theorem dL_law_488 : decode cL_law 488 = .ok (.if_icmp .eq 416, 3) := by decide +kernel
theorem dL_law_491 : decode cL_law 491 = .ok (.iconst 0, 1) := by decide +kernel
theorem dL_law_492 : decode cL_law 492 = .ok (.ireturn, 1) := by decide +kernel
theorem dL_law_493 : decode cL_law 493 = .ok (.aload_n 1, 1) := by decide +kernel
theorem dL_law_494 : decode cL_law 494 = .ok (.aload_n 0, 1) := by decide +kernel
theorem dL_law_495 : decode cL_law 495 = .ok (.iload_n 3, 1) := by decide +kernel
theorem dL_law_496 : decode cL_law 496 = .ok (.iconst 1, 1) := by decide +kernel
theorem dL_law_497 : decode cL_law 497 = .ok (.iadd, 1) := by decide +kernel
theorem dL_law_498 : decode cL_law 498 = .ok (.iaload, 1) := by decide +kernel
theorem dL_law_499 : decode cL_law 499 = .ok (.invokevirtual 62, 3) := by decide +kernel
theorem dL_law_502 : decode cL_law 502 = .ok (.aload_n 2, 1) := by decide +kernel
theorem dL_law_503 : decode cL_law 503 = .ok (.aload_n 0, 1) := by decide +kernel
theorem dL_law_504 : decode cL_law 504 = .ok (.iload_n 3, 1) := by decide +kernel
theorem dL_law_505 : decode cL_law 505 = .ok (.iconst 1, 1) := by decide +kernel
theorem dL_law_506 : decode cL_law 506 = .ok (.iadd, 1) := by decide +kernel
theorem dL_law_507 : decode cL_law 507 = .ok (.iaload, 1) := by decide +kernel
theorem dL_law_508 : decode cL_law 508 = .ok (.invokevirtual 65, 3) := by decide +kernel
theorem dL_law_511 : decode cL_law 511 = .ok (.if_icmp .eq 393, 3) := by decide +kernel
theorem dL_law_514 : decode cL_law 514 = .ok (.iconst 0, 1) := by decide +kernel
theorem dL_law_515 : decode cL_law 515 = .ok (.ireturn, 1) := by decide +kernel
theorem dL_law_516 : decode cL_law 516 = .ok (.aload_n 1, 1) := by decide +kernel
theorem dL_law_517 : decode cL_law 517 = .ok (.aload_n 0, 1) := by decide +kernel
theorem dL_law_518 : decode cL_law 518 = .ok (.iload_n 3, 1) := by decide +kernel
theorem dL_law_519 : decode cL_law 519 = .ok (.iconst 1, 1) := by decide +kernel
theorem dL_law_520 : decode cL_law 520 = .ok (.iadd, 1) := by decide +kernel
theorem dL_law_521 : decode cL_law 521 = .ok (.iaload, 1) := by decide +kernel
theorem dL_law_522 : decode cL_law 522 = .ok (.invokevirtual 66, 3) := by decide +kernel
theorem dL_law_525 : decode cL_law 525 = .ok (.aload_n 2, 1) := by decide +kernel
theorem dL_law_526 : decode cL_law 526 = .ok (.aload_n 0, 1) := by decide +kernel
theorem dL_law_527 : decode cL_law 527 = .ok (.iload_n 3, 1) := by decide +kernel
theorem dL_law_528 : decode cL_law 528 = .ok (.iconst 1, 1) := by decide +kernel
theorem dL_law_529 : decode cL_law 529 = .ok (.iadd, 1) := by decide +kernel
theorem dL_law_530 : decode cL_law 530 = .ok (.iaload, 1) := by decide +kernel
theorem dL_law_531 : decode cL_law 531 = .ok (.invokevirtual 69, 3) := by decide +kernel
theorem dL_law_534 : decode cL_law 534 = .ok (.if_icmp .eq 370, 3) := by decide +kernel
theorem dL_law_537 : decode cL_law 537 = .ok (.iconst 0, 1) := by decide +kernel
theorem dL_law_538 : decode cL_law 538 = .ok (.ireturn, 1) := by decide +kernel
theorem dL_law_539 : decode cL_law 539 = .ok (.aload_n 1, 1) := by decide +kernel
theorem dL_law_540 : decode cL_law 540 = .ok (.aload_n 0, 1) := by decide +kernel
theorem dL_law_541 : decode cL_law 541 = .ok (.iload_n 3, 1) := by decide +kernel
theorem dL_law_542 : decode cL_law 542 = .ok (.iconst 1, 1) := by decide +kernel
theorem dL_law_543 : decode cL_law 543 = .ok (.iadd, 1) := by decide +kernel
theorem dL_law_544 : decode cL_law 544 = .ok (.iaload, 1) := by decide +kernel
theorem dL_law_545 : decode cL_law 545 = .ok (.invokevirtual 70, 3) := by decide +kernel
theorem dL_law_548 : decode cL_law 548 = .ok (.aload_n 2, 1) := by decide +kernel
theorem dL_law_549 : decode cL_law 549 = .ok (.aload_n 0, 1) := by decide +kernel
theorem dL_law_550 : decode cL_law 550 = .ok (.iload_n 3, 1) := by decide +kernel
theorem dL_law_551 : decode cL_law 551 = .ok (.iconst 1, 1) := by decide +kernel
theorem dL_law_552 : decode cL_law 552 = .ok (.iadd, 1) := by decide +kernel
theorem dL_law_553 : decode cL_law 553 = .ok (.iaload, 1) := by decide +kernel
theorem dL_law_554 : decode cL_law 554 = .ok (.invokevirtual 73, 3) := by decide +kernel
theorem dL_law_557 : decode cL_law 557 = .ok (.if_icmp .eq 347, 3) := by decide +kernel
theorem dL_law_560 : decode cL_law 560 = .ok (.iconst 0, 1) := by decide +kernel
theorem dL_law_561 : decode cL_law 561 = .ok (.ireturn, 1) := by decide +kernel
theorem dL_law_562 : decode cL_law 562 = .ok (.aload_n 1, 1) := by decide +kernel
theorem dL_law_563 : decode cL_law 563 = .ok (.aload_n 0, 1) := by decide +kernel
theorem dL_law_564 : decode cL_law 564 = .ok (.iload_n 3, 1) := by decide +kernel
theorem dL_law_565 : decode cL_law 565 = .ok (.iconst 1, 1) := by decide +kernel
theorem dL_law_566 : decode cL_law 566 = .ok (.iadd, 1) := by decide +kernel
theorem dL_law_567 : decode cL_law 567 = .ok (.iaload, 1) := by decide +kernel
theorem dL_law_568 : decode cL_law 568 = .ok (.invokevirtual 74, 3) := by decide +kernel
theorem dL_law_571 : decode cL_law 571 = .ok (.aload_n 2, 1) := by decide +kernel
theorem dL_law_572 : decode cL_law 572 = .ok (.aload_n 0, 1) := by decide +kernel
theorem dL_law_573 : decode cL_law 573 = .ok (.iload_n 3, 1) := by decide +kernel
theorem dL_law_574 : decode cL_law 574 = .ok (.iconst 1, 1) := by decide +kernel
theorem dL_law_575 : decode cL_law 575 = .ok (.iadd, 1) := by decide +kernel
theorem dL_law_576 : decode cL_law 576 = .ok (.iaload, 1) := by decide +kernel
theorem dL_law_577 : decode cL_law 577 = .ok (.invokevirtual 77, 3) := by decide +kernel
theorem dL_law_580 : decode cL_law 580 = .ok (.if_icmp .eq 324, 3) := by decide +kernel
theorem dL_law_583 : decode cL_law 583 = .ok (.iconst 0, 1) := by decide +kernel
theorem dL_law_584 : decode cL_law 584 = .ok (.ireturn, 1) := by decide +kernel
theorem dL_law_585 : decode cL_law 585 = .ok (.aload_n 1, 1) := by decide +kernel
theorem dL_law_586 : decode cL_law 586 = .ok (.invokevirtual 78, 3) := by decide +kernel
theorem dL_law_589 : decode cL_law 589 = .ok (.aload_n 2, 1) := by decide +kernel
theorem dL_law_590 : decode cL_law 590 = .ok (.invokevirtual 81, 3) := by decide +kernel
theorem dL_law_593 : decode cL_law 593 = .ok (.if_icmp .eq 311, 3) := by decide +kernel
theorem dL_law_596 : decode cL_law 596 = .ok (.iconst 0, 1) := by decide +kernel
theorem dL_law_597 : decode cL_law 597 = .ok (.ireturn, 1) := by decide +kernel
theorem dL_law_598 : decode cL_law 598 = .ok (.aload_n 1, 1) := by decide +kernel
theorem dL_law_599 : decode cL_law 599 = .ok (.aload_n 0, 1) := by decide +kernel
theorem dL_law_600 : decode cL_law 600 = .ok (.iload_n 3, 1) := by decide +kernel
theorem dL_law_601 : decode cL_law 601 = .ok (.iconst 1, 1) := by decide +kernel
theorem dL_law_602 : decode cL_law 602 = .ok (.iadd, 1) := by decide +kernel
theorem dL_law_603 : decode cL_law 603 = .ok (.iaload, 1) := by decide +kernel
theorem dL_law_604 : decode cL_law 604 = .ok (.invokevirtual 82, 3) := by decide +kernel
theorem dL_law_607 : decode cL_law 607 = .ok (.aload_n 2, 1) := by decide +kernel
theorem dL_law_608 : decode cL_law 608 = .ok (.aload_n 0, 1) := by decide +kernel
theorem dL_law_609 : decode cL_law 609 = .ok (.iload_n 3, 1) := by decide +kernel
theorem dL_law_610 : decode cL_law 610 = .ok (.iconst 1, 1) := by decide +kernel
theorem dL_law_611 : decode cL_law 611 = .ok (.iadd, 1) := by decide +kernel
theorem dL_law_612 : decode cL_law 612 = .ok (.iaload, 1) := by decide +kernel
theorem dL_law_613 : decode cL_law 613 = .ok (.invokevirtual 85, 3) := by decide +kernel
theorem dL_law_616 : decode cL_law 616 = .ok (.if_icmp .eq 288, 3) := by decide +kernel
theorem dL_law_619 : decode cL_law 619 = .ok (.iconst 0, 1) := by decide +kernel
theorem dL_law_620 : decode cL_law 620 = .ok (.ireturn, 1) := by decide +kernel
theorem dL_law_621 : decode cL_law 621 = .ok (.aload_n 1, 1) := by decide +kernel
theorem dL_law_622 : decode cL_law 622 = .ok (.aload_n 0, 1) := by decide +kernel
theorem dL_law_623 : decode cL_law 623 = .ok (.iload_n 3, 1) := by decide +kernel
theorem dL_law_624 : decode cL_law 624 = .ok (.iconst 1, 1) := by decide +kernel
theorem dL_law_625 : decode cL_law 625 = .ok (.iadd, 1) := by decide +kernel
theorem dL_law_626 : decode cL_law 626 = .ok (.iaload, 1) := by decide +kernel
theorem dL_law_627 : decode cL_law 627 = .ok (.invokevirtual 86, 3) := by decide +kernel
theorem dL_law_630 : decode cL_law 630 = .ok (.aload_n 2, 1) := by decide +kernel
theorem dL_law_631 : decode cL_law 631 = .ok (.aload_n 0, 1) := by decide +kernel
theorem dL_law_632 : decode cL_law 632 = .ok (.iload_n 3, 1) := by decide +kernel
theorem dL_law_633 : decode cL_law 633 = .ok (.iconst 1, 1) := by decide +kernel
theorem dL_law_634 : decode cL_law 634 = .ok (.iadd, 1) := by decide +kernel
theorem dL_law_635 : decode cL_law 635 = .ok (.iaload, 1) := by decide +kernel
theorem dL_law_636 : decode cL_law 636 = .ok (.invokevirtual 89, 3) := by decide +kernel
theorem dL_law_639 : decode cL_law 639 = .ok (.if_icmp .eq 265, 3) := by decide +kernel
theorem dL_law_642 : decode cL_law 642 = .ok (.iconst 0, 1) := by decide +kernel
theorem dL_law_643 : decode cL_law 643 = .ok (.ireturn, 1) := by decide +kernel
theorem dL_law_644 : decode cL_law 644 = .ok (.aload_n 1, 1) := by decide +kernel
theorem dL_law_645 : decode cL_law 645 = .ok (.aload_n 0, 1) := by decide +kernel
theorem dL_law_646 : decode cL_law 646 = .ok (.iload_n 3, 1) := by decide +kernel
theorem dL_law_647 : decode cL_law 647 = .ok (.iconst 1, 1) := by decide +kernel
theorem dL_law_648 : decode cL_law 648 = .ok (.iadd, 1) := by decide +kernel
theorem dL_law_649 : decode cL_law 649 = .ok (.iaload, 1) := by decide +kernel
theorem dL_law_650 : decode cL_law 650 = .ok (.aload_n 0, 1) := by decide +kernel
theorem dL_law_651 : decode cL_law 651 = .ok (.iload_n 3, 1) := by decide +kernel
theorem dL_law_652 : decode cL_law 652 = .ok (.iconst 2, 1) := by decide +kernel
theorem dL_law_653 : decode cL_law 653 = .ok (.iadd, 1) := by decide +kernel
theorem dL_law_654 : decode cL_law 654 = .ok (.iaload, 1) := by decide +kernel
theorem dL_law_655 : decode cL_law 655 = .ok (.invokevirtual 90, 3) := by decide +kernel
theorem dL_law_658 : decode cL_law 658 = .ok (.aload_n 2, 1) := by decide +kernel
theorem dL_law_659 : decode cL_law 659 = .ok (.aload_n 0, 1) := by decide +kernel
theorem dL_law_660 : decode cL_law 660 = .ok (.iload_n 3, 1) := by decide +kernel
theorem dL_law_661 : decode cL_law 661 = .ok (.iconst 1, 1) := by decide +kernel
theorem dL_law_662 : decode cL_law 662 = .ok (.iadd, 1) := by decide +kernel
theorem dL_law_663 : decode cL_law 663 = .ok (.iaload, 1) := by decide +kernel
theorem dL_law_664 : decode cL_law 664 = .ok (.aload_n 0, 1) := by decide +kernel
theorem dL_law_665 : decode cL_law 665 = .ok (.iload_n 3, 1) := by decide +kernel
theorem dL_law_666 : decode cL_law 666 = .ok (.iconst 2, 1) := by decide +kernel
theorem dL_law_667 : decode cL_law 667 = .ok (.iadd, 1) := by decide +kernel
theorem dL_law_668 : decode cL_law 668 = .ok (.iaload, 1) := by decide +kernel
theorem dL_law_669 : decode cL_law 669 = .ok (.invokevirtual 93, 3) := by decide +kernel
theorem dL_law_672 : decode cL_law 672 = .ok (.if_icmp .eq 232, 3) := by decide +kernel
theorem dL_law_675 : decode cL_law 675 = .ok (.iconst 0, 1) := by decide +kernel
theorem dL_law_676 : decode cL_law 676 = .ok (.ireturn, 1) := by decide +kernel
theorem dL_law_677 : decode cL_law 677 = .ok (.aload_n 1, 1) := by decide +kernel
theorem dL_law_678 : decode cL_law 678 = .ok (.aload_n 0, 1) := by decide +kernel
theorem dL_law_679 : decode cL_law 679 = .ok (.iload_n 3, 1) := by decide +kernel
theorem dL_law_680 : decode cL_law 680 = .ok (.iconst 1, 1) := by decide +kernel
theorem dL_law_681 : decode cL_law 681 = .ok (.iadd, 1) := by decide +kernel
theorem dL_law_682 : decode cL_law 682 = .ok (.iaload, 1) := by decide +kernel
theorem dL_law_683 : decode cL_law 683 = .ok (.invokevirtual 94, 3) := by decide +kernel
theorem dL_law_686 : decode cL_law 686 = .ok (.aload_n 2, 1) := by decide +kernel
theorem dL_law_687 : decode cL_law 687 = .ok (.aload_n 0, 1) := by decide +kernel
theorem dL_law_688 : decode cL_law 688 = .ok (.iload_n 3, 1) := by decide +kernel
theorem dL_law_689 : decode cL_law 689 = .ok (.iconst 1, 1) := by decide +kernel
theorem dL_law_690 : decode cL_law 690 = .ok (.iadd, 1) := by decide +kernel
theorem dL_law_691 : decode cL_law 691 = .ok (.iaload, 1) := by decide +kernel
theorem dL_law_692 : decode cL_law 692 = .ok (.invokevirtual 97, 3) := by decide +kernel
theorem dL_law_695 : decode cL_law 695 = .ok (.if_icmp .eq 209, 3) := by decide +kernel
theorem dL_law_698 : decode cL_law 698 = .ok (.iconst 0, 1) := by decide +kernel
theorem dL_law_699 : decode cL_law 699 = .ok (.ireturn, 1) := by decide +kernel
theorem dL_law_700 : decode cL_law 700 = .ok (.aload_n 1, 1) := by decide +kernel
theorem dL_law_701 : decode cL_law 701 = .ok (.aload_n 0, 1) := by decide +kernel
theorem dL_law_702 : decode cL_law 702 = .ok (.iload_n 3, 1) := by decide +kernel
theorem dL_law_703 : decode cL_law 703 = .ok (.iconst 1, 1) := by decide +kernel
theorem dL_law_704 : decode cL_law 704 = .ok (.iadd, 1) := by decide +kernel
theorem dL_law_705 : decode cL_law 705 = .ok (.iaload, 1) := by decide +kernel
theorem dL_law_706 : decode cL_law 706 = .ok (.aload_n 0, 1) := by decide +kernel
theorem dL_law_707 : decode cL_law 707 = .ok (.iload_n 3, 1) := by decide +kernel
theorem dL_law_708 : decode cL_law 708 = .ok (.iconst 2, 1) := by decide +kernel
theorem dL_law_709 : decode cL_law 709 = .ok (.iadd, 1) := by decide +kernel
theorem dL_law_710 : decode cL_law 710 = .ok (.iaload, 1) := by decide +kernel
theorem dL_law_711 : decode cL_law 711 = .ok (.invokevirtual 98, 3) := by decide +kernel
theorem dL_law_714 : decode cL_law 714 = .ok (.aload_n 2, 1) := by decide +kernel
theorem dL_law_715 : decode cL_law 715 = .ok (.aload_n 0, 1) := by decide +kernel
theorem dL_law_716 : decode cL_law 716 = .ok (.iload_n 3, 1) := by decide +kernel
theorem dL_law_717 : decode cL_law 717 = .ok (.iconst 1, 1) := by decide +kernel
theorem dL_law_718 : decode cL_law 718 = .ok (.iadd, 1) := by decide +kernel
theorem dL_law_719 : decode cL_law 719 = .ok (.iaload, 1) := by decide +kernel
theorem dL_law_720 : decode cL_law 720 = .ok (.aload_n 0, 1) := by decide +kernel
theorem dL_law_721 : decode cL_law 721 = .ok (.iload_n 3, 1) := by decide +kernel
theorem dL_law_722 : decode cL_law 722 = .ok (.iconst 2, 1) := by decide +kernel
theorem dL_law_723 : decode cL_law 723 = .ok (.iadd, 1) := by decide +kernel
theorem dL_law_724 : decode cL_law 724 = .ok (.iaload, 1) := by decide +kernel
theorem dL_law_725 : decode cL_law 725 = .ok (.invokevirtual 101, 3) := by decide +kernel
theorem dL_law_728 : decode cL_law 728 = .ok (.if_icmp .eq 176, 3) := by decide +kernel
theorem dL_law_731 : decode cL_law 731 = .ok (.iconst 0, 1) := by decide +kernel
theorem dL_law_732 : decode cL_law 732 = .ok (.ireturn, 1) := by decide +kernel
theorem dL_law_733 : decode cL_law 733 = .ok (.aload_n 1, 1) := by decide +kernel
theorem dL_law_734 : decode cL_law 734 = .ok (.aload_n 0, 1) := by decide +kernel
theorem dL_law_735 : decode cL_law 735 = .ok (.iload_n 3, 1) := by decide +kernel
theorem dL_law_736 : decode cL_law 736 = .ok (.iconst 1, 1) := by decide +kernel
theorem dL_law_737 : decode cL_law 737 = .ok (.iadd, 1) := by decide +kernel
theorem dL_law_738 : decode cL_law 738 = .ok (.iaload, 1) := by decide +kernel
theorem dL_law_739 : decode cL_law 739 = .ok (.invokevirtual 102, 3) := by decide +kernel
theorem dL_law_742 : decode cL_law 742 = .ok (.aload_n 2, 1) := by decide +kernel
theorem dL_law_743 : decode cL_law 743 = .ok (.aload_n 0, 1) := by decide +kernel
theorem dL_law_744 : decode cL_law 744 = .ok (.iload_n 3, 1) := by decide +kernel
theorem dL_law_745 : decode cL_law 745 = .ok (.iconst 1, 1) := by decide +kernel
theorem dL_law_746 : decode cL_law 746 = .ok (.iadd, 1) := by decide +kernel
theorem dL_law_747 : decode cL_law 747 = .ok (.iaload, 1) := by decide +kernel
theorem dL_law_748 : decode cL_law 748 = .ok (.invokevirtual 105, 3) := by decide +kernel
theorem dL_law_751 : decode cL_law 751 = .ok (.if_icmp .eq 153, 3) := by decide +kernel
theorem dL_law_754 : decode cL_law 754 = .ok (.iconst 0, 1) := by decide +kernel
theorem dL_law_755 : decode cL_law 755 = .ok (.ireturn, 1) := by decide +kernel
theorem dL_law_756 : decode cL_law 756 = .ok (.aload_n 1, 1) := by decide +kernel
theorem dL_law_757 : decode cL_law 757 = .ok (.aload_n 0, 1) := by decide +kernel
theorem dL_law_758 : decode cL_law 758 = .ok (.iload_n 3, 1) := by decide +kernel
theorem dL_law_759 : decode cL_law 759 = .ok (.iconst 1, 1) := by decide +kernel
theorem dL_law_760 : decode cL_law 760 = .ok (.iadd, 1) := by decide +kernel
theorem dL_law_761 : decode cL_law 761 = .ok (.iaload, 1) := by decide +kernel
theorem dL_law_762 : decode cL_law 762 = .ok (.invokevirtual 106, 3) := by decide +kernel
theorem dL_law_765 : decode cL_law 765 = .ok (.aload_n 2, 1) := by decide +kernel
theorem dL_law_766 : decode cL_law 766 = .ok (.aload_n 0, 1) := by decide +kernel
theorem dL_law_767 : decode cL_law 767 = .ok (.iload_n 3, 1) := by decide +kernel
theorem dL_law_768 : decode cL_law 768 = .ok (.iconst 1, 1) := by decide +kernel
theorem dL_law_769 : decode cL_law 769 = .ok (.iadd, 1) := by decide +kernel
theorem dL_law_770 : decode cL_law 770 = .ok (.iaload, 1) := by decide +kernel
theorem dL_law_771 : decode cL_law 771 = .ok (.invokevirtual 109, 3) := by decide +kernel
theorem dL_law_774 : decode cL_law 774 = .ok (.if_icmp .eq 130, 3) := by decide +kernel
theorem dL_law_777 : decode cL_law 777 = .ok (.iconst 0, 1) := by decide +kernel
theorem dL_law_778 : decode cL_law 778 = .ok (.ireturn, 1) := by decide +kernel
theorem dL_law_779 : decode cL_law 779 = .ok (.aload_n 1, 1) := by decide +kernel
theorem dL_law_780 : decode cL_law 780 = .ok (.invokevirtual 110, 3) := by decide +kernel
theorem dL_law_783 : decode cL_law 783 = .ok (.aload_n 2, 1) := by decide +kernel
theorem dL_law_784 : decode cL_law 784 = .ok (.invokevirtual 113, 3) := by decide +kernel
theorem dL_law_787 : decode cL_law 787 = .ok (.if_icmp .eq 117, 3) := by decide +kernel
theorem dL_law_790 : decode cL_law 790 = .ok (.iconst 0, 1) := by decide +kernel
theorem dL_law_791 : decode cL_law 791 = .ok (.ireturn, 1) := by decide +kernel
theorem dL_law_792 : decode cL_law 792 = .ok (.aload_n 1, 1) := by decide +kernel
theorem dL_law_793 : decode cL_law 793 = .ok (.aload_n 0, 1) := by decide +kernel
theorem dL_law_794 : decode cL_law 794 = .ok (.iload_n 3, 1) := by decide +kernel
theorem dL_law_795 : decode cL_law 795 = .ok (.iconst 1, 1) := by decide +kernel
theorem dL_law_796 : decode cL_law 796 = .ok (.iadd, 1) := by decide +kernel
theorem dL_law_797 : decode cL_law 797 = .ok (.iaload, 1) := by decide +kernel
theorem dL_law_798 : decode cL_law 798 = .ok (.aload_n 0, 1) := by decide +kernel
theorem dL_law_799 : decode cL_law 799 = .ok (.iload_n 3, 1) := by decide +kernel
theorem dL_law_800 : decode cL_law 800 = .ok (.iconst 2, 1) := by decide +kernel
theorem dL_law_801 : decode cL_law 801 = .ok (.iadd, 1) := by decide +kernel
theorem dL_law_802 : decode cL_law 802 = .ok (.iaload, 1) := by decide +kernel
theorem dL_law_803 : decode cL_law 803 = .ok (.aload_n 0, 1) := by decide +kernel
theorem dL_law_804 : decode cL_law 804 = .ok (.iload_n 3, 1) := by decide +kernel
theorem dL_law_805 : decode cL_law 805 = .ok (.iconst 3, 1) := by decide +kernel
theorem dL_law_806 : decode cL_law 806 = .ok (.iadd, 1) := by decide +kernel
theorem dL_law_807 : decode cL_law 807 = .ok (.iaload, 1) := by decide +kernel
theorem dL_law_808 : decode cL_law 808 = .ok (.invokevirtual 114, 3) := by decide +kernel
theorem dL_law_811 : decode cL_law 811 = .ok (.aload_n 2, 1) := by decide +kernel
theorem dL_law_812 : decode cL_law 812 = .ok (.aload_n 0, 1) := by decide +kernel
theorem dL_law_813 : decode cL_law 813 = .ok (.iload_n 3, 1) := by decide +kernel
theorem dL_law_814 : decode cL_law 814 = .ok (.iconst 1, 1) := by decide +kernel
theorem dL_law_815 : decode cL_law 815 = .ok (.iadd, 1) := by decide +kernel
theorem dL_law_816 : decode cL_law 816 = .ok (.iaload, 1) := by decide +kernel
theorem dL_law_817 : decode cL_law 817 = .ok (.aload_n 0, 1) := by decide +kernel
theorem dL_law_818 : decode cL_law 818 = .ok (.iload_n 3, 1) := by decide +kernel
theorem dL_law_819 : decode cL_law 819 = .ok (.iconst 2, 1) := by decide +kernel
theorem dL_law_820 : decode cL_law 820 = .ok (.iadd, 1) := by decide +kernel
theorem dL_law_821 : decode cL_law 821 = .ok (.iaload, 1) := by decide +kernel
theorem dL_law_822 : decode cL_law 822 = .ok (.aload_n 0, 1) := by decide +kernel
theorem dL_law_823 : decode cL_law 823 = .ok (.iload_n 3, 1) := by decide +kernel
theorem dL_law_824 : decode cL_law 824 = .ok (.iconst 3, 1) := by decide +kernel
theorem dL_law_825 : decode cL_law 825 = .ok (.iadd, 1) := by decide +kernel
theorem dL_law_826 : decode cL_law 826 = .ok (.iaload, 1) := by decide +kernel
theorem dL_law_827 : decode cL_law 827 = .ok (.invokevirtual 117, 3) := by decide +kernel
theorem dL_law_830 : decode cL_law 830 = .ok (.if_icmp .eq 74, 3) := by decide +kernel
theorem dL_law_833 : decode cL_law 833 = .ok (.iconst 0, 1) := by decide +kernel
theorem dL_law_834 : decode cL_law 834 = .ok (.ireturn, 1) := by decide +kernel
theorem dL_law_835 : decode cL_law 835 = .ok (.aload_n 1, 1) := by decide +kernel
theorem dL_law_836 : decode cL_law 836 = .ok (.aload_n 0, 1) := by decide +kernel
theorem dL_law_837 : decode cL_law 837 = .ok (.iload_n 3, 1) := by decide +kernel
theorem dL_law_838 : decode cL_law 838 = .ok (.iconst 1, 1) := by decide +kernel
theorem dL_law_839 : decode cL_law 839 = .ok (.iadd, 1) := by decide +kernel
theorem dL_law_840 : decode cL_law 840 = .ok (.iaload, 1) := by decide +kernel
theorem dL_law_841 : decode cL_law 841 = .ok (.invokevirtual 118, 3) := by decide +kernel
theorem dL_law_844 : decode cL_law 844 = .ok (.aload_n 2, 1) := by decide +kernel
theorem dL_law_845 : decode cL_law 845 = .ok (.aload_n 0, 1) := by decide +kernel
theorem dL_law_846 : decode cL_law 846 = .ok (.iload_n 3, 1) := by decide +kernel
theorem dL_law_847 : decode cL_law 847 = .ok (.iconst 1, 1) := by decide +kernel
theorem dL_law_848 : decode cL_law 848 = .ok (.iadd, 1) := by decide +kernel
theorem dL_law_849 : decode cL_law 849 = .ok (.iaload, 1) := by decide +kernel
theorem dL_law_850 : decode cL_law 850 = .ok (.invokevirtual 121, 3) := by decide +kernel
theorem dL_law_853 : decode cL_law 853 = .ok (.if_icmp .eq 51, 3) := by decide +kernel
theorem dL_law_856 : decode cL_law 856 = .ok (.iconst 0, 1) := by decide +kernel
theorem dL_law_857 : decode cL_law 857 = .ok (.ireturn, 1) := by decide +kernel
theorem dL_law_858 : decode cL_law 858 = .ok (.aload_n 1, 1) := by decide +kernel
theorem dL_law_859 : decode cL_law 859 = .ok (.aload_n 0, 1) := by decide +kernel
theorem dL_law_860 : decode cL_law 860 = .ok (.iload_n 3, 1) := by decide +kernel
theorem dL_law_861 : decode cL_law 861 = .ok (.iconst 1, 1) := by decide +kernel
theorem dL_law_862 : decode cL_law 862 = .ok (.iadd, 1) := by decide +kernel
theorem dL_law_863 : decode cL_law 863 = .ok (.iaload, 1) := by decide +kernel
theorem dL_law_864 : decode cL_law 864 = .ok (.invokevirtual 122, 3) := by decide +kernel
theorem dL_law_867 : decode cL_law 867 = .ok (.aload_n 2, 1) := by decide +kernel
theorem dL_law_868 : decode cL_law 868 = .ok (.aload_n 0, 1) := by decide +kernel
theorem dL_law_869 : decode cL_law 869 = .ok (.iload_n 3, 1) := by decide +kernel
theorem dL_law_870 : decode cL_law 870 = .ok (.iconst 1, 1) := by decide +kernel
theorem dL_law_871 : decode cL_law 871 = .ok (.iadd, 1) := by decide +kernel
theorem dL_law_872 : decode cL_law 872 = .ok (.iaload, 1) := by decide +kernel
theorem dL_law_873 : decode cL_law 873 = .ok (.invokevirtual 125, 3) := by decide +kernel
theorem dL_law_876 : decode cL_law 876 = .ok (.if_icmp .eq 28, 3) := by decide +kernel
theorem dL_law_879 : decode cL_law 879 = .ok (.iconst 0, 1) := by decide +kernel
theorem dL_law_880 : decode cL_law 880 = .ok (.ireturn, 1) := by decide +kernel
theorem dL_law_881 : decode cL_law 881 = .ok (.aload_n 1, 1) := by decide +kernel
theorem dL_law_882 : decode cL_law 882 = .ok (.aload_n 0, 1) := by decide +kernel
theorem dL_law_883 : decode cL_law 883 = .ok (.iload_n 3, 1) := by decide +kernel
theorem dL_law_884 : decode cL_law 884 = .ok (.iconst 1, 1) := by decide +kernel
theorem dL_law_885 : decode cL_law 885 = .ok (.iadd, 1) := by decide +kernel
theorem dL_law_886 : decode cL_law 886 = .ok (.iaload, 1) := by decide +kernel
theorem dL_law_887 : decode cL_law 887 = .ok (.invokevirtual 126, 3) := by decide +kernel
theorem dL_law_890 : decode cL_law 890 = .ok (.aload_n 2, 1) := by decide +kernel
theorem dL_law_891 : decode cL_law 891 = .ok (.aload_n 0, 1) := by decide +kernel
theorem dL_law_892 : decode cL_law 892 = .ok (.iload_n 3, 1) := by decide +kernel
theorem dL_law_893 : decode cL_law 893 = .ok (.iconst 1, 1) := by decide +kernel
theorem dL_law_894 : decode cL_law 894 = .ok (.iadd, 1) := by decide +kernel
theorem dL_law_895 : decode cL_law 895 = .ok (.iaload, 1) := by decide +kernel
theorem dL_law_896 : decode cL_law 896 = .ok (.invokevirtual 129, 3) := by decide +kernel
theorem dL_law_899 : decode cL_law 899 = .ok (.if_icmp .eq 5, 3) := by decide +kernel
theorem dL_law_902 : decode cL_law 902 = .ok (.iconst 0, 1) := by decide +kernel
theorem dL_law_903 : decode cL_law 903 = .ok (.ireturn, 1) := by decide +kernel
theorem dL_law_904 : decode cL_law 904 = .ok (.iinc 3 6, 3) := by decide +kernel
theorem dL_law_907 : decode cL_law 907 = .ok (.goto (-889), 3) := by decide +kernel
theorem dL_law_910 : decode cL_law 910 = .ok (.iconst 1, 1) := by decide +kernel
theorem dL_law_911 : decode cL_law 911 = .ok (.ireturn, 1) := by decide +kernel
end
section
/-! My layer: a side's world is a function from cell numbers to rows of ints; every method is told by a partial function over it. -/
/-- D, the array classes (int, boolean, Effect, Axis, Button), the cells' addresses, what may change, the static tables' addresses -/
abbrev gx_G : Type := va_G × (Nat → ClassId) × (Nat → Nat) × (Nat → Prop) × (Nat → Nat)
abbrev gx_q (G : gx_G) (k : Nat) : Nat := G.2.2.1 k
abbrev gx_A (G : gx_G) : Nat → Prop := G.2.2.2.1
abbrev gx_St : Type := Nat → Nat → Int32
abbrev gx_Mk : Type := Nat → (Nat → Int32) → va_E
def gx_ty (G : gx_G) : List (ClassId × FieldType) := [(G.2.1 0, .int), (G.2.1 1, .boolean), (G.2.1 2, .object RX2), (G.2.1 3, .object RX0), (G.2.1 4, .object RX1)]
abbrev gx_K (G : gx_G) (U : State) : Prop := va_K G.1 vwCl (gx_ty G) U
def gx_H (G : gx_G) (n : Nat) (mk : gx_Mk) (σ : gx_St) (H : Heap) : Prop := ∀ k, k < n → va_at G.1 vwCl (gx_q G k, mk k (σ k)) H
def gx_D (G : gx_G) (n : Nat) : Prop := (∀ i j, i < n → j < n → gx_q G i = gx_q G j → i = j) ∧ ∀ k, k < n → gx_A G (gx_q G k)
def gx_w2 (σ : gx_St) (k j : Nat) (v : Int32) : gx_St := fun k' => if k' = k then upd (σ k) j v else σ k'
def gx_tn (i : Nat) : String := match i with
  | 0 => "SHAPE_LEAST"
  | 1 => "SHAPE_MOST"
  | 2 => "NUMBER_LEAST"
  | 3 => "NUMBER_MOST"
  | _ => "NUMBER_AT_FIRST"
def gx_tl (i : Nat) : Nat := match i with
  | 0 => 28
  | 1 => 28
  | _ => 12
def gx_t0 : List Int32 := [-1000, 0, 0, 0, 0, -1000, 2, 0, 0, -1000, 2, 0, -1000, -1000, 0, 0, -100, -1000, 0, 0, -100, 0, 0, 0, 1, -1000, 0, 0]
def gx_t1 : List Int32 := [1000, 0, 0, 0, 1000, 1000, 2000, 1999, 1000, 1000, 2000, 1999, 1000, 1000, 0, 0, 100, 1000, 1000, 1000, 100, 0, 9999, 1000, 1000, 1000, 1, 1000]
def gx_t2 : List Int32 := [1, 0, 0, 0, 0, 0, -100, -100, 0, 0, 0, 0]
def gx_t3 : List Int32 := [60000, 5000, 5000, 100, 5000, 100, 100, 100, 100, 9, 3, 5000]
def gx_t4 : List Int32 := [-9, 0, 0, 0, 0, 0, 100, 0, 100, 0, -9, 0]
def gx_tv (i j : Nat) : Int32 := match i with
  | 0 => gx_t0.getD j 0
  | 1 => gx_t1.getD j 0
  | 2 => gx_t2.getD j 0
  | 3 => gx_t3.getD j 0
  | _ => gx_t4.getD j 0
def gx_T (G : gx_G) (U : State) (H : Heap) : Prop := ∀ i, i < 5 → va_Z "PushStick" (gx_tn i) "[I" (.ref (G.2.2.2.2 i)) (gx_A G) U H ∧ va_T .int (G.2.2.2.2 i) (gx_tl i) (fun j => .int (gx_tv i j)) (gx_A G) U H
def gx_N (U : State) : Prop := va_Nw (.methodLinkNest "PushStick$Effect" 100 ⟨"PushStick", "quotient", "(II)I"⟩ "PushStick") U ∧ va_Nw (.methodLinkNest "PushStick$Effect" 106 ⟨"PushStick", "noFarther", "(II)I"⟩ "PushStick") U ∧ va_Nw (.methodLinkNest "PushStick$Effect" 94 ⟨"PushStick", "remainder", "(II)I"⟩ "PushStick") U ∧ va_Nw (.fieldLinkNest "PushStick$Effect" 43 "PushStick" "NUMBER_AT_FIRST" "[I" "PushStick") U
def gx_E (G : gx_G) (s : State) : Prop := gx_K G s ∧ gx_T G s s.heap ∧ gx_N s
def gx_S (G : gx_G) (n : Nat) (mk : gx_Mk) (σ : gx_St) (U : State) : Prop := gx_H G n mk σ U.heap ∧ gx_E G U
theorem gx_T.kept {G : gx_G} {U : State} {H H1 : Heap} (h : gx_T G U H) (hq : ∀ a : Nat, a < H.size → ¬ gx_A G a → H1[a]? = H[a]?) : gx_T G U H1 := fun i hi => ⟨(h i hi).1.kept hq, (h i hi).2.kept hq⟩
theorem gx_T.moved {G : gx_G} {u U : State} {H : Heap} (hvm : u.vm.Alike U.vm) (h : gx_T G u H) : gx_T G U H := fun i hi => ⟨(h i hi).1.moved hvm, (h i hi).2.moved hvm⟩
theorem gx_N.warm {s U : State} (hW : s.WarmedH U.vm) (h : gx_N s) : gx_N U := ⟨h.1.warmM hW, h.2.1.warmM hW, h.2.2.1.warmM hW, h.2.2.2.warmF hW⟩
theorem gx_N.same {u U : State} (e : u.vm = U.vm) (h : gx_N u) : gx_N U := ⟨h.1.same rfl e, h.2.1.same rfl e, h.2.2.1.same rfl e, h.2.2.2.same rfl e⟩
theorem gx_pre {G : gx_G} {n : Nat} {mk : gx_Mk} {σ : gx_St} {s U : State} {H : Heap} {locs : List Loc} (E : gx_E G s) (hH : gx_H G n mk σ H) (hS : va_S (gx_A G) s.heap H locs) (hU : U.heap = H) (hW : s.WarmedH U.vm) : gx_S G n mk σ U := by
  subst hU
  exact ⟨hH, E.1.moved hW.alike, (E.2.1.moved hW.alike).kept (fun a h1 h2 => hS.2.1 a h1 h2), E.2.2.warm hW⟩
theorem gx_blind {G : gx_G} {n : Nat} {mk : gx_Mk} {σ : gx_St} (av : List Value) : FrameBlind (va_Pc av (gx_S G n mk σ)) := fun a U g mk' h => ⟨h.1, h.2.1, va_K.moved (u := U) (U := U.calling g mk' a) (Vm.Alike.refl U.vm) h.2.2.1, gx_T.moved (u := U) (U := U.calling g mk' a) (Vm.Alike.refl U.vm) h.2.2.2.1, gx_N.same (u := U) (U := U.calling g mk' a) rfl h.2.2.2.2⟩
/-- ends: nothing is written; or the side's world becomes another -/
def gx_QR (v : Option Value) : Array Value → State → Outcome → State → Prop := fun _ st o t => o = .returned v ∧ t.heap = st.heap
def gx_QM (G : gx_G) (n : Nat) (mk : gx_Mk) (v : Option Value) (σ : gx_St) : Array Value → State → Outcome → State → Prop := fun _ st o t => o = .returned v ∧ gx_H G n mk σ t.heap ∧ va_F (gx_A G) st t
/-- partial functions -/
def gx_lt {α β : Type} (e : α) (k : α → β) : β := k e
theorem gx_pos {α : Type} {c : Prop} [Decidable c] {a b : Option α} {r : α} (h : c) (hf : (if c then a else b) = some r) : a = some r := by rw [if_pos h] at hf; exact hf
theorem gx_neg {α : Type} {c : Prop} [Decidable c] {a b : Option α} {r : α} (h : ¬ c) (hf : (if c then a else b) = some r) : b = some r := by rw [if_neg h] at hf; exact hf
theorem gx_chk {α : Type} {c : Prop} [Decidable c] {b : Option α} {r : α} (hf : (if c then none else b) = some r) : ¬ c ∧ b = some r := by
  by_cases h : c
  · rw [if_pos h] at hf; cases hf
  · rw [if_neg h] at hf; exact ⟨h, hf⟩
theorem gx_bnd {α β : Type} {o : Option α} {k : α → Option β} {r : β} (hf : o.bind k = some r) : ∃ x, o = some x ∧ k x = some r := by
  cases o with
  | none => cases hf
  | some x => exact ⟨x, rfl, hf⟩
theorem gx_let {α β : Type} {e : α} {k : α → Option β} {r : β} (hf : gx_lt e k = some r) : ∀ x, x = e → k x = some r := fun x h => by subst h; exact hf
theorem gx_lt12 {x : Int32} {n : Nat} (h : ¬ (x < 0 ∨ n ≤ x.toNatClampNeg)) : x.toNatClampNeg < n := Nat.not_le.mp fun q => h (Or.inr q)
theorem gx_ne9 {x : Int32} {n : Nat} (h : ¬ (x < 0 ∨ n ≤ x.toNatClampNeg)) : ¬ x = -9 := fun e => h (Or.inl (by rw [e]; decide))
/-- references to a side's objects, told by a number; NONE is null -/
def gx_rf (G : gx_G) (b w : Nat) (x : Int32) : Option Nat := if x = -9 then none else some (gx_q G (b + w * x.toNatClampNeg))
theorem gx_rf_s {G : gx_G} {b w : Nat} {x : Int32} (h : ¬ x = -9) : gx_rf G b w x = some (gx_q G (b + w * x.toNatClampNeg)) := if_neg h
theorem gx_rf_n {G : gx_G} {b w : Nat} {x : Int32} (h : x = -9) : gx_rf G b w x = none := if_pos h
theorem gx_lr {ls : Array Slot} {i a : Nat} {o : Option Nat} (h : ls[i]? = some (.val (va_rf o))) (e : o = some a) : ls[i]? = some (.val (.ref a)) := by rw [e] at h; exact h
theorem gx_ln {ls : Array Slot} {i : Nat} {o : Option Nat} (h : ls[i]? = some (.val (va_rf o))) (e : o = none) : ls[i]? = some (.val .null) := by rw [e] at h; exact h
/-- links -/
def gx_LV (own : String) (idx : Nat) (y : MethodName) (cc : ByteArray) (nL : Nat) (ret : Option FieldType) (n : Nat) : Prop := (Cond.methodLink own idx y ∈ wT ∧ Cond.instanceMethod y ∈ wT ∧ Cond.selects y.cls y y ∈ wT ∧ Cond.initialized y.cls ∈ wT ∧ Cond.code y cc nL ret ∈ wT) ∧ y.cls ≠ "java/lang/invoke/MethodHandle" ∧ y.cls ≠ "java/lang/invoke/VarHandle" ∧ (parseMethodDescriptor y.desc).map (fun d => d.parameters.length) = some n
def gx_LS (own : String) (idx : Nat) (y : MethodName) (cc : ByteArray) (nL : Nat) (ret : Option FieldType) (n : Nat) : Prop := (Cond.methodLink own idx y ∈ wT ∧ Cond.static y ∈ wT ∧ Cond.initialized y.cls ∈ wT ∧ Cond.code y cc nL ret ∈ wT) ∧ y.cls ≠ "java/lang/invoke/MethodHandle" ∧ y.cls ≠ "java/lang/invoke/VarHandle" ∧ (parseMethodDescriptor y.desc).map (fun d => d.parameters.length) = some n
def gx_LN (y : MethodName) (cc : ByteArray) (nL : Nat) (ret : Option FieldType) (n : Nat) : Prop := (Cond.static y ∈ wT ∧ Cond.initialized y.cls ∈ wT ∧ Cond.code y cc nL ret ∈ wT) ∧ y.cls ≠ "java/lang/invoke/MethodHandle" ∧ y.cls ≠ "java/lang/invoke/VarHandle" ∧ (parseMethodDescriptor y.desc).map (fun d => d.parameters.length) = some n
def gx_FL (own : String) (idx ci j : Nat) : Prop := ∃ (Cn : String) (T : u_T) (N : Nat) (ty : Nat → FieldType), vwCl[ci]? = some (Cn, T, N) ∧ (∀ w ∈ u_ws Cn T N, w ∈ wT) ∧ j < N ∧ Cond.fieldLink own idx (T j).1 (T j).2.1 (T j).2.2.1 ∈ wT ∧ (∀ k, k < N → parseFieldDescriptor (T k).2.2.1 = some (ty k)) ∧ (∀ a, a < N → ∀ b, b < N → a ≠ b → (T a).2.1 ≠ (T b).2.1)
def gx_FW (ci j : Nat) (ft : FieldType) : Prop := ∃ (Cn : String) (T : u_T) (N : Nat), vwCl[ci]? = some (Cn, T, N) ∧ (T j).2.2.2 = false ∧ parseFieldDescriptor (T j).2.2.1 = some ft
abbrev gx_rooms (R rm : Room) (nL : Nat) : Prop := rm.cells = 0 ∧ rm.slots = 0 ∧ rm.frames + 1 ≤ R.frames ∧ 8 + (nL + 11) + rm.locals ≤ R.locals
/-- a method's body: what stays -/
def gx_C (p : Program) (m : MethodId) (c : Code) (cc : ByteArray) (nL : Nat) (s : State) (args : Array Value) (own : String) (G : gx_G) : Prop := CallFix p m c cc nL s args wT own ∧ gx_E G s
theorem gx_C.of {p : Program} {l : Launch} {y : MethodName} {cc : ByteArray} {nL : Nat} {ret : Option FieldType} {rm : Room} {e : Env} {s s₁ : State} {m : MethodId} {args : Array Value} {below : List Frame} {meth : Method} {c : Code} {G : gx_G} (B : BodyLoose p l y (headSpec (Cond.code y cc nL ret :: wT) rm) cc nL ret e s m args below meth c s₁) (hml : c.maxLocals = nL) (E : gx_E G s) : gx_C p m c cc nL s args y.cls G :=
  ⟨⟨B.exec, B.bytes, hml, findClass_of_methodNamed B.named, fun w hw => atoms_spec (ws := Cond.code y cc nL ret :: wT) B.pre w (List.mem_cons_of_mem _ hw)⟩, E⟩
theorem gx_C.good {cs : Cond} (h : cs ∈ wT) : GoodIn wT (cs :: wT) := fun w hw => (List.mem_cons.mp hw).elim (fun e => by rw [e]; exact wT_good _ h) (wT_good w)
section GX
variable {p : Program} {l : Launch} {e : Env} {R : Room} {s : State} {m : MethodId} {args : Array Value} {below : List Frame} {meth : Method} {c : Code} {H : Heap} {locs : List Loc} {cells slots : Nat} {Q : State → Prop}
variable {cc : ByteArray} {nL pc : Nat} {ls : Array Slot} {rest st : List Value} {own : String} {G : gx_G} {n : Nat} {mk : gx_Mk} {σ : gx_St}
theorem gx_get (C : gx_C p m c cc nL s args own G) (hH : gx_H G n mk σ H) (k0 : Nat) (hk0 : k0 < n) {ci idx j : Nat} {fs : List Value} (hm : mk k0 (σ k0) = .inr (ci, fs)) (L : gx_FL own idx ci j) {v : Value} (hv : fs[j]? = some v) (hdg : decode cc pc = .ok (.getfield idx, 3))
    (kk : W p l e R s m args below meth c H locs cells slots Q (F0 m (pc + 3) ls (v :: rest))) : W p l e R s m args below meth c H locs cells slots Q (F0 m pc ls (.ref (gx_q G k0) :: rest)) := by
  obtain ⟨Cn, T, N, ty, hc, hin, hj, hl, -, -⟩ := L
  have h0 := hH k0 hk0
  rw [hm] at h0
  exact va_get (ws := [(gx_q G k0, .inr (ci, fs))]) C.1.1 C.1.2.1 C.1.2.2.2.2 hin C.1.2.2.2.1 C.2.1 (fun k q hq => by
    have hz : k < 1 := (List.getElem?_eq_some_iff.mp hq).1
    rw [show k = 0 by omega] at hq
    cases hq
    exact h0) 0 rfl hc j hj (C.1.2.2.2.2 _ hl) (fun _ h => h) hv hdg kk
/-- a cell is written: the world behind it -/
theorem gx_set (hG : gx_D G n) (hH : gx_H G n mk σ H) {H1 : Heap} (k0 : Nat) (hk0 : k0 < n) {j : Nat} {x : Int32} (h1 : va_at G.1 vwCl (gx_q G k0, mk k0 (upd (σ k0) j x)) H1) (oq : ∀ q : Nat, q ≠ gx_q G k0 → H1[q]? = H[q]?) : gx_H G n mk (gx_w2 σ k0 j x) H1 := by
  intro k hk
  by_cases e : k = k0
  · subst e
    show va_at G.1 vwCl (gx_q G k, mk k (gx_w2 σ k j x k)) H1
    rw [show gx_w2 σ k j x k = upd (σ k) j x from if_pos rfl]
    exact h1
  · show va_at G.1 vwCl (gx_q G k, mk k (gx_w2 σ k0 j x k)) H1
    rw [show gx_w2 σ k0 j x k = σ k from if_neg e]
    exact (hH k hk).kept (oq _ (fun z => e (hG.1 k k0 hk hk0 z)))
theorem gx_one {D : va_G} {cl : List vw_C} {a : Nat} {x : va_E} {H : Heap} (h : va_at D cl (a, x) H) : va_P D cl [(a, x)] H := fun k q hq => by
  have hz : k < 1 := (List.getElem?_eq_some_iff.mp hq).1
  rw [show k = 0 by omega] at hq
  cases hq
  exact h
theorem gx_dn {A : Nat → Prop} {a : Nat} {x : va_E} (h : A a) : va_D A [(a, x)] := ⟨fun i j p q hi hj _ => by
  have h1 : i < 1 := (List.getElem?_eq_some_iff.mp hi).1
  have h2 : j < 1 := (List.getElem?_eq_some_iff.mp hj).1
  omega, fun k q hq => by
  have hz : k < 1 := (List.getElem?_eq_some_iff.mp hq).1
  rw [show k = 0 by omega] at hq
  cases hq
  exact h⟩
end GX
end
section
section GX2
variable {p : Program} {l : Launch} {e : Env} {R : Room} {s : State} {m : MethodId} {args : Array Value} {below : List Frame} {meth : Method} {c : Code} {H : Heap} {locs : List Loc} {cells slots : Nat} {Q : State → Prop}
variable {cc : ByteArray} {nL pc : Nat} {ls : Array Slot} {rest st : List Value} {own : String} {G : gx_G} {n : Nat} {mk : gx_Mk} {σ : gx_St}
theorem gx_put (C : gx_C p m c cc nL s args own G) (hG : gx_D G n) (hH : gx_H G n mk σ H) (hS : va_S (gx_A G) s.heap H locs) (k0 : Nat) (hk0 : k0 < n) {ci idx j : Nat} {fs : List Value} {ft : FieldType} {x : Int32} (hm : mk k0 (σ k0) = .inr (ci, fs)) (L : gx_FL own idx ci j) (L2 : gx_FW ci j ft) (hm2 : mk k0 (upd (σ k0) j x) = .inr (ci, fs.set j (.int x))) (hn : narrow ft (.int x) = .int x) (hfit : fits ft (.int x) = true) (hlen : j < fs.length) (hdg : decode cc pc = .ok (.putfield idx, 3))
    (kk : ∀ (H1 : Heap) (locs1 : List Loc) (σ1 : gx_St), σ1 = gx_w2 σ k0 j x → gx_H G n mk σ1 H1 → va_S (gx_A G) s.heap H1 locs1 → W p l e R s m args below meth c H1 locs1 cells slots Q (F0 m (pc + 3) ls rest)) : W p l e R s m args below meth c H locs cells slots Q (F0 m pc ls (.int x :: .ref (gx_q G k0) :: rest)) := by
  obtain ⟨Cn, T, N, ty, hc, hin, hj, hlk, hty, hnm⟩ := L
  obtain ⟨Cn2, T2, N2, hc2, hfin, hd⟩ := L2
  have hcc := Option.some.inj (hc.symm.trans hc2)
  cases hcc
  have hts := C.1.2.2.2.2
  have hK := C.2.1
  have hap := va_apart (own := own) hts hin ty hty hnm hK hc
  have h0 := hH k0 hk0
  rw [hm] at h0
  obtain ⟨r, h1, cell, q1, q2, q3, q4⟩ := h0
  have hr : r = (Cn, T, N) := Option.some.inj (h1.symm.trans hc)
  subst hr
  obtain ⟨hSl, hfc, kC, hkC, hkind⟩ := hK.1 ci _ hc
  obtain ⟨cf, kf, fi, f, hi, hsl⟩ := hSl j hj
  have hlay := hts _ (hin _ (u_in_lay hj))
  unfold u_lay at hlay
  rw [if_neg (by rw [hfin]; decide)] at hlay
  have hst := (u_facts hfc hkC (u_lays hts hin hj) hi).1
  have h6 := u_store hfc hkC hkind hlay hi hd hn hfit
  refine W.putK C.1.1 C.1.2.1 (f := f) ⟨C.1.2.2.2.1, hts _ hlk, ⟨_, _, _, hi⟩, hst⟩ (by rw [q2]; exact h6) q1 q3 (by rw [hsl]; exact k2_hasslot (q4 j hj)) rfl rfl hdg fun H' e1 e2 e3 => ?_
  rw [hsl] at e1 ⊢
  exact kk H' _ _ rfl (gx_set hG hH k0 hk0 (by rw [hm2]; exact ⟨_, hc, t_OB.to (V := updV (vp_V fs) j (.int x)) ⟨_, e1, q2, q3, t_set q4 hap hj _⟩ (fun j' _ => vp_updV_set hlen _ j')⟩) e3) (hS.put e2 e3 (hG.2 k0 hk0))
theorem gx_iald (C : gx_C p m c cc nL s args own G) (hH : gx_H G n mk σ H) (k0 : Nat) (hk0 : k0 < n) {N : Nat} (hm : mk k0 (σ k0) = .inl (G.2.1 0, N, .inl (σ k0))) {i : Int32} (hin : ¬ (i < 0 ∨ N ≤ i.toNatClampNeg)) (hdg : decode cc pc = .ok (.iaload, 1))
    (kk : W p l e R s m args below meth c H locs cells slots Q (F0 m (pc + 1) ls (.int (σ k0 i.toNatClampNeg) :: rest))) : W p l e R s m args below meth c H locs cells slots Q (F0 m pc ls (.int i :: .ref (gx_q G k0) :: rest)) := by
  have h0 := hH k0 hk0
  rw [hm] at h0
  exact va_iald C.1.1 C.1.2.1 C.2.1 (gx_one h0) 0 0 rfl rfl hin hdg kk
theorem gx_zald (C : gx_C p m c cc nL s args own G) (hH : gx_H G n mk σ H) (k0 : Nat) (hk0 : k0 < n) {N : Nat} (hm : mk k0 (σ k0) = .inl (G.2.1 1, N, .inl (σ k0))) {i : Int32} (hin : ¬ (i < 0 ∨ N ≤ i.toNatClampNeg)) (hdg : decode cc pc = .ok (.baload, 1))
    (kk : W p l e R s m args below meth c H locs cells slots Q (F0 m (pc + 1) ls (.int (σ k0 i.toNatClampNeg) :: rest))) : W p l e R s m args below meth c H locs cells slots Q (F0 m pc ls (.int i :: .ref (gx_q G k0) :: rest)) := by
  have h0 := hH k0 hk0
  rw [hm] at h0
  exact va_zald C.1.1 C.1.2.1 C.2.1 (gx_one h0) 0 1 rfl rfl hin hdg kk
theorem gx_updV (f : Nat → Int32) (j : Nat) (x : Int32) : (fun i => Value.int (upd f j x i)) = updV (fun i => Value.int (f i)) j (.int x) := by
  funext i
  by_cases h : i = j
  · subst h; simp [updV, upd]
  · simp [updV, upd, h]
theorem gx_iast (C : gx_C p m c cc nL s args own G) (hG : gx_D G n) (hH : gx_H G n mk σ H) (hS : va_S (gx_A G) s.heap H locs) (k0 : Nat) (hk0 : k0 < n) {N : Nat} (hm : ∀ r, mk k0 r = .inl (G.2.1 0, N, .inl r)) {i x : Int32} (hin : ¬ (i < 0 ∨ N ≤ i.toNatClampNeg)) (hdg : decode cc pc = .ok (.iastore, 1))
    (kk : ∀ (H1 : Heap) (locs1 : List Loc) (σ1 : gx_St), σ1 = gx_w2 σ k0 i.toNatClampNeg x → gx_H G n mk σ1 H1 → va_S (gx_A G) s.heap H1 locs1 → W p l e R s m args below meth c H1 locs1 cells slots Q (F0 m (pc + 1) ls rest)) : W p l e R s m args below meth c H locs cells slots Q (F0 m pc ls (.int x :: .int i :: .ref (gx_q G k0) :: rest)) := by
  have h0 := hH k0 hk0
  rw [hm] at h0
  have h0 : H[gx_q G k0]? = some (vp_cell (G.2.1 0) (N, .inl (σ k0))) := h0
  refine W.iast C.1.1 C.1.2.1 h0 ((C.2.1.2 0 _ rfl).1 N (fun j => .int (σ k0 j))) (fun q => by cases q) (by show ¬ (i < 0 ∨ (arrV _ _ _).slots.size ≤ _); rw [arrV_size]; exact hin) rfl rfl hdg fun H1 e z oq => ?_
  refine kk H1 _ _ rfl (gx_set hG hH k0 hk0 ?_ oq) (hS.put z oq (hG.2 k0 hk0))
  rw [hm]
  show H1[gx_q G k0]? = some (vp_cell _ _)
  rw [e, vp_cell_i, vp_cell_i, arrV_store, gx_updV]
theorem gx_zast (C : gx_C p m c cc nL s args own G) (hG : gx_D G n) (hH : gx_H G n mk σ H) (hS : va_S (gx_A G) s.heap H locs) (k0 : Nat) (hk0 : k0 < n) {N : Nat} (hm : ∀ r, mk k0 r = .inl (G.2.1 1, N, .inl r)) {i x : Int32} (hn : narrow .boolean (.int x) = .int x) (hin : ¬ (i < 0 ∨ N ≤ i.toNatClampNeg)) (hdg : decode cc pc = .ok (.bastore, 1))
    (kk : ∀ (H1 : Heap) (locs1 : List Loc) (σ1 : gx_St), σ1 = gx_w2 σ k0 i.toNatClampNeg x → gx_H G n mk σ1 H1 → va_S (gx_A G) s.heap H1 locs1 → W p l e R s m args below meth c H1 locs1 cells slots Q (F0 m (pc + 1) ls rest)) : W p l e R s m args below meth c H locs cells slots Q (F0 m pc ls (.int x :: .int i :: .ref (gx_q G k0) :: rest)) := by
  have h0 := hH k0 hk0
  rw [hm] at h0
  have h0 : H[gx_q G k0]? = some (vp_cell (G.2.1 1) (N, .inl (σ k0))) := h0
  refine W.zast C.1.1 C.1.2.1 h0 ((C.2.1.2 1 _ rfl).1 N (fun j => .int (σ k0 j))) (fun q => by cases q) (by show ¬ (i < 0 ∨ (arrV _ _ _).slots.size ≤ _); rw [arrV_size]; exact hin) rfl rfl hdg fun H1 e z oq => ?_
  refine kk H1 _ _ rfl (gx_set hG hH k0 hk0 ?_ oq) (hS.put z oq (hG.2 k0 hk0))
  rw [hm]
  show H1[gx_q G k0]? = some (vp_cell _ _)
  rw [e, hn, vp_cell_i, vp_cell_i, arrV_store, gx_updV]
theorem gx_aaldR (C : gx_C p m c cc nL s args own G) (hH : gx_H G n mk σ H) (k0 : Nat) (hk0 : k0 < n) (t0 : Nat) {cA : ClassId} {Cn : String} {N a : Nat} {f : Nat → Option Nat} (ht : (gx_ty G)[t0]? = some (cA, .object Cn)) (hm : mk k0 (σ k0) = .inl (cA, N, .inr (.inr (.inr (.inr f))))) {i : Int32} (hin : ¬ (i < 0 ∨ N ≤ i.toNatClampNeg)) (hv : f i.toNatClampNeg = some a) (hdg : decode cc pc = .ok (.aaload, 1))
    (kk : W p l e R s m args below meth c H locs cells slots Q (F0 m (pc + 1) ls (.ref a :: rest))) : W p l e R s m args below meth c H locs cells slots Q (F0 m pc ls (.int i :: .ref (gx_q G k0) :: rest)) := by
  have h0 := hH k0 hk0
  rw [hm] at h0
  exact va_aldq C.1.1 C.1.2.1 C.2.1 (gx_one h0) 0 t0 rfl ht hin hdg (by rw [hv]; exact kk)
theorem gx_aaldN (C : gx_C p m c cc nL s args own G) (hH : gx_H G n mk σ H) (k0 : Nat) (hk0 : k0 < n) (t0 : Nat) {cA : ClassId} {Cn : String} {N : Nat} {f : Nat → Option Nat} (ht : (gx_ty G)[t0]? = some (cA, .object Cn)) (hm : mk k0 (σ k0) = .inl (cA, N, .inr (.inr (.inr (.inr f))))) {i : Int32} (hin : ¬ (i < 0 ∨ N ≤ i.toNatClampNeg)) (hv : f i.toNatClampNeg = none) (hdg : decode cc pc = .ok (.aaload, 1))
    (kk : W p l e R s m args below meth c H locs cells slots Q (F0 m (pc + 1) ls (.null :: rest))) : W p l e R s m args below meth c H locs cells slots Q (F0 m pc ls (.int i :: .ref (gx_q G k0) :: rest)) := by
  have h0 := hH k0 hk0
  rw [hm] at h0
  exact va_aldq C.1.1 C.1.2.1 C.2.1 (gx_one h0) 0 t0 rfl ht hin hdg (by rw [hv]; exact kk)
theorem gx_updQ (G : gx_G) (b w : Nat) (f : Nat → Int32) (j : Nat) (x : Int32) : (fun i => va_rf (gx_rf G b w (upd f j x i))) = updV (fun i => va_rf (gx_rf G b w (f i))) j (va_rf (gx_rf G b w x)) := by
  funext i
  by_cases h : i = j
  · subst h; simp [updV, upd]
  · simp [updV, upd, h]
theorem gx_aast (C : gx_C p m c cc nL s args own G) (hG : gx_D G n) (hH : gx_H G n mk σ H) (hS : va_S (gx_A G) s.heap H locs) (k0 : Nat) (hk0 : k0 < n) (t0 ci : Nat) {cA : ClassId} {r : vw_C} {N b w : Nat} (ht : (gx_ty G)[t0]? = some (cA, .object r.1)) (hc : vwCl[ci]? = some r) (hm : ∀ r, mk k0 r = .inl (cA, N, .inr (.inr (.inr (.inr (fun j => gx_rf G b w (r j))))))) {i x : Int32} {vs : List Value} (hx : ¬ x = -9) (hkv : b + w * x.toNatClampNeg < n) (hmv : mk (b + w * x.toNatClampNeg) (σ (b + w * x.toNatClampNeg)) = .inr (ci, vs)) (hin : ¬ (i < 0 ∨ N ≤ i.toNatClampNeg)) (hdg : decode cc pc = .ok (.aastore, 1))
    (kk : ∀ (H1 : Heap) (locs1 : List Loc) (σ1 : gx_St), σ1 = gx_w2 σ k0 i.toNatClampNeg x → gx_H G n mk σ1 H1 → va_S (gx_A G) s.heap H1 locs1 → W p l e R s m args below meth c H1 locs1 cells slots Q (F0 m (pc + 1) ls rest)) : W p l e R s m args below meth c H locs cells slots Q (F0 m pc ls (.ref (gx_q G (b + w * x.toNatClampNeg)) :: .int i :: .ref (gx_q G k0) :: rest)) := by
  have h0 := hH k0 hk0
  rw [hm] at h0
  have h0 : H[gx_q G k0]? = some (vp_cell cA (N, .inr (.inr (.inr (.inr (fun j => gx_rf G b w (σ k0 j))))))) := h0
  have hv := hH _ hkv
  rw [hmv] at hv
  obtain ⟨r', hr', cellV, g1, g2, g3, -⟩ := hv
  have hcls := (C.2.1.1 ci r hc).2
  obtain ⟨kA, comp, k1, k2, k3, -⟩ := (C.2.1.2 t0 _ ht).2
  have hcomp : comp = G.1.1 ci := Option.some.inj (k3.symm.trans hcls.1)
  subst hcomp
  obtain ⟨kC, hkC, -⟩ := hcls.2
  refine W.aast C.1.1 C.1.2.1 h0 (fun q h => by cases h) (fun h => by cases h) k1 k2 rfl hkC ⟨fun q => hin (Or.inl q), by show _ < (arrV _ _ _).slots.size; rw [arrV_size]; exact gx_lt12 hin⟩ g1 (fun q h => by rw [g3] at h; cases h) (by rw [g2]; exact hkC) (by rw [g2]; exact va_assign hcls) rfl rfl hdg fun H1 e z oq => ?_
  refine kk H1 _ _ rfl (gx_set hG hH k0 hk0 ?_ oq) (hS.put z oq (hG.2 k0 hk0))
  rw [hm]
  show H1[gx_q G k0]? = some (vp_cell _ _)
  rw [e, vp_cell_q, vp_cell_q, arrV_store, gx_updQ, gx_rf_s hx]
  rfl
theorem gx_aastN (C : gx_C p m c cc nL s args own G) (hG : gx_D G n) (hH : gx_H G n mk σ H) (hS : va_S (gx_A G) s.heap H locs) (k0 : Nat) (hk0 : k0 < n) (t0 : Nat) {cA : ClassId} {Cn : String} {N b w : Nat} (ht : (gx_ty G)[t0]? = some (cA, .object Cn)) (hm : ∀ r, mk k0 r = .inl (cA, N, .inr (.inr (.inr (.inr (fun j => gx_rf G b w (r j))))))) {i : Int32} (hin : ¬ (i < 0 ∨ N ≤ i.toNatClampNeg)) (hdg : decode cc pc = .ok (.aastore, 1))
    (kk : ∀ (H1 : Heap) (locs1 : List Loc) (σ1 : gx_St), σ1 = gx_w2 σ k0 i.toNatClampNeg (-9) → gx_H G n mk σ1 H1 → va_S (gx_A G) s.heap H1 locs1 → W p l e R s m args below meth c H1 locs1 cells slots Q (F0 m (pc + 1) ls rest)) : W p l e R s m args below meth c H locs cells slots Q (F0 m pc ls (.null :: .int i :: .ref (gx_q G k0) :: rest)) := by
  have h0 := hH k0 hk0
  rw [hm] at h0
  have h0 : H[gx_q G k0]? = some (vp_cell cA (N, .inr (.inr (.inr (.inr (fun j => gx_rf G b w (σ k0 j))))))) := h0
  refine va_WaastN (C := Cn) C.1.1 C.1.2.1 h0 ((C.2.1.2 t0 _ ht).1 N (fun j => va_rf (gx_rf G b w (σ k0 j)))) (fun h => by cases h) (by show ¬ (i < 0 ∨ (arrV _ _ _).slots.size ≤ _); rw [arrV_size]; exact hin) rfl rfl hdg fun H1 e z oq => ?_
  refine kk H1 _ _ rfl (gx_set hG hH k0 hk0 ?_ oq) (hS.put z oq (hG.2 k0 hk0))
  rw [hm]
  show H1[gx_q G k0]? = some (vp_cell _ _)
  rw [e, vp_cell_q, vp_cell_q, arrV_store, gx_updQ]
  rfl
/-- static tables -/
theorem gx_gets (C : gx_C p m c cc nL s args own G) (hS : va_S (gx_A G) s.heap H locs) (i : Nat) (hi : i < 5) {idx : Nat} (hl : Cond.fieldLink own idx "PushStick" (gx_tn i) "[I" ∈ wT) (hdg : decode cc pc = .ok (.getstatic idx, 3))
    (kk : W p l e R s m args below meth c H locs cells slots Q (F0 m (pc + 3) ls (.ref (G.2.2.2.2 i) :: rest))) : W p l e R s m args below meth c H locs cells slots Q (F0 m pc ls rest) :=
  va_gets C.1.1 C.1.2.1 (C.2.2.1 i hi).1 hS C.1.2.2.2.1 (C.1.2.2.2.2 _ hl) (fun _ h => h) hdg kk
theorem gx_getsN (C : gx_C p m c cc nL s args RX2 G) (hS : va_S (gx_A G) s.heap H locs) (hdg : decode cc pc = .ok (.getstatic 43, 3))
    (kk : W p l e R s m args below meth c H locs cells slots Q (F0 m (pc + 3) ls (.ref (G.2.2.2.2 4) :: rest))) : W p l e R s m args below meth c H locs cells slots Q (F0 m pc ls rest) :=
  va_getsN C.1.1 C.1.2.1 (C.2.2.1 4 (by decide)).1 hS C.1.2.2.2.1 (va_Nw.use rfl C.2.2.2.2.2.2) (fun _ h => h) hdg kk
theorem gx_tald (C : gx_C p m c cc nL s args own G) (hS : va_S (gx_A G) s.heap H locs) (t : Nat) (hi : t < 5) {i : Int32} {N : Nat} (hN : gx_tl t = N) (hin : ¬ (i < 0 ∨ N ≤ i.toNatClampNeg)) (hdg : decode cc pc = .ok (.iaload, 1))
    (kk : W p l e R s m args below meth c H locs cells slots Q (F0 m (pc + 1) ls (.int (gx_tv t i.toNatClampNeg) :: rest))) : W p l e R s m args below meth c H locs cells slots Q (F0 m pc ls (.int i :: .ref (G.2.2.2.2 t) :: rest)) := by
  subst hN
  exact va_ti C.1.1 C.1.2.1 (C.2.2.1 t hi).2 hS hin rfl hdg kk
/-- calls -/
theorem gx_goR {v : Option Value} {a : Array Value} (hr : va_Run p l e R s m args below meth c H locs cells slots 0 0 (F0 m pc ls st) rest (gx_QR v a) (fun _ => False)) (kk : W p l e R s m args below meth c H locs cells slots Q (F0 m (pc + 3) ls (v.toList ++ rest))) : W p l e R s m args below meth c H locs cells slots Q (F0 m pc ls st) := by
  intro T hT X
  obtain ⟨v', st₀, t, T', L, h0, X', hL, e1, e2, ⟨hv, hh⟩, go⟩ := hr T hT X
  cases hv
  obtain ⟨t2, a1, b1⟩ := kk T' (by rw [e1, hh, h0]) (Stand.forget X' (fun q h => (hL q h).elim))
  exact ⟨t2, go t2 a1, b1⟩
theorem gx_goM {v : Option Value} {σ' : gx_St} {a : Array Value} (hr : va_Run p l e R s m args below meth c H locs cells slots 0 0 (F0 m pc ls st) rest (gx_QM G n mk v σ' a) (gx_A G)) (hS : va_S (gx_A G) s.heap H locs) (kk : ∀ (H1 : Heap) (locs1 : List Loc), gx_H G n mk σ' H1 → va_S (gx_A G) s.heap H1 locs1 → W p l e R s m args below meth c H1 locs1 cells slots Q (F0 m (pc + 3) ls (v.toList ++ rest))) : W p l e R s m args below meth c H locs cells slots Q (F0 m pc ls st) := by
  intro T hT X
  obtain ⟨v', st₀, t, T', L, h0, X', hL, e1, e2, ⟨hv, hh, hz, hk⟩, go⟩ := hr T hT X
  cases hv
  rw [h0] at hz hk
  obtain ⟨t2, a1, b1⟩ := kk T'.heap (locs ++ L) (by rw [e1]; exact hh)
    ⟨Nat.le_trans hS.1 (by rw [e1]; exact hz), fun q h1 h2 => by rw [e1, hk q (Nat.lt_of_lt_of_le h1 hS.1) h2]; exact hS.2.1 q h1 h2, fun q hq => by
      rcases List.mem_append.mp hq with h | h
      · exact hS.2.2 q h
      · exact hL q h⟩ T' rfl X'
  exact ⟨t2, go t2 a1, b1⟩
variable {y : MethodName} {cM : ByteArray} {nM idx : Nat} {ret : Option FieldType} {rm : Room} {v : Option Value} {σ' : gx_St}
theorem gx_cwV (C : gx_C p m c cc nL s args own G) {k : Nat} (L : gx_LV own idx y cM nM ret k) (hR : gx_rooms R rm nM) : CallW R s args own y.cls idx y cM nM ret (Cond.code y cM nM ret :: wT) rm 0 0 k :=
  ⟨callB_of k C.1.2.2.2.2 (gx_C.good L.1.2.2.2.2) rfl hR.1 hR.2.1 (C.1.2.2.2.2 _ L.1.2.2.2.1) (C.1.2.2.2.2 _ L.1.1) L.2 hR.2.2, C.1.2.2.2.2 _ L.1.2.1, C.1.2.2.2.2 _ L.1.2.2.1⟩
theorem gx_cwS (C : gx_C p m c cc nL s args own G) {k : Nat} (L : gx_LS own idx y cM nM ret k) (hR : gx_rooms R rm nM) : CallB R s args own idx y cM nM ret (Cond.code y cM nM ret :: wT) rm 0 0 k ∧ (Cond.static y).before args s = true :=
  ⟨callB_of k C.1.2.2.2.2 (gx_C.good L.1.2.2.2) rfl hR.1 hR.2.1 (C.1.2.2.2.2 _ L.1.2.2.1) (C.1.2.2.2.2 _ L.1.1) L.2 hR.2.2, C.1.2.2.2.2 _ L.1.2.1⟩
theorem gx_recv (C : gx_C p m c cc nL s args own G) (hH : gx_H G n mk σ H) {k0 : Nat} (hk0 : k0 < n) {ci : Nat} {fs : List Value} {q : vw_C} (hm : mk k0 (σ k0) = .inr (ci, fs)) (hc : vwCl[ci]? = some q) : ∃ cell : Cell, H[gx_q G k0]? = some cell ∧ cell.vm.isStatics = false ∧ s.vm.findClass q.1 = some cell.cls := by
  have h0 := hH k0 hk0
  rw [hm] at h0
  exact va_recv (q0 := 0) C.2.1 (gx_one h0) hc rfl
theorem gx_vR (C : gx_C p m c cc nL s args own G) (hH : gx_H G n mk σ H) (hS : va_S (gx_A G) s.heap H locs) (k0 : Nat) (hk0 : k0 < n) {ci : Nat} {fs : List Value} {T : u_T} {N : Nat} (hm : mk k0 (σ k0) = .inr (ci, fs)) (hc : vwCl[ci]? = some (y.cls, T, N)) (As : List Value)
    (hM : Met l y (Cond.code y cM nM ret :: wT) rm (va_Pc (.ref (gx_q G k0) :: As) (gx_S G n mk σ)) (gx_QR v) 0 0 (fun _ => False)) (L : gx_LV own idx y cM nM ret As.length) (hR : gx_rooms R rm nM) (hcs : cells ≤ R.cells ∧ slots ≤ R.slots) (hsz : ls.size = nL) (hst : st = As.reverse ++ .ref (gx_q G k0) :: rest) (hroom : (rest.map fun v => v.category).sum ≤ 8) (hdg : decode cc pc = .ok (.invokevirtual idx, 3))
    (kk : W p l e R s m args below meth c H locs cells slots Q (F0 m (pc + 3) ls (v.toList ++ rest))) : W p l e R s m args below meth c H locs cells slots Q (F0 m pc ls st) :=
  gx_goR (va_runV (As := As) (rest := rest) C.1 hM (gx_cwV C L hR) ⟨gx_blind _, gx_recv C hH hk0 hm hc, fun U hU hW => ⟨rfl, gx_pre C.2 hH hS hU hW⟩⟩ rfl rfl hsz hst (lv_room hroom) hdg hcs) kk
theorem gx_vM (C : gx_C p m c cc nL s args own G) (hH : gx_H G n mk σ H) (hS : va_S (gx_A G) s.heap H locs) (k0 : Nat) (hk0 : k0 < n) {ci : Nat} {fs : List Value} {T : u_T} {N : Nat} (hm : mk k0 (σ k0) = .inr (ci, fs)) (hc : vwCl[ci]? = some (y.cls, T, N)) (As : List Value)
    (hM : Met l y (Cond.code y cM nM ret :: wT) rm (va_Pc (.ref (gx_q G k0) :: As) (gx_S G n mk σ)) (gx_QM G n mk v σ') 0 0 (gx_A G)) (L : gx_LV own idx y cM nM ret As.length) (hR : gx_rooms R rm nM) (hcs : cells ≤ R.cells ∧ slots ≤ R.slots) (hsz : ls.size = nL) (hst : st = As.reverse ++ .ref (gx_q G k0) :: rest) (hroom : (rest.map fun v => v.category).sum ≤ 8) (hdg : decode cc pc = .ok (.invokevirtual idx, 3))
    (kk : ∀ (H1 : Heap) (locs1 : List Loc), gx_H G n mk σ' H1 → va_S (gx_A G) s.heap H1 locs1 → W p l e R s m args below meth c H1 locs1 cells slots Q (F0 m (pc + 3) ls (v.toList ++ rest))) : W p l e R s m args below meth c H locs cells slots Q (F0 m pc ls st) :=
  gx_goM (va_runV (As := As) (rest := rest) C.1 hM (gx_cwV C L hR) ⟨gx_blind _, gx_recv C hH hk0 hm hc, fun U hU hW => ⟨rfl, gx_pre C.2 hH hS hU hW⟩⟩ rfl rfl hsz hst (lv_room hroom) hdg hcs) hS kk
theorem gx_sR (C : gx_C p m c cc nL s args own G) (hH : gx_H G n mk σ H) (hS : va_S (gx_A G) s.heap H locs) (As : List Value)
    (hM : Met l y (Cond.code y cM nM ret :: wT) rm (va_Pc As (gx_S G n mk σ)) (gx_QR v) 0 0 (fun _ => False)) (L : gx_LS own idx y cM nM ret As.length) (hR : gx_rooms R rm nM) (hcs : cells ≤ R.cells ∧ slots ≤ R.slots) (hsz : ls.size = nL) (hst : st = As.reverse ++ rest) (hroom : (rest.map fun v => v.category).sum ≤ 8) (hdg : decode cc pc = .ok (.invokestatic idx, 3))
    (kk : W p l e R s m args below meth c H locs cells slots Q (F0 m (pc + 3) ls (v.toList ++ rest))) : W p l e R s m args below meth c H locs cells slots Q (F0 m pc ls st) :=
  gx_goR (va_runS (As := As) (rest := rest) C.1 hM (gx_cwS C L hR) ⟨gx_blind _, fun U hU hW => ⟨rfl, gx_pre C.2 hH hS hU hW⟩⟩ rfl rfl hsz hst (lv_room hroom) hdg hcs) kk
theorem gx_nR (C : gx_C p m c cc nL s args own G) (hH : gx_H G n mk σ H) (hS : va_S (gx_A G) s.heap H locs) (As : List Value)
    (hM : Met l y (Cond.code y cM nM ret :: wT) rm (va_Pc As (gx_S G n mk σ)) (gx_QR v) 0 0 (fun _ => False)) {host : String} (hnw : va_Nw (.methodLinkNest own idx y host) s) (L : gx_LN y cM nM ret As.length) (hR : gx_rooms R rm nM) (hcs : cells ≤ R.cells ∧ slots ≤ R.slots) (hsz : ls.size = nL) (hst : st = As.reverse ++ rest) (hroom : (rest.map fun v => v.category).sum ≤ 8) (hdg : decode cc pc = .ok (.invokestatic idx, 3))
    (kk : W p l e R s m args below meth c H locs cells slots Q (F0 m (pc + 3) ls (v.toList ++ rest))) : W p l e R s m args below meth c H locs cells slots Q (F0 m pc ls st) :=
  gx_goR (va_runSN (As := As) (rest := rest) C.1 hM ⟨va_cnB As.length C.1.2.2.2.2 (gx_C.good L.1.2.2) rfl hR.1 hR.2.1 hnw (C.1.2.2.2.2 _ L.1.2.1) L.2 hR.2.2, C.1.2.2.2.2 _ L.1.1, trivial⟩ ⟨gx_blind _, fun U hU hW => ⟨rfl, gx_pre C.2 hH hS hU hW⟩⟩ rfl rfl hsz hst (lv_room hroom) hdg hcs) kk
/-- ends -/
theorem gx_iretR {x : Int32} (C : gx_C p m c cc nL s args own G) (hr : meth.sig.returnType = some .int) (hlocks : meth.locks = false) (hdg : decode cc pc = .ok (.ireturn, 1)) : W p l e R s m args below meth c s.heap [] 0 0 (MQ below (gx_QR (some (.int x))) args s 0 0 (fun _ => False)) (F0 m pc ls [.int x]) :=
  W.iret C.1.1 C.1.2.1 hr (fun t ht _ => ⟨rfl, ht⟩) (fun q h => by cases h) hdg hlocks
theorem gx_zretR {x : Int32} (C : gx_C p m c cc nL s args own G) (hr : meth.sig.returnType = some .boolean) (hlocks : meth.locks = false) (hx : x = 0 ∨ x = 1) (hdg : decode cc pc = .ok (.ireturn, 1)) : W p l e R s m args below meth c s.heap [] 0 0 (MQ below (gx_QR (some (.int x))) args s 0 0 (fun _ => False)) (F0 m pc ls [.int x]) :=
  W.zret C.1.1 C.1.2.1 hr (by rcases hx with h | h <;> rw [h] <;> rfl) (fun t ht _ => ⟨rfl, ht⟩) (fun q h => by cases h) hdg hlocks
theorem gx_aretR {v : Value} {rt : FieldType} (C : gx_C p m c cc nL s args own G) (hr : meth.sig.returnType = some rt) (hrt : (∃ n, rt = .object n) ∨ ∃ t, rt = .array t) (hlocks : meth.locks = false) (hv : v = .null ∨ ∃ a, v = .ref a) (hdg : decode cc pc = .ok (.areturn, 1)) : W p l e R s m args below meth c s.heap [] 0 0 (MQ below (gx_QR (some v)) args s 0 0 (fun _ => False)) (F0 m pc ls [v]) :=
  W.aret C.1.1 C.1.2.1 hr hrt hv (fun t ht _ => ⟨rfl, ht⟩) (fun q h => by cases h) hdg hlocks
theorem gx_iretM {x : Int32} (C : gx_C p m c cc nL s args own G) (hr : meth.sig.returnType = some .int) (hlocks : meth.locks = false) (hH : gx_H G n mk σ H) (hS : va_S (gx_A G) s.heap H locs) (hdg : decode cc pc = .ok (.ireturn, 1)) : W p l e R s m args below meth c H locs 0 0 (MQ below (gx_QM G n mk (some (.int x)) σ) args s 0 0 (gx_A G)) (F0 m pc ls [.int x]) :=
  W.iret C.1.1 C.1.2.1 hr (fun t ht _ => ⟨rfl, by rw [ht]; exact hH, hS.F ht⟩) hS.2.2 hdg hlocks
theorem gx_vretM (C : gx_C p m c cc nL s args own G) (hr : meth.sig.returnType = none) (hlocks : meth.locks = false) (hH : gx_H G n mk σ H) (hS : va_S (gx_A G) s.heap H locs) (hdg : decode cc pc = .ok (.return_, 1)) : W p l e R s m args below meth c H locs 0 0 (MQ below (gx_QM G n mk none σ) args s 0 0 (gx_A G)) (F0 m pc ls []) :=
  W.vret C.1.1 C.1.2.1 hr (fun t ht _ => ⟨rfl, by rw [ht]; exact hH, hS.F ht⟩) hS.2.2 hdg hlocks
end GX2
/-! the reference's world: cell 0 the object, then its twelve arrays; the class's: cell 0 the object, its seven arrays, twelve EFFECTs (object, numbers, beats), two AXES, four BUTTONS -/
def gm_fs (G : gx_G) (r : Nat → Int32) : List Value := [.int (r 0), .int (r 1), .ref (gx_q G 1), .ref (gx_q G 2), .int (r 4), .ref (gx_q G 3), .ref (gx_q G 4), .ref (gx_q G 5), .ref (gx_q G 6), .ref (gx_q G 7), .ref (gx_q G 8), .ref (gx_q G 9), .int (r 12), .ref (gx_q G 10), .ref (gx_q G 11), .ref (gx_q G 12), .int (r 16), .int (r 17), .int (r 18), .int (r 19), .int (r 20)]
def gm_len (k : Nat) : Nat := match k with
  | 1 => 2
  | 2 => 2
  | 8 => 144
  | 10 => 6
  | 11 => 4
  | 12 => 48
  | _ => 12
def gm_mk (G : gx_G) : gx_Mk := fun k r => match k with
  | 0 => .inr (4, gm_fs G r)
  | k + 1 => .inl (G.2.1 0, gm_len (k + 1), .inl r)
def gc_fs (G : gx_G) (r : Nat → Int32) : List Value := [.ref (gx_q G 1), .int (r 1), .ref (gx_q G 2), .int (r 3), .ref (gx_q G 3), .int (r 5), .ref (gx_q G 4), .int (r 7), .int (r 8), .int (r 9), .int (r 10), .int (r 11), .int (r 12), .ref (gx_q G 5), .ref (gx_q G 6), .ref (gx_q G 7)]
def gc_ef (G : gx_G) (k : Nat) (r : Nat → Int32) : List Value := [.int (r 0), .int (r 1), .int (r 2), .int (r 3), .int (r 4), .int (r 5), .ref (gx_q G (k + 1)), .int (r 7), .int (r 8), .ref (gx_q G (k + 2))]
abbrev gx_refs (f : Nat → Option Nat) : (Nat → Int32) ⊕ (Nat → Int64) ⊕ (Nat → UInt32) ⊕ (Nat → UInt64) ⊕ (Nat → Option Nat) := .inr (.inr (.inr (.inr f)))
def gc_hi (G : gx_G) (k : Nat) (r : Nat → Int32) : va_E :=
  if k < 44 then (if k % 3 = 2 then .inr (2, gc_ef G k r) else if k % 3 = 0 then .inl (G.2.1 0, 12, .inl r) else .inl (G.2.1 0, 4, .inl r))
  else if k < 46 then .inr (0, [.int (r 0), .int (r 1), .int (r 2)]) else .inr (1, [.int (r 0), .int (r 1)])
def gc_mk (G : gx_G) : gx_Mk := fun k r => match k with
  | 0 => .inr (3, gc_fs G r)
  | 1 => .inl (G.2.1 2, 12, gx_refs (fun j => some (gx_q G (8 + 3 * j))))
  | 2 => .inl (G.2.1 2, 6, gx_refs (fun j => gx_rf G 8 3 (r j)))
  | 3 => .inl (G.2.1 3, 2, gx_refs (fun j => some (gx_q G (44 + 1 * j))))
  | 4 => .inl (G.2.1 4, 4, gx_refs (fun j => some (gx_q G (46 + 1 * j))))
  | 5 => .inl (G.2.1 2, 6, gx_refs (fun j => gx_rf G 8 3 (r j)))
  | 6 => .inl (G.2.1 0, 64, .inl r)
  | 7 => .inl (G.2.1 1, 64, .inl r)
  | k + 8 => gc_hi G (k + 8) r
theorem gc_8 (G : gx_G) (k : Nat) (r : Nat → Int32) (h : 8 ≤ k) : gc_mk G k r = gc_hi G k r := by
  obtain ⟨j, rfl⟩ : ∃ j, k = j + 8 := ⟨k - 8, by omega⟩
  rfl
theorem gc_e {G : gx_G} {i : Nat} (r : Nat → Int32) (h : i < 12) : gc_mk G (8 + 3 * i) r = .inr (2, gc_ef G (8 + 3 * i) r) := by
  rw [gc_8 _ _ _ (by omega), gc_hi, if_pos (by omega), if_pos (by omega)]
theorem gc_n {G : gx_G} {i : Nat} (r : Nat → Int32) (h : i < 12) : gc_mk G (8 + 3 * i + 1) r = .inl (G.2.1 0, 12, .inl r) := by
  rw [gc_8 _ _ _ (by omega), gc_hi, if_pos (by omega), if_neg (by omega), if_pos (by omega)]
theorem gc_b {G : gx_G} {i : Nat} (r : Nat → Int32) (h : i < 12) : gc_mk G (8 + 3 * i + 2) r = .inl (G.2.1 0, 4, .inl r) := by
  rw [gc_8 _ _ _ (by omega), gc_hi, if_pos (by omega), if_neg (by omega), if_neg (by omega)]
theorem gc_a {G : gx_G} {i : Nat} (r : Nat → Int32) (h : i < 2) : gc_mk G (44 + 1 * i) r = .inr (0, [.int (r 0), .int (r 1), .int (r 2)]) := by
  rw [gc_8 _ _ _ (by omega), gc_hi, if_neg (by omega), if_pos (by omega)]
theorem gc_u {G : gx_G} {i : Nat} (r : Nat → Int32) (h : i < 4) : gc_mk G (46 + 1 * i) r = .inr (1, [.int (r 0), .int (r 1)]) := by
  rw [gc_8 _ _ _ (by omega), gc_hi, if_neg (by omega), if_neg (by omega)]
theorem gc_ke {i : Nat} (h : i < 12) : 8 + 3 * i < 50 := by omega
theorem gc_kn {i : Nat} (h : i < 12) : 8 + 3 * i + 1 < 50 := by omega
theorem gc_kb {i : Nat} (h : i < 12) : 8 + 3 * i + 2 < 50 := by omega
theorem gc_ka {i : Nat} (h : i < 2) : 44 + 1 * i < 50 := by omega
theorem gc_ku {i : Nat} (h : i < 4) : 46 + 1 * i < 50 := by omega
theorem gx_rfe {G : gx_G} {b w : Nat} {x z : Int32} (e : z = x) (h : ¬ z = -9) : gx_rf G b w x = some (gx_q G (b + w * z.toNatClampNeg)) := by subst e; exact if_neg h
def gx_b2 {α β γ : Type} (o : Option (α × β)) (k : α → β → Option γ) : Option γ := o.bind (fun z => k z.1 z.2)
theorem gx_bnd2 {α β γ : Type} {o : Option (α × β)} {k : α → β → Option γ} {r : γ} (hf : gx_b2 o k = some r) : ∃ x y, o = some (x, y) ∧ k x y = some r := by
  cases o with
  | none => cases hf
  | some x => exact ⟨x.1, x.2, rfl, hf⟩
section GX3
variable {p : Program} {l : Launch} {e : Env} {R : Room} {s : State} {m : MethodId} {args : Array Value} {below : List Frame} {meth : Method} {c : Code} {H : Heap} {locs : List Loc} {cells slots : Nat} {Q : State → Prop}
variable {cc : ByteArray} {nL pc : Nat} {ls : Array Slot} {rest st : List Value} {own : String} {G : gx_G} {n : Nat} {mk : gx_Mk} {σ : gx_St}
theorem gx_ialdL (C : gx_C p m c cc nL s args own G) (hH : gx_H G n mk σ H) (k0 : Nat) (hk0 : k0 < n) {N : Nat} (hm : mk k0 (σ k0) = .inl (G.2.1 0, N, .inl (σ k0))) {i : Int32} (j : Nat) (hj : (decide (¬ i < 0) && decide (i.toNatClampNeg = j) && decide (j < N)) = true) (hdg : decode cc pc = .ok (.iaload, 1))
    (kk : W p l e R s m args below meth c H locs cells slots Q (F0 m (pc + 1) ls (.int (σ k0 j) :: rest))) : W p l e R s m args below meth c H locs cells slots Q (F0 m pc ls (.int i :: .ref (gx_q G k0) :: rest)) := by
  simp only [Bool.and_eq_true, decide_eq_true_eq] at hj
  obtain ⟨⟨h1, h2⟩, h3⟩ := hj
  refine gx_iald C hH k0 hk0 hm (fun q => q.elim h1 (fun z => by omega)) hdg ?_
  rw [h2]
  exact kk
theorem gx_aretO {x : Int32} {b w a : Nat} {Cn : String} (C : gx_C p m c cc nL s args own G) (hr : meth.sig.returnType = some (.object Cn)) (hlocks : meth.locks = false) (h : gx_rf G b w x = some a) (hdg : decode cc pc = .ok (.areturn, 1)) : W p l e R s m args below meth c s.heap [] 0 0 (MQ below (gx_QR (some (va_rf (gx_rf G b w x)))) args s 0 0 (fun _ => False)) (F0 m pc ls [.ref a]) := by
  rw [h]
  exact gx_aretR C hr (Or.inl ⟨_, rfl⟩) hlocks (Or.inr ⟨_, rfl⟩) hdg
theorem gx_aretL {x : Int32} {b w : Nat} {Cn : String} (C : gx_C p m c cc nL s args own G) (hr : meth.sig.returnType = some (.object Cn)) (hlocks : meth.locks = false) (h : gx_rf G b w x = none) (hdg : decode cc pc = .ok (.areturn, 1)) : W p l e R s m args below meth c s.heap [] 0 0 (MQ below (gx_QR (some (va_rf (gx_rf G b w x)))) args s 0 0 (fun _ => False)) (F0 m pc ls [.null]) := by
  rw [h]
  exact gx_aretR C hr (Or.inl ⟨_, rfl⟩) hlocks (Or.inl rfl) hdg
theorem gx_stR {o : Option Nat} {a : Nat} (h : o = some a) (k : W p l e R s m args below meth c H locs cells slots Q (F0 m pc ls (.ref a :: rest))) : W p l e R s m args below meth c H locs cells slots Q (F0 m pc ls (va_rf o :: rest)) := by rw [h]; exact k
theorem gx_stN {o : Option Nat} (h : o = none) (k : W p l e R s m args below meth c H locs cells slots Q (F0 m pc ls (.null :: rest))) : W p l e R s m args below meth c H locs cells slots Q (F0 m pc ls (va_rf o :: rest)) := by rw [h]; exact k
theorem gx_e0 (k : W p l e R s m args below meth c H locs cells slots Q (F0 m pc ls st)) (h : st = rest) : W p l e R s m args below meth c H locs cells slots Q (F0 m pc ls rest) := h ▸ k
/-- locals: a reference kept under an optional number -/
theorem gx_lvO {l1 l2 : List (Nat × Value)} (h : lv_has ls nL l1) (e : l1 = l2) : lv_has ls nL l2 := e ▸ h
end GX3
end
section
theorem iw_X0 : ∀ w ∈ u_ws RX0 TX0 3, w ∈ wT := List.forall_mem_cons.mpr ⟨kw_83, List.forall_mem_cons.mpr ⟨kw_85, List.forall_mem_cons.mpr ⟨kw_87, fun _ h => absurd h List.not_mem_nil⟩⟩⟩
theorem iw_X1 : ∀ w ∈ u_ws RX1 TX1 2, w ∈ wT := List.forall_mem_cons.mpr ⟨kw_99, List.forall_mem_cons.mpr ⟨kw_101, fun _ h => absurd h List.not_mem_nil⟩⟩
theorem iw_X2 : ∀ w ∈ u_ws RX2 TX2 10, w ∈ wT := List.forall_mem_cons.mpr ⟨kw_47, List.forall_mem_cons.mpr ⟨kw_49, List.forall_mem_cons.mpr ⟨kw_51, List.forall_mem_cons.mpr ⟨kw_53, List.forall_mem_cons.mpr ⟨kw_55, List.forall_mem_cons.mpr ⟨kw_57, List.forall_mem_cons.mpr ⟨kw_59, List.forall_mem_cons.mpr ⟨kw_61, List.forall_mem_cons.mpr ⟨kw_63, List.forall_mem_cons.mpr ⟨kw_65, fun _ h => absurd h List.not_mem_nil⟩⟩⟩⟩⟩⟩⟩⟩⟩⟩
theorem iw_X3 : ∀ w ∈ u_ws RX3 TX3 16, w ∈ wT := List.forall_mem_cons.mpr ⟨kw_120, List.forall_mem_cons.mpr ⟨kw_122, List.forall_mem_cons.mpr ⟨kw_124, List.forall_mem_cons.mpr ⟨kw_126, List.forall_mem_cons.mpr ⟨kw_128, List.forall_mem_cons.mpr ⟨kw_130, List.forall_mem_cons.mpr ⟨kw_132, List.forall_mem_cons.mpr ⟨kw_134, List.forall_mem_cons.mpr ⟨kw_136, List.forall_mem_cons.mpr ⟨kw_138, List.forall_mem_cons.mpr ⟨kw_140, List.forall_mem_cons.mpr ⟨kw_142, List.forall_mem_cons.mpr ⟨kw_144, List.forall_mem_cons.mpr ⟨kw_146, List.forall_mem_cons.mpr ⟨kw_148, List.forall_mem_cons.mpr ⟨kw_150, fun _ h => absurd h List.not_mem_nil⟩⟩⟩⟩⟩⟩⟩⟩⟩⟩⟩⟩⟩⟩⟩⟩
theorem iw_X4 : ∀ w ∈ u_ws RX4 TX4 21, w ∈ wT := List.forall_mem_cons.mpr ⟨kw_501, List.forall_mem_cons.mpr ⟨kw_503, List.forall_mem_cons.mpr ⟨kw_505, List.forall_mem_cons.mpr ⟨kw_507, List.forall_mem_cons.mpr ⟨kw_509, List.forall_mem_cons.mpr ⟨kw_511, List.forall_mem_cons.mpr ⟨kw_513, List.forall_mem_cons.mpr ⟨kw_515, List.forall_mem_cons.mpr ⟨kw_517, List.forall_mem_cons.mpr ⟨kw_519, List.forall_mem_cons.mpr ⟨kw_521, List.forall_mem_cons.mpr ⟨kw_523, List.forall_mem_cons.mpr ⟨kw_525, List.forall_mem_cons.mpr ⟨kw_527, List.forall_mem_cons.mpr ⟨kw_529, List.forall_mem_cons.mpr ⟨kw_531, List.forall_mem_cons.mpr ⟨kw_533, List.forall_mem_cons.mpr ⟨kw_535, List.forall_mem_cons.mpr ⟨kw_537, List.forall_mem_cons.mpr ⟨kw_539, List.forall_mem_cons.mpr ⟨kw_541, fun _ h => absurd h List.not_mem_nil⟩⟩⟩⟩⟩⟩⟩⟩⟩⟩⟩⟩⟩⟩⟩⟩⟩⟩⟩⟩⟩
theorem fl_X2_40 : gx_FL RX2 40 2 0 := ⟨RX2, TX2, 10, tyX2, rfl, iw_X2, by decide, kw_27, tyX2_ok, nmX2⟩
theorem fl_X3_147 : gx_FL RX3 147 2 0 := ⟨RX2, TX2, 10, tyX2, rfl, iw_X2, by decide, kw_28, tyX2_ok, nmX2⟩
theorem fl_X2_9 : gx_FL RX2 9 2 1 := ⟨RX2, TX2, 10, tyX2, rfl, iw_X2, by decide, kw_29, tyX2_ok, nmX2⟩
theorem fl_X3_120 : gx_FL RX3 120 2 1 := ⟨RX2, TX2, 10, tyX2, rfl, iw_X2, by decide, kw_30, tyX2_ok, nmX2⟩
theorem fl_X2_15 : gx_FL RX2 15 2 2 := ⟨RX2, TX2, 10, tyX2, rfl, iw_X2, by decide, kw_31, tyX2_ok, nmX2⟩
theorem fl_X3_123 : gx_FL RX3 123 2 2 := ⟨RX2, TX2, 10, tyX2, rfl, iw_X2, by decide, kw_32, tyX2_ok, nmX2⟩
theorem fl_X2_18 : gx_FL RX2 18 2 3 := ⟨RX2, TX2, 10, tyX2, rfl, iw_X2, by decide, kw_33, tyX2_ok, nmX2⟩
theorem fl_X3_126 : gx_FL RX3 126 2 3 := ⟨RX2, TX2, 10, tyX2, rfl, iw_X2, by decide, kw_34, tyX2_ok, nmX2⟩
theorem fl_X2_21 : gx_FL RX2 21 2 4 := ⟨RX2, TX2, 10, tyX2, rfl, iw_X2, by decide, kw_35, tyX2_ok, nmX2⟩
theorem fl_X3_129 : gx_FL RX3 129 2 4 := ⟨RX2, TX2, 10, tyX2, rfl, iw_X2, by decide, kw_36, tyX2_ok, nmX2⟩
theorem fl_X2_24 : gx_FL RX2 24 2 5 := ⟨RX2, TX2, 10, tyX2, rfl, iw_X2, by decide, kw_37, tyX2_ok, nmX2⟩
theorem fl_X3_132 : gx_FL RX3 132 2 5 := ⟨RX2, TX2, 10, tyX2, rfl, iw_X2, by decide, kw_38, tyX2_ok, nmX2⟩
theorem fl_X2_27 : gx_FL RX2 27 2 6 := ⟨RX2, TX2, 10, tyX2, rfl, iw_X2, by decide, kw_39, tyX2_ok, nmX2⟩
theorem fl_X3_95 : gx_FL RX3 95 2 6 := ⟨RX2, TX2, 10, tyX2, rfl, iw_X2, by decide, kw_40, tyX2_ok, nmX2⟩
theorem fl_X2_31 : gx_FL RX2 31 2 7 := ⟨RX2, TX2, 10, tyX2, rfl, iw_X2, by decide, kw_41, tyX2_ok, nmX2⟩
theorem fl_X3_135 : gx_FL RX3 135 2 7 := ⟨RX2, TX2, 10, tyX2, rfl, iw_X2, by decide, kw_42, tyX2_ok, nmX2⟩
theorem fl_X2_34 : gx_FL RX2 34 2 8 := ⟨RX2, TX2, 10, tyX2, rfl, iw_X2, by decide, kw_43, tyX2_ok, nmX2⟩
theorem fl_X3_138 : gx_FL RX3 138 2 8 := ⟨RX2, TX2, 10, tyX2, rfl, iw_X2, by decide, kw_44, tyX2_ok, nmX2⟩
theorem fl_X2_37 : gx_FL RX2 37 2 9 := ⟨RX2, TX2, 10, tyX2, rfl, iw_X2, by decide, kw_45, tyX2_ok, nmX2⟩
theorem fl_X3_163 : gx_FL RX3 163 2 9 := ⟨RX2, TX2, 10, tyX2, rfl, iw_X2, by decide, kw_46, tyX2_ok, nmX2⟩
theorem fl_X0_16 : gx_FL RX0 16 0 0 := ⟨RX0, TX0, 3, tyX0, rfl, iw_X0, by decide, kw_75, tyX0_ok, nmX0⟩
theorem fl_X2_70 : gx_FL RX2 70 0 0 := ⟨RX0, TX0, 3, tyX0, rfl, iw_X0, by decide, kw_76, tyX0_ok, nmX0⟩
theorem fl_X0_7 : gx_FL RX0 7 0 1 := ⟨RX0, TX0, 3, tyX0, rfl, iw_X0, by decide, kw_77, tyX0_ok, nmX0⟩
theorem fl_X3_114 : gx_FL RX3 114 0 1 := ⟨RX0, TX0, 3, tyX0, rfl, iw_X0, by decide, kw_78, tyX0_ok, nmX0⟩
theorem fl_X2_75 : gx_FL RX2 75 0 1 := ⟨RX0, TX0, 3, tyX0, rfl, iw_X0, by decide, kw_79, tyX0_ok, nmX0⟩
theorem fl_X0_13 : gx_FL RX0 13 0 2 := ⟨RX0, TX0, 3, tyX0, rfl, iw_X0, by decide, kw_80, tyX0_ok, nmX0⟩
theorem fl_X3_117 : gx_FL RX3 117 0 2 := ⟨RX0, TX0, 3, tyX0, rfl, iw_X0, by decide, kw_81, tyX0_ok, nmX0⟩
theorem fl_X2_81 : gx_FL RX2 81 0 2 := ⟨RX0, TX0, 3, tyX0, rfl, iw_X0, by decide, kw_82, tyX0_ok, nmX0⟩
theorem fl_X1_7 : gx_FL RX1 7 1 0 := ⟨RX1, TX1, 2, tyX1, rfl, iw_X1, by decide, kw_95, tyX1_ok, nmX1⟩
theorem fl_X3_157 : gx_FL RX3 157 1 0 := ⟨RX1, TX1, 2, tyX1, rfl, iw_X1, by decide, kw_96, tyX1_ok, nmX1⟩
theorem fl_X1_13 : gx_FL RX1 13 1 1 := ⟨RX1, TX1, 2, tyX1, rfl, iw_X1, by decide, kw_97, tyX1_ok, nmX1⟩
theorem fl_X3_160 : gx_FL RX3 160 1 1 := ⟨RX1, TX1, 2, tyX1, rfl, iw_X1, by decide, kw_98, tyX1_ok, nmX1⟩
theorem fl_X3_11 : gx_FL RX3 11 3 0 := ⟨RX3, TX3, 16, tyX3, rfl, iw_X3, by decide, kw_104, tyX3_ok, nmX3⟩
theorem fl_X3_15 : gx_FL RX3 15 3 1 := ⟨RX3, TX3, 16, tyX3, rfl, iw_X3, by decide, kw_105, tyX3_ok, nmX3⟩
theorem fl_X3_19 : gx_FL RX3 19 3 2 := ⟨RX3, TX3, 16, tyX3, rfl, iw_X3, by decide, kw_106, tyX3_ok, nmX3⟩
theorem fl_X3_22 : gx_FL RX3 22 3 3 := ⟨RX3, TX3, 16, tyX3, rfl, iw_X3, by decide, kw_107, tyX3_ok, nmX3⟩
theorem fl_X3_27 : gx_FL RX3 27 3 4 := ⟨RX3, TX3, 16, tyX3, rfl, iw_X3, by decide, kw_108, tyX3_ok, nmX3⟩
theorem fl_X3_31 : gx_FL RX3 31 3 5 := ⟨RX3, TX3, 16, tyX3, rfl, iw_X3, by decide, kw_109, tyX3_ok, nmX3⟩
theorem fl_X3_36 : gx_FL RX3 36 3 6 := ⟨RX3, TX3, 16, tyX3, rfl, iw_X3, by decide, kw_110, tyX3_ok, nmX3⟩
theorem fl_X3_40 : gx_FL RX3 40 3 7 := ⟨RX3, TX3, 16, tyX3, rfl, iw_X3, by decide, kw_111, tyX3_ok, nmX3⟩
theorem fl_X3_43 : gx_FL RX3 43 3 8 := ⟨RX3, TX3, 16, tyX3, rfl, iw_X3, by decide, kw_112, tyX3_ok, nmX3⟩
theorem fl_X3_46 : gx_FL RX3 46 3 9 := ⟨RX3, TX3, 16, tyX3, rfl, iw_X3, by decide, kw_113, tyX3_ok, nmX3⟩
theorem fl_X3_49 : gx_FL RX3 49 3 10 := ⟨RX3, TX3, 16, tyX3, rfl, iw_X3, by decide, kw_114, tyX3_ok, nmX3⟩
theorem fl_X3_53 : gx_FL RX3 53 3 11 := ⟨RX3, TX3, 16, tyX3, rfl, iw_X3, by decide, kw_115, tyX3_ok, nmX3⟩
theorem fl_X3_56 : gx_FL RX3 56 3 12 := ⟨RX3, TX3, 16, tyX3, rfl, iw_X3, by decide, kw_116, tyX3_ok, nmX3⟩
theorem fl_X3_59 : gx_FL RX3 59 3 13 := ⟨RX3, TX3, 16, tyX3, rfl, iw_X3, by decide, kw_117, tyX3_ok, nmX3⟩
theorem fl_X3_62 : gx_FL RX3 62 3 14 := ⟨RX3, TX3, 16, tyX3, rfl, iw_X3, by decide, kw_118, tyX3_ok, nmX3⟩
theorem fl_X3_66 : gx_FL RX3 66 3 15 := ⟨RX3, TX3, 16, tyX3, rfl, iw_X3, by decide, kw_119, tyX3_ok, nmX3⟩
theorem fl_X4_91 : gx_FL RX4 91 4 0 := ⟨RX4, TX4, 21, tyX4, rfl, iw_X4, by decide, kw_480, tyX4_ok, nmX4⟩
theorem fl_X4_94 : gx_FL RX4 94 4 1 := ⟨RX4, TX4, 21, tyX4, rfl, iw_X4, by decide, kw_481, tyX4_ok, nmX4⟩
theorem fl_X4_7 : gx_FL RX4 7 4 2 := ⟨RX4, TX4, 21, tyX4, rfl, iw_X4, by decide, kw_482, tyX4_ok, nmX4⟩
theorem fl_X4_13 : gx_FL RX4 13 4 3 := ⟨RX4, TX4, 21, tyX4, rfl, iw_X4, by decide, kw_483, tyX4_ok, nmX4⟩
theorem fl_X4_56 : gx_FL RX4 56 4 4 := ⟨RX4, TX4, 21, tyX4, rfl, iw_X4, by decide, kw_484, tyX4_ok, nmX4⟩
theorem fl_X4_16 : gx_FL RX4 16 4 5 := ⟨RX4, TX4, 21, tyX4, rfl, iw_X4, by decide, kw_485, tyX4_ok, nmX4⟩
theorem fl_X4_19 : gx_FL RX4 19 4 6 := ⟨RX4, TX4, 21, tyX4, rfl, iw_X4, by decide, kw_486, tyX4_ok, nmX4⟩
theorem fl_X4_22 : gx_FL RX4 22 4 7 := ⟨RX4, TX4, 21, tyX4, rfl, iw_X4, by decide, kw_487, tyX4_ok, nmX4⟩
theorem fl_X4_25 : gx_FL RX4 25 4 8 := ⟨RX4, TX4, 21, tyX4, rfl, iw_X4, by decide, kw_488, tyX4_ok, nmX4⟩
theorem fl_X4_28 : gx_FL RX4 28 4 9 := ⟨RX4, TX4, 21, tyX4, rfl, iw_X4, by decide, kw_489, tyX4_ok, nmX4⟩
theorem fl_X4_31 : gx_FL RX4 31 4 10 := ⟨RX4, TX4, 21, tyX4, rfl, iw_X4, by decide, kw_490, tyX4_ok, nmX4⟩
theorem fl_X4_34 : gx_FL RX4 34 4 11 := ⟨RX4, TX4, 21, tyX4, rfl, iw_X4, by decide, kw_491, tyX4_ok, nmX4⟩
theorem fl_X4_37 : gx_FL RX4 37 4 12 := ⟨RX4, TX4, 21, tyX4, rfl, iw_X4, by decide, kw_492, tyX4_ok, nmX4⟩
theorem fl_X4_41 : gx_FL RX4 41 4 13 := ⟨RX4, TX4, 21, tyX4, rfl, iw_X4, by decide, kw_493, tyX4_ok, nmX4⟩
theorem fl_X4_44 : gx_FL RX4 44 4 14 := ⟨RX4, TX4, 21, tyX4, rfl, iw_X4, by decide, kw_494, tyX4_ok, nmX4⟩
theorem fl_X4_47 : gx_FL RX4 47 4 15 := ⟨RX4, TX4, 21, tyX4, rfl, iw_X4, by decide, kw_495, tyX4_ok, nmX4⟩
theorem fl_X4_132 : gx_FL RX4 132 4 16 := ⟨RX4, TX4, 21, tyX4, rfl, iw_X4, by decide, kw_496, tyX4_ok, nmX4⟩
theorem fl_X4_135 : gx_FL RX4 135 4 17 := ⟨RX4, TX4, 21, tyX4, rfl, iw_X4, by decide, kw_497, tyX4_ok, nmX4⟩
theorem fl_X4_125 : gx_FL RX4 125 4 18 := ⟨RX4, TX4, 21, tyX4, rfl, iw_X4, by decide, kw_498, tyX4_ok, nmX4⟩
theorem fl_X4_50 : gx_FL RX4 50 4 19 := ⟨RX4, TX4, 21, tyX4, rfl, iw_X4, by decide, kw_499, tyX4_ok, nmX4⟩
theorem fl_X4_53 : gx_FL RX4 53 4 20 := ⟨RX4, TX4, 21, tyX4, rfl, iw_X4, by decide, kw_500, tyX4_ok, nmX4⟩
theorem fw_X0_1 : gx_FW 0 1 .int := ⟨RX0, TX0, 3, rfl, rfl, by decide +kernel⟩
theorem pw_X0_1 {G : gx_G} {i : Nat} (h : i < 2) (r : Nat → Int32) (x : Int32) : gc_mk G (44 + 1 * i) (upd r 1 x) = .inr (0, [Value.int (r 0), .int (r 1), .int (r 2)].set 1 (.int x)) := (gc_a _ h).trans rfl
theorem fw_X0_2 : gx_FW 0 2 .int := ⟨RX0, TX0, 3, rfl, rfl, by decide +kernel⟩
theorem pw_X0_2 {G : gx_G} {i : Nat} (h : i < 2) (r : Nat → Int32) (x : Int32) : gc_mk G (44 + 1 * i) (upd r 2 x) = .inr (0, [Value.int (r 0), .int (r 1), .int (r 2)].set 2 (.int x)) := (gc_a _ h).trans rfl
theorem fw_X1_0 : gx_FW 1 0 .boolean := ⟨RX1, TX1, 2, rfl, rfl, by decide +kernel⟩
theorem pw_X1_0 {G : gx_G} {i : Nat} (h : i < 4) (r : Nat → Int32) (x : Int32) : gc_mk G (46 + 1 * i) (upd r 0 x) = .inr (1, [Value.int (r 0), .int (r 1)].set 0 (.int x)) := (gc_u _ h).trans rfl
theorem fw_X1_1 : gx_FW 1 1 .int := ⟨RX1, TX1, 2, rfl, rfl, by decide +kernel⟩
theorem pw_X1_1 {G : gx_G} {i : Nat} (h : i < 4) (r : Nat → Int32) (x : Int32) : gc_mk G (46 + 1 * i) (upd r 1 x) = .inr (1, [Value.int (r 0), .int (r 1)].set 1 (.int x)) := (gc_u _ h).trans rfl
theorem fw_X2_1 : gx_FW 2 1 .int := ⟨RX2, TX2, 10, rfl, rfl, by decide +kernel⟩
theorem pw_X2_1 {G : gx_G} {i : Nat} (h : i < 12) (r : Nat → Int32) (x : Int32) : gc_mk G (8 + 3 * i) (upd r 1 x) = .inr (2, (gc_ef G (8 + 3 * i) r).set 1 (.int x)) := (gc_e _ h).trans rfl
theorem fw_X2_2 : gx_FW 2 2 .int := ⟨RX2, TX2, 10, rfl, rfl, by decide +kernel⟩
theorem pw_X2_2 {G : gx_G} {i : Nat} (h : i < 12) (r : Nat → Int32) (x : Int32) : gc_mk G (8 + 3 * i) (upd r 2 x) = .inr (2, (gc_ef G (8 + 3 * i) r).set 2 (.int x)) := (gc_e _ h).trans rfl
theorem fw_X2_3 : gx_FW 2 3 .int := ⟨RX2, TX2, 10, rfl, rfl, by decide +kernel⟩
theorem pw_X2_3 {G : gx_G} {i : Nat} (h : i < 12) (r : Nat → Int32) (x : Int32) : gc_mk G (8 + 3 * i) (upd r 3 x) = .inr (2, (gc_ef G (8 + 3 * i) r).set 3 (.int x)) := (gc_e _ h).trans rfl
theorem fw_X2_4 : gx_FW 2 4 .int := ⟨RX2, TX2, 10, rfl, rfl, by decide +kernel⟩
theorem pw_X2_4 {G : gx_G} {i : Nat} (h : i < 12) (r : Nat → Int32) (x : Int32) : gc_mk G (8 + 3 * i) (upd r 4 x) = .inr (2, (gc_ef G (8 + 3 * i) r).set 4 (.int x)) := (gc_e _ h).trans rfl
theorem fw_X2_5 : gx_FW 2 5 .int := ⟨RX2, TX2, 10, rfl, rfl, by decide +kernel⟩
theorem pw_X2_5 {G : gx_G} {i : Nat} (h : i < 12) (r : Nat → Int32) (x : Int32) : gc_mk G (8 + 3 * i) (upd r 5 x) = .inr (2, (gc_ef G (8 + 3 * i) r).set 5 (.int x)) := (gc_e _ h).trans rfl
theorem fw_X2_7 : gx_FW 2 7 .int := ⟨RX2, TX2, 10, rfl, rfl, by decide +kernel⟩
theorem pw_X2_7 {G : gx_G} {i : Nat} (h : i < 12) (r : Nat → Int32) (x : Int32) : gc_mk G (8 + 3 * i) (upd r 7 x) = .inr (2, (gc_ef G (8 + 3 * i) r).set 7 (.int x)) := (gc_e _ h).trans rfl
theorem fw_X2_8 : gx_FW 2 8 .int := ⟨RX2, TX2, 10, rfl, rfl, by decide +kernel⟩
theorem pw_X2_8 {G : gx_G} {i : Nat} (h : i < 12) (r : Nat → Int32) (x : Int32) : gc_mk G (8 + 3 * i) (upd r 8 x) = .inr (2, (gc_ef G (8 + 3 * i) r).set 8 (.int x)) := (gc_e _ h).trans rfl
theorem fw_X3_1 : gx_FW 3 1 .int := ⟨RX3, TX3, 16, rfl, rfl, by decide +kernel⟩
theorem pw_X3_1 {G : gx_G} (r : Nat → Int32) (x : Int32) : gc_mk G 0 (upd r 1 x) = .inr (3, (gc_fs G r).set 1 (.int x)) := rfl
theorem fw_X3_3 : gx_FW 3 3 .int := ⟨RX3, TX3, 16, rfl, rfl, by decide +kernel⟩
theorem pw_X3_3 {G : gx_G} (r : Nat → Int32) (x : Int32) : gc_mk G 0 (upd r 3 x) = .inr (3, (gc_fs G r).set 3 (.int x)) := rfl
theorem fw_X3_5 : gx_FW 3 5 .int := ⟨RX3, TX3, 16, rfl, rfl, by decide +kernel⟩
theorem pw_X3_5 {G : gx_G} (r : Nat → Int32) (x : Int32) : gc_mk G 0 (upd r 5 x) = .inr (3, (gc_fs G r).set 5 (.int x)) := rfl
theorem fw_X3_7 : gx_FW 3 7 .int := ⟨RX3, TX3, 16, rfl, rfl, by decide +kernel⟩
theorem pw_X3_7 {G : gx_G} (r : Nat → Int32) (x : Int32) : gc_mk G 0 (upd r 7 x) = .inr (3, (gc_fs G r).set 7 (.int x)) := rfl
theorem fw_X3_8 : gx_FW 3 8 .int := ⟨RX3, TX3, 16, rfl, rfl, by decide +kernel⟩
theorem pw_X3_8 {G : gx_G} (r : Nat → Int32) (x : Int32) : gc_mk G 0 (upd r 8 x) = .inr (3, (gc_fs G r).set 8 (.int x)) := rfl
theorem fw_X3_9 : gx_FW 3 9 .int := ⟨RX3, TX3, 16, rfl, rfl, by decide +kernel⟩
theorem pw_X3_9 {G : gx_G} (r : Nat → Int32) (x : Int32) : gc_mk G 0 (upd r 9 x) = .inr (3, (gc_fs G r).set 9 (.int x)) := rfl
theorem fw_X3_10 : gx_FW 3 10 .boolean := ⟨RX3, TX3, 16, rfl, rfl, by decide +kernel⟩
theorem pw_X3_10 {G : gx_G} (r : Nat → Int32) (x : Int32) : gc_mk G 0 (upd r 10 x) = .inr (3, (gc_fs G r).set 10 (.int x)) := rfl
theorem fw_X3_11 : gx_FW 3 11 .int := ⟨RX3, TX3, 16, rfl, rfl, by decide +kernel⟩
theorem pw_X3_11 {G : gx_G} (r : Nat → Int32) (x : Int32) : gc_mk G 0 (upd r 11 x) = .inr (3, (gc_fs G r).set 11 (.int x)) := rfl
theorem fw_X3_12 : gx_FW 3 12 .int := ⟨RX3, TX3, 16, rfl, rfl, by decide +kernel⟩
theorem pw_X3_12 {G : gx_G} (r : Nat → Int32) (x : Int32) : gc_mk G 0 (upd r 12 x) = .inr (3, (gc_fs G r).set 12 (.int x)) := rfl
theorem fw_X4_0 : gx_FW 4 0 .int := ⟨RX4, TX4, 21, rfl, rfl, by decide +kernel⟩
theorem pw_X4_0 {G : gx_G} (r : Nat → Int32) (x : Int32) : gm_mk G 0 (upd r 0 x) = .inr (4, (gm_fs G r).set 0 (.int x)) := rfl
theorem fw_X4_1 : gx_FW 4 1 .int := ⟨RX4, TX4, 21, rfl, rfl, by decide +kernel⟩
theorem pw_X4_1 {G : gx_G} (r : Nat → Int32) (x : Int32) : gm_mk G 0 (upd r 1 x) = .inr (4, (gm_fs G r).set 1 (.int x)) := rfl
theorem fw_X4_4 : gx_FW 4 4 .int := ⟨RX4, TX4, 21, rfl, rfl, by decide +kernel⟩
theorem pw_X4_4 {G : gx_G} (r : Nat → Int32) (x : Int32) : gm_mk G 0 (upd r 4 x) = .inr (4, (gm_fs G r).set 4 (.int x)) := rfl
theorem fw_X4_12 : gx_FW 4 12 .int := ⟨RX4, TX4, 21, rfl, rfl, by decide +kernel⟩
theorem pw_X4_12 {G : gx_G} (r : Nat → Int32) (x : Int32) : gm_mk G 0 (upd r 12 x) = .inr (4, (gm_fs G r).set 12 (.int x)) := rfl
theorem fw_X4_16 : gx_FW 4 16 .int := ⟨RX4, TX4, 21, rfl, rfl, by decide +kernel⟩
theorem pw_X4_16 {G : gx_G} (r : Nat → Int32) (x : Int32) : gm_mk G 0 (upd r 16 x) = .inr (4, (gm_fs G r).set 16 (.int x)) := rfl
theorem fw_X4_17 : gx_FW 4 17 .int := ⟨RX4, TX4, 21, rfl, rfl, by decide +kernel⟩
theorem pw_X4_17 {G : gx_G} (r : Nat → Int32) (x : Int32) : gm_mk G 0 (upd r 17 x) = .inr (4, (gm_fs G r).set 17 (.int x)) := rfl
theorem fw_X4_18 : gx_FW 4 18 .boolean := ⟨RX4, TX4, 21, rfl, rfl, by decide +kernel⟩
theorem pw_X4_18 {G : gx_G} (r : Nat → Int32) (x : Int32) : gm_mk G 0 (upd r 18 x) = .inr (4, (gm_fs G r).set 18 (.int x)) := rfl
theorem fw_X4_19 : gx_FW 4 19 .int := ⟨RX4, TX4, 21, rfl, rfl, by decide +kernel⟩
theorem pw_X4_19 {G : gx_G} (r : Nat → Int32) (x : Int32) : gm_mk G 0 (upd r 19 x) = .inr (4, (gm_fs G r).set 19 (.int x)) := rfl
theorem fw_X4_20 : gx_FW 4 20 .int := ⟨RX4, TX4, 21, rfl, rfl, by decide +kernel⟩
theorem pw_X4_20 {G : gx_G} (r : Nat → Int32) (x : Int32) : gm_mk G 0 (upd r 20 x) = .inr (4, (gm_fs G r).set 20 (.int x)) := rfl
theorem lk_L_13 : gx_LV RL 13 yX3_effect cX3_effect 7 (some .int) 5 := ⟨⟨kw_153, kw_154, kw_155, kw_1, kw_156⟩, by decide, by decide, by decide +kernel⟩
theorem lk_X3_75 : gx_LS RX3 75 yX3_isShape cX3_isShape 6 (some .boolean) 5 := ⟨⟨kw_157, kw_158, kw_1, kw_159⟩, by decide, by decide, by decide +kernel⟩
theorem lk_X3_250 : gx_LS RX3 250 yX3_isShapeNumber cX3_isShapeNumber 4 (some .boolean) 3 := ⟨⟨kw_160, kw_161, kw_1, kw_162⟩, by decide, by decide, by decide +kernel⟩
theorem lk_X3_102 : gx_LS RX3 102 yX3_isWithin cX3_isWithin 3 (some .boolean) 3 := ⟨⟨kw_167, kw_168, kw_1, kw_169⟩, by decide, by decide, by decide +kernel⟩
theorem lk_X3_79 : gx_LV RX3 79 yX2_become cX2_become 7 none 5 := ⟨⟨kw_170, kw_171, kw_172, kw_2, kw_173⟩, by decide, by decide, by decide +kernel⟩
theorem lk_L_18 : gx_LV RL 18 yX3_set cX3_set 5 (some .int) 3 := ⟨⟨kw_176, kw_177, kw_178, kw_1, kw_179⟩, by decide, by decide, by decide +kernel⟩
theorem lk_X3_83 : gx_LV RX3 83 yX3_isEffect cX3_isEffect 2 (some .boolean) 1 := ⟨⟨kw_180, kw_182, ks_0, kw_1, kw_183⟩, by decide, by decide, by decide +kernel⟩
theorem lk_X3_87 : gx_LS RX3 87 yX3_isNumber cX3_isNumber 2 (some .boolean) 2 := ⟨⟨kw_184, kw_185, kw_1, kw_186⟩, by decide, by decide, by decide +kernel⟩
theorem lk_X3_91 : gx_LS RX3 91 yX3_toldNumber cX3_toldNumber 2 (some .int) 2 := ⟨⟨kw_191, kw_192, kw_1, kw_193⟩, by decide, by decide, by decide +kernel⟩
theorem lk_L_23 : gx_LV RL 23 yX3_drop cX3_drop 1 (some .int) 0 := ⟨⟨kw_194, kw_195, kw_196, kw_1, kw_197⟩, by decide, by decide, by decide +kernel⟩
theorem lk_X3_98 : gx_LV RX3 98 yX3_takeOut cX3_takeOut 4 none 1 := ⟨⟨kw_198, kw_200, ks_1, kw_1, kw_201⟩, by decide, by decide, by decide +kernel⟩
theorem lk_L_28 : gx_LV RL 28 yX3_hand cX3_hand 4 (some .int) 2 := ⟨⟨kw_202, kw_203, kw_204, kw_1, kw_205⟩, by decide, by decide, by decide +kernel⟩
theorem lk_X3_106 : gx_LV RX3 106 yX0_moveTo cX0_moveTo 3 none 2 := ⟨⟨kw_206, kw_207, kw_208, kw_3, kw_209⟩, by decide, by decide, by decide +kernel⟩
theorem lk_L_33 : gx_LV RL 33 yX3_ofAxis cX3_ofAxis 3 (some .int) 2 := ⟨⟨kw_210, kw_211, kw_212, kw_1, kw_213⟩, by decide, by decide, by decide +kernel⟩
theorem lk_X3_110 : gx_LS RX3 110 yX3_isAxis cX3_isAxis 1 (some .boolean) 1 := ⟨⟨kw_214, kw_215, kw_1, kw_216⟩, by decide, by decide, by decide +kernel⟩
theorem lk_L_37 : gx_LV RL 37 yX3_ofEffect cX3_ofEffect 4 (some .int) 2 := ⟨⟨kw_218, kw_219, kw_220, kw_1, kw_221⟩, by decide, by decide, by decide +kernel⟩
theorem lk_X3_141 : gx_LV RX3 141 yX2_playsAt cX2_playsAt 4 (some .boolean) 2 := ⟨⟨kw_222, kw_223, kw_224, kw_2, kw_225⟩, by decide, by decide, by decide +kernel⟩
theorem lk_X3_144 : gx_LV RX3 144 yX2_isOnAt cX2_isOnAt 3 (some .boolean) 2 := ⟨⟨kw_226, kw_227, kw_228, kw_2, kw_229⟩, by decide, by decide, by decide +kernel⟩
theorem lk_X2_46 : gx_LV RX2 46 yX2_playsAt cX2_playsAt 4 (some .boolean) 2 := ⟨⟨kw_230, kw_223, kw_224, kw_2, kw_225⟩, by decide, by decide, by decide +kernel⟩
theorem lk_L_41 : gx_LV RL 41 yX3_slots cX3_slots 3 (some .int) 1 := ⟨⟨kw_231, kw_232, kw_233, kw_1, kw_234⟩, by decide, by decide, by decide +kernel⟩
theorem lk_L_46 : gx_LV RL 46 yX3_slot cX3_slot 3 (some .int) 1 := ⟨⟨kw_235, kw_236, kw_237, kw_1, kw_238⟩, by decide, by decide, by decide +kernel⟩
theorem lk_L_50 : gx_LV RL 50 yX3_load cX3_load 2 (some .int) 1 := ⟨⟨kw_239, kw_240, kw_241, kw_1, kw_242⟩, by decide, by decide, by decide +kernel⟩
theorem lk_X3_150 : gx_LV RX3 150 yX3_bringIn cX3_bringIn 4 (some .int) 1 := ⟨⟨kw_243, kw_245, ks_2, kw_1, kw_246⟩, by decide, by decide, by decide +kernel⟩
theorem lk_X3_265 : gx_LV RX3 265 yX3_leastFreeSlot cX3_leastFreeSlot 2 (some .int) 0 := ⟨⟨kw_247, kw_249, ks_3, kw_1, kw_250⟩, by decide, by decide, by decide +kernel⟩
theorem lk_X3_268 : gx_LV RX3 268 yX3_whichGoes cX3_whichGoes 7 (some (.object "PushStick$Effect")) 1 := ⟨⟨kw_251, kw_253, ks_4, kw_1, kw_254⟩, by decide, by decide, by decide +kernel⟩
theorem lk_L_54 : gx_LV RL 54 yX3_unload cX3_unload 3 (some .int) 1 := ⟨⟨kw_255, kw_256, kw_257, kw_1, kw_258⟩, by decide, by decide, by decide +kernel⟩
theorem lk_L_58 : gx_LV RL 58 yX3_play cX3_play 3 (some .int) 1 := ⟨⟨kw_259, kw_260, kw_261, kw_1, kw_262⟩, by decide, by decide, by decide +kernel⟩
theorem lk_L_62 : gx_LV RL 62 yX3_stop cX3_stop 4 (some .int) 1 := ⟨⟨kw_263, kw_264, kw_265, kw_1, kw_266⟩, by decide, by decide, by decide +kernel⟩
theorem lk_L_66 : gx_LV RL 66 yX3_press cX3_press 5 (some .int) 1 := ⟨⟨kw_267, kw_268, kw_269, kw_1, kw_270⟩, by decide, by decide, by decide +kernel⟩
theorem lk_X3_154 : gx_LS RX3 154 yX3_isButton cX3_isButton 1 (some .boolean) 1 := ⟨⟨kw_271, kw_272, kw_1, kw_273⟩, by decide, by decide, by decide +kernel⟩
theorem lk_L_70 : gx_LV RL 70 yX3_free cX3_free 2 (some .int) 1 := ⟨⟨kw_274, kw_275, kw_276, kw_1, kw_277⟩, by decide, by decide, by decide +kernel⟩
theorem lk_X3_166 : gx_LV RX3 166 yX3_letGo cX3_letGo 3 none 1 := ⟨⟨kw_278, kw_280, ks_5, kw_1, kw_281⟩, by decide, by decide, by decide +kernel⟩
theorem lk_L_74 : gx_LV RL 74 yX3_pass cX3_pass 4 (some .int) 1 := ⟨⟨kw_282, kw_283, kw_284, kw_1, kw_285⟩, by decide, by decide, by decide +kernel⟩
theorem lk_X3_170 : gx_LV RX3 170 yX3_lossAt cX3_lossAt 1 (some .int) 0 := ⟨⟨kw_287, kw_289, ks_6, kw_1, kw_290⟩, by decide, by decide, by decide +kernel⟩
theorem lk_X3_180 : gx_LV RX3 180 yX3_beginAgainUpTo cX3_beginAgainUpTo 4 none 1 := ⟨⟨kw_295, kw_297, ks_7, kw_1, kw_298⟩, by decide, by decide, by decide +kernel⟩
theorem lk_X3_276 : gx_LV RX3 276 yX3_startBy cX3_startBy 7 (some .int) 2 := ⟨⟨kw_299, kw_301, ks_8, kw_1, kw_302⟩, by decide, by decide, by decide +kernel⟩
theorem lk_X3_273 : gx_LS RX3 273 yX3_remainder cX3_remainder 2 (some .int) 2 := ⟨⟨kw_303, kw_304, kw_1, kw_305⟩, by decide, by decide, by decide +kernel⟩
theorem lk_X3_183 : gx_LV RX3 183 yX3_loseHostAt cX3_loseHostAt 4 none 1 := ⟨⟨kw_306, kw_308, ks_9, kw_1, kw_309⟩, by decide, by decide, by decide +kernel⟩
theorem lk_X3_186 : gx_LV RX3 186 yX3_howManyPlay cX3_howManyPlay 4 (some .int) 0 := ⟨⟨kw_310, kw_312, ks_10, kw_1, kw_313⟩, by decide, by decide, by decide +kernel⟩
theorem lk_L_78 : gx_LV RL 78 yX3_hello cX3_hello 2 (some .int) 0 := ⟨⟨kw_314, kw_315, kw_316, kw_1, kw_317⟩, by decide, by decide, by decide +kernel⟩
theorem lk_L_82 : gx_LV RL 82 yX3_watch cX3_watch 3 (some .int) 1 := ⟨⟨kw_318, kw_319, kw_320, kw_1, kw_321⟩, by decide, by decide, by decide +kernel⟩
theorem lk_L_86 : gx_LV RL 86 yX3_master cX3_master 3 (some .int) 1 := ⟨⟨kw_322, kw_323, kw_324, kw_1, kw_325⟩, by decide, by decide, by decide +kernel⟩
theorem lk_L_90 : gx_LV RL 90 yX3_part cX3_part 4 (some .int) 2 := ⟨⟨kw_326, kw_327, kw_328, kw_1, kw_329⟩, by decide, by decide, by decide +kernel⟩
theorem lk_X3_189 : gx_LV RX3 189 yX2_partAt cX2_partAt 5 (some .int) 3 := ⟨⟨kw_330, kw_331, kw_332, kw_2, kw_333⟩, by decide, by decide, by decide +kernel⟩
theorem lk_X2_60 : gx_LV RX2 60 yX2_isOnAt cX2_isOnAt 3 (some .boolean) 2 := ⟨⟨kw_334, kw_227, kw_228, kw_2, kw_229⟩, by decide, by decide, by decide +kernel⟩
theorem lk_X2_63 : gx_LV RX2 63 yX2_sinceDelay cX2_sinceDelay 3 (some .int) 2 := ⟨⟨kw_335, kw_336, kw_337, kw_2, kw_338⟩, by decide, by decide, by decide +kernel⟩
theorem lk_X2_66 : gx_LV RX2 66 yX2_valueAt cX2_valueAt 3 (some .int) 2 := ⟨⟨kw_339, kw_340, kw_341, kw_2, kw_342⟩, by decide, by decide, by decide +kernel⟩
theorem lk_X2_78 : gx_LV RX2 78 yX2_awayFrom cX2_awayFrom 4 (some .int) 2 := ⟨⟨kw_343, kw_344, kw_345, kw_2, kw_346⟩, by decide, by decide, by decide +kernel⟩
theorem lk_X2_100 : gx_LN yX3_quotient cX3_quotient 2 (some .int) 2 := ⟨⟨kw_351, kw_1, kw_352⟩, by decide, by decide, by decide +kernel⟩
theorem lk_X2_106 : gx_LN yX3_noFarther cX3_noFarther 2 (some .int) 2 := ⟨⟨kw_354, kw_1, kw_355⟩, by decide, by decide, by decide +kernel⟩
theorem lk_X2_84 : gx_LV RX2 84 yX2_wallAt cX2_wallAt 4 (some .int) 1 := ⟨⟨kw_356, kw_357, kw_358, kw_2, kw_359⟩, by decide, by decide, by decide +kernel⟩
theorem lk_X2_88 : gx_LV RX2 88 yX2_waveAt cX2_waveAt 2 (some .int) 1 := ⟨⟨kw_360, kw_361, kw_362, kw_2, kw_363⟩, by decide, by decide, by decide +kernel⟩
theorem lk_X2_94 : gx_LN yX3_remainder cX3_remainder 2 (some .int) 2 := ⟨⟨kw_304, kw_1, kw_305⟩, by decide, by decide, by decide +kernel⟩
theorem lk_X2_97 : gx_LV RX2 97 yX2_riseAt cX2_riseAt 2 (some .int) 1 := ⟨⟨kw_365, kw_366, kw_367, kw_2, kw_368⟩, by decide, by decide, by decide +kernel⟩
theorem lk_X2_91 : gx_LV RX2 91 yX2_envelopeAt cX2_envelopeAt 4 (some .int) 1 := ⟨⟨kw_369, kw_370, kw_371, kw_2, kw_372⟩, by decide, by decide, by decide +kernel⟩
theorem lk_X2_50 : gx_LS RX2 50 yX2_levelAt cX2_levelAt 3 (some .int) 3 := ⟨⟨kw_373, kw_374, kw_2, kw_375⟩, by decide, by decide, by decide +kernel⟩
theorem lk_L_94 : gx_LV RL 94 yX3_envelope cX3_envelope 3 (some .int) 1 := ⟨⟨kw_377, kw_378, kw_379, kw_1, kw_380⟩, by decide, by decide, by decide +kernel⟩
theorem lk_X3_193 : gx_LV RX3 193 yX2_hasEnvelope cX2_hasEnvelope 1 (some .boolean) 0 := ⟨⟨kw_381, kw_382, kw_383, kw_2, kw_384⟩, by decide, by decide, by decide +kernel⟩
theorem lk_X3_197 : gx_LV RX3 197 yX2_sinceDelay cX2_sinceDelay 3 (some .int) 2 := ⟨⟨kw_385, kw_336, kw_337, kw_2, kw_338⟩, by decide, by decide, by decide +kernel⟩
theorem lk_X3_200 : gx_LV RX3 200 yX2_envelopeAt cX2_envelopeAt 4 (some .int) 1 := ⟨⟨kw_386, kw_370, kw_371, kw_2, kw_372⟩, by decide, by decide, by decide +kernel⟩
theorem lk_L_98 : gx_LV RL 98 yX3_force cX3_force 4 (some .int) 2 := ⟨⟨kw_387, kw_388, kw_389, kw_1, kw_390⟩, by decide, by decide, by decide +kernel⟩
theorem lk_X3_204 : gx_LV RX3 204 yX3_rawAt cX3_rawAt 6 (some .int) 2 := ⟨⟨kw_391, kw_393, ks_11, kw_1, kw_394⟩, by decide, by decide, by decide +kernel⟩
theorem lk_X3_208 : gx_LS RX3 208 yX3_noFarther cX3_noFarther 2 (some .int) 2 := ⟨⟨kw_395, kw_354, kw_1, kw_355⟩, by decide, by decide, by decide +kernel⟩
theorem lk_L_102 : gx_LV RL 102 yX3_rate cX3_rate 3 (some .int) 1 := ⟨⟨kw_396, kw_397, kw_398, kw_1, kw_399⟩, by decide, by decide, by decide +kernel⟩
theorem lk_L_106 : gx_LV RL 106 yX3_frame cX3_frame 2 (some .int) 1 := ⟨⟨kw_400, kw_401, kw_402, kw_1, kw_403⟩, by decide, by decide, by decide +kernel⟩
theorem lk_X3_212 : gx_LS RX3 212 yX3_quotient cX3_quotient 2 (some .int) 2 := ⟨⟨kw_405, kw_351, kw_1, kw_352⟩, by decide, by decide, by decide +kernel⟩
theorem lk_L_110 : gx_LV RL 110 yX3_frames cX3_frames 3 (some .int) 0 := ⟨⟨kw_406, kw_407, kw_408, kw_1, kw_409⟩, by decide, by decide, by decide +kernel⟩
theorem lk_L_114 : gx_LV RL 114 yX3_peak cX3_peak 9 (some .int) 3 := ⟨⟨kw_412, kw_413, kw_414, kw_1, kw_415⟩, by decide, by decide, by decide +kernel⟩
theorem lk_X3_219 : gx_LV RX3 219 yX3_endOfPush cX3_endOfPush 2 (some .int) 1 := ⟨⟨kw_416, kw_418, ks_12, kw_1, kw_419⟩, by decide, by decide, by decide +kernel⟩
theorem lk_L_118 : gx_LV RL 118 yX3_soLong cX3_soLong 5 (some .int) 1 := ⟨⟨kw_421, kw_422, kw_423, kw_1, kw_424⟩, by decide, by decide, by decide +kernel⟩
theorem lk_X3_225 : gx_LS RX3 225 yX3_isHeldBack cX3_isHeldBack 1 (some .boolean) 1 := ⟨⟨kw_425, kw_426, kw_1, kw_427⟩, by decide, by decide, by decide +kernel⟩
theorem lk_L_122 : gx_LV RL 122 yX3_quiet cX3_quiet 6 (some .int) 1 := ⟨⟨kw_428, kw_429, kw_430, kw_1, kw_431⟩, by decide, by decide, by decide +kernel⟩
theorem lk_X3_228 : gx_LV RX3 228 yX3_gatherPlaying cX3_gatherPlaying 4 (some .int) 0 := ⟨⟨kw_432, kw_434, ks_13, kw_1, kw_435⟩, by decide, by decide, by decide +kernel⟩
theorem lk_X3_231 : gx_LV RX3 231 yX3_markHeldBack cX3_markHeldBack 8 none 3 := ⟨⟨kw_436, kw_438, ks_14, kw_1, kw_439⟩, by decide, by decide, by decide +kernel⟩
theorem lk_X3_279 : gx_LV RX3 279 yX3_lackAt cX3_lackAt 5 (some .int) 3 := ⟨⟨kw_440, kw_442, ks_15, kw_1, kw_443⟩, by decide, by decide, by decide +kernel⟩
theorem lk_X3_235 : gx_LV RX3 235 yX3_fewestNotHeldBack cX3_fewestNotHeldBack 5 (some .int) 1 := ⟨⟨kw_444, kw_446, ks_16, kw_1, kw_447⟩, by decide, by decide, by decide +kernel⟩
theorem lk_X3_283 : gx_LS RX3 283 yJ6_bitCount_0f7a4 cJ6_bitCount_0f7a4 1 (some .int) 1 := ⟨⟨kw_448, kw_449, kw_7, kw_450⟩, by decide, by decide, by decide +kernel⟩
theorem lk_X3_238 : gx_LV RX3 238 yX3_asEffects cX3_asEffects 6 (some .int) 2 := ⟨⟨kw_454, kw_456, ks_17, kw_1, kw_457⟩, by decide, by decide, by decide +kernel⟩
theorem lk_L_126 : gx_LV RL 126 yX3_many cX3_many 2 (some .int) 1 := ⟨⟨kw_458, kw_459, kw_460, kw_1, kw_461⟩, by decide, by decide, by decide +kernel⟩
theorem lk_X3_241 : gx_LV RX3 241 yX3_howManyLoaded cX3_howManyLoaded 3 (some .int) 0 := ⟨⟨kw_462, kw_464, ks_18, kw_1, kw_465⟩, by decide, by decide, by decide +kernel⟩
theorem lk_X3_244 : gx_LV RX3 244 yX3_howManyOn cX3_howManyOn 4 (some .int) 0 := ⟨⟨kw_466, kw_468, ks_19, kw_1, kw_469⟩, by decide, by decide, by decide +kernel⟩
theorem lk_X3_247 : gx_LV RX3 247 yX3_howManyHeld cX3_howManyHeld 3 (some .int) 0 := ⟨⟨kw_470, kw_472, ks_20, kw_1, kw_473⟩, by decide, by decide, by decide +kernel⟩
theorem lk_L_17 : gx_LV RL 17 yX4_effect cX4_effect 8 (some .int) 5 := ⟨⟨kw_544, kw_545, kw_546, kw_5, kw_547⟩, by decide, by decide, by decide +kernel⟩
theorem lk_X4_63 : gx_LS RX4 63 yX4_mayBe cX4_mayBe 6 (some .boolean) 5 := ⟨⟨kw_548, kw_549, kw_5, kw_550⟩, by decide, by decide, by decide +kernel⟩
theorem lk_X4_59 : gx_LS RX4 59 yX4_within cX4_within 3 (some .boolean) 3 := ⟨⟨kw_551, kw_552, kw_5, kw_553⟩, by decide, by decide, by decide +kernel⟩
theorem lk_L_22 : gx_LV RL 22 yX4_set cX4_set 5 (some .int) 3 := ⟨⟨kw_554, kw_555, kw_556, kw_5, kw_557⟩, by decide, by decide, by decide +kernel⟩
theorem lk_X4_76 : gx_LV RX4 76 yX4_isEffect cX4_isEffect 2 (some .boolean) 1 := ⟨⟨kw_558, kw_560, ks_21, kw_5, kw_561⟩, by decide, by decide, by decide +kernel⟩
theorem lk_X4_80 : gx_LS RX4 80 yX4_mayBeNumber cX4_mayBeNumber 3 (some .boolean) 2 := ⟨⟨kw_562, kw_563, kw_5, kw_564⟩, by decide, by decide, by decide +kernel⟩
theorem lk_X4_68 : gx_LS RX4 68 yX4_mostOf cX4_mostOf 1 (some .int) 1 := ⟨⟨kw_565, kw_566, kw_5, kw_567⟩, by decide, by decide, by decide +kernel⟩
theorem lk_X4_84 : gx_LV RX4 84 yX4_tellNumber cX4_tellNumber 3 (some .int) 2 := ⟨⟨kw_569, kw_571, ks_22, kw_5, kw_572⟩, by decide, by decide, by decide +kernel⟩
theorem lk_X4_72 : gx_LV RX4 72 yX4_numberOf cX4_numberOf 3 (some .int) 2 := ⟨⟨kw_573, kw_575, ks_23, kw_5, kw_576⟩, by decide, by decide, by decide +kernel⟩
theorem lk_L_27 : gx_LV RL 27 yX4_drop cX4_drop 1 (some .int) 0 := ⟨⟨kw_577, kw_578, kw_579, kw_5, kw_580⟩, by decide, by decide, by decide +kernel⟩
theorem lk_X4_87 : gx_LV RX4 87 yX4_goes cX4_goes 4 none 1 := ⟨⟨kw_581, kw_583, ks_24, kw_5, kw_584⟩, by decide, by decide, by decide +kernel⟩
theorem lk_X4_105 : gx_LV RX4 105 yX4_slotOf cX4_slotOf 3 (some .int) 1 := ⟨⟨kw_585, kw_587, ks_25, kw_5, kw_588⟩, by decide, by decide, by decide +kernel⟩
theorem lk_L_32 : gx_LV RL 32 yX4_hand cX4_hand 3 (some .int) 2 := ⟨⟨kw_589, kw_590, kw_591, kw_5, kw_592⟩, by decide, by decide, by decide +kernel⟩
theorem lk_X4_97 : gx_LV RX4 97 yX4_moves cX4_moves 4 none 2 := ⟨⟨kw_593, kw_595, ks_26, kw_5, kw_596⟩, by decide, by decide, by decide +kernel⟩
theorem lk_L_36 : gx_LV RL 36 yX4_ofAxis cX4_ofAxis 3 (some .int) 2 := ⟨⟨kw_597, kw_598, kw_599, kw_5, kw_600⟩, by decide, by decide, by decide +kernel⟩
theorem lk_X4_101 : gx_LS RX4 101 yX4_isAxis cX4_isAxis 1 (some .boolean) 1 := ⟨⟨kw_601, kw_602, kw_5, kw_603⟩, by decide, by decide, by decide +kernel⟩
theorem lk_L_40 : gx_LV RL 40 yX4_ofEffect cX4_ofEffect 3 (some .int) 2 := ⟨⟨kw_605, kw_606, kw_607, kw_5, kw_608⟩, by decide, by decide, by decide +kernel⟩
theorem lk_X4_108 : gx_LV RX4 108 yX4_doesPlay cX4_doesPlay 5 (some .boolean) 3 := ⟨⟨kw_609, kw_611, ks_27, kw_5, kw_612⟩, by decide, by decide, by decide +kernel⟩
theorem lk_X4_111 : gx_LV RX4 111 yX4_isOn cX4_isOn 4 (some .boolean) 3 := ⟨⟨kw_613, kw_615, ks_28, kw_5, kw_616⟩, by decide, by decide, by decide +kernel⟩
theorem lk_L_45 : gx_LV RL 45 yX4_slots cX4_slots 3 (some .int) 1 := ⟨⟨kw_617, kw_618, kw_619, kw_5, kw_620⟩, by decide, by decide, by decide +kernel⟩
theorem lk_L_49 : gx_LV RL 49 yX4_slot cX4_slot 2 (some .int) 1 := ⟨⟨kw_621, kw_622, kw_623, kw_5, kw_624⟩, by decide, by decide, by decide +kernel⟩
theorem lk_L_53 : gx_LV RL 53 yX4_load cX4_load 3 (some .int) 1 := ⟨⟨kw_625, kw_626, kw_627, kw_5, kw_628⟩, by decide, by decide, by decide +kernel⟩
theorem lk_X4_122 : gx_LV RX4 122 yX4_loads cX4_loads 5 (some .int) 1 := ⟨⟨kw_629, kw_631, ks_29, kw_5, kw_632⟩, by decide, by decide, by decide +kernel⟩
theorem lk_X4_114 : gx_LV RX4 114 yX4_freeSlot cX4_freeSlot 2 (some .int) 0 := ⟨⟨kw_633, kw_635, ks_30, kw_5, kw_636⟩, by decide, by decide, by decide +kernel⟩
theorem lk_X4_118 : gx_LV RX4 118 yX4_firstToGo cX4_firstToGo 6 (some .int) 2 := ⟨⟨kw_637, kw_639, ks_31, kw_5, kw_640⟩, by decide, by decide, by decide +kernel⟩
theorem lk_L_57 : gx_LV RL 57 yX4_unload cX4_unload 3 (some .int) 1 := ⟨⟨kw_641, kw_642, kw_643, kw_5, kw_644⟩, by decide, by decide, by decide +kernel⟩
theorem lk_L_61 : gx_LV RL 61 yX4_play cX4_play 3 (some .int) 1 := ⟨⟨kw_645, kw_646, kw_647, kw_5, kw_648⟩, by decide, by decide, by decide +kernel⟩
theorem lk_L_65 : gx_LV RL 65 yX4_stop cX4_stop 3 (some .int) 1 := ⟨⟨kw_649, kw_650, kw_651, kw_5, kw_652⟩, by decide, by decide, by decide +kernel⟩
theorem lk_L_69 : gx_LV RL 69 yX4_press cX4_press 5 (some .int) 1 := ⟨⟨kw_653, kw_654, kw_655, kw_5, kw_656⟩, by decide, by decide, by decide +kernel⟩
theorem lk_L_73 : gx_LV RL 73 yX4_free cX4_free 3 (some .int) 1 := ⟨⟨kw_657, kw_658, kw_659, kw_5, kw_660⟩, by decide, by decide, by decide +kernel⟩
theorem lk_X4_129 : gx_LV RX4 129 yX4_comesUp cX4_comesUp 3 none 1 := ⟨⟨kw_661, kw_663, ks_32, kw_5, kw_664⟩, by decide, by decide, by decide +kernel⟩
theorem lk_L_77 : gx_LV RL 77 yX4_pass cX4_pass 4 (some .int) 1 := ⟨⟨kw_665, kw_666, kw_667, kw_5, kw_668⟩, by decide, by decide, by decide +kernel⟩
theorem lk_X4_143 : gx_LV RX4 143 yX4_isLostBy cX4_isLostBy 2 (some .boolean) 1 := ⟨⟨kw_670, kw_672, ks_33, kw_5, kw_673⟩, by decide, by decide, by decide +kernel⟩
theorem lk_X4_146 : gx_LV RX4 146 yX4_getsLost cX4_getsLost 3 none 1 := ⟨⟨kw_674, kw_676, ks_34, kw_5, kw_677⟩, by decide, by decide, by decide +kernel⟩
theorem lk_X4_138 : gx_LV RX4 138 yX4_startAt cX4_startAt 8 (some .int) 3 := ⟨⟨kw_678, kw_680, ks_35, kw_5, kw_681⟩, by decide, by decide, by decide +kernel⟩
theorem lk_X4_149 : gx_LV RX4 149 yX4_manyPlay cX4_manyPlay 3 (some .int) 0 := ⟨⟨kw_682, kw_684, ks_36, kw_5, kw_685⟩, by decide, by decide, by decide +kernel⟩
theorem lk_L_81 : gx_LV RL 81 yX4_hello cX4_hello 2 (some .int) 0 := ⟨⟨kw_686, kw_687, kw_688, kw_5, kw_689⟩, by decide, by decide, by decide +kernel⟩
theorem lk_L_85 : gx_LV RL 85 yX4_watch cX4_watch 3 (some .int) 1 := ⟨⟨kw_690, kw_691, kw_692, kw_5, kw_693⟩, by decide, by decide, by decide +kernel⟩
theorem lk_L_89 : gx_LV RL 89 yX4_master cX4_master 3 (some .int) 1 := ⟨⟨kw_694, kw_695, kw_696, kw_5, kw_697⟩, by decide, by decide, by decide +kernel⟩
theorem lk_L_93 : gx_LV RL 93 yX4_part cX4_part 3 (some .int) 2 := ⟨⟨kw_698, kw_699, kw_700, kw_5, kw_701⟩, by decide, by decide, by decide +kernel⟩
theorem lk_X4_173 : gx_LV RX4 173 yX4_partAt cX4_partAt 7 (some .int) 4 := ⟨⟨kw_702, kw_704, ks_37, kw_5, kw_705⟩, by decide, by decide, by decide +kernel⟩
theorem lk_X4_164 : gx_LV RX4 164 yX4_waveAt cX4_waveAt 8 (some .int) 2 := ⟨⟨kw_706, kw_708, ks_38, kw_5, kw_709⟩, by decide, by decide, by decide +kernel⟩
theorem lk_X4_167 : gx_LV RX4 167 yX4_envelopeAt cX4_envelopeAt 9 (some .int) 2 := ⟨⟨kw_710, kw_712, ks_39, kw_5, kw_713⟩, by decide, by decide, by decide +kernel⟩
theorem lk_X4_152 : gx_LS RX4 152 yX4_levelBy cX4_levelBy 3 (some .int) 3 := ⟨⟨kw_714, kw_715, kw_5, kw_716⟩, by decide, by decide, by decide +kernel⟩
theorem lk_X4_170 : gx_LV RX4 170 yX4_byHand cX4_byHand 6 (some .int) 2 := ⟨⟨kw_717, kw_719, ks_40, kw_5, kw_720⟩, by decide, by decide, by decide +kernel⟩
theorem lk_X4_158 : gx_LS RX4 158 yX4_beyond cX4_beyond 2 (some .int) 2 := ⟨⟨kw_721, kw_722, kw_5, kw_723⟩, by decide, by decide, by decide +kernel⟩
theorem lk_X4_155 : gx_LS RX4 155 yX4_size cX4_size 1 (some .int) 1 := ⟨⟨kw_724, kw_725, kw_5, kw_726⟩, by decide, by decide, by decide +kernel⟩
theorem lk_X4_161 : gx_LS RX4 161 yX4_held cX4_held 2 (some .int) 2 := ⟨⟨kw_727, kw_728, kw_5, kw_729⟩, by decide, by decide, by decide +kernel⟩
theorem lk_L_97 : gx_LV RL 97 yX4_envelope cX4_envelope 3 (some .int) 1 := ⟨⟨kw_730, kw_731, kw_732, kw_5, kw_733⟩, by decide, by decide, by decide +kernel⟩
theorem lk_L_101 : gx_LV RL 101 yX4_force cX4_force 4 (some .int) 2 := ⟨⟨kw_734, kw_735, kw_736, kw_5, kw_737⟩, by decide, by decide, by decide +kernel⟩
theorem lk_X4_177 : gx_LV RX4 177 yX4_rawAt cX4_rawAt 7 (some .int) 3 := ⟨⟨kw_738, kw_740, ks_41, kw_5, kw_741⟩, by decide, by decide, by decide +kernel⟩
theorem lk_L_105 : gx_LV RL 105 yX4_rate cX4_rate 3 (some .int) 1 := ⟨⟨kw_742, kw_743, kw_744, kw_5, kw_745⟩, by decide, by decide, by decide +kernel⟩
theorem lk_L_109 : gx_LV RL 109 yX4_frame cX4_frame 2 (some .int) 1 := ⟨⟨kw_746, kw_747, kw_748, kw_5, kw_749⟩, by decide, by decide, by decide +kernel⟩
theorem lk_L_113 : gx_LV RL 113 yX4_frames cX4_frames 1 (some .int) 0 := ⟨⟨kw_751, kw_752, kw_753, kw_5, kw_754⟩, by decide, by decide, by decide +kernel⟩
theorem lk_L_117 : gx_LV RL 117 yX4_peak cX4_peak 8 (some .int) 3 := ⟨⟨kw_756, kw_757, kw_758, kw_5, kw_759⟩, by decide, by decide, by decide +kernel⟩
theorem lk_L_121 : gx_LV RL 121 yX4_soLong cX4_soLong 4 (some .int) 1 := ⟨⟨kw_760, kw_761, kw_762, kw_5, kw_763⟩, by decide, by decide, by decide +kernel⟩
theorem lk_X4_183 : gx_LV RX4 183 yX4_isHeldBack cX4_isHeldBack 3 (some .boolean) 2 := ⟨⟨kw_764, kw_766, ks_42, kw_5, kw_767⟩, by decide, by decide, by decide +kernel⟩
theorem lk_L_125 : gx_LV RL 125 yX4_quiet cX4_quiet 6 (some .int) 1 := ⟨⟨kw_768, kw_769, kw_770, kw_5, kw_771⟩, by decide, by decide, by decide +kernel⟩
theorem lk_X4_186 : gx_LS RX4 186 yX4_manyOf cX4_manyOf 3 (some .int) 1 := ⟨⟨kw_772, kw_773, kw_5, kw_774⟩, by decide, by decide, by decide +kernel⟩
theorem lk_X4_189 : gx_LV RX4 189 yX4_isQuiet cX4_isQuiet 4 (some .boolean) 2 := ⟨⟨kw_775, kw_777, ks_43, kw_5, kw_778⟩, by decide, by decide, by decide +kernel⟩
theorem lk_L_129 : gx_LV RL 129 yX4_many cX4_many 2 (some .int) 1 := ⟨⟨kw_779, kw_780, kw_781, kw_5, kw_782⟩, by decide, by decide, by decide +kernel⟩
theorem lk_X4_192 : gx_LV RX4 192 yX4_manyLoaded cX4_manyLoaded 3 (some .int) 0 := ⟨⟨kw_783, kw_785, ks_44, kw_5, kw_786⟩, by decide, by decide, by decide +kernel⟩
theorem lk_X4_195 : gx_LV RX4 195 yX4_manyOn cX4_manyOn 3 (some .int) 0 := ⟨⟨kw_787, kw_789, ks_45, kw_5, kw_790⟩, by decide, by decide, by decide +kernel⟩
theorem lk_X4_198 : gx_LV RX4 198 yX4_manyHeld cX4_manyHeld 3 (some .int) 0 := ⟨⟨kw_791, kw_793, ks_46, kw_5, kw_794⟩, by decide, by decide, by decide +kernel⟩
end
