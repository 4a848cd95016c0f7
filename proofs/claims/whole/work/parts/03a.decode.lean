theorem dX0_init_0 : decode cX0_init 0 = .ok (.aload_n 0, 1) := by decide +kernel
theorem dX0_init_1 : decode cX0_init 1 = .ok (.invokespecial 1, 3) := by decide +kernel
theorem dX0_init_4 : decode cX0_init 4 = .ok (.aload_n 0, 1) := by decide +kernel
theorem dX0_init_5 : decode cX0_init 5 = .ok (.iconst 0, 1) := by decide +kernel
theorem dX0_init_6 : decode cX0_init 6 = .ok (.putfield 7, 3) := by decide +kernel
theorem dX0_init_9 : decode cX0_init 9 = .ok (.aload_n 0, 1) := by decide +kernel
theorem dX0_init_10 : decode cX0_init 10 = .ok (.iconst 0, 1) := by decide +kernel
theorem dX0_init_11 : decode cX0_init 11 = .ok (.putfield 13, 3) := by decide +kernel
theorem dX0_init_14 : decode cX0_init 14 = .ok (.aload_n 0, 1) := by decide +kernel
theorem dX0_init_15 : decode cX0_init 15 = .ok (.iload_n 1, 1) := by decide +kernel
theorem dX0_init_16 : decode cX0_init 16 = .ok (.putfield 16, 3) := by decide +kernel
theorem dX0_init_19 : decode cX0_init 19 = .ok (.return_, 1) := by decide +kernel
theorem dX0_moveTo_0 : decode cX0_moveTo 0 = .ok (.iload_n 2, 1) := by decide +kernel
theorem dX0_moveTo_1 : decode cX0_moveTo 1 = .ok (.ifCond .le 19, 3) := by decide +kernel
theorem dX0_moveTo_4 : decode cX0_moveTo 4 = .ok (.aload_n 0, 1) := by decide +kernel
theorem dX0_moveTo_5 : decode cX0_moveTo 5 = .ok (.sipush 1000, 3) := by decide +kernel
theorem dX0_moveTo_8 : decode cX0_moveTo 8 = .ok (.iload_n 1, 1) := by decide +kernel
theorem dX0_moveTo_9 : decode cX0_moveTo 9 = .ok (.aload_n 0, 1) := by decide +kernel
theorem dX0_moveTo_10 : decode cX0_moveTo 10 = .ok (.getfield 7, 3) := by decide +kernel
theorem dX0_moveTo_13 : decode cX0_moveTo 13 = .ok (.isub, 1) := by decide +kernel
theorem dX0_moveTo_14 : decode cX0_moveTo 14 = .ok (.imul, 1) := by decide +kernel
theorem dX0_moveTo_15 : decode cX0_moveTo 15 = .ok (.iload_n 2, 1) := by decide +kernel
theorem dX0_moveTo_16 : decode cX0_moveTo 16 = .ok (.idiv, 1) := by decide +kernel
theorem dX0_moveTo_17 : decode cX0_moveTo 17 = .ok (.putfield 13, 3) := by decide +kernel
theorem dX0_moveTo_20 : decode cX0_moveTo 20 = .ok (.aload_n 0, 1) := by decide +kernel
theorem dX0_moveTo_21 : decode cX0_moveTo 21 = .ok (.iload_n 1, 1) := by decide +kernel
theorem dX0_moveTo_22 : decode cX0_moveTo 22 = .ok (.putfield 7, 3) := by decide +kernel
theorem dX0_moveTo_25 : decode cX0_moveTo 25 = .ok (.return_, 1) := by decide +kernel
theorem dX1_init_0 : decode cX1_init 0 = .ok (.aload_n 0, 1) := by decide +kernel
theorem dX1_init_1 : decode cX1_init 1 = .ok (.invokespecial 1, 3) := by decide +kernel
theorem dX1_init_4 : decode cX1_init 4 = .ok (.aload_n 0, 1) := by decide +kernel
theorem dX1_init_5 : decode cX1_init 5 = .ok (.iconst 0, 1) := by decide +kernel
theorem dX1_init_6 : decode cX1_init 6 = .ok (.putfield 7, 3) := by decide +kernel
theorem dX1_init_9 : decode cX1_init 9 = .ok (.aload_n 0, 1) := by decide +kernel
theorem dX1_init_10 : decode cX1_init 10 = .ok (.iconst 0, 1) := by decide +kernel
theorem dX1_init_11 : decode cX1_init 11 = .ok (.putfield 13, 3) := by decide +kernel
theorem dX1_init_14 : decode cX1_init 14 = .ok (.return_, 1) := by decide +kernel
theorem dX2_init_0 : decode cX2_init 0 = .ok (.aload_n 0, 1) := by decide +kernel
theorem dX2_init_1 : decode cX2_init 1 = .ok (.invokespecial 3, 3) := by decide +kernel
theorem dX2_init_4 : decode cX2_init 4 = .ok (.aload_n 0, 1) := by decide +kernel
theorem dX2_init_5 : decode cX2_init 5 = .ok (.iconst 0, 1) := by decide +kernel
theorem dX2_init_6 : decode cX2_init 6 = .ok (.putfield 9, 3) := by decide +kernel
theorem dX2_init_9 : decode cX2_init 9 = .ok (.aload_n 0, 1) := by decide +kernel
theorem dX2_init_10 : decode cX2_init 10 = .ok (.iconst 0, 1) := by decide +kernel
theorem dX2_init_11 : decode cX2_init 11 = .ok (.putfield 15, 3) := by decide +kernel
theorem dX2_init_14 : decode cX2_init 14 = .ok (.aload_n 0, 1) := by decide +kernel
theorem dX2_init_15 : decode cX2_init 15 = .ok (.iconst 0, 1) := by decide +kernel
theorem dX2_init_16 : decode cX2_init 16 = .ok (.putfield 18, 3) := by decide +kernel
theorem dX2_init_19 : decode cX2_init 19 = .ok (.aload_n 0, 1) := by decide +kernel
theorem dX2_init_20 : decode cX2_init 20 = .ok (.iconst 0, 1) := by decide +kernel
theorem dX2_init_21 : decode cX2_init 21 = .ok (.putfield 21, 3) := by decide +kernel
theorem dX2_init_24 : decode cX2_init 24 = .ok (.aload_n 0, 1) := by decide +kernel
theorem dX2_init_25 : decode cX2_init 25 = .ok (.iconst 0, 1) := by decide +kernel
theorem dX2_init_26 : decode cX2_init 26 = .ok (.putfield 24, 3) := by decide +kernel
theorem dX2_init_29 : decode cX2_init 29 = .ok (.aload_n 0, 1) := by decide +kernel
theorem dX2_init_30 : decode cX2_init 30 = .ok (.bipush 12, 2) := by decide +kernel
theorem dX2_init_32 : decode cX2_init 32 = .ok (.newarray .int, 2) := by decide +kernel
theorem dX2_init_34 : decode cX2_init 34 = .ok (.putfield 27, 3) := by decide +kernel
theorem dX2_init_37 : decode cX2_init 37 = .ok (.aload_n 0, 1) := by decide +kernel
theorem dX2_init_38 : decode cX2_init 38 = .ok (.bipush (-9), 2) := by decide +kernel
theorem dX2_init_40 : decode cX2_init 40 = .ok (.putfield 31, 3) := by decide +kernel
theorem dX2_init_43 : decode cX2_init 43 = .ok (.aload_n 0, 1) := by decide +kernel
theorem dX2_init_44 : decode cX2_init 44 = .ok (.bipush (-9), 2) := by decide +kernel
theorem dX2_init_46 : decode cX2_init 46 = .ok (.putfield 34, 3) := by decide +kernel
theorem dX2_init_49 : decode cX2_init 49 = .ok (.aload_n 0, 1) := by decide +kernel
theorem dX2_init_50 : decode cX2_init 50 = .ok (.iconst 4, 1) := by decide +kernel
theorem dX2_init_51 : decode cX2_init 51 = .ok (.newarray .int, 2) := by decide +kernel
theorem dX2_init_53 : decode cX2_init 53 = .ok (.putfield 37, 3) := by decide +kernel
theorem dX2_init_56 : decode cX2_init 56 = .ok (.aload_n 0, 1) := by decide +kernel
theorem dX2_init_57 : decode cX2_init 57 = .ok (.iload_n 1, 1) := by decide +kernel
theorem dX2_init_58 : decode cX2_init 58 = .ok (.putfield 40, 3) := by decide +kernel
theorem dX2_init_61 : decode cX2_init 61 = .ok (.return_, 1) := by decide +kernel
theorem dX2_become_0 : decode cX2_become 0 = .ok (.aload_n 0, 1) := by decide +kernel
theorem dX2_become_1 : decode cX2_become 1 = .ok (.iload_n 1, 1) := by decide +kernel
theorem dX2_become_2 : decode cX2_become 2 = .ok (.putfield 9, 3) := by decide +kernel
theorem dX2_become_5 : decode cX2_become 5 = .ok (.aload_n 0, 1) := by decide +kernel
theorem dX2_become_6 : decode cX2_become 6 = .ok (.iload_n 2, 1) := by decide +kernel
theorem dX2_become_7 : decode cX2_become 7 = .ok (.putfield 15, 3) := by decide +kernel
theorem dX2_become_10 : decode cX2_become 10 = .ok (.aload_n 0, 1) := by decide +kernel
theorem dX2_become_11 : decode cX2_become 11 = .ok (.iload_n 3, 1) := by decide +kernel
theorem dX2_become_12 : decode cX2_become 12 = .ok (.putfield 18, 3) := by decide +kernel
theorem dX2_become_15 : decode cX2_become 15 = .ok (.aload_n 0, 1) := by decide +kernel
theorem dX2_become_16 : decode cX2_become 16 = .ok (.iload 4, 2) := by decide +kernel
theorem dX2_become_18 : decode cX2_become 18 = .ok (.putfield 21, 3) := by decide +kernel
theorem dX2_become_21 : decode cX2_become 21 = .ok (.aload_n 0, 1) := by decide +kernel
theorem dX2_become_22 : decode cX2_become 22 = .ok (.iload 5, 2) := by decide +kernel
theorem dX2_become_24 : decode cX2_become 24 = .ok (.putfield 24, 3) := by decide +kernel
theorem dX2_become_27 : decode cX2_become 27 = .ok (.iconst 0, 1) := by decide +kernel
theorem dX2_become_28 : decode cX2_become 28 = .ok (.istore 6, 2) := by decide +kernel
theorem dX2_become_30 : decode cX2_become 30 = .ok (.iload 6, 2) := by decide +kernel
theorem dX2_become_32 : decode cX2_become 32 = .ok (.bipush 12, 2) := by decide +kernel
theorem dX2_become_34 : decode cX2_become 34 = .ok (.if_icmp .ge 22, 3) := by decide +kernel
theorem dX2_become_37 : decode cX2_become 37 = .ok (.aload_n 0, 1) := by decide +kernel
theorem dX2_become_38 : decode cX2_become 38 = .ok (.getfield 27, 3) := by decide +kernel
theorem dX2_become_41 : decode cX2_become 41 = .ok (.iload 6, 2) := by decide +kernel
theorem dX2_become_43 : decode cX2_become 43 = .ok (.getstatic 43, 3) := by decide +kernel
theorem dX2_become_46 : decode cX2_become 46 = .ok (.iload 6, 2) := by decide +kernel
theorem dX2_become_48 : decode cX2_become 48 = .ok (.iaload, 1) := by decide +kernel
theorem dX2_become_49 : decode cX2_become 49 = .ok (.iastore, 1) := by decide +kernel
theorem dX2_become_50 : decode cX2_become 50 = .ok (.iinc 6 1, 3) := by decide +kernel
theorem dX2_become_53 : decode cX2_become 53 = .ok (.goto (-23), 3) := by decide +kernel
theorem dX2_become_56 : decode cX2_become 56 = .ok (.return_, 1) := by decide +kernel
theorem dX2_playsAt_0 : decode cX2_playsAt 0 = .ok (.aload_n 0, 1) := by decide +kernel
theorem dX2_playsAt_1 : decode cX2_playsAt 1 = .ok (.getfield 27, 3) := by decide +kernel
theorem dX2_playsAt_4 : decode cX2_playsAt 4 = .ok (.iconst 0, 1) := by decide +kernel
theorem dX2_playsAt_5 : decode cX2_playsAt 5 = .ok (.iaload, 1) := by decide +kernel
theorem dX2_playsAt_6 : decode cX2_playsAt 6 = .ok (.istore_n 3, 1) := by decide +kernel
theorem dX2_playsAt_7 : decode cX2_playsAt 7 = .ok (.iload_n 1, 1) := by decide +kernel
theorem dX2_playsAt_8 : decode cX2_playsAt 8 = .ok (.bipush (-9), 2) := by decide +kernel
theorem dX2_playsAt_10 : decode cX2_playsAt 10 = .ok (.if_icmp .eq 27, 3) := by decide +kernel
theorem dX2_playsAt_13 : decode cX2_playsAt 13 = .ok (.iload_n 3, 1) := by decide +kernel
theorem dX2_playsAt_14 : decode cX2_playsAt 14 = .ok (.bipush (-9), 2) := by decide +kernel
theorem dX2_playsAt_16 : decode cX2_playsAt 16 = .ok (.if_icmp .eq 17, 3) := by decide +kernel
theorem dX2_playsAt_19 : decode cX2_playsAt 19 = .ok (.iload_n 2, 1) := by decide +kernel
theorem dX2_playsAt_20 : decode cX2_playsAt 20 = .ok (.iload_n 1, 1) := by decide +kernel
theorem dX2_playsAt_21 : decode cX2_playsAt 21 = .ok (.aload_n 0, 1) := by decide +kernel
theorem dX2_playsAt_22 : decode cX2_playsAt 22 = .ok (.getfield 27, 3) := by decide +kernel
theorem dX2_playsAt_25 : decode cX2_playsAt 25 = .ok (.iconst 1, 1) := by decide +kernel
theorem dX2_playsAt_26 : decode cX2_playsAt 26 = .ok (.iaload, 1) := by decide +kernel
theorem dX2_playsAt_27 : decode cX2_playsAt 27 = .ok (.iadd, 1) := by decide +kernel
theorem dX2_playsAt_28 : decode cX2_playsAt 28 = .ok (.iload_n 3, 1) := by decide +kernel
theorem dX2_playsAt_29 : decode cX2_playsAt 29 = .ok (.iadd, 1) := by decide +kernel
theorem dX2_playsAt_30 : decode cX2_playsAt 30 = .ok (.if_icmp .ge 7, 3) := by decide +kernel
theorem dX2_playsAt_33 : decode cX2_playsAt 33 = .ok (.iconst 1, 1) := by decide +kernel
theorem dX2_playsAt_34 : decode cX2_playsAt 34 = .ok (.goto 4, 3) := by decide +kernel
theorem dX2_playsAt_37 : decode cX2_playsAt 37 = .ok (.iconst 0, 1) := by decide +kernel
theorem dX2_playsAt_38 : decode cX2_playsAt 38 = .ok (.ireturn, 1) := by decide +kernel
theorem dX2_isOnAt_0 : decode cX2_isOnAt 0 = .ok (.aload_n 0, 1) := by decide +kernel
theorem dX2_isOnAt_1 : decode cX2_isOnAt 1 = .ok (.iload_n 1, 1) := by decide +kernel
theorem dX2_isOnAt_2 : decode cX2_isOnAt 2 = .ok (.iload_n 2, 1) := by decide +kernel
theorem dX2_isOnAt_3 : decode cX2_isOnAt 3 = .ok (.invokevirtual 46, 3) := by decide +kernel
theorem dX2_isOnAt_6 : decode cX2_isOnAt 6 = .ok (.ifCond .eq 19, 3) := by decide +kernel
theorem dX2_isOnAt_9 : decode cX2_isOnAt 9 = .ok (.iload_n 2, 1) := by decide +kernel
theorem dX2_isOnAt_10 : decode cX2_isOnAt 10 = .ok (.iload_n 1, 1) := by decide +kernel
theorem dX2_isOnAt_11 : decode cX2_isOnAt 11 = .ok (.aload_n 0, 1) := by decide +kernel
theorem dX2_isOnAt_12 : decode cX2_isOnAt 12 = .ok (.getfield 27, 3) := by decide +kernel
theorem dX2_isOnAt_15 : decode cX2_isOnAt 15 = .ok (.iconst 1, 1) := by decide +kernel
theorem dX2_isOnAt_16 : decode cX2_isOnAt 16 = .ok (.iaload, 1) := by decide +kernel
theorem dX2_isOnAt_17 : decode cX2_isOnAt 17 = .ok (.iadd, 1) := by decide +kernel
theorem dX2_isOnAt_18 : decode cX2_isOnAt 18 = .ok (.if_icmp .lt 7, 3) := by decide +kernel
theorem dX2_isOnAt_21 : decode cX2_isOnAt 21 = .ok (.iconst 1, 1) := by decide +kernel
theorem dX2_isOnAt_22 : decode cX2_isOnAt 22 = .ok (.goto 4, 3) := by decide +kernel
theorem dX2_isOnAt_25 : decode cX2_isOnAt 25 = .ok (.iconst 0, 1) := by decide +kernel
theorem dX2_isOnAt_26 : decode cX2_isOnAt 26 = .ok (.ireturn, 1) := by decide +kernel
theorem dX2_sinceDelay_0 : decode cX2_sinceDelay 0 = .ok (.iload_n 2, 1) := by decide +kernel
theorem dX2_sinceDelay_1 : decode cX2_sinceDelay 1 = .ok (.iload_n 1, 1) := by decide +kernel
theorem dX2_sinceDelay_2 : decode cX2_sinceDelay 2 = .ok (.isub, 1) := by decide +kernel
theorem dX2_sinceDelay_3 : decode cX2_sinceDelay 3 = .ok (.aload_n 0, 1) := by decide +kernel
theorem dX2_sinceDelay_4 : decode cX2_sinceDelay 4 = .ok (.getfield 27, 3) := by decide +kernel
theorem dX2_sinceDelay_7 : decode cX2_sinceDelay 7 = .ok (.iconst 1, 1) := by decide +kernel
theorem dX2_sinceDelay_8 : decode cX2_sinceDelay 8 = .ok (.iaload, 1) := by decide +kernel
theorem dX2_sinceDelay_9 : decode cX2_sinceDelay 9 = .ok (.isub, 1) := by decide +kernel
theorem dX2_sinceDelay_10 : decode cX2_sinceDelay 10 = .ok (.ireturn, 1) := by decide +kernel
theorem dX2_hasEnvelope_0 : decode cX2_hasEnvelope 0 = .ok (.aload_n 0, 1) := by decide +kernel
theorem dX2_hasEnvelope_1 : decode cX2_hasEnvelope 1 = .ok (.getfield 9, 3) := by decide +kernel
theorem dX2_hasEnvelope_4 : decode cX2_hasEnvelope 4 = .ok (.iconst 3, 1) := by decide +kernel
theorem dX2_hasEnvelope_5 : decode cX2_hasEnvelope 5 = .ok (.if_icmp .gt 7, 3) := by decide +kernel
theorem dX2_hasEnvelope_8 : decode cX2_hasEnvelope 8 = .ok (.iconst 1, 1) := by decide +kernel
theorem dX2_hasEnvelope_9 : decode cX2_hasEnvelope 9 = .ok (.goto 4, 3) := by decide +kernel
theorem dX2_hasEnvelope_12 : decode cX2_hasEnvelope 12 = .ok (.iconst 0, 1) := by decide +kernel
theorem dX2_hasEnvelope_13 : decode cX2_hasEnvelope 13 = .ok (.ireturn, 1) := by decide +kernel
theorem dX2_envelopeAt_0 : decode cX2_envelopeAt 0 = .ok (.aload_n 0, 1) := by decide +kernel
theorem dX2_envelopeAt_1 : decode cX2_envelopeAt 1 = .ok (.getfield 27, 3) := by decide +kernel
theorem dX2_envelopeAt_4 : decode cX2_envelopeAt 4 = .ok (.iconst 3, 1) := by decide +kernel
theorem dX2_envelopeAt_5 : decode cX2_envelopeAt 5 = .ok (.iaload, 1) := by decide +kernel
theorem dX2_envelopeAt_6 : decode cX2_envelopeAt 6 = .ok (.iload_n 1, 1) := by decide +kernel
theorem dX2_envelopeAt_7 : decode cX2_envelopeAt 7 = .ok (.aload_n 0, 1) := by decide +kernel
theorem dX2_envelopeAt_8 : decode cX2_envelopeAt 8 = .ok (.getfield 27, 3) := by decide +kernel
theorem dX2_envelopeAt_11 : decode cX2_envelopeAt 11 = .ok (.iconst 2, 1) := by decide +kernel
theorem dX2_envelopeAt_12 : decode cX2_envelopeAt 12 = .ok (.iaload, 1) := by decide +kernel
theorem dX2_envelopeAt_13 : decode cX2_envelopeAt 13 = .ok (.invokestatic 50, 3) := by decide +kernel
theorem dX2_envelopeAt_16 : decode cX2_envelopeAt 16 = .ok (.istore_n 2, 1) := by decide +kernel
theorem dX2_envelopeAt_17 : decode cX2_envelopeAt 17 = .ok (.aload_n 0, 1) := by decide +kernel
theorem dX2_envelopeAt_18 : decode cX2_envelopeAt 18 = .ok (.getfield 27, 3) := by decide +kernel
theorem dX2_envelopeAt_21 : decode cX2_envelopeAt 21 = .ok (.iconst 0, 1) := by decide +kernel
theorem dX2_envelopeAt_22 : decode cX2_envelopeAt 22 = .ok (.iaload, 1) := by decide +kernel
theorem dX2_envelopeAt_23 : decode cX2_envelopeAt 23 = .ok (.bipush (-9), 2) := by decide +kernel
theorem dX2_envelopeAt_25 : decode cX2_envelopeAt 25 = .ok (.if_icmp .ne 5, 3) := by decide +kernel
theorem dX2_envelopeAt_28 : decode cX2_envelopeAt 28 = .ok (.iload_n 2, 1) := by decide +kernel
theorem dX2_envelopeAt_29 : decode cX2_envelopeAt 29 = .ok (.ireturn, 1) := by decide +kernel
theorem dX2_envelopeAt_30 : decode cX2_envelopeAt 30 = .ok (.aload_n 0, 1) := by decide +kernel
theorem dX2_envelopeAt_31 : decode cX2_envelopeAt 31 = .ok (.getfield 27, 3) := by decide +kernel
theorem dX2_envelopeAt_34 : decode cX2_envelopeAt 34 = .ok (.iconst 5, 1) := by decide +kernel
theorem dX2_envelopeAt_35 : decode cX2_envelopeAt 35 = .ok (.iaload, 1) := by decide +kernel
theorem dX2_envelopeAt_36 : decode cX2_envelopeAt 36 = .ok (.aload_n 0, 1) := by decide +kernel
theorem dX2_envelopeAt_37 : decode cX2_envelopeAt 37 = .ok (.getfield 27, 3) := by decide +kernel
theorem dX2_envelopeAt_40 : decode cX2_envelopeAt 40 = .ok (.iconst 0, 1) := by decide +kernel
theorem dX2_envelopeAt_41 : decode cX2_envelopeAt 41 = .ok (.iaload, 1) := by decide +kernel
theorem dX2_envelopeAt_42 : decode cX2_envelopeAt 42 = .ok (.iload_n 1, 1) := by decide +kernel
theorem dX2_envelopeAt_43 : decode cX2_envelopeAt 43 = .ok (.isub, 1) := by decide +kernel
theorem dX2_envelopeAt_44 : decode cX2_envelopeAt 44 = .ok (.aload_n 0, 1) := by decide +kernel
theorem dX2_envelopeAt_45 : decode cX2_envelopeAt 45 = .ok (.getfield 27, 3) := by decide +kernel
theorem dX2_envelopeAt_48 : decode cX2_envelopeAt 48 = .ok (.iconst 4, 1) := by decide +kernel
theorem dX2_envelopeAt_49 : decode cX2_envelopeAt 49 = .ok (.iaload, 1) := by decide +kernel
theorem dX2_envelopeAt_50 : decode cX2_envelopeAt 50 = .ok (.invokestatic 50, 3) := by decide +kernel
theorem dX2_envelopeAt_53 : decode cX2_envelopeAt 53 = .ok (.istore_n 3, 1) := by decide +kernel
theorem dX2_envelopeAt_54 : decode cX2_envelopeAt 54 = .ok (.iload_n 2, 1) := by decide +kernel
theorem dX2_envelopeAt_55 : decode cX2_envelopeAt 55 = .ok (.iload_n 3, 1) := by decide +kernel
theorem dX2_envelopeAt_56 : decode cX2_envelopeAt 56 = .ok (.invokestatic 54, 3) := by decide +kernel
theorem dX2_envelopeAt_59 : decode cX2_envelopeAt 59 = .ok (.ireturn, 1) := by decide +kernel
theorem dX2_levelAt_0 : decode cX2_levelAt 0 = .ok (.iload_n 2, 1) := by decide +kernel
theorem dX2_levelAt_1 : decode cX2_levelAt 1 = .ok (.iconst 1, 1) := by decide +kernel
theorem dX2_levelAt_2 : decode cX2_levelAt 2 = .ok (.if_icmp .lt 8, 3) := by decide +kernel
theorem dX2_levelAt_5 : decode cX2_levelAt 5 = .ok (.iload_n 1, 1) := by decide +kernel
theorem dX2_levelAt_6 : decode cX2_levelAt 6 = .ok (.iload_n 2, 1) := by decide +kernel
theorem dX2_levelAt_7 : decode cX2_levelAt 7 = .ok (.if_icmp .lt 6, 3) := by decide +kernel
theorem dX2_levelAt_10 : decode cX2_levelAt 10 = .ok (.bipush 100, 2) := by decide +kernel
theorem dX2_levelAt_12 : decode cX2_levelAt 12 = .ok (.ireturn, 1) := by decide +kernel
theorem dX2_levelAt_13 : decode cX2_levelAt 13 = .ok (.iload_n 0, 1) := by decide +kernel
theorem dX2_levelAt_14 : decode cX2_levelAt 14 = .ok (.bipush 100, 2) := by decide +kernel
theorem dX2_levelAt_16 : decode cX2_levelAt 16 = .ok (.iload_n 0, 1) := by decide +kernel
theorem dX2_levelAt_17 : decode cX2_levelAt 17 = .ok (.isub, 1) := by decide +kernel
theorem dX2_levelAt_18 : decode cX2_levelAt 18 = .ok (.iload_n 1, 1) := by decide +kernel
theorem dX2_levelAt_19 : decode cX2_levelAt 19 = .ok (.imul, 1) := by decide +kernel
theorem dX2_levelAt_20 : decode cX2_levelAt 20 = .ok (.iload_n 2, 1) := by decide +kernel
theorem dX2_levelAt_21 : decode cX2_levelAt 21 = .ok (.idiv, 1) := by decide +kernel
theorem dX2_levelAt_22 : decode cX2_levelAt 22 = .ok (.iadd, 1) := by decide +kernel
theorem dX2_levelAt_23 : decode cX2_levelAt 23 = .ok (.ireturn, 1) := by decide +kernel
theorem dX2_partAt_0 : decode cX2_partAt 0 = .ok (.aload_n 0, 1) := by decide +kernel
theorem dX2_partAt_1 : decode cX2_partAt 1 = .ok (.iload_n 1, 1) := by decide +kernel
theorem dX2_partAt_2 : decode cX2_partAt 2 = .ok (.iload_n 2, 1) := by decide +kernel
theorem dX2_partAt_3 : decode cX2_partAt 3 = .ok (.invokevirtual 60, 3) := by decide +kernel
theorem dX2_partAt_6 : decode cX2_partAt 6 = .ok (.ifCond .ne 5, 3) := by decide +kernel
theorem dX2_partAt_9 : decode cX2_partAt 9 = .ok (.iconst 0, 1) := by decide +kernel
theorem dX2_partAt_10 : decode cX2_partAt 10 = .ok (.ireturn, 1) := by decide +kernel
theorem dX2_partAt_11 : decode cX2_partAt 11 = .ok (.aload_n 0, 1) := by decide +kernel
theorem dX2_partAt_12 : decode cX2_partAt 12 = .ok (.aload_n 0, 1) := by decide +kernel
theorem dX2_partAt_13 : decode cX2_partAt 13 = .ok (.iload_n 1, 1) := by decide +kernel
theorem dX2_partAt_14 : decode cX2_partAt 14 = .ok (.iload_n 2, 1) := by decide +kernel
theorem dX2_partAt_15 : decode cX2_partAt 15 = .ok (.invokevirtual 63, 3) := by decide +kernel
theorem dX2_partAt_18 : decode cX2_partAt 18 = .ok (.aload_n 3, 1) := by decide +kernel
theorem dX2_partAt_19 : decode cX2_partAt 19 = .ok (.invokevirtual 66, 3) := by decide +kernel
theorem dX2_partAt_22 : decode cX2_partAt 22 = .ok (.istore 4, 2) := by decide +kernel
theorem dX2_partAt_24 : decode cX2_partAt 24 = .ok (.iload 4, 2) := by decide +kernel
theorem dX2_partAt_26 : decode cX2_partAt 26 = .ok (.aload_n 0, 1) := by decide +kernel
theorem dX2_partAt_27 : decode cX2_partAt 27 = .ok (.getfield 27, 3) := by decide +kernel
theorem dX2_partAt_30 : decode cX2_partAt 30 = .ok (.bipush 8, 2) := by decide +kernel
theorem dX2_partAt_32 : decode cX2_partAt 32 = .ok (.iaload, 1) := by decide +kernel
theorem dX2_partAt_33 : decode cX2_partAt 33 = .ok (.imul, 1) := by decide +kernel
theorem dX2_partAt_34 : decode cX2_partAt 34 = .ok (.bipush 100, 2) := by decide +kernel
theorem dX2_partAt_36 : decode cX2_partAt 36 = .ok (.idiv, 1) := by decide +kernel
theorem dX2_partAt_37 : decode cX2_partAt 37 = .ok (.aload_n 0, 1) := by decide +kernel
theorem dX2_partAt_38 : decode cX2_partAt 38 = .ok (.getfield 27, 3) := by decide +kernel
theorem dX2_partAt_41 : decode cX2_partAt 41 = .ok (.aload_n 3, 1) := by decide +kernel
theorem dX2_partAt_42 : decode cX2_partAt 42 = .ok (.getfield 70, 3) := by decide +kernel
theorem dX2_partAt_45 : decode cX2_partAt 45 = .ok (.iaload, 1) := by decide +kernel
theorem dX2_partAt_46 : decode cX2_partAt 46 = .ok (.imul, 1) := by decide +kernel
theorem dX2_partAt_47 : decode cX2_partAt 47 = .ok (.bipush 100, 2) := by decide +kernel
theorem dX2_partAt_49 : decode cX2_partAt 49 = .ok (.idiv, 1) := by decide +kernel
theorem dX2_partAt_50 : decode cX2_partAt 50 = .ok (.ireturn, 1) := by decide +kernel
theorem dX2_valueAt_0 : decode cX2_valueAt 0 = .ok (.aload_n 0, 1) := by decide +kernel
theorem dX2_valueAt_1 : decode cX2_valueAt 1 = .ok (.getfield 9, 3) := by decide +kernel
theorem dX2_valueAt_4 : decode cX2_valueAt 4 = .ok (.tableswitch 65 4 6 #[28, 44, 56], 28) := by decide +kernel
theorem dX2_valueAt_32 : decode cX2_valueAt 32 = .ok (.aload_n 0, 1) := by decide +kernel
theorem dX2_valueAt_33 : decode cX2_valueAt 33 = .ok (.aload_n 2, 1) := by decide +kernel
theorem dX2_valueAt_34 : decode cX2_valueAt 34 = .ok (.getfield 75, 3) := by decide +kernel
theorem dX2_valueAt_37 : decode cX2_valueAt 37 = .ok (.aload_n 0, 1) := by decide +kernel
theorem dX2_valueAt_38 : decode cX2_valueAt 38 = .ok (.getfield 18, 3) := by decide +kernel
theorem dX2_valueAt_41 : decode cX2_valueAt 41 = .ok (.isub, 1) := by decide +kernel
theorem dX2_valueAt_42 : decode cX2_valueAt 42 = .ok (.bipush 100, 2) := by decide +kernel
theorem dX2_valueAt_44 : decode cX2_valueAt 44 = .ok (.invokevirtual 78, 3) := by decide +kernel
theorem dX2_valueAt_47 : decode cX2_valueAt 47 = .ok (.ireturn, 1) := by decide +kernel
theorem dX2_valueAt_48 : decode cX2_valueAt 48 = .ok (.aload_n 0, 1) := by decide +kernel
theorem dX2_valueAt_49 : decode cX2_valueAt 49 = .ok (.aload_n 2, 1) := by decide +kernel
theorem dX2_valueAt_50 : decode cX2_valueAt 50 = .ok (.getfield 81, 3) := by decide +kernel
theorem dX2_valueAt_53 : decode cX2_valueAt 53 = .ok (.sipush 1000, 3) := by decide +kernel
theorem dX2_valueAt_56 : decode cX2_valueAt 56 = .ok (.invokevirtual 78, 3) := by decide +kernel
theorem dX2_valueAt_59 : decode cX2_valueAt 59 = .ok (.ireturn, 1) := by decide +kernel
theorem dX2_valueAt_60 : decode cX2_valueAt 60 = .ok (.aload_n 0, 1) := by decide +kernel
theorem dX2_valueAt_61 : decode cX2_valueAt 61 = .ok (.aload_n 2, 1) := by decide +kernel
theorem dX2_valueAt_62 : decode cX2_valueAt 62 = .ok (.getfield 75, 3) := by decide +kernel
theorem dX2_valueAt_65 : decode cX2_valueAt 65 = .ok (.invokevirtual 84, 3) := by decide +kernel
theorem dX2_valueAt_68 : decode cX2_valueAt 68 = .ok (.ireturn, 1) := by decide +kernel
theorem dX2_valueAt_69 : decode cX2_valueAt 69 = .ok (.aload_n 0, 1) := by decide +kernel
theorem dX2_valueAt_70 : decode cX2_valueAt 70 = .ok (.iload_n 1, 1) := by decide +kernel
theorem dX2_valueAt_71 : decode cX2_valueAt 71 = .ok (.invokevirtual 88, 3) := by decide +kernel
theorem dX2_valueAt_74 : decode cX2_valueAt 74 = .ok (.aload_n 0, 1) := by decide +kernel
theorem dX2_valueAt_75 : decode cX2_valueAt 75 = .ok (.iload_n 1, 1) := by decide +kernel
theorem dX2_valueAt_76 : decode cX2_valueAt 76 = .ok (.invokevirtual 91, 3) := by decide +kernel
theorem dX2_valueAt_79 : decode cX2_valueAt 79 = .ok (.imul, 1) := by decide +kernel
theorem dX2_valueAt_80 : decode cX2_valueAt 80 = .ok (.bipush 100, 2) := by decide +kernel
theorem dX2_valueAt_82 : decode cX2_valueAt 82 = .ok (.idiv, 1) := by decide +kernel
theorem dX2_valueAt_83 : decode cX2_valueAt 83 = .ok (.ireturn, 1) := by decide +kernel
theorem dX2_waveAt_0 : decode cX2_waveAt 0 = .ok (.aload_n 0, 1) := by decide +kernel
theorem dX2_waveAt_1 : decode cX2_waveAt 1 = .ok (.getfield 9, 3) := by decide +kernel
theorem dX2_waveAt_4 : decode cX2_waveAt 4 = .ok (.tableswitch 151 1 3 #[28, 72, 107], 28) := by decide +kernel
theorem dX2_waveAt_32 : decode cX2_waveAt 32 = .ok (.iconst 2, 1) := by decide +kernel
theorem dX2_waveAt_33 : decode cX2_waveAt 33 = .ok (.iload_n 1, 1) := by decide +kernel
theorem dX2_waveAt_34 : decode cX2_waveAt 34 = .ok (.aload_n 0, 1) := by decide +kernel
theorem dX2_waveAt_35 : decode cX2_waveAt 35 = .ok (.getfield 24, 3) := by decide +kernel
theorem dX2_waveAt_38 : decode cX2_waveAt 38 = .ok (.iadd, 1) := by decide +kernel
theorem dX2_waveAt_39 : decode cX2_waveAt 39 = .ok (.aload_n 0, 1) := by decide +kernel
theorem dX2_waveAt_40 : decode cX2_waveAt 40 = .ok (.getfield 21, 3) := by decide +kernel
theorem dX2_waveAt_43 : decode cX2_waveAt 43 = .ok (.invokestatic 94, 3) := by decide +kernel
theorem dX2_waveAt_46 : decode cX2_waveAt 46 = .ok (.imul, 1) := by decide +kernel
theorem dX2_waveAt_47 : decode cX2_waveAt 47 = .ok (.aload_n 0, 1) := by decide +kernel
theorem dX2_waveAt_48 : decode cX2_waveAt 48 = .ok (.getfield 21, 3) := by decide +kernel
theorem dX2_waveAt_51 : decode cX2_waveAt 51 = .ok (.if_icmp .ge 15, 3) := by decide +kernel
theorem dX2_waveAt_54 : decode cX2_waveAt 54 = .ok (.aload_n 0, 1) := by decide +kernel
theorem dX2_waveAt_55 : decode cX2_waveAt 55 = .ok (.getfield 18, 3) := by decide +kernel
theorem dX2_waveAt_58 : decode cX2_waveAt 58 = .ok (.aload_n 0, 1) := by decide +kernel
theorem dX2_waveAt_59 : decode cX2_waveAt 59 = .ok (.getfield 15, 3) := by decide +kernel
theorem dX2_waveAt_62 : decode cX2_waveAt 62 = .ok (.iadd, 1) := by decide +kernel
theorem dX2_waveAt_63 : decode cX2_waveAt 63 = .ok (.goto 12, 3) := by decide +kernel
theorem dX2_waveAt_66 : decode cX2_waveAt 66 = .ok (.aload_n 0, 1) := by decide +kernel
theorem dX2_waveAt_67 : decode cX2_waveAt 67 = .ok (.getfield 18, 3) := by decide +kernel
theorem dX2_waveAt_70 : decode cX2_waveAt 70 = .ok (.aload_n 0, 1) := by decide +kernel
theorem dX2_waveAt_71 : decode cX2_waveAt 71 = .ok (.getfield 15, 3) := by decide +kernel
theorem dX2_waveAt_74 : decode cX2_waveAt 74 = .ok (.isub, 1) := by decide +kernel
theorem dX2_waveAt_75 : decode cX2_waveAt 75 = .ok (.ireturn, 1) := by decide +kernel
theorem dX2_waveAt_76 : decode cX2_waveAt 76 = .ok (.aload_n 0, 1) := by decide +kernel
theorem dX2_waveAt_77 : decode cX2_waveAt 77 = .ok (.getfield 18, 3) := by decide +kernel
theorem dX2_waveAt_80 : decode cX2_waveAt 80 = .ok (.aload_n 0, 1) := by decide +kernel
theorem dX2_waveAt_81 : decode cX2_waveAt 81 = .ok (.getfield 15, 3) := by decide +kernel
theorem dX2_waveAt_84 : decode cX2_waveAt 84 = .ok (.aload_n 0, 1) := by decide +kernel
theorem dX2_waveAt_85 : decode cX2_waveAt 85 = .ok (.iload_n 1, 1) := by decide +kernel
theorem dX2_waveAt_86 : decode cX2_waveAt 86 = .ok (.aload_n 0, 1) := by decide +kernel
theorem dX2_waveAt_87 : decode cX2_waveAt 87 = .ok (.getfield 24, 3) := by decide +kernel
theorem dX2_waveAt_90 : decode cX2_waveAt 90 = .ok (.iadd, 1) := by decide +kernel
theorem dX2_waveAt_91 : decode cX2_waveAt 91 = .ok (.aload_n 0, 1) := by decide +kernel
theorem dX2_waveAt_92 : decode cX2_waveAt 92 = .ok (.getfield 21, 3) := by decide +kernel
theorem dX2_waveAt_95 : decode cX2_waveAt 95 = .ok (.invokestatic 94, 3) := by decide +kernel
theorem dX2_waveAt_98 : decode cX2_waveAt 98 = .ok (.invokevirtual 97, 3) := by decide +kernel
theorem dX2_waveAt_101 : decode cX2_waveAt 101 = .ok (.imul, 1) := by decide +kernel
theorem dX2_waveAt_102 : decode cX2_waveAt 102 = .ok (.aload_n 0, 1) := by decide +kernel
theorem dX2_waveAt_103 : decode cX2_waveAt 103 = .ok (.getfield 21, 3) := by decide +kernel
theorem dX2_waveAt_106 : decode cX2_waveAt 106 = .ok (.invokestatic 100, 3) := by decide +kernel
theorem dX2_waveAt_109 : decode cX2_waveAt 109 = .ok (.iadd, 1) := by decide +kernel
theorem dX2_waveAt_110 : decode cX2_waveAt 110 = .ok (.ireturn, 1) := by decide +kernel
theorem dX2_waveAt_111 : decode cX2_waveAt 111 = .ok (.aload_n 0, 1) := by decide +kernel
theorem dX2_waveAt_112 : decode cX2_waveAt 112 = .ok (.getfield 27, 3) := by decide +kernel
theorem dX2_waveAt_115 : decode cX2_waveAt 115 = .ok (.iconst 0, 1) := by decide +kernel
theorem dX2_waveAt_116 : decode cX2_waveAt 116 = .ok (.iaload, 1) := by decide +kernel
theorem dX2_waveAt_117 : decode cX2_waveAt 117 = .ok (.bipush (-9), 2) := by decide +kernel
theorem dX2_waveAt_119 : decode cX2_waveAt 119 = .ok (.if_icmp .ne 10, 3) := by decide +kernel
theorem dX2_waveAt_122 : decode cX2_waveAt 122 = .ok (.aload_n 0, 1) := by decide +kernel
theorem dX2_waveAt_123 : decode cX2_waveAt 123 = .ok (.getfield 15, 3) := by decide +kernel
theorem dX2_waveAt_126 : decode cX2_waveAt 126 = .ok (.goto 28, 3) := by decide +kernel
theorem dX2_waveAt_129 : decode cX2_waveAt 129 = .ok (.aload_n 0, 1) := by decide +kernel
theorem dX2_waveAt_130 : decode cX2_waveAt 130 = .ok (.getfield 15, 3) := by decide +kernel
theorem dX2_waveAt_133 : decode cX2_waveAt 133 = .ok (.aload_n 0, 1) := by decide +kernel
theorem dX2_waveAt_134 : decode cX2_waveAt 134 = .ok (.getfield 18, 3) := by decide +kernel
theorem dX2_waveAt_137 : decode cX2_waveAt 137 = .ok (.aload_n 0, 1) := by decide +kernel
theorem dX2_waveAt_138 : decode cX2_waveAt 138 = .ok (.getfield 15, 3) := by decide +kernel
theorem dX2_waveAt_141 : decode cX2_waveAt 141 = .ok (.isub, 1) := by decide +kernel
theorem dX2_waveAt_142 : decode cX2_waveAt 142 = .ok (.iload_n 1, 1) := by decide +kernel
theorem dX2_waveAt_143 : decode cX2_waveAt 143 = .ok (.imul, 1) := by decide +kernel
theorem dX2_waveAt_144 : decode cX2_waveAt 144 = .ok (.aload_n 0, 1) := by decide +kernel
theorem dX2_waveAt_145 : decode cX2_waveAt 145 = .ok (.getfield 27, 3) := by decide +kernel
theorem dX2_waveAt_148 : decode cX2_waveAt 148 = .ok (.iconst 0, 1) := by decide +kernel
theorem dX2_waveAt_149 : decode cX2_waveAt 149 = .ok (.iaload, 1) := by decide +kernel
theorem dX2_waveAt_150 : decode cX2_waveAt 150 = .ok (.invokestatic 100, 3) := by decide +kernel
theorem dX2_waveAt_153 : decode cX2_waveAt 153 = .ok (.iadd, 1) := by decide +kernel
theorem dX2_waveAt_154 : decode cX2_waveAt 154 = .ok (.ireturn, 1) := by decide +kernel
theorem dX2_waveAt_155 : decode cX2_waveAt 155 = .ok (.aload_n 0, 1) := by decide +kernel
theorem dX2_waveAt_156 : decode cX2_waveAt 156 = .ok (.getfield 15, 3) := by decide +kernel
theorem dX2_waveAt_159 : decode cX2_waveAt 159 = .ok (.ireturn, 1) := by decide +kernel
theorem dX2_riseAt_0 : decode cX2_riseAt 0 = .ok (.iconst 2, 1) := by decide +kernel
theorem dX2_riseAt_1 : decode cX2_riseAt 1 = .ok (.iload_n 1, 1) := by decide +kernel
theorem dX2_riseAt_2 : decode cX2_riseAt 2 = .ok (.imul, 1) := by decide +kernel
theorem dX2_riseAt_3 : decode cX2_riseAt 3 = .ok (.aload_n 0, 1) := by decide +kernel
theorem dX2_riseAt_4 : decode cX2_riseAt 4 = .ok (.getfield 21, 3) := by decide +kernel
theorem dX2_riseAt_7 : decode cX2_riseAt 7 = .ok (.if_icmp .ge 14, 3) := by decide +kernel
theorem dX2_riseAt_10 : decode cX2_riseAt 10 = .ok (.iconst 4, 1) := by decide +kernel
theorem dX2_riseAt_11 : decode cX2_riseAt 11 = .ok (.iload_n 1, 1) := by decide +kernel
theorem dX2_riseAt_12 : decode cX2_riseAt 12 = .ok (.imul, 1) := by decide +kernel
theorem dX2_riseAt_13 : decode cX2_riseAt 13 = .ok (.aload_n 0, 1) := by decide +kernel
theorem dX2_riseAt_14 : decode cX2_riseAt 14 = .ok (.getfield 21, 3) := by decide +kernel
theorem dX2_riseAt_17 : decode cX2_riseAt 17 = .ok (.isub, 1) := by decide +kernel
theorem dX2_riseAt_18 : decode cX2_riseAt 18 = .ok (.goto 13, 3) := by decide +kernel
theorem dX2_riseAt_21 : decode cX2_riseAt 21 = .ok (.iconst 3, 1) := by decide +kernel
theorem dX2_riseAt_22 : decode cX2_riseAt 22 = .ok (.aload_n 0, 1) := by decide +kernel
theorem dX2_riseAt_23 : decode cX2_riseAt 23 = .ok (.getfield 21, 3) := by decide +kernel
theorem dX2_riseAt_26 : decode cX2_riseAt 26 = .ok (.imul, 1) := by decide +kernel
theorem dX2_riseAt_27 : decode cX2_riseAt 27 = .ok (.iconst 4, 1) := by decide +kernel
theorem dX2_riseAt_28 : decode cX2_riseAt 28 = .ok (.iload_n 1, 1) := by decide +kernel
theorem dX2_riseAt_29 : decode cX2_riseAt 29 = .ok (.imul, 1) := by decide +kernel
theorem dX2_riseAt_30 : decode cX2_riseAt 30 = .ok (.isub, 1) := by decide +kernel
theorem dX2_riseAt_31 : decode cX2_riseAt 31 = .ok (.ireturn, 1) := by decide +kernel
theorem dX2_awayFrom_0 : decode cX2_awayFrom 0 = .ok (.iload_n 1, 1) := by decide +kernel
theorem dX2_awayFrom_1 : decode cX2_awayFrom 1 = .ok (.invokestatic 103, 3) := by decide +kernel
theorem dX2_awayFrom_4 : decode cX2_awayFrom 4 = .ok (.aload_n 0, 1) := by decide +kernel
theorem dX2_awayFrom_5 : decode cX2_awayFrom 5 = .ok (.getfield 21, 3) := by decide +kernel
theorem dX2_awayFrom_8 : decode cX2_awayFrom 8 = .ok (.if_icmp .gt 5, 3) := by decide +kernel
theorem dX2_awayFrom_11 : decode cX2_awayFrom 11 = .ok (.iconst 0, 1) := by decide +kernel
theorem dX2_awayFrom_12 : decode cX2_awayFrom 12 = .ok (.ireturn, 1) := by decide +kernel
theorem dX2_awayFrom_13 : decode cX2_awayFrom 13 = .ok (.iload_n 1, 1) := by decide +kernel
theorem dX2_awayFrom_14 : decode cX2_awayFrom 14 = .ok (.ifCond .le 12, 3) := by decide +kernel
theorem dX2_awayFrom_17 : decode cX2_awayFrom 17 = .ok (.iload_n 1, 1) := by decide +kernel
theorem dX2_awayFrom_18 : decode cX2_awayFrom 18 = .ok (.aload_n 0, 1) := by decide +kernel
theorem dX2_awayFrom_19 : decode cX2_awayFrom 19 = .ok (.getfield 21, 3) := by decide +kernel
theorem dX2_awayFrom_22 : decode cX2_awayFrom 22 = .ok (.isub, 1) := by decide +kernel
theorem dX2_awayFrom_23 : decode cX2_awayFrom 23 = .ok (.goto 9, 3) := by decide +kernel
theorem dX2_awayFrom_26 : decode cX2_awayFrom 26 = .ok (.iload_n 1, 1) := by decide +kernel
theorem dX2_awayFrom_27 : decode cX2_awayFrom 27 = .ok (.aload_n 0, 1) := by decide +kernel
theorem dX2_awayFrom_28 : decode cX2_awayFrom 28 = .ok (.getfield 21, 3) := by decide +kernel
theorem dX2_awayFrom_31 : decode cX2_awayFrom 31 = .ok (.iadd, 1) := by decide +kernel
theorem dX2_awayFrom_32 : decode cX2_awayFrom 32 = .ok (.istore_n 3, 1) := by decide +kernel
theorem dX2_awayFrom_33 : decode cX2_awayFrom 33 = .ok (.aload_n 0, 1) := by decide +kernel
theorem dX2_awayFrom_34 : decode cX2_awayFrom 34 = .ok (.getfield 15, 3) := by decide +kernel
theorem dX2_awayFrom_37 : decode cX2_awayFrom 37 = .ok (.ineg, 1) := by decide +kernel
theorem dX2_awayFrom_38 : decode cX2_awayFrom 38 = .ok (.iload_n 3, 1) := by decide +kernel
theorem dX2_awayFrom_39 : decode cX2_awayFrom 39 = .ok (.imul, 1) := by decide +kernel
theorem dX2_awayFrom_40 : decode cX2_awayFrom 40 = .ok (.iload_n 2, 1) := by decide +kernel
theorem dX2_awayFrom_41 : decode cX2_awayFrom 41 = .ok (.invokestatic 100, 3) := by decide +kernel
theorem dX2_awayFrom_44 : decode cX2_awayFrom 44 = .ok (.aload_n 0, 1) := by decide +kernel
theorem dX2_awayFrom_45 : decode cX2_awayFrom 45 = .ok (.getfield 24, 3) := by decide +kernel
theorem dX2_awayFrom_48 : decode cX2_awayFrom 48 = .ok (.invokestatic 106, 3) := by decide +kernel
theorem dX2_awayFrom_51 : decode cX2_awayFrom 51 = .ok (.ireturn, 1) := by decide +kernel
theorem dX2_wallAt_0 : decode cX2_wallAt 0 = .ok (.aload_n 0, 1) := by decide +kernel
theorem dX2_wallAt_1 : decode cX2_wallAt 1 = .ok (.getfield 21, 3) := by decide +kernel
theorem dX2_wallAt_4 : decode cX2_wallAt 4 = .ok (.ifCond .ne 12, 3) := by decide +kernel
theorem dX2_wallAt_7 : decode cX2_wallAt 7 = .ok (.iload_n 1, 1) := by decide +kernel
theorem dX2_wallAt_8 : decode cX2_wallAt 8 = .ok (.aload_n 0, 1) := by decide +kernel
theorem dX2_wallAt_9 : decode cX2_wallAt 9 = .ok (.getfield 18, 3) := by decide +kernel
theorem dX2_wallAt_12 : decode cX2_wallAt 12 = .ok (.isub, 1) := by decide +kernel
theorem dX2_wallAt_13 : decode cX2_wallAt 13 = .ok (.goto 9, 3) := by decide +kernel
theorem dX2_wallAt_16 : decode cX2_wallAt 16 = .ok (.aload_n 0, 1) := by decide +kernel
theorem dX2_wallAt_17 : decode cX2_wallAt 17 = .ok (.getfield 18, 3) := by decide +kernel
theorem dX2_wallAt_20 : decode cX2_wallAt 20 = .ok (.iload_n 1, 1) := by decide +kernel
theorem dX2_wallAt_21 : decode cX2_wallAt 21 = .ok (.isub, 1) := by decide +kernel
theorem dX2_wallAt_22 : decode cX2_wallAt 22 = .ok (.istore_n 2, 1) := by decide +kernel
theorem dX2_wallAt_23 : decode cX2_wallAt 23 = .ok (.iload_n 2, 1) := by decide +kernel
theorem dX2_wallAt_24 : decode cX2_wallAt 24 = .ok (.ifCond .gt 5, 3) := by decide +kernel
theorem dX2_wallAt_27 : decode cX2_wallAt 27 = .ok (.iconst 0, 1) := by decide +kernel
theorem dX2_wallAt_28 : decode cX2_wallAt 28 = .ok (.ireturn, 1) := by decide +kernel
theorem dX2_wallAt_29 : decode cX2_wallAt 29 = .ok (.aload_n 0, 1) := by decide +kernel
theorem dX2_wallAt_30 : decode cX2_wallAt 30 = .ok (.getfield 15, 3) := by decide +kernel
theorem dX2_wallAt_33 : decode cX2_wallAt 33 = .ok (.iload_n 2, 1) := by decide +kernel
theorem dX2_wallAt_34 : decode cX2_wallAt 34 = .ok (.imul, 1) := by decide +kernel
theorem dX2_wallAt_35 : decode cX2_wallAt 35 = .ok (.bipush 100, 2) := by decide +kernel
theorem dX2_wallAt_37 : decode cX2_wallAt 37 = .ok (.idiv, 1) := by decide +kernel
theorem dX2_wallAt_38 : decode cX2_wallAt 38 = .ok (.aload_n 0, 1) := by decide +kernel
theorem dX2_wallAt_39 : decode cX2_wallAt 39 = .ok (.getfield 24, 3) := by decide +kernel
theorem dX2_wallAt_42 : decode cX2_wallAt 42 = .ok (.invokestatic 106, 3) := by decide +kernel
theorem dX2_wallAt_45 : decode cX2_wallAt 45 = .ok (.istore_n 3, 1) := by decide +kernel
theorem dX2_wallAt_46 : decode cX2_wallAt 46 = .ok (.aload_n 0, 1) := by decide +kernel
theorem dX2_wallAt_47 : decode cX2_wallAt 47 = .ok (.getfield 21, 3) := by decide +kernel
theorem dX2_wallAt_50 : decode cX2_wallAt 50 = .ok (.ifCond .ne 8, 3) := by decide +kernel
theorem dX2_wallAt_53 : decode cX2_wallAt 53 = .ok (.iload_n 3, 1) := by decide +kernel
theorem dX2_wallAt_54 : decode cX2_wallAt 54 = .ok (.ineg, 1) := by decide +kernel
theorem dX2_wallAt_55 : decode cX2_wallAt 55 = .ok (.goto 4, 3) := by decide +kernel
theorem dX2_wallAt_58 : decode cX2_wallAt 58 = .ok (.iload_n 3, 1) := by decide +kernel
theorem dX2_wallAt_59 : decode cX2_wallAt 59 = .ok (.ireturn, 1) := by decide +kernel
theorem dJ6_bitCount_0f7a4_0 : decode cJ6_bitCount_0f7a4 0 = .ok (.iload_n 0, 1) := by decide +kernel
theorem dJ6_bitCount_0f7a4_1 : decode cJ6_bitCount_0f7a4 1 = .ok (.iload_n 0, 1) := by decide +kernel
theorem dJ6_bitCount_0f7a4_2 : decode cJ6_bitCount_0f7a4 2 = .ok (.iconst 1, 1) := by decide +kernel
theorem dJ6_bitCount_0f7a4_3 : decode cJ6_bitCount_0f7a4 3 = .ok (.iushr, 1) := by decide +kernel
theorem dJ6_bitCount_0f7a4_4 : decode cJ6_bitCount_0f7a4 4 = .ok (.ldc_w 265, 3) := by decide +kernel
theorem dJ6_bitCount_0f7a4_7 : decode cJ6_bitCount_0f7a4 7 = .ok (.iand, 1) := by decide +kernel
theorem dJ6_bitCount_0f7a4_8 : decode cJ6_bitCount_0f7a4 8 = .ok (.isub, 1) := by decide +kernel
theorem dJ6_bitCount_0f7a4_9 : decode cJ6_bitCount_0f7a4 9 = .ok (.istore_n 0, 1) := by decide +kernel
theorem dJ6_bitCount_0f7a4_10 : decode cJ6_bitCount_0f7a4 10 = .ok (.iload_n 0, 1) := by decide +kernel
theorem dJ6_bitCount_0f7a4_11 : decode cJ6_bitCount_0f7a4 11 = .ok (.ldc_w 266, 3) := by decide +kernel
theorem dJ6_bitCount_0f7a4_14 : decode cJ6_bitCount_0f7a4 14 = .ok (.iand, 1) := by decide +kernel
theorem dJ6_bitCount_0f7a4_15 : decode cJ6_bitCount_0f7a4 15 = .ok (.iload_n 0, 1) := by decide +kernel
theorem dJ6_bitCount_0f7a4_16 : decode cJ6_bitCount_0f7a4 16 = .ok (.iconst 2, 1) := by decide +kernel
theorem dJ6_bitCount_0f7a4_17 : decode cJ6_bitCount_0f7a4 17 = .ok (.iushr, 1) := by decide +kernel
theorem dJ6_bitCount_0f7a4_18 : decode cJ6_bitCount_0f7a4 18 = .ok (.ldc_w 266, 3) := by decide +kernel
theorem dJ6_bitCount_0f7a4_21 : decode cJ6_bitCount_0f7a4 21 = .ok (.iand, 1) := by decide +kernel
theorem dJ6_bitCount_0f7a4_22 : decode cJ6_bitCount_0f7a4 22 = .ok (.iadd, 1) := by decide +kernel
theorem dJ6_bitCount_0f7a4_23 : decode cJ6_bitCount_0f7a4 23 = .ok (.istore_n 0, 1) := by decide +kernel
theorem dJ6_bitCount_0f7a4_24 : decode cJ6_bitCount_0f7a4 24 = .ok (.iload_n 0, 1) := by decide +kernel
theorem dJ6_bitCount_0f7a4_25 : decode cJ6_bitCount_0f7a4 25 = .ok (.iload_n 0, 1) := by decide +kernel
theorem dJ6_bitCount_0f7a4_26 : decode cJ6_bitCount_0f7a4 26 = .ok (.iconst 4, 1) := by decide +kernel
theorem dJ6_bitCount_0f7a4_27 : decode cJ6_bitCount_0f7a4 27 = .ok (.iushr, 1) := by decide +kernel
theorem dJ6_bitCount_0f7a4_28 : decode cJ6_bitCount_0f7a4 28 = .ok (.iadd, 1) := by decide +kernel
theorem dJ6_bitCount_0f7a4_29 : decode cJ6_bitCount_0f7a4 29 = .ok (.ldc_w 267, 3) := by decide +kernel
theorem dJ6_bitCount_0f7a4_32 : decode cJ6_bitCount_0f7a4 32 = .ok (.iand, 1) := by decide +kernel
theorem dJ6_bitCount_0f7a4_33 : decode cJ6_bitCount_0f7a4 33 = .ok (.istore_n 0, 1) := by decide +kernel
theorem dJ6_bitCount_0f7a4_34 : decode cJ6_bitCount_0f7a4 34 = .ok (.iload_n 0, 1) := by decide +kernel
theorem dJ6_bitCount_0f7a4_35 : decode cJ6_bitCount_0f7a4 35 = .ok (.iload_n 0, 1) := by decide +kernel
theorem dJ6_bitCount_0f7a4_36 : decode cJ6_bitCount_0f7a4 36 = .ok (.bipush 8, 2) := by decide +kernel
theorem dJ6_bitCount_0f7a4_38 : decode cJ6_bitCount_0f7a4 38 = .ok (.iushr, 1) := by decide +kernel
theorem dJ6_bitCount_0f7a4_39 : decode cJ6_bitCount_0f7a4 39 = .ok (.iadd, 1) := by decide +kernel
theorem dJ6_bitCount_0f7a4_40 : decode cJ6_bitCount_0f7a4 40 = .ok (.istore_n 0, 1) := by decide +kernel
theorem dJ6_bitCount_0f7a4_41 : decode cJ6_bitCount_0f7a4 41 = .ok (.iload_n 0, 1) := by decide +kernel
theorem dJ6_bitCount_0f7a4_42 : decode cJ6_bitCount_0f7a4 42 = .ok (.iload_n 0, 1) := by decide +kernel
theorem dJ6_bitCount_0f7a4_43 : decode cJ6_bitCount_0f7a4 43 = .ok (.bipush 16, 2) := by decide +kernel
theorem dJ6_bitCount_0f7a4_45 : decode cJ6_bitCount_0f7a4 45 = .ok (.iushr, 1) := by decide +kernel
theorem dJ6_bitCount_0f7a4_46 : decode cJ6_bitCount_0f7a4 46 = .ok (.iadd, 1) := by decide +kernel
theorem dJ6_bitCount_0f7a4_47 : decode cJ6_bitCount_0f7a4 47 = .ok (.istore_n 0, 1) := by decide +kernel
theorem dJ6_bitCount_0f7a4_48 : decode cJ6_bitCount_0f7a4 48 = .ok (.iload_n 0, 1) := by decide +kernel
theorem dJ6_bitCount_0f7a4_49 : decode cJ6_bitCount_0f7a4 49 = .ok (.bipush 63, 2) := by decide +kernel
theorem dJ6_bitCount_0f7a4_51 : decode cJ6_bitCount_0f7a4 51 = .ok (.iand, 1) := by decide +kernel
theorem dJ6_bitCount_0f7a4_52 : decode cJ6_bitCount_0f7a4 52 = .ok (.ireturn, 1) := by decide +kernel
theorem dJ9_abs_0f7a4_0 : decode cJ9_abs_0f7a4 0 = .ok (.iload_n 0, 1) := by decide +kernel
theorem dJ9_abs_0f7a4_1 : decode cJ9_abs_0f7a4 1 = .ok (.ifCond .ge 8, 3) := by decide +kernel
theorem dJ9_abs_0f7a4_4 : decode cJ9_abs_0f7a4 4 = .ok (.iload_n 0, 1) := by decide +kernel
theorem dJ9_abs_0f7a4_5 : decode cJ9_abs_0f7a4 5 = .ok (.ineg, 1) := by decide +kernel
theorem dJ9_abs_0f7a4_6 : decode cJ9_abs_0f7a4 6 = .ok (.goto 4, 3) := by decide +kernel
theorem dJ9_abs_0f7a4_9 : decode cJ9_abs_0f7a4 9 = .ok (.iload_n 0, 1) := by decide +kernel
theorem dJ9_abs_0f7a4_10 : decode cJ9_abs_0f7a4 10 = .ok (.ireturn, 1) := by decide +kernel
theorem dJ9_min_7cf53_0 : decode cJ9_min_7cf53 0 = .ok (.iload_n 0, 1) := by decide +kernel
theorem dJ9_min_7cf53_1 : decode cJ9_min_7cf53 1 = .ok (.iload_n 1, 1) := by decide +kernel
theorem dJ9_min_7cf53_2 : decode cJ9_min_7cf53 2 = .ok (.if_icmp .gt 7, 3) := by decide +kernel
theorem dJ9_min_7cf53_5 : decode cJ9_min_7cf53 5 = .ok (.iload_n 0, 1) := by decide +kernel
theorem dJ9_min_7cf53_6 : decode cJ9_min_7cf53 6 = .ok (.goto 4, 3) := by decide +kernel
theorem dJ9_min_7cf53_9 : decode cJ9_min_7cf53 9 = .ok (.iload_n 1, 1) := by decide +kernel
theorem dJ9_min_7cf53_10 : decode cJ9_min_7cf53 10 = .ok (.ireturn, 1) := by decide +kernel
