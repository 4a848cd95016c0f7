theorem dX3_init_0 : decode cX3_init 0 = .ok (.aload_n 0, 1) := by decide +kernel
theorem dX3_init_1 : decode cX3_init 1 = .ok (.invokespecial 1, 3) := by decide +kernel
theorem dX3_init_4 : decode cX3_init 4 = .ok (.aload_n 0, 1) := by decide +kernel
theorem dX3_init_5 : decode cX3_init 5 = .ok (.bipush 12, 2) := by decide +kernel
theorem dX3_init_7 : decode cX3_init 7 = .ok (.anewarray 9, 3) := by decide +kernel
theorem dX3_init_10 : decode cX3_init 10 = .ok (.putfield 11, 3) := by decide +kernel
theorem dX3_init_13 : decode cX3_init 13 = .ok (.aload_n 0, 1) := by decide +kernel
theorem dX3_init_14 : decode cX3_init 14 = .ok (.iconst 0, 1) := by decide +kernel
theorem dX3_init_15 : decode cX3_init 15 = .ok (.putfield 15, 3) := by decide +kernel
theorem dX3_init_18 : decode cX3_init 18 = .ok (.aload_n 0, 1) := by decide +kernel
theorem dX3_init_19 : decode cX3_init 19 = .ok (.bipush 6, 2) := by decide +kernel
theorem dX3_init_21 : decode cX3_init 21 = .ok (.anewarray 9, 3) := by decide +kernel
theorem dX3_init_24 : decode cX3_init 24 = .ok (.putfield 19, 3) := by decide +kernel
theorem dX3_init_27 : decode cX3_init 27 = .ok (.aload_n 0, 1) := by decide +kernel
theorem dX3_init_28 : decode cX3_init 28 = .ok (.iconst 4, 1) := by decide +kernel
theorem dX3_init_29 : decode cX3_init 29 = .ok (.putfield 22, 3) := by decide +kernel
theorem dX3_init_32 : decode cX3_init 32 = .ok (.aload_n 0, 1) := by decide +kernel
theorem dX3_init_33 : decode cX3_init 33 = .ok (.iconst 2, 1) := by decide +kernel
theorem dX3_init_34 : decode cX3_init 34 = .ok (.anewarray 25, 3) := by decide +kernel
theorem dX3_init_37 : decode cX3_init 37 = .ok (.putfield 27, 3) := by decide +kernel
theorem dX3_init_40 : decode cX3_init 40 = .ok (.aload_n 0, 1) := by decide +kernel
theorem dX3_init_41 : decode cX3_init 41 = .ok (.iconst 0, 1) := by decide +kernel
theorem dX3_init_42 : decode cX3_init 42 = .ok (.putfield 31, 3) := by decide +kernel
theorem dX3_init_45 : decode cX3_init 45 = .ok (.aload_n 0, 1) := by decide +kernel
theorem dX3_init_46 : decode cX3_init 46 = .ok (.iconst 4, 1) := by decide +kernel
theorem dX3_init_47 : decode cX3_init 47 = .ok (.anewarray 34, 3) := by decide +kernel
theorem dX3_init_50 : decode cX3_init 50 = .ok (.putfield 36, 3) := by decide +kernel
theorem dX3_init_53 : decode cX3_init 53 = .ok (.aload_n 0, 1) := by decide +kernel
theorem dX3_init_54 : decode cX3_init 54 = .ok (.iconst 0, 1) := by decide +kernel
theorem dX3_init_55 : decode cX3_init 55 = .ok (.putfield 40, 3) := by decide +kernel
theorem dX3_init_58 : decode cX3_init 58 = .ok (.aload_n 0, 1) := by decide +kernel
theorem dX3_init_59 : decode cX3_init 59 = .ok (.iconst 0, 1) := by decide +kernel
theorem dX3_init_60 : decode cX3_init 60 = .ok (.putfield 43, 3) := by decide +kernel
theorem dX3_init_63 : decode cX3_init 63 = .ok (.aload_n 0, 1) := by decide +kernel
theorem dX3_init_64 : decode cX3_init 64 = .ok (.iconst 0, 1) := by decide +kernel
theorem dX3_init_65 : decode cX3_init 65 = .ok (.putfield 46, 3) := by decide +kernel
theorem dX3_init_68 : decode cX3_init 68 = .ok (.aload_n 0, 1) := by decide +kernel
theorem dX3_init_69 : decode cX3_init 69 = .ok (.iconst 0, 1) := by decide +kernel
theorem dX3_init_70 : decode cX3_init 70 = .ok (.putfield 49, 3) := by decide +kernel
theorem dX3_init_73 : decode cX3_init 73 = .ok (.aload_n 0, 1) := by decide +kernel
theorem dX3_init_74 : decode cX3_init 74 = .ok (.bipush 100, 2) := by decide +kernel
theorem dX3_init_76 : decode cX3_init 76 = .ok (.putfield 53, 3) := by decide +kernel
theorem dX3_init_79 : decode cX3_init 79 = .ok (.aload_n 0, 1) := by decide +kernel
theorem dX3_init_80 : decode cX3_init 80 = .ok (.sipush 250, 3) := by decide +kernel
theorem dX3_init_83 : decode cX3_init 83 = .ok (.putfield 56, 3) := by decide +kernel
theorem dX3_init_86 : decode cX3_init 86 = .ok (.aload_n 0, 1) := by decide +kernel
theorem dX3_init_87 : decode cX3_init 87 = .ok (.bipush 6, 2) := by decide +kernel
theorem dX3_init_89 : decode cX3_init 89 = .ok (.anewarray 9, 3) := by decide +kernel
theorem dX3_init_92 : decode cX3_init 92 = .ok (.putfield 59, 3) := by decide +kernel
theorem dX3_init_95 : decode cX3_init 95 = .ok (.aload_n 0, 1) := by decide +kernel
theorem dX3_init_96 : decode cX3_init 96 = .ok (.bipush 64, 2) := by decide +kernel
theorem dX3_init_98 : decode cX3_init 98 = .ok (.newarray .int, 2) := by decide +kernel
theorem dX3_init_100 : decode cX3_init 100 = .ok (.putfield 62, 3) := by decide +kernel
theorem dX3_init_103 : decode cX3_init 103 = .ok (.aload_n 0, 1) := by decide +kernel
theorem dX3_init_104 : decode cX3_init 104 = .ok (.bipush 64, 2) := by decide +kernel
theorem dX3_init_106 : decode cX3_init 106 = .ok (.newarray .boolean, 2) := by decide +kernel
theorem dX3_init_108 : decode cX3_init 108 = .ok (.putfield 66, 3) := by decide +kernel
theorem dX3_init_111 : decode cX3_init 111 = .ok (.iconst 0, 1) := by decide +kernel
theorem dX3_init_112 : decode cX3_init 112 = .ok (.istore_n 1, 1) := by decide +kernel
theorem dX3_init_113 : decode cX3_init 113 = .ok (.iload_n 1, 1) := by decide +kernel
theorem dX3_init_114 : decode cX3_init 114 = .ok (.bipush 12, 2) := by decide +kernel
theorem dX3_init_116 : decode cX3_init 116 = .ok (.if_icmp .ge 23, 3) := by decide +kernel
theorem dX3_init_119 : decode cX3_init 119 = .ok (.aload_n 0, 1) := by decide +kernel
theorem dX3_init_120 : decode cX3_init 120 = .ok (.getfield 11, 3) := by decide +kernel
theorem dX3_init_123 : decode cX3_init 123 = .ok (.iload_n 1, 1) := by decide +kernel
theorem dX3_init_124 : decode cX3_init 124 = .ok (.new 9, 3) := by decide +kernel
theorem dX3_init_127 : decode cX3_init 127 = .ok (.dup, 1) := by decide +kernel
theorem dX3_init_128 : decode cX3_init 128 = .ok (.iload_n 1, 1) := by decide +kernel
theorem dX3_init_129 : decode cX3_init 129 = .ok (.invokespecial 70, 3) := by decide +kernel
theorem dX3_init_132 : decode cX3_init 132 = .ok (.aastore, 1) := by decide +kernel
theorem dX3_init_133 : decode cX3_init 133 = .ok (.iinc 1 1, 3) := by decide +kernel
theorem dX3_init_136 : decode cX3_init 136 = .ok (.goto (-23), 3) := by decide +kernel
theorem dX3_init_139 : decode cX3_init 139 = .ok (.iconst 0, 1) := by decide +kernel
theorem dX3_init_140 : decode cX3_init 140 = .ok (.istore_n 1, 1) := by decide +kernel
theorem dX3_init_141 : decode cX3_init 141 = .ok (.iload_n 1, 1) := by decide +kernel
theorem dX3_init_142 : decode cX3_init 142 = .ok (.iconst 2, 1) := by decide +kernel
theorem dX3_init_143 : decode cX3_init 143 = .ok (.if_icmp .ge 26, 3) := by decide +kernel
theorem dX3_init_146 : decode cX3_init 146 = .ok (.aload_n 0, 1) := by decide +kernel
theorem dX3_init_147 : decode cX3_init 147 = .ok (.getfield 27, 3) := by decide +kernel
theorem dX3_init_150 : decode cX3_init 150 = .ok (.iload_n 1, 1) := by decide +kernel
theorem dX3_init_151 : decode cX3_init 151 = .ok (.new 25, 3) := by decide +kernel
theorem dX3_init_154 : decode cX3_init 154 = .ok (.dup, 1) := by decide +kernel
theorem dX3_init_155 : decode cX3_init 155 = .ok (.bipush 6, 2) := by decide +kernel
theorem dX3_init_157 : decode cX3_init 157 = .ok (.iload_n 1, 1) := by decide +kernel
theorem dX3_init_158 : decode cX3_init 158 = .ok (.iadd, 1) := by decide +kernel
theorem dX3_init_159 : decode cX3_init 159 = .ok (.invokespecial 73, 3) := by decide +kernel
theorem dX3_init_162 : decode cX3_init 162 = .ok (.aastore, 1) := by decide +kernel
theorem dX3_init_163 : decode cX3_init 163 = .ok (.iinc 1 1, 3) := by decide +kernel
theorem dX3_init_166 : decode cX3_init 166 = .ok (.goto (-25), 3) := by decide +kernel
theorem dX3_init_169 : decode cX3_init 169 = .ok (.iconst 0, 1) := by decide +kernel
theorem dX3_init_170 : decode cX3_init 170 = .ok (.istore_n 1, 1) := by decide +kernel
theorem dX3_init_171 : decode cX3_init 171 = .ok (.iload_n 1, 1) := by decide +kernel
theorem dX3_init_172 : decode cX3_init 172 = .ok (.iconst 4, 1) := by decide +kernel
theorem dX3_init_173 : decode cX3_init 173 = .ok (.if_icmp .ge 22, 3) := by decide +kernel
theorem dX3_init_176 : decode cX3_init 176 = .ok (.aload_n 0, 1) := by decide +kernel
theorem dX3_init_177 : decode cX3_init 177 = .ok (.getfield 36, 3) := by decide +kernel
theorem dX3_init_180 : decode cX3_init 180 = .ok (.iload_n 1, 1) := by decide +kernel
theorem dX3_init_181 : decode cX3_init 181 = .ok (.new 34, 3) := by decide +kernel
theorem dX3_init_184 : decode cX3_init 184 = .ok (.dup, 1) := by decide +kernel
theorem dX3_init_185 : decode cX3_init 185 = .ok (.invokespecial 74, 3) := by decide +kernel
theorem dX3_init_188 : decode cX3_init 188 = .ok (.aastore, 1) := by decide +kernel
theorem dX3_init_189 : decode cX3_init 189 = .ok (.iinc 1 1, 3) := by decide +kernel
theorem dX3_init_192 : decode cX3_init 192 = .ok (.goto (-21), 3) := by decide +kernel
theorem dX3_init_195 : decode cX3_init 195 = .ok (.return_, 1) := by decide +kernel
theorem dX3_effect_0 : decode cX3_effect 0 = .ok (.iload_n 1, 1) := by decide +kernel
theorem dX3_effect_1 : decode cX3_effect 1 = .ok (.iload_n 2, 1) := by decide +kernel
theorem dX3_effect_2 : decode cX3_effect 2 = .ok (.iload_n 3, 1) := by decide +kernel
theorem dX3_effect_3 : decode cX3_effect 3 = .ok (.iload 4, 2) := by decide +kernel
theorem dX3_effect_5 : decode cX3_effect 5 = .ok (.iload 5, 2) := by decide +kernel
theorem dX3_effect_7 : decode cX3_effect 7 = .ok (.invokestatic 75, 3) := by decide +kernel
theorem dX3_effect_10 : decode cX3_effect 10 = .ok (.ifCond .ne 6, 3) := by decide +kernel
theorem dX3_effect_13 : decode cX3_effect 13 = .ok (.bipush (-2), 2) := by decide +kernel
theorem dX3_effect_15 : decode cX3_effect 15 = .ok (.ireturn, 1) := by decide +kernel
theorem dX3_effect_16 : decode cX3_effect 16 = .ok (.aload_n 0, 1) := by decide +kernel
theorem dX3_effect_17 : decode cX3_effect 17 = .ok (.getfield 15, 3) := by decide +kernel
theorem dX3_effect_20 : decode cX3_effect 20 = .ok (.bipush 12, 2) := by decide +kernel
theorem dX3_effect_22 : decode cX3_effect 22 = .ok (.if_icmp .lt 6, 3) := by decide +kernel
theorem dX3_effect_25 : decode cX3_effect 25 = .ok (.bipush (-4), 2) := by decide +kernel
theorem dX3_effect_27 : decode cX3_effect 27 = .ok (.ireturn, 1) := by decide +kernel
theorem dX3_effect_28 : decode cX3_effect 28 = .ok (.aload_n 0, 1) := by decide +kernel
theorem dX3_effect_29 : decode cX3_effect 29 = .ok (.getfield 15, 3) := by decide +kernel
theorem dX3_effect_32 : decode cX3_effect 32 = .ok (.istore 6, 2) := by decide +kernel
theorem dX3_effect_34 : decode cX3_effect 34 = .ok (.aload_n 0, 1) := by decide +kernel
theorem dX3_effect_35 : decode cX3_effect 35 = .ok (.getfield 11, 3) := by decide +kernel
theorem dX3_effect_38 : decode cX3_effect 38 = .ok (.iload 6, 2) := by decide +kernel
theorem dX3_effect_40 : decode cX3_effect 40 = .ok (.aaload, 1) := by decide +kernel
theorem dX3_effect_41 : decode cX3_effect 41 = .ok (.iload_n 1, 1) := by decide +kernel
theorem dX3_effect_42 : decode cX3_effect 42 = .ok (.iload_n 2, 1) := by decide +kernel
theorem dX3_effect_43 : decode cX3_effect 43 = .ok (.iload_n 3, 1) := by decide +kernel
theorem dX3_effect_44 : decode cX3_effect 44 = .ok (.iload 4, 2) := by decide +kernel
theorem dX3_effect_46 : decode cX3_effect 46 = .ok (.iload 5, 2) := by decide +kernel
theorem dX3_effect_48 : decode cX3_effect 48 = .ok (.invokevirtual 79, 3) := by decide +kernel
theorem dX3_effect_51 : decode cX3_effect 51 = .ok (.aload_n 0, 1) := by decide +kernel
theorem dX3_effect_52 : decode cX3_effect 52 = .ok (.dup, 1) := by decide +kernel
theorem dX3_effect_53 : decode cX3_effect 53 = .ok (.getfield 15, 3) := by decide +kernel
theorem dX3_effect_56 : decode cX3_effect 56 = .ok (.iconst 1, 1) := by decide +kernel
theorem dX3_effect_57 : decode cX3_effect 57 = .ok (.iadd, 1) := by decide +kernel
theorem dX3_effect_58 : decode cX3_effect 58 = .ok (.putfield 15, 3) := by decide +kernel
theorem dX3_effect_61 : decode cX3_effect 61 = .ok (.iload 6, 2) := by decide +kernel
theorem dX3_effect_63 : decode cX3_effect 63 = .ok (.ireturn, 1) := by decide +kernel
theorem dX3_set_0 : decode cX3_set 0 = .ok (.aload_n 0, 1) := by decide +kernel
theorem dX3_set_1 : decode cX3_set 1 = .ok (.iload_n 1, 1) := by decide +kernel
theorem dX3_set_2 : decode cX3_set 2 = .ok (.invokevirtual 83, 3) := by decide +kernel
theorem dX3_set_5 : decode cX3_set 5 = .ok (.ifCond .ne 5, 3) := by decide +kernel
theorem dX3_set_8 : decode cX3_set 8 = .ok (.iconst (-1), 1) := by decide +kernel
theorem dX3_set_9 : decode cX3_set 9 = .ok (.ireturn, 1) := by decide +kernel
theorem dX3_set_10 : decode cX3_set 10 = .ok (.iload_n 2, 1) := by decide +kernel
theorem dX3_set_11 : decode cX3_set 11 = .ok (.iload_n 3, 1) := by decide +kernel
theorem dX3_set_12 : decode cX3_set 12 = .ok (.invokestatic 87, 3) := by decide +kernel
theorem dX3_set_15 : decode cX3_set 15 = .ok (.ifCond .ne 6, 3) := by decide +kernel
theorem dX3_set_18 : decode cX3_set 18 = .ok (.bipush (-2), 2) := by decide +kernel
theorem dX3_set_20 : decode cX3_set 20 = .ok (.ireturn, 1) := by decide +kernel
theorem dX3_set_21 : decode cX3_set 21 = .ok (.aload_n 0, 1) := by decide +kernel
theorem dX3_set_22 : decode cX3_set 22 = .ok (.getfield 11, 3) := by decide +kernel
theorem dX3_set_25 : decode cX3_set 25 = .ok (.iload_n 1, 1) := by decide +kernel
theorem dX3_set_26 : decode cX3_set 26 = .ok (.aaload, 1) := by decide +kernel
theorem dX3_set_27 : decode cX3_set 27 = .ok (.iload_n 2, 1) := by decide +kernel
theorem dX3_set_28 : decode cX3_set 28 = .ok (.invokestatic 91, 3) := by decide +kernel
theorem dX3_set_31 : decode cX3_set 31 = .ok (.istore 4, 2) := by decide +kernel
theorem dX3_set_33 : decode cX3_set 33 = .ok (.aload_n 0, 1) := by decide +kernel
theorem dX3_set_34 : decode cX3_set 34 = .ok (.getfield 11, 3) := by decide +kernel
theorem dX3_set_37 : decode cX3_set 37 = .ok (.iload_n 1, 1) := by decide +kernel
theorem dX3_set_38 : decode cX3_set 38 = .ok (.aaload, 1) := by decide +kernel
theorem dX3_set_39 : decode cX3_set 39 = .ok (.getfield 95, 3) := by decide +kernel
theorem dX3_set_42 : decode cX3_set 42 = .ok (.iload_n 2, 1) := by decide +kernel
theorem dX3_set_43 : decode cX3_set 43 = .ok (.iload_n 3, 1) := by decide +kernel
theorem dX3_set_44 : decode cX3_set 44 = .ok (.iastore, 1) := by decide +kernel
theorem dX3_set_45 : decode cX3_set 45 = .ok (.iload 4, 2) := by decide +kernel
theorem dX3_set_47 : decode cX3_set 47 = .ok (.ireturn, 1) := by decide +kernel
theorem dX3_drop_0 : decode cX3_drop 0 = .ok (.aload_n 0, 1) := by decide +kernel
theorem dX3_drop_1 : decode cX3_drop 1 = .ok (.getfield 15, 3) := by decide +kernel
theorem dX3_drop_4 : decode cX3_drop 4 = .ok (.iconst 1, 1) := by decide +kernel
theorem dX3_drop_5 : decode cX3_drop 5 = .ok (.if_icmp .ge 6, 3) := by decide +kernel
theorem dX3_drop_8 : decode cX3_drop 8 = .ok (.bipush (-3), 2) := by decide +kernel
theorem dX3_drop_10 : decode cX3_drop 10 = .ok (.ireturn, 1) := by decide +kernel
theorem dX3_drop_11 : decode cX3_drop 11 = .ok (.aload_n 0, 1) := by decide +kernel
theorem dX3_drop_12 : decode cX3_drop 12 = .ok (.aload_n 0, 1) := by decide +kernel
theorem dX3_drop_13 : decode cX3_drop 13 = .ok (.getfield 11, 3) := by decide +kernel
theorem dX3_drop_16 : decode cX3_drop 16 = .ok (.aload_n 0, 1) := by decide +kernel
theorem dX3_drop_17 : decode cX3_drop 17 = .ok (.getfield 15, 3) := by decide +kernel
theorem dX3_drop_20 : decode cX3_drop 20 = .ok (.iconst 1, 1) := by decide +kernel
theorem dX3_drop_21 : decode cX3_drop 21 = .ok (.isub, 1) := by decide +kernel
theorem dX3_drop_22 : decode cX3_drop 22 = .ok (.aaload, 1) := by decide +kernel
theorem dX3_drop_23 : decode cX3_drop 23 = .ok (.invokevirtual 98, 3) := by decide +kernel
theorem dX3_drop_26 : decode cX3_drop 26 = .ok (.aload_n 0, 1) := by decide +kernel
theorem dX3_drop_27 : decode cX3_drop 27 = .ok (.dup, 1) := by decide +kernel
theorem dX3_drop_28 : decode cX3_drop 28 = .ok (.getfield 15, 3) := by decide +kernel
theorem dX3_drop_31 : decode cX3_drop 31 = .ok (.iconst 1, 1) := by decide +kernel
theorem dX3_drop_32 : decode cX3_drop 32 = .ok (.isub, 1) := by decide +kernel
theorem dX3_drop_33 : decode cX3_drop 33 = .ok (.putfield 15, 3) := by decide +kernel
theorem dX3_drop_36 : decode cX3_drop 36 = .ok (.aload_n 0, 1) := by decide +kernel
theorem dX3_drop_37 : decode cX3_drop 37 = .ok (.getfield 15, 3) := by decide +kernel
theorem dX3_drop_40 : decode cX3_drop 40 = .ok (.ireturn, 1) := by decide +kernel
theorem dX3_hand_0 : decode cX3_hand 0 = .ok (.iload_n 1, 1) := by decide +kernel
theorem dX3_hand_1 : decode cX3_hand 1 = .ok (.sipush (-1000), 3) := by decide +kernel
theorem dX3_hand_4 : decode cX3_hand 4 = .ok (.sipush 1000, 3) := by decide +kernel
theorem dX3_hand_7 : decode cX3_hand 7 = .ok (.invokestatic 102, 3) := by decide +kernel
theorem dX3_hand_10 : decode cX3_hand 10 = .ok (.ifCond .eq 16, 3) := by decide +kernel
theorem dX3_hand_13 : decode cX3_hand 13 = .ok (.iload_n 2, 1) := by decide +kernel
theorem dX3_hand_14 : decode cX3_hand 14 = .ok (.sipush (-1000), 3) := by decide +kernel
theorem dX3_hand_17 : decode cX3_hand 17 = .ok (.sipush 1000, 3) := by decide +kernel
theorem dX3_hand_20 : decode cX3_hand 20 = .ok (.invokestatic 102, 3) := by decide +kernel
theorem dX3_hand_23 : decode cX3_hand 23 = .ok (.ifCond .ne 6, 3) := by decide +kernel
theorem dX3_hand_26 : decode cX3_hand 26 = .ok (.bipush (-2), 2) := by decide +kernel
theorem dX3_hand_28 : decode cX3_hand 28 = .ok (.ireturn, 1) := by decide +kernel
theorem dX3_hand_29 : decode cX3_hand 29 = .ok (.aload_n 0, 1) := by decide +kernel
theorem dX3_hand_30 : decode cX3_hand 30 = .ok (.getfield 40, 3) := by decide +kernel
theorem dX3_hand_33 : decode cX3_hand 33 = .ok (.aload_n 0, 1) := by decide +kernel
theorem dX3_hand_34 : decode cX3_hand 34 = .ok (.getfield 31, 3) := by decide +kernel
theorem dX3_hand_37 : decode cX3_hand 37 = .ok (.isub, 1) := by decide +kernel
theorem dX3_hand_38 : decode cX3_hand 38 = .ok (.istore_n 3, 1) := by decide +kernel
theorem dX3_hand_39 : decode cX3_hand 39 = .ok (.aload_n 0, 1) := by decide +kernel
theorem dX3_hand_40 : decode cX3_hand 40 = .ok (.getfield 27, 3) := by decide +kernel
theorem dX3_hand_43 : decode cX3_hand 43 = .ok (.iconst 0, 1) := by decide +kernel
theorem dX3_hand_44 : decode cX3_hand 44 = .ok (.aaload, 1) := by decide +kernel
theorem dX3_hand_45 : decode cX3_hand 45 = .ok (.iload_n 1, 1) := by decide +kernel
theorem dX3_hand_46 : decode cX3_hand 46 = .ok (.iload_n 3, 1) := by decide +kernel
theorem dX3_hand_47 : decode cX3_hand 47 = .ok (.invokevirtual 106, 3) := by decide +kernel
theorem dX3_hand_50 : decode cX3_hand 50 = .ok (.aload_n 0, 1) := by decide +kernel
theorem dX3_hand_51 : decode cX3_hand 51 = .ok (.getfield 27, 3) := by decide +kernel
theorem dX3_hand_54 : decode cX3_hand 54 = .ok (.iconst 1, 1) := by decide +kernel
theorem dX3_hand_55 : decode cX3_hand 55 = .ok (.aaload, 1) := by decide +kernel
theorem dX3_hand_56 : decode cX3_hand 56 = .ok (.iload_n 2, 1) := by decide +kernel
theorem dX3_hand_57 : decode cX3_hand 57 = .ok (.iload_n 3, 1) := by decide +kernel
theorem dX3_hand_58 : decode cX3_hand 58 = .ok (.invokevirtual 106, 3) := by decide +kernel
theorem dX3_hand_61 : decode cX3_hand 61 = .ok (.aload_n 0, 1) := by decide +kernel
theorem dX3_hand_62 : decode cX3_hand 62 = .ok (.aload_n 0, 1) := by decide +kernel
theorem dX3_hand_63 : decode cX3_hand 63 = .ok (.getfield 40, 3) := by decide +kernel
theorem dX3_hand_66 : decode cX3_hand 66 = .ok (.putfield 31, 3) := by decide +kernel
theorem dX3_hand_69 : decode cX3_hand 69 = .ok (.iconst 1, 1) := by decide +kernel
theorem dX3_hand_70 : decode cX3_hand 70 = .ok (.ireturn, 1) := by decide +kernel
theorem dX3_ofAxis_0 : decode cX3_ofAxis 0 = .ok (.iload_n 1, 1) := by decide +kernel
theorem dX3_ofAxis_1 : decode cX3_ofAxis 1 = .ok (.invokestatic 110, 3) := by decide +kernel
theorem dX3_ofAxis_4 : decode cX3_ofAxis 4 = .ok (.ifCond .ne 5, 3) := by decide +kernel
theorem dX3_ofAxis_7 : decode cX3_ofAxis 7 = .ok (.iconst (-1), 1) := by decide +kernel
theorem dX3_ofAxis_8 : decode cX3_ofAxis 8 = .ok (.ireturn, 1) := by decide +kernel
theorem dX3_ofAxis_9 : decode cX3_ofAxis 9 = .ok (.iload_n 2, 1) := by decide +kernel
theorem dX3_ofAxis_10 : decode cX3_ofAxis 10 = .ok (.iconst 0, 1) := by decide +kernel
theorem dX3_ofAxis_11 : decode cX3_ofAxis 11 = .ok (.iconst 1, 1) := by decide +kernel
theorem dX3_ofAxis_12 : decode cX3_ofAxis 12 = .ok (.invokestatic 102, 3) := by decide +kernel
theorem dX3_ofAxis_15 : decode cX3_ofAxis 15 = .ok (.ifCond .ne 6, 3) := by decide +kernel
theorem dX3_ofAxis_18 : decode cX3_ofAxis 18 = .ok (.bipush (-2), 2) := by decide +kernel
theorem dX3_ofAxis_20 : decode cX3_ofAxis 20 = .ok (.ireturn, 1) := by decide +kernel
theorem dX3_ofAxis_21 : decode cX3_ofAxis 21 = .ok (.ldc 113, 2) := by decide +kernel
theorem dX3_ofAxis_23 : decode cX3_ofAxis 23 = .ok (.iload_n 2, 1) := by decide +kernel
theorem dX3_ofAxis_24 : decode cX3_ofAxis 24 = .ok (.ifCond .ne 15, 3) := by decide +kernel
theorem dX3_ofAxis_27 : decode cX3_ofAxis 27 = .ok (.aload_n 0, 1) := by decide +kernel
theorem dX3_ofAxis_28 : decode cX3_ofAxis 28 = .ok (.getfield 27, 3) := by decide +kernel
theorem dX3_ofAxis_31 : decode cX3_ofAxis 31 = .ok (.iload_n 1, 1) := by decide +kernel
theorem dX3_ofAxis_32 : decode cX3_ofAxis 32 = .ok (.aaload, 1) := by decide +kernel
theorem dX3_ofAxis_33 : decode cX3_ofAxis 33 = .ok (.getfield 114, 3) := by decide +kernel
theorem dX3_ofAxis_36 : decode cX3_ofAxis 36 = .ok (.goto 12, 3) := by decide +kernel
theorem dX3_ofAxis_39 : decode cX3_ofAxis 39 = .ok (.aload_n 0, 1) := by decide +kernel
theorem dX3_ofAxis_40 : decode cX3_ofAxis 40 = .ok (.getfield 27, 3) := by decide +kernel
theorem dX3_ofAxis_43 : decode cX3_ofAxis 43 = .ok (.iload_n 1, 1) := by decide +kernel
theorem dX3_ofAxis_44 : decode cX3_ofAxis 44 = .ok (.aaload, 1) := by decide +kernel
theorem dX3_ofAxis_45 : decode cX3_ofAxis 45 = .ok (.getfield 117, 3) := by decide +kernel
theorem dX3_ofAxis_48 : decode cX3_ofAxis 48 = .ok (.iadd, 1) := by decide +kernel
theorem dX3_ofAxis_49 : decode cX3_ofAxis 49 = .ok (.ireturn, 1) := by decide +kernel
theorem dX3_ofEffect_0 : decode cX3_ofEffect 0 = .ok (.aload_n 0, 1) := by decide +kernel
theorem dX3_ofEffect_1 : decode cX3_ofEffect 1 = .ok (.iload_n 1, 1) := by decide +kernel
theorem dX3_ofEffect_2 : decode cX3_ofEffect 2 = .ok (.invokevirtual 83, 3) := by decide +kernel
theorem dX3_ofEffect_5 : decode cX3_ofEffect 5 = .ok (.ifCond .ne 5, 3) := by decide +kernel
theorem dX3_ofEffect_8 : decode cX3_ofEffect 8 = .ok (.iconst (-1), 1) := by decide +kernel
theorem dX3_ofEffect_9 : decode cX3_ofEffect 9 = .ok (.ireturn, 1) := by decide +kernel
theorem dX3_ofEffect_10 : decode cX3_ofEffect 10 = .ok (.aload_n 0, 1) := by decide +kernel
theorem dX3_ofEffect_11 : decode cX3_ofEffect 11 = .ok (.getfield 11, 3) := by decide +kernel
theorem dX3_ofEffect_14 : decode cX3_ofEffect 14 = .ok (.iload_n 1, 1) := by decide +kernel
theorem dX3_ofEffect_15 : decode cX3_ofEffect 15 = .ok (.aaload, 1) := by decide +kernel
theorem dX3_ofEffect_16 : decode cX3_ofEffect 16 = .ok (.astore_n 3, 1) := by decide +kernel
theorem dX3_ofEffect_17 : decode cX3_ofEffect 17 = .ok (.iload_n 2, 1) := by decide +kernel
theorem dX3_ofEffect_18 : decode cX3_ofEffect 18 = .ok (.bipush 10, 2) := by decide +kernel
theorem dX3_ofEffect_20 : decode cX3_ofEffect 20 = .ok (.bipush 21, 2) := by decide +kernel
theorem dX3_ofEffect_22 : decode cX3_ofEffect 22 = .ok (.invokestatic 102, 3) := by decide +kernel
theorem dX3_ofEffect_25 : decode cX3_ofEffect 25 = .ok (.ifCond .eq 12, 3) := by decide +kernel
theorem dX3_ofEffect_28 : decode cX3_ofEffect 28 = .ok (.aload_n 3, 1) := by decide +kernel
theorem dX3_ofEffect_29 : decode cX3_ofEffect 29 = .ok (.iload_n 2, 1) := by decide +kernel
theorem dX3_ofEffect_30 : decode cX3_ofEffect 30 = .ok (.bipush 10, 2) := by decide +kernel
theorem dX3_ofEffect_32 : decode cX3_ofEffect 32 = .ok (.isub, 1) := by decide +kernel
theorem dX3_ofEffect_33 : decode cX3_ofEffect 33 = .ok (.invokestatic 91, 3) := by decide +kernel
theorem dX3_ofEffect_36 : decode cX3_ofEffect 36 = .ok (.ireturn, 1) := by decide +kernel
theorem dX3_ofEffect_37 : decode cX3_ofEffect 37 = .ok (.iload_n 2, 1) := by decide +kernel
theorem dX3_ofEffect_38 : decode cX3_ofEffect 38 = .ok (.tableswitch 143 0 8 #[50, 55, 64, 73, 82, 91, 96, 117, 138], 50) := by decide +kernel
theorem dX3_ofEffect_88 : decode cX3_ofEffect 88 = .ok (.aload_n 3, 1) := by decide +kernel
theorem dX3_ofEffect_89 : decode cX3_ofEffect 89 = .ok (.getfield 120, 3) := by decide +kernel
theorem dX3_ofEffect_92 : decode cX3_ofEffect 92 = .ok (.ireturn, 1) := by decide +kernel
theorem dX3_ofEffect_93 : decode cX3_ofEffect 93 = .ok (.aload_n 3, 1) := by decide +kernel
theorem dX3_ofEffect_94 : decode cX3_ofEffect 94 = .ok (.getfield 123, 3) := by decide +kernel
theorem dX3_ofEffect_97 : decode cX3_ofEffect 97 = .ok (.sipush 10000, 3) := by decide +kernel
theorem dX3_ofEffect_100 : decode cX3_ofEffect 100 = .ok (.iadd, 1) := by decide +kernel
theorem dX3_ofEffect_101 : decode cX3_ofEffect 101 = .ok (.ireturn, 1) := by decide +kernel
theorem dX3_ofEffect_102 : decode cX3_ofEffect 102 = .ok (.aload_n 3, 1) := by decide +kernel
theorem dX3_ofEffect_103 : decode cX3_ofEffect 103 = .ok (.getfield 126, 3) := by decide +kernel
theorem dX3_ofEffect_106 : decode cX3_ofEffect 106 = .ok (.sipush 10000, 3) := by decide +kernel
theorem dX3_ofEffect_109 : decode cX3_ofEffect 109 = .ok (.iadd, 1) := by decide +kernel
theorem dX3_ofEffect_110 : decode cX3_ofEffect 110 = .ok (.ireturn, 1) := by decide +kernel
theorem dX3_ofEffect_111 : decode cX3_ofEffect 111 = .ok (.aload_n 3, 1) := by decide +kernel
theorem dX3_ofEffect_112 : decode cX3_ofEffect 112 = .ok (.getfield 129, 3) := by decide +kernel
theorem dX3_ofEffect_115 : decode cX3_ofEffect 115 = .ok (.sipush 10000, 3) := by decide +kernel
theorem dX3_ofEffect_118 : decode cX3_ofEffect 118 = .ok (.iadd, 1) := by decide +kernel
theorem dX3_ofEffect_119 : decode cX3_ofEffect 119 = .ok (.ireturn, 1) := by decide +kernel
theorem dX3_ofEffect_120 : decode cX3_ofEffect 120 = .ok (.aload_n 3, 1) := by decide +kernel
theorem dX3_ofEffect_121 : decode cX3_ofEffect 121 = .ok (.getfield 132, 3) := by decide +kernel
theorem dX3_ofEffect_124 : decode cX3_ofEffect 124 = .ok (.sipush 10000, 3) := by decide +kernel
theorem dX3_ofEffect_127 : decode cX3_ofEffect 127 = .ok (.iadd, 1) := by decide +kernel
theorem dX3_ofEffect_128 : decode cX3_ofEffect 128 = .ok (.ireturn, 1) := by decide +kernel
theorem dX3_ofEffect_129 : decode cX3_ofEffect 129 = .ok (.aload_n 3, 1) := by decide +kernel
theorem dX3_ofEffect_130 : decode cX3_ofEffect 130 = .ok (.getfield 135, 3) := by decide +kernel
theorem dX3_ofEffect_133 : decode cX3_ofEffect 133 = .ok (.ireturn, 1) := by decide +kernel
theorem dX3_ofEffect_134 : decode cX3_ofEffect 134 = .ok (.aload_n 3, 1) := by decide +kernel
theorem dX3_ofEffect_135 : decode cX3_ofEffect 135 = .ok (.aload_n 3, 1) := by decide +kernel
theorem dX3_ofEffect_136 : decode cX3_ofEffect 136 = .ok (.getfield 138, 3) := by decide +kernel
theorem dX3_ofEffect_139 : decode cX3_ofEffect 139 = .ok (.aload_n 0, 1) := by decide +kernel
theorem dX3_ofEffect_140 : decode cX3_ofEffect 140 = .ok (.getfield 40, 3) := by decide +kernel
theorem dX3_ofEffect_143 : decode cX3_ofEffect 143 = .ok (.invokevirtual 141, 3) := by decide +kernel
theorem dX3_ofEffect_146 : decode cX3_ofEffect 146 = .ok (.ifCond .eq 7, 3) := by decide +kernel
theorem dX3_ofEffect_149 : decode cX3_ofEffect 149 = .ok (.iconst 1, 1) := by decide +kernel
theorem dX3_ofEffect_150 : decode cX3_ofEffect 150 = .ok (.goto 4, 3) := by decide +kernel
theorem dX3_ofEffect_153 : decode cX3_ofEffect 153 = .ok (.iconst 0, 1) := by decide +kernel
theorem dX3_ofEffect_154 : decode cX3_ofEffect 154 = .ok (.ireturn, 1) := by decide +kernel
theorem dX3_ofEffect_155 : decode cX3_ofEffect 155 = .ok (.aload_n 3, 1) := by decide +kernel
theorem dX3_ofEffect_156 : decode cX3_ofEffect 156 = .ok (.aload_n 3, 1) := by decide +kernel
theorem dX3_ofEffect_157 : decode cX3_ofEffect 157 = .ok (.getfield 138, 3) := by decide +kernel
theorem dX3_ofEffect_160 : decode cX3_ofEffect 160 = .ok (.aload_n 0, 1) := by decide +kernel
theorem dX3_ofEffect_161 : decode cX3_ofEffect 161 = .ok (.getfield 40, 3) := by decide +kernel
theorem dX3_ofEffect_164 : decode cX3_ofEffect 164 = .ok (.invokevirtual 144, 3) := by decide +kernel
theorem dX3_ofEffect_167 : decode cX3_ofEffect 167 = .ok (.ifCond .eq 7, 3) := by decide +kernel
theorem dX3_ofEffect_170 : decode cX3_ofEffect 170 = .ok (.iconst 1, 1) := by decide +kernel
theorem dX3_ofEffect_171 : decode cX3_ofEffect 171 = .ok (.goto 4, 3) := by decide +kernel
theorem dX3_ofEffect_174 : decode cX3_ofEffect 174 = .ok (.iconst 0, 1) := by decide +kernel
theorem dX3_ofEffect_175 : decode cX3_ofEffect 175 = .ok (.ireturn, 1) := by decide +kernel
theorem dX3_ofEffect_176 : decode cX3_ofEffect 176 = .ok (.aload_n 3, 1) := by decide +kernel
theorem dX3_ofEffect_177 : decode cX3_ofEffect 177 = .ok (.getfield 138, 3) := by decide +kernel
theorem dX3_ofEffect_180 : decode cX3_ofEffect 180 = .ok (.ireturn, 1) := by decide +kernel
theorem dX3_ofEffect_181 : decode cX3_ofEffect 181 = .ok (.bipush (-2), 2) := by decide +kernel
theorem dX3_ofEffect_183 : decode cX3_ofEffect 183 = .ok (.ireturn, 1) := by decide +kernel
theorem dX3_slots_0 : decode cX3_slots 0 = .ok (.iload_n 1, 1) := by decide +kernel
theorem dX3_slots_1 : decode cX3_slots 1 = .ok (.iconst 1, 1) := by decide +kernel
theorem dX3_slots_2 : decode cX3_slots 2 = .ok (.bipush 6, 2) := by decide +kernel
theorem dX3_slots_4 : decode cX3_slots 4 = .ok (.invokestatic 102, 3) := by decide +kernel
theorem dX3_slots_7 : decode cX3_slots 7 = .ok (.ifCond .ne 6, 3) := by decide +kernel
theorem dX3_slots_10 : decode cX3_slots 10 = .ok (.bipush (-2), 2) := by decide +kernel
theorem dX3_slots_12 : decode cX3_slots 12 = .ok (.ireturn, 1) := by decide +kernel
theorem dX3_slots_13 : decode cX3_slots 13 = .ok (.iload_n 1, 1) := by decide +kernel
theorem dX3_slots_14 : decode cX3_slots 14 = .ok (.istore_n 2, 1) := by decide +kernel
theorem dX3_slots_15 : decode cX3_slots 15 = .ok (.iload_n 2, 1) := by decide +kernel
theorem dX3_slots_16 : decode cX3_slots 16 = .ok (.bipush 6, 2) := by decide +kernel
theorem dX3_slots_18 : decode cX3_slots 18 = .ok (.if_icmp .ge 21, 3) := by decide +kernel
theorem dX3_slots_21 : decode cX3_slots 21 = .ok (.aload_n 0, 1) := by decide +kernel
theorem dX3_slots_22 : decode cX3_slots 22 = .ok (.getfield 19, 3) := by decide +kernel
theorem dX3_slots_25 : decode cX3_slots 25 = .ok (.iload_n 2, 1) := by decide +kernel
theorem dX3_slots_26 : decode cX3_slots 26 = .ok (.aaload, 1) := by decide +kernel
theorem dX3_slots_27 : decode cX3_slots 27 = .ok (.ifnull 6, 3) := by decide +kernel
theorem dX3_slots_30 : decode cX3_slots 30 = .ok (.bipush (-3), 2) := by decide +kernel
theorem dX3_slots_32 : decode cX3_slots 32 = .ok (.ireturn, 1) := by decide +kernel
theorem dX3_slots_33 : decode cX3_slots 33 = .ok (.iinc 2 1, 3) := by decide +kernel
theorem dX3_slots_36 : decode cX3_slots 36 = .ok (.goto (-21), 3) := by decide +kernel
theorem dX3_slots_39 : decode cX3_slots 39 = .ok (.aload_n 0, 1) := by decide +kernel
theorem dX3_slots_40 : decode cX3_slots 40 = .ok (.getfield 22, 3) := by decide +kernel
theorem dX3_slots_43 : decode cX3_slots 43 = .ok (.istore_n 2, 1) := by decide +kernel
theorem dX3_slots_44 : decode cX3_slots 44 = .ok (.aload_n 0, 1) := by decide +kernel
theorem dX3_slots_45 : decode cX3_slots 45 = .ok (.iload_n 1, 1) := by decide +kernel
theorem dX3_slots_46 : decode cX3_slots 46 = .ok (.putfield 22, 3) := by decide +kernel
theorem dX3_slots_49 : decode cX3_slots 49 = .ok (.iload_n 2, 1) := by decide +kernel
theorem dX3_slots_50 : decode cX3_slots 50 = .ok (.ireturn, 1) := by decide +kernel
theorem dX3_slot_0 : decode cX3_slot 0 = .ok (.iload_n 1, 1) := by decide +kernel
theorem dX3_slot_1 : decode cX3_slot 1 = .ok (.ifCond .lt 17, 3) := by decide +kernel
theorem dX3_slot_4 : decode cX3_slot 4 = .ok (.iload_n 1, 1) := by decide +kernel
theorem dX3_slot_5 : decode cX3_slot 5 = .ok (.aload_n 0, 1) := by decide +kernel
theorem dX3_slot_6 : decode cX3_slot 6 = .ok (.getfield 22, 3) := by decide +kernel
theorem dX3_slot_9 : decode cX3_slot 9 = .ok (.if_icmp .ge 9, 3) := by decide +kernel
theorem dX3_slot_12 : decode cX3_slot 12 = .ok (.iload_n 1, 1) := by decide +kernel
theorem dX3_slot_13 : decode cX3_slot 13 = .ok (.bipush 6, 2) := by decide +kernel
theorem dX3_slot_15 : decode cX3_slot 15 = .ok (.if_icmp .lt 5, 3) := by decide +kernel
theorem dX3_slot_18 : decode cX3_slot 18 = .ok (.iconst (-1), 1) := by decide +kernel
theorem dX3_slot_19 : decode cX3_slot 19 = .ok (.ireturn, 1) := by decide +kernel
theorem dX3_slot_20 : decode cX3_slot 20 = .ok (.aload_n 0, 1) := by decide +kernel
theorem dX3_slot_21 : decode cX3_slot 21 = .ok (.getfield 19, 3) := by decide +kernel
theorem dX3_slot_24 : decode cX3_slot 24 = .ok (.iload_n 1, 1) := by decide +kernel
theorem dX3_slot_25 : decode cX3_slot 25 = .ok (.aaload, 1) := by decide +kernel
theorem dX3_slot_26 : decode cX3_slot 26 = .ok (.astore_n 2, 1) := by decide +kernel
theorem dX3_slot_27 : decode cX3_slot 27 = .ok (.aload_n 2, 1) := by decide +kernel
theorem dX3_slot_28 : decode cX3_slot 28 = .ok (.ifnonnull 8, 3) := by decide +kernel
theorem dX3_slot_31 : decode cX3_slot 31 = .ok (.bipush (-9), 2) := by decide +kernel
theorem dX3_slot_33 : decode cX3_slot 33 = .ok (.goto 7, 3) := by decide +kernel
theorem dX3_slot_36 : decode cX3_slot 36 = .ok (.aload_n 2, 1) := by decide +kernel
theorem dX3_slot_37 : decode cX3_slot 37 = .ok (.getfield 147, 3) := by decide +kernel
theorem dX3_slot_40 : decode cX3_slot 40 = .ok (.ireturn, 1) := by decide +kernel
theorem dX3_load_0 : decode cX3_load 0 = .ok (.aload_n 0, 1) := by decide +kernel
theorem dX3_load_1 : decode cX3_load 1 = .ok (.iload_n 1, 1) := by decide +kernel
theorem dX3_load_2 : decode cX3_load 2 = .ok (.invokevirtual 83, 3) := by decide +kernel
theorem dX3_load_5 : decode cX3_load 5 = .ok (.ifCond .ne 5, 3) := by decide +kernel
theorem dX3_load_8 : decode cX3_load 8 = .ok (.iconst (-1), 1) := by decide +kernel
theorem dX3_load_9 : decode cX3_load 9 = .ok (.ireturn, 1) := by decide +kernel
theorem dX3_load_10 : decode cX3_load 10 = .ok (.aload_n 0, 1) := by decide +kernel
theorem dX3_load_11 : decode cX3_load 11 = .ok (.aload_n 0, 1) := by decide +kernel
theorem dX3_load_12 : decode cX3_load 12 = .ok (.getfield 11, 3) := by decide +kernel
theorem dX3_load_15 : decode cX3_load 15 = .ok (.iload_n 1, 1) := by decide +kernel
theorem dX3_load_16 : decode cX3_load 16 = .ok (.aaload, 1) := by decide +kernel
theorem dX3_load_17 : decode cX3_load 17 = .ok (.invokevirtual 150, 3) := by decide +kernel
theorem dX3_load_20 : decode cX3_load 20 = .ok (.ireturn, 1) := by decide +kernel
theorem dX3_unload_0 : decode cX3_unload 0 = .ok (.aload_n 0, 1) := by decide +kernel
theorem dX3_unload_1 : decode cX3_unload 1 = .ok (.iload_n 1, 1) := by decide +kernel
theorem dX3_unload_2 : decode cX3_unload 2 = .ok (.invokevirtual 83, 3) := by decide +kernel
theorem dX3_unload_5 : decode cX3_unload 5 = .ok (.ifCond .ne 5, 3) := by decide +kernel
theorem dX3_unload_8 : decode cX3_unload 8 = .ok (.iconst (-1), 1) := by decide +kernel
theorem dX3_unload_9 : decode cX3_unload 9 = .ok (.ireturn, 1) := by decide +kernel
theorem dX3_unload_10 : decode cX3_unload 10 = .ok (.aload_n 0, 1) := by decide +kernel
theorem dX3_unload_11 : decode cX3_unload 11 = .ok (.getfield 11, 3) := by decide +kernel
theorem dX3_unload_14 : decode cX3_unload 14 = .ok (.iload_n 1, 1) := by decide +kernel
theorem dX3_unload_15 : decode cX3_unload 15 = .ok (.aaload, 1) := by decide +kernel
theorem dX3_unload_16 : decode cX3_unload 16 = .ok (.getfield 135, 3) := by decide +kernel
theorem dX3_unload_19 : decode cX3_unload 19 = .ok (.istore_n 2, 1) := by decide +kernel
theorem dX3_unload_20 : decode cX3_unload 20 = .ok (.iload_n 2, 1) := by decide +kernel
theorem dX3_unload_21 : decode cX3_unload 21 = .ok (.bipush (-9), 2) := by decide +kernel
theorem dX3_unload_23 : decode cX3_unload 23 = .ok (.if_icmp .ne 6, 3) := by decide +kernel
theorem dX3_unload_26 : decode cX3_unload 26 = .ok (.bipush (-3), 2) := by decide +kernel
theorem dX3_unload_28 : decode cX3_unload 28 = .ok (.ireturn, 1) := by decide +kernel
theorem dX3_unload_29 : decode cX3_unload 29 = .ok (.aload_n 0, 1) := by decide +kernel
theorem dX3_unload_30 : decode cX3_unload 30 = .ok (.aload_n 0, 1) := by decide +kernel
theorem dX3_unload_31 : decode cX3_unload 31 = .ok (.getfield 11, 3) := by decide +kernel
theorem dX3_unload_34 : decode cX3_unload 34 = .ok (.iload_n 1, 1) := by decide +kernel
theorem dX3_unload_35 : decode cX3_unload 35 = .ok (.aaload, 1) := by decide +kernel
theorem dX3_unload_36 : decode cX3_unload 36 = .ok (.invokevirtual 98, 3) := by decide +kernel
theorem dX3_unload_39 : decode cX3_unload 39 = .ok (.iload_n 2, 1) := by decide +kernel
theorem dX3_unload_40 : decode cX3_unload 40 = .ok (.ireturn, 1) := by decide +kernel
theorem dX3_play_0 : decode cX3_play 0 = .ok (.aload_n 0, 1) := by decide +kernel
theorem dX3_play_1 : decode cX3_play 1 = .ok (.iload_n 1, 1) := by decide +kernel
theorem dX3_play_2 : decode cX3_play 2 = .ok (.invokevirtual 83, 3) := by decide +kernel
theorem dX3_play_5 : decode cX3_play 5 = .ok (.ifCond .ne 5, 3) := by decide +kernel
theorem dX3_play_8 : decode cX3_play 8 = .ok (.iconst (-1), 1) := by decide +kernel
theorem dX3_play_9 : decode cX3_play 9 = .ok (.ireturn, 1) := by decide +kernel
theorem dX3_play_10 : decode cX3_play 10 = .ok (.aload_n 0, 1) := by decide +kernel
theorem dX3_play_11 : decode cX3_play 11 = .ok (.getfield 49, 3) := by decide +kernel
theorem dX3_play_14 : decode cX3_play 14 = .ok (.ifCond .eq 6, 3) := by decide +kernel
theorem dX3_play_17 : decode cX3_play 17 = .ok (.bipush (-3), 2) := by decide +kernel
theorem dX3_play_19 : decode cX3_play 19 = .ok (.ireturn, 1) := by decide +kernel
theorem dX3_play_20 : decode cX3_play 20 = .ok (.aload_n 0, 1) := by decide +kernel
theorem dX3_play_21 : decode cX3_play 21 = .ok (.aload_n 0, 1) := by decide +kernel
theorem dX3_play_22 : decode cX3_play 22 = .ok (.getfield 11, 3) := by decide +kernel
theorem dX3_play_25 : decode cX3_play 25 = .ok (.iload_n 1, 1) := by decide +kernel
theorem dX3_play_26 : decode cX3_play 26 = .ok (.aaload, 1) := by decide +kernel
theorem dX3_play_27 : decode cX3_play 27 = .ok (.invokevirtual 150, 3) := by decide +kernel
theorem dX3_play_30 : decode cX3_play 30 = .ok (.istore_n 2, 1) := by decide +kernel
theorem dX3_play_31 : decode cX3_play 31 = .ok (.iload_n 2, 1) := by decide +kernel
theorem dX3_play_32 : decode cX3_play 32 = .ok (.bipush (-4), 2) := by decide +kernel
theorem dX3_play_34 : decode cX3_play 34 = .ok (.if_icmp .eq 16, 3) := by decide +kernel
theorem dX3_play_37 : decode cX3_play 37 = .ok (.aload_n 0, 1) := by decide +kernel
theorem dX3_play_38 : decode cX3_play 38 = .ok (.getfield 11, 3) := by decide +kernel
theorem dX3_play_41 : decode cX3_play 41 = .ok (.iload_n 1, 1) := by decide +kernel
theorem dX3_play_42 : decode cX3_play 42 = .ok (.aaload, 1) := by decide +kernel
theorem dX3_play_43 : decode cX3_play 43 = .ok (.aload_n 0, 1) := by decide +kernel
theorem dX3_play_44 : decode cX3_play 44 = .ok (.getfield 40, 3) := by decide +kernel
theorem dX3_play_47 : decode cX3_play 47 = .ok (.putfield 138, 3) := by decide +kernel
theorem dX3_play_50 : decode cX3_play 50 = .ok (.iload_n 2, 1) := by decide +kernel
theorem dX3_play_51 : decode cX3_play 51 = .ok (.ireturn, 1) := by decide +kernel
theorem dX3_stop_0 : decode cX3_stop 0 = .ok (.aload_n 0, 1) := by decide +kernel
theorem dX3_stop_1 : decode cX3_stop 1 = .ok (.iload_n 1, 1) := by decide +kernel
theorem dX3_stop_2 : decode cX3_stop 2 = .ok (.invokevirtual 83, 3) := by decide +kernel
theorem dX3_stop_5 : decode cX3_stop 5 = .ok (.ifCond .ne 5, 3) := by decide +kernel
theorem dX3_stop_8 : decode cX3_stop 8 = .ok (.iconst (-1), 1) := by decide +kernel
theorem dX3_stop_9 : decode cX3_stop 9 = .ok (.ireturn, 1) := by decide +kernel
theorem dX3_stop_10 : decode cX3_stop 10 = .ok (.aload_n 0, 1) := by decide +kernel
theorem dX3_stop_11 : decode cX3_stop 11 = .ok (.getfield 11, 3) := by decide +kernel
theorem dX3_stop_14 : decode cX3_stop 14 = .ok (.iload_n 1, 1) := by decide +kernel
theorem dX3_stop_15 : decode cX3_stop 15 = .ok (.aaload, 1) := by decide +kernel
theorem dX3_stop_16 : decode cX3_stop 16 = .ok (.astore_n 2, 1) := by decide +kernel
theorem dX3_stop_17 : decode cX3_stop 17 = .ok (.aload_n 2, 1) := by decide +kernel
theorem dX3_stop_18 : decode cX3_stop 18 = .ok (.aload_n 2, 1) := by decide +kernel
theorem dX3_stop_19 : decode cX3_stop 19 = .ok (.getfield 138, 3) := by decide +kernel
theorem dX3_stop_22 : decode cX3_stop 22 = .ok (.aload_n 0, 1) := by decide +kernel
theorem dX3_stop_23 : decode cX3_stop 23 = .ok (.getfield 40, 3) := by decide +kernel
theorem dX3_stop_26 : decode cX3_stop 26 = .ok (.invokevirtual 141, 3) := by decide +kernel
theorem dX3_stop_29 : decode cX3_stop 29 = .ok (.ifCond .eq 7, 3) := by decide +kernel
theorem dX3_stop_32 : decode cX3_stop 32 = .ok (.iconst 1, 1) := by decide +kernel
theorem dX3_stop_33 : decode cX3_stop 33 = .ok (.goto 4, 3) := by decide +kernel
theorem dX3_stop_36 : decode cX3_stop 36 = .ok (.iconst 0, 1) := by decide +kernel
theorem dX3_stop_37 : decode cX3_stop 37 = .ok (.istore_n 3, 1) := by decide +kernel
theorem dX3_stop_38 : decode cX3_stop 38 = .ok (.aload_n 2, 1) := by decide +kernel
theorem dX3_stop_39 : decode cX3_stop 39 = .ok (.bipush (-9), 2) := by decide +kernel
theorem dX3_stop_41 : decode cX3_stop 41 = .ok (.putfield 138, 3) := by decide +kernel
theorem dX3_stop_44 : decode cX3_stop 44 = .ok (.iload_n 3, 1) := by decide +kernel
theorem dX3_stop_45 : decode cX3_stop 45 = .ok (.ireturn, 1) := by decide +kernel
theorem dX3_press_0 : decode cX3_press 0 = .ok (.iload_n 1, 1) := by decide +kernel
theorem dX3_press_1 : decode cX3_press 1 = .ok (.invokestatic 154, 3) := by decide +kernel
theorem dX3_press_4 : decode cX3_press 4 = .ok (.ifCond .ne 5, 3) := by decide +kernel
theorem dX3_press_7 : decode cX3_press 7 = .ok (.iconst (-1), 1) := by decide +kernel
theorem dX3_press_8 : decode cX3_press 8 = .ok (.ireturn, 1) := by decide +kernel
theorem dX3_press_9 : decode cX3_press 9 = .ok (.aload_n 0, 1) := by decide +kernel
theorem dX3_press_10 : decode cX3_press 10 = .ok (.getfield 36, 3) := by decide +kernel
theorem dX3_press_13 : decode cX3_press 13 = .ok (.iload_n 1, 1) := by decide +kernel
theorem dX3_press_14 : decode cX3_press 14 = .ok (.aaload, 1) := by decide +kernel
theorem dX3_press_15 : decode cX3_press 15 = .ok (.getfield 157, 3) := by decide +kernel
theorem dX3_press_18 : decode cX3_press 18 = .ok (.ifCond .ne 10, 3) := by decide +kernel
theorem dX3_press_21 : decode cX3_press 21 = .ok (.aload_n 0, 1) := by decide +kernel
theorem dX3_press_22 : decode cX3_press 22 = .ok (.getfield 49, 3) := by decide +kernel
theorem dX3_press_25 : decode cX3_press 25 = .ok (.ifCond .eq 6, 3) := by decide +kernel
theorem dX3_press_28 : decode cX3_press 28 = .ok (.bipush (-3), 2) := by decide +kernel
theorem dX3_press_30 : decode cX3_press 30 = .ok (.ireturn, 1) := by decide +kernel
theorem dX3_press_31 : decode cX3_press 31 = .ok (.aload_n 0, 1) := by decide +kernel
theorem dX3_press_32 : decode cX3_press 32 = .ok (.getfield 36, 3) := by decide +kernel
theorem dX3_press_35 : decode cX3_press 35 = .ok (.iload_n 1, 1) := by decide +kernel
theorem dX3_press_36 : decode cX3_press 36 = .ok (.aaload, 1) := by decide +kernel
theorem dX3_press_37 : decode cX3_press 37 = .ok (.iconst 1, 1) := by decide +kernel
theorem dX3_press_38 : decode cX3_press 38 = .ok (.putfield 157, 3) := by decide +kernel
theorem dX3_press_41 : decode cX3_press 41 = .ok (.aload_n 0, 1) := by decide +kernel
theorem dX3_press_42 : decode cX3_press 42 = .ok (.getfield 36, 3) := by decide +kernel
theorem dX3_press_45 : decode cX3_press 45 = .ok (.iload_n 1, 1) := by decide +kernel
theorem dX3_press_46 : decode cX3_press 46 = .ok (.aaload, 1) := by decide +kernel
theorem dX3_press_47 : decode cX3_press 47 = .ok (.aload_n 0, 1) := by decide +kernel
theorem dX3_press_48 : decode cX3_press 48 = .ok (.getfield 40, 3) := by decide +kernel
theorem dX3_press_51 : decode cX3_press 51 = .ok (.putfield 160, 3) := by decide +kernel
theorem dX3_press_54 : decode cX3_press 54 = .ok (.iconst 0, 1) := by decide +kernel
theorem dX3_press_55 : decode cX3_press 55 = .ok (.istore_n 2, 1) := by decide +kernel
theorem dX3_press_56 : decode cX3_press 56 = .ok (.iconst 0, 1) := by decide +kernel
theorem dX3_press_57 : decode cX3_press 57 = .ok (.istore_n 3, 1) := by decide +kernel
theorem dX3_press_58 : decode cX3_press 58 = .ok (.iload_n 3, 1) := by decide +kernel
theorem dX3_press_59 : decode cX3_press 59 = .ok (.bipush 6, 2) := by decide +kernel
theorem dX3_press_61 : decode cX3_press 61 = .ok (.if_icmp .ge 61, 3) := by decide +kernel
theorem dX3_press_64 : decode cX3_press 64 = .ok (.aload_n 0, 1) := by decide +kernel
theorem dX3_press_65 : decode cX3_press 65 = .ok (.getfield 19, 3) := by decide +kernel
theorem dX3_press_68 : decode cX3_press 68 = .ok (.iload_n 3, 1) := by decide +kernel
theorem dX3_press_69 : decode cX3_press 69 = .ok (.aaload, 1) := by decide +kernel
theorem dX3_press_70 : decode cX3_press 70 = .ok (.astore 4, 2) := by decide +kernel
theorem dX3_press_72 : decode cX3_press 72 = .ok (.aload 4, 2) := by decide +kernel
theorem dX3_press_74 : decode cX3_press 74 = .ok (.ifnull 42, 3) := by decide +kernel
theorem dX3_press_77 : decode cX3_press 77 = .ok (.aload 4, 2) := by decide +kernel
theorem dX3_press_79 : decode cX3_press 79 = .ok (.getfield 95, 3) := by decide +kernel
theorem dX3_press_82 : decode cX3_press 82 = .ok (.bipush 10, 2) := by decide +kernel
theorem dX3_press_84 : decode cX3_press 84 = .ok (.iaload, 1) := by decide +kernel
theorem dX3_press_85 : decode cX3_press 85 = .ok (.iload_n 1, 1) := by decide +kernel
theorem dX3_press_86 : decode cX3_press 86 = .ok (.if_icmp .ne 30, 3) := by decide +kernel
theorem dX3_press_89 : decode cX3_press 89 = .ok (.aload 4, 2) := by decide +kernel
theorem dX3_press_91 : decode cX3_press 91 = .ok (.aload_n 0, 1) := by decide +kernel
theorem dX3_press_92 : decode cX3_press 92 = .ok (.getfield 40, 3) := by decide +kernel
theorem dX3_press_95 : decode cX3_press 95 = .ok (.putfield 138, 3) := by decide +kernel
theorem dX3_press_98 : decode cX3_press 98 = .ok (.aload 4, 2) := by decide +kernel
theorem dX3_press_100 : decode cX3_press 100 = .ok (.getfield 163, 3) := by decide +kernel
theorem dX3_press_103 : decode cX3_press 103 = .ok (.iload_n 1, 1) := by decide +kernel
theorem dX3_press_104 : decode cX3_press 104 = .ok (.aload 4, 2) := by decide +kernel
theorem dX3_press_106 : decode cX3_press 106 = .ok (.getfield 95, 3) := by decide +kernel
theorem dX3_press_109 : decode cX3_press 109 = .ok (.bipush 11, 2) := by decide +kernel
theorem dX3_press_111 : decode cX3_press 111 = .ok (.iaload, 1) := by decide +kernel
theorem dX3_press_112 : decode cX3_press 112 = .ok (.iastore, 1) := by decide +kernel
theorem dX3_press_113 : decode cX3_press 113 = .ok (.iinc 2 1, 3) := by decide +kernel
theorem dX3_press_116 : decode cX3_press 116 = .ok (.iinc 3 1, 3) := by decide +kernel
theorem dX3_press_119 : decode cX3_press 119 = .ok (.goto (-61), 3) := by decide +kernel
theorem dX3_press_122 : decode cX3_press 122 = .ok (.iload_n 2, 1) := by decide +kernel
theorem dX3_press_123 : decode cX3_press 123 = .ok (.ireturn, 1) := by decide +kernel
theorem dX3_free_0 : decode cX3_free 0 = .ok (.iload_n 1, 1) := by decide +kernel
theorem dX3_free_1 : decode cX3_free 1 = .ok (.invokestatic 154, 3) := by decide +kernel
theorem dX3_free_4 : decode cX3_free 4 = .ok (.ifCond .ne 5, 3) := by decide +kernel
theorem dX3_free_7 : decode cX3_free 7 = .ok (.iconst (-1), 1) := by decide +kernel
theorem dX3_free_8 : decode cX3_free 8 = .ok (.ireturn, 1) := by decide +kernel
theorem dX3_free_9 : decode cX3_free 9 = .ok (.aload_n 0, 1) := by decide +kernel
theorem dX3_free_10 : decode cX3_free 10 = .ok (.getfield 36, 3) := by decide +kernel
theorem dX3_free_13 : decode cX3_free 13 = .ok (.iload_n 1, 1) := by decide +kernel
theorem dX3_free_14 : decode cX3_free 14 = .ok (.aaload, 1) := by decide +kernel
theorem dX3_free_15 : decode cX3_free 15 = .ok (.getfield 157, 3) := by decide +kernel
theorem dX3_free_18 : decode cX3_free 18 = .ok (.ifCond .ne 6, 3) := by decide +kernel
theorem dX3_free_21 : decode cX3_free 21 = .ok (.bipush (-3), 2) := by decide +kernel
theorem dX3_free_23 : decode cX3_free 23 = .ok (.ireturn, 1) := by decide +kernel
theorem dX3_free_24 : decode cX3_free 24 = .ok (.aload_n 0, 1) := by decide +kernel
theorem dX3_free_25 : decode cX3_free 25 = .ok (.iload_n 1, 1) := by decide +kernel
theorem dX3_free_26 : decode cX3_free 26 = .ok (.invokevirtual 166, 3) := by decide +kernel
theorem dX3_free_29 : decode cX3_free 29 = .ok (.aload_n 0, 1) := by decide +kernel
theorem dX3_free_30 : decode cX3_free 30 = .ok (.getfield 40, 3) := by decide +kernel
theorem dX3_free_33 : decode cX3_free 33 = .ok (.aload_n 0, 1) := by decide +kernel
theorem dX3_free_34 : decode cX3_free 34 = .ok (.getfield 36, 3) := by decide +kernel
theorem dX3_free_37 : decode cX3_free 37 = .ok (.iload_n 1, 1) := by decide +kernel
theorem dX3_free_38 : decode cX3_free 38 = .ok (.aaload, 1) := by decide +kernel
theorem dX3_free_39 : decode cX3_free 39 = .ok (.getfield 160, 3) := by decide +kernel
theorem dX3_free_42 : decode cX3_free 42 = .ok (.isub, 1) := by decide +kernel
theorem dX3_free_43 : decode cX3_free 43 = .ok (.ireturn, 1) := by decide +kernel
theorem dX3_pass_0 : decode cX3_pass 0 = .ok (.iload_n 1, 1) := by decide +kernel
theorem dX3_pass_1 : decode cX3_pass 1 = .ok (.iconst 1, 1) := by decide +kernel
theorem dX3_pass_2 : decode cX3_pass 2 = .ok (.ldc 169, 2) := by decide +kernel
theorem dX3_pass_4 : decode cX3_pass 4 = .ok (.invokestatic 102, 3) := by decide +kernel
theorem dX3_pass_7 : decode cX3_pass 7 = .ok (.ifCond .ne 6, 3) := by decide +kernel
theorem dX3_pass_10 : decode cX3_pass 10 = .ok (.bipush (-2), 2) := by decide +kernel
theorem dX3_pass_12 : decode cX3_pass 12 = .ok (.ireturn, 1) := by decide +kernel
theorem dX3_pass_13 : decode cX3_pass 13 = .ok (.aload_n 0, 1) := by decide +kernel
theorem dX3_pass_14 : decode cX3_pass 14 = .ok (.getfield 40, 3) := by decide +kernel
theorem dX3_pass_17 : decode cX3_pass 17 = .ok (.iload_n 1, 1) := by decide +kernel
theorem dX3_pass_18 : decode cX3_pass 18 = .ok (.iadd, 1) := by decide +kernel
theorem dX3_pass_19 : decode cX3_pass 19 = .ok (.istore_n 2, 1) := by decide +kernel
theorem dX3_pass_20 : decode cX3_pass 20 = .ok (.iload_n 2, 1) := by decide +kernel
theorem dX3_pass_21 : decode cX3_pass 21 = .ok (.ldc 113, 2) := by decide +kernel
theorem dX3_pass_23 : decode cX3_pass 23 = .ok (.if_icmp .le 6, 3) := by decide +kernel
theorem dX3_pass_26 : decode cX3_pass 26 = .ok (.bipush (-3), 2) := by decide +kernel
theorem dX3_pass_28 : decode cX3_pass 28 = .ok (.ireturn, 1) := by decide +kernel
theorem dX3_pass_29 : decode cX3_pass 29 = .ok (.aload_n 0, 1) := by decide +kernel
theorem dX3_pass_30 : decode cX3_pass 30 = .ok (.invokevirtual 170, 3) := by decide +kernel
theorem dX3_pass_33 : decode cX3_pass 33 = .ok (.istore_n 3, 1) := by decide +kernel
theorem dX3_pass_34 : decode cX3_pass 34 = .ok (.aload_n 0, 1) := by decide +kernel
theorem dX3_pass_35 : decode cX3_pass 35 = .ok (.iload_n 2, 1) := by decide +kernel
theorem dX3_pass_36 : decode cX3_pass 36 = .ok (.iload_n 3, 1) := by decide +kernel
theorem dX3_pass_37 : decode cX3_pass 37 = .ok (.iconst 1, 1) := by decide +kernel
theorem dX3_pass_38 : decode cX3_pass 38 = .ok (.isub, 1) := by decide +kernel
theorem dX3_pass_39 : decode cX3_pass 39 = .ok (.invokestatic 174, 3) := by decide +kernel
theorem dX3_pass_42 : decode cX3_pass 42 = .ok (.invokevirtual 180, 3) := by decide +kernel
theorem dX3_pass_45 : decode cX3_pass 45 = .ok (.aload_n 0, 1) := by decide +kernel
theorem dX3_pass_46 : decode cX3_pass 46 = .ok (.iload_n 2, 1) := by decide +kernel
theorem dX3_pass_47 : decode cX3_pass 47 = .ok (.putfield 40, 3) := by decide +kernel
theorem dX3_pass_50 : decode cX3_pass 50 = .ok (.iload_n 3, 1) := by decide +kernel
theorem dX3_pass_51 : decode cX3_pass 51 = .ok (.iload_n 2, 1) := by decide +kernel
theorem dX3_pass_52 : decode cX3_pass 52 = .ok (.if_icmp .gt 8, 3) := by decide +kernel
theorem dX3_pass_55 : decode cX3_pass 55 = .ok (.aload_n 0, 1) := by decide +kernel
theorem dX3_pass_56 : decode cX3_pass 56 = .ok (.iload_n 3, 1) := by decide +kernel
theorem dX3_pass_57 : decode cX3_pass 57 = .ok (.invokevirtual 183, 3) := by decide +kernel
theorem dX3_pass_60 : decode cX3_pass 60 = .ok (.aload_n 0, 1) := by decide +kernel
theorem dX3_pass_61 : decode cX3_pass 61 = .ok (.invokevirtual 186, 3) := by decide +kernel
theorem dX3_pass_64 : decode cX3_pass 64 = .ok (.ireturn, 1) := by decide +kernel
theorem dX3_hello_0 : decode cX3_hello 0 = .ok (.aload_n 0, 1) := by decide +kernel
theorem dX3_hello_1 : decode cX3_hello 1 = .ok (.getfield 49, 3) := by decide +kernel
theorem dX3_hello_4 : decode cX3_hello 4 = .ok (.ifCond .eq 7, 3) := by decide +kernel
theorem dX3_hello_7 : decode cX3_hello 7 = .ok (.iconst 1, 1) := by decide +kernel
theorem dX3_hello_8 : decode cX3_hello 8 = .ok (.goto 4, 3) := by decide +kernel
theorem dX3_hello_11 : decode cX3_hello 11 = .ok (.iconst 0, 1) := by decide +kernel
theorem dX3_hello_12 : decode cX3_hello 12 = .ok (.istore_n 1, 1) := by decide +kernel
theorem dX3_hello_13 : decode cX3_hello 13 = .ok (.aload_n 0, 1) := by decide +kernel
theorem dX3_hello_14 : decode cX3_hello 14 = .ok (.iconst 0, 1) := by decide +kernel
theorem dX3_hello_15 : decode cX3_hello 15 = .ok (.putfield 49, 3) := by decide +kernel
theorem dX3_hello_18 : decode cX3_hello 18 = .ok (.aload_n 0, 1) := by decide +kernel
theorem dX3_hello_19 : decode cX3_hello 19 = .ok (.aload_n 0, 1) := by decide +kernel
theorem dX3_hello_20 : decode cX3_hello 20 = .ok (.getfield 40, 3) := by decide +kernel
theorem dX3_hello_23 : decode cX3_hello 23 = .ok (.putfield 46, 3) := by decide +kernel
theorem dX3_hello_26 : decode cX3_hello 26 = .ok (.iload_n 1, 1) := by decide +kernel
theorem dX3_hello_27 : decode cX3_hello 27 = .ok (.ireturn, 1) := by decide +kernel
theorem dX3_watch_0 : decode cX3_watch 0 = .ok (.iload_n 1, 1) := by decide +kernel
theorem dX3_watch_1 : decode cX3_watch 1 = .ok (.iconst 0, 1) := by decide +kernel
theorem dX3_watch_2 : decode cX3_watch 2 = .ok (.sipush 10000, 3) := by decide +kernel
theorem dX3_watch_5 : decode cX3_watch 5 = .ok (.invokestatic 102, 3) := by decide +kernel
theorem dX3_watch_8 : decode cX3_watch 8 = .ok (.ifCond .ne 6, 3) := by decide +kernel
theorem dX3_watch_11 : decode cX3_watch 11 = .ok (.bipush (-2), 2) := by decide +kernel
theorem dX3_watch_13 : decode cX3_watch 13 = .ok (.ireturn, 1) := by decide +kernel
theorem dX3_watch_14 : decode cX3_watch 14 = .ok (.aload_n 0, 1) := by decide +kernel
theorem dX3_watch_15 : decode cX3_watch 15 = .ok (.getfield 43, 3) := by decide +kernel
theorem dX3_watch_18 : decode cX3_watch 18 = .ok (.istore_n 2, 1) := by decide +kernel
theorem dX3_watch_19 : decode cX3_watch 19 = .ok (.aload_n 0, 1) := by decide +kernel
theorem dX3_watch_20 : decode cX3_watch 20 = .ok (.iload_n 1, 1) := by decide +kernel
theorem dX3_watch_21 : decode cX3_watch 21 = .ok (.putfield 43, 3) := by decide +kernel
theorem dX3_watch_24 : decode cX3_watch 24 = .ok (.aload_n 0, 1) := by decide +kernel
theorem dX3_watch_25 : decode cX3_watch 25 = .ok (.aload_n 0, 1) := by decide +kernel
theorem dX3_watch_26 : decode cX3_watch 26 = .ok (.getfield 40, 3) := by decide +kernel
theorem dX3_watch_29 : decode cX3_watch 29 = .ok (.putfield 46, 3) := by decide +kernel
theorem dX3_watch_32 : decode cX3_watch 32 = .ok (.iload_n 2, 1) := by decide +kernel
theorem dX3_watch_33 : decode cX3_watch 33 = .ok (.ireturn, 1) := by decide +kernel
theorem dX3_master_0 : decode cX3_master 0 = .ok (.iload_n 1, 1) := by decide +kernel
theorem dX3_master_1 : decode cX3_master 1 = .ok (.iconst 0, 1) := by decide +kernel
theorem dX3_master_2 : decode cX3_master 2 = .ok (.bipush 100, 2) := by decide +kernel
theorem dX3_master_4 : decode cX3_master 4 = .ok (.invokestatic 102, 3) := by decide +kernel
theorem dX3_master_7 : decode cX3_master 7 = .ok (.ifCond .ne 6, 3) := by decide +kernel
theorem dX3_master_10 : decode cX3_master 10 = .ok (.bipush (-2), 2) := by decide +kernel
theorem dX3_master_12 : decode cX3_master 12 = .ok (.ireturn, 1) := by decide +kernel
theorem dX3_master_13 : decode cX3_master 13 = .ok (.aload_n 0, 1) := by decide +kernel
theorem dX3_master_14 : decode cX3_master 14 = .ok (.getfield 53, 3) := by decide +kernel
theorem dX3_master_17 : decode cX3_master 17 = .ok (.istore_n 2, 1) := by decide +kernel
theorem dX3_master_18 : decode cX3_master 18 = .ok (.aload_n 0, 1) := by decide +kernel
theorem dX3_master_19 : decode cX3_master 19 = .ok (.iload_n 1, 1) := by decide +kernel
theorem dX3_master_20 : decode cX3_master 20 = .ok (.putfield 53, 3) := by decide +kernel
theorem dX3_master_23 : decode cX3_master 23 = .ok (.iload_n 2, 1) := by decide +kernel
theorem dX3_master_24 : decode cX3_master 24 = .ok (.ireturn, 1) := by decide +kernel
theorem dX3_part_0 : decode cX3_part 0 = .ok (.aload_n 0, 1) := by decide +kernel
theorem dX3_part_1 : decode cX3_part 1 = .ok (.iload_n 1, 1) := by decide +kernel
theorem dX3_part_2 : decode cX3_part 2 = .ok (.invokevirtual 83, 3) := by decide +kernel
theorem dX3_part_5 : decode cX3_part 5 = .ok (.ifCond .eq 10, 3) := by decide +kernel
theorem dX3_part_8 : decode cX3_part 8 = .ok (.iload_n 2, 1) := by decide +kernel
theorem dX3_part_9 : decode cX3_part 9 = .ok (.invokestatic 110, 3) := by decide +kernel
theorem dX3_part_12 : decode cX3_part 12 = .ok (.ifCond .ne 5, 3) := by decide +kernel
theorem dX3_part_15 : decode cX3_part 15 = .ok (.iconst (-1), 1) := by decide +kernel
theorem dX3_part_16 : decode cX3_part 16 = .ok (.ireturn, 1) := by decide +kernel
theorem dX3_part_17 : decode cX3_part 17 = .ok (.aload_n 0, 1) := by decide +kernel
theorem dX3_part_18 : decode cX3_part 18 = .ok (.getfield 11, 3) := by decide +kernel
theorem dX3_part_21 : decode cX3_part 21 = .ok (.iload_n 1, 1) := by decide +kernel
theorem dX3_part_22 : decode cX3_part 22 = .ok (.aaload, 1) := by decide +kernel
theorem dX3_part_23 : decode cX3_part 23 = .ok (.astore_n 3, 1) := by decide +kernel
theorem dX3_part_24 : decode cX3_part 24 = .ok (.aload_n 3, 1) := by decide +kernel
theorem dX3_part_25 : decode cX3_part 25 = .ok (.aload_n 3, 1) := by decide +kernel
theorem dX3_part_26 : decode cX3_part 26 = .ok (.getfield 138, 3) := by decide +kernel
theorem dX3_part_29 : decode cX3_part 29 = .ok (.aload_n 0, 1) := by decide +kernel
theorem dX3_part_30 : decode cX3_part 30 = .ok (.getfield 40, 3) := by decide +kernel
theorem dX3_part_33 : decode cX3_part 33 = .ok (.aload_n 0, 1) := by decide +kernel
theorem dX3_part_34 : decode cX3_part 34 = .ok (.getfield 27, 3) := by decide +kernel
theorem dX3_part_37 : decode cX3_part 37 = .ok (.iload_n 2, 1) := by decide +kernel
theorem dX3_part_38 : decode cX3_part 38 = .ok (.aaload, 1) := by decide +kernel
theorem dX3_part_39 : decode cX3_part 39 = .ok (.invokevirtual 189, 3) := by decide +kernel
theorem dX3_part_42 : decode cX3_part 42 = .ok (.sipush 10000, 3) := by decide +kernel
theorem dX3_part_45 : decode cX3_part 45 = .ok (.iadd, 1) := by decide +kernel
theorem dX3_part_46 : decode cX3_part 46 = .ok (.ireturn, 1) := by decide +kernel
theorem dX3_envelope_0 : decode cX3_envelope 0 = .ok (.aload_n 0, 1) := by decide +kernel
theorem dX3_envelope_1 : decode cX3_envelope 1 = .ok (.iload_n 1, 1) := by decide +kernel
theorem dX3_envelope_2 : decode cX3_envelope 2 = .ok (.invokevirtual 83, 3) := by decide +kernel
theorem dX3_envelope_5 : decode cX3_envelope 5 = .ok (.ifCond .ne 5, 3) := by decide +kernel
theorem dX3_envelope_8 : decode cX3_envelope 8 = .ok (.iconst (-1), 1) := by decide +kernel
theorem dX3_envelope_9 : decode cX3_envelope 9 = .ok (.ireturn, 1) := by decide +kernel
theorem dX3_envelope_10 : decode cX3_envelope 10 = .ok (.aload_n 0, 1) := by decide +kernel
theorem dX3_envelope_11 : decode cX3_envelope 11 = .ok (.getfield 11, 3) := by decide +kernel
theorem dX3_envelope_14 : decode cX3_envelope 14 = .ok (.iload_n 1, 1) := by decide +kernel
theorem dX3_envelope_15 : decode cX3_envelope 15 = .ok (.aaload, 1) := by decide +kernel
theorem dX3_envelope_16 : decode cX3_envelope 16 = .ok (.astore_n 2, 1) := by decide +kernel
theorem dX3_envelope_17 : decode cX3_envelope 17 = .ok (.aload_n 2, 1) := by decide +kernel
theorem dX3_envelope_18 : decode cX3_envelope 18 = .ok (.aload_n 2, 1) := by decide +kernel
theorem dX3_envelope_19 : decode cX3_envelope 19 = .ok (.getfield 138, 3) := by decide +kernel
theorem dX3_envelope_22 : decode cX3_envelope 22 = .ok (.aload_n 0, 1) := by decide +kernel
theorem dX3_envelope_23 : decode cX3_envelope 23 = .ok (.getfield 40, 3) := by decide +kernel
theorem dX3_envelope_26 : decode cX3_envelope 26 = .ok (.invokevirtual 144, 3) := by decide +kernel
theorem dX3_envelope_29 : decode cX3_envelope 29 = .ok (.ifCond .eq 10, 3) := by decide +kernel
theorem dX3_envelope_32 : decode cX3_envelope 32 = .ok (.aload_n 2, 1) := by decide +kernel
theorem dX3_envelope_33 : decode cX3_envelope 33 = .ok (.invokevirtual 193, 3) := by decide +kernel
theorem dX3_envelope_36 : decode cX3_envelope 36 = .ok (.ifCond .ne 6, 3) := by decide +kernel
theorem dX3_envelope_39 : decode cX3_envelope 39 = .ok (.bipush (-9), 2) := by decide +kernel
theorem dX3_envelope_41 : decode cX3_envelope 41 = .ok (.ireturn, 1) := by decide +kernel
theorem dX3_envelope_42 : decode cX3_envelope 42 = .ok (.aload_n 2, 1) := by decide +kernel
theorem dX3_envelope_43 : decode cX3_envelope 43 = .ok (.aload_n 2, 1) := by decide +kernel
theorem dX3_envelope_44 : decode cX3_envelope 44 = .ok (.aload_n 2, 1) := by decide +kernel
theorem dX3_envelope_45 : decode cX3_envelope 45 = .ok (.getfield 138, 3) := by decide +kernel
theorem dX3_envelope_48 : decode cX3_envelope 48 = .ok (.aload_n 0, 1) := by decide +kernel
theorem dX3_envelope_49 : decode cX3_envelope 49 = .ok (.getfield 40, 3) := by decide +kernel
theorem dX3_envelope_52 : decode cX3_envelope 52 = .ok (.invokevirtual 197, 3) := by decide +kernel
theorem dX3_envelope_55 : decode cX3_envelope 55 = .ok (.invokevirtual 200, 3) := by decide +kernel
theorem dX3_envelope_58 : decode cX3_envelope 58 = .ok (.ireturn, 1) := by decide +kernel
theorem dX3_force_0 : decode cX3_force 0 = .ok (.iload_n 1, 1) := by decide +kernel
theorem dX3_force_1 : decode cX3_force 1 = .ok (.invokestatic 110, 3) := by decide +kernel
theorem dX3_force_4 : decode cX3_force 4 = .ok (.ifCond .ne 5, 3) := by decide +kernel
theorem dX3_force_7 : decode cX3_force 7 = .ok (.iconst (-1), 1) := by decide +kernel
theorem dX3_force_8 : decode cX3_force 8 = .ok (.ireturn, 1) := by decide +kernel
theorem dX3_force_9 : decode cX3_force 9 = .ok (.iload_n 2, 1) := by decide +kernel
theorem dX3_force_10 : decode cX3_force 10 = .ok (.iconst 0, 1) := by decide +kernel
theorem dX3_force_11 : decode cX3_force 11 = .ok (.iconst 1, 1) := by decide +kernel
theorem dX3_force_12 : decode cX3_force 12 = .ok (.invokestatic 102, 3) := by decide +kernel
theorem dX3_force_15 : decode cX3_force 15 = .ok (.ifCond .ne 6, 3) := by decide +kernel
theorem dX3_force_18 : decode cX3_force 18 = .ok (.bipush (-2), 2) := by decide +kernel
theorem dX3_force_20 : decode cX3_force 20 = .ok (.ireturn, 1) := by decide +kernel
theorem dX3_force_21 : decode cX3_force 21 = .ok (.aload_n 0, 1) := by decide +kernel
theorem dX3_force_22 : decode cX3_force 22 = .ok (.aload_n 0, 1) := by decide +kernel
theorem dX3_force_23 : decode cX3_force 23 = .ok (.getfield 40, 3) := by decide +kernel
theorem dX3_force_26 : decode cX3_force 26 = .ok (.aload_n 0, 1) := by decide +kernel
theorem dX3_force_27 : decode cX3_force 27 = .ok (.getfield 27, 3) := by decide +kernel
theorem dX3_force_30 : decode cX3_force 30 = .ok (.iload_n 1, 1) := by decide +kernel
theorem dX3_force_31 : decode cX3_force 31 = .ok (.aaload, 1) := by decide +kernel
theorem dX3_force_32 : decode cX3_force 32 = .ok (.invokevirtual 204, 3) := by decide +kernel
theorem dX3_force_35 : decode cX3_force 35 = .ok (.istore_n 3, 1) := by decide +kernel
theorem dX3_force_36 : decode cX3_force 36 = .ok (.iload_n 2, 1) := by decide +kernel
theorem dX3_force_37 : decode cX3_force 37 = .ok (.ifCond .ne 8, 3) := by decide +kernel
theorem dX3_force_40 : decode cX3_force 40 = .ok (.iload_n 3, 1) := by decide +kernel
theorem dX3_force_41 : decode cX3_force 41 = .ok (.ldc 169, 2) := by decide +kernel
theorem dX3_force_43 : decode cX3_force 43 = .ok (.iadd, 1) := by decide +kernel
theorem dX3_force_44 : decode cX3_force 44 = .ok (.ireturn, 1) := by decide +kernel
theorem dX3_force_45 : decode cX3_force 45 = .ok (.iload_n 3, 1) := by decide +kernel
theorem dX3_force_46 : decode cX3_force 46 = .ok (.sipush 1000, 3) := by decide +kernel
theorem dX3_force_49 : decode cX3_force 49 = .ok (.invokestatic 208, 3) := by decide +kernel
theorem dX3_force_52 : decode cX3_force 52 = .ok (.aload_n 0, 1) := by decide +kernel
theorem dX3_force_53 : decode cX3_force 53 = .ok (.getfield 53, 3) := by decide +kernel
theorem dX3_force_56 : decode cX3_force 56 = .ok (.imul, 1) := by decide +kernel
theorem dX3_force_57 : decode cX3_force 57 = .ok (.bipush 100, 2) := by decide +kernel
theorem dX3_force_59 : decode cX3_force 59 = .ok (.idiv, 1) := by decide +kernel
theorem dX3_force_60 : decode cX3_force 60 = .ok (.sipush 10000, 3) := by decide +kernel
theorem dX3_force_63 : decode cX3_force 63 = .ok (.iadd, 1) := by decide +kernel
theorem dX3_force_64 : decode cX3_force 64 = .ok (.ireturn, 1) := by decide +kernel
theorem dX3_rate_0 : decode cX3_rate 0 = .ok (.iload_n 1, 1) := by decide +kernel
theorem dX3_rate_1 : decode cX3_rate 1 = .ok (.iconst 1, 1) := by decide +kernel
theorem dX3_rate_2 : decode cX3_rate 2 = .ok (.sipush 1000, 3) := by decide +kernel
theorem dX3_rate_5 : decode cX3_rate 5 = .ok (.invokestatic 102, 3) := by decide +kernel
theorem dX3_rate_8 : decode cX3_rate 8 = .ok (.ifCond .ne 6, 3) := by decide +kernel
theorem dX3_rate_11 : decode cX3_rate 11 = .ok (.bipush (-2), 2) := by decide +kernel
theorem dX3_rate_13 : decode cX3_rate 13 = .ok (.ireturn, 1) := by decide +kernel
theorem dX3_rate_14 : decode cX3_rate 14 = .ok (.aload_n 0, 1) := by decide +kernel
theorem dX3_rate_15 : decode cX3_rate 15 = .ok (.getfield 56, 3) := by decide +kernel
theorem dX3_rate_18 : decode cX3_rate 18 = .ok (.istore_n 2, 1) := by decide +kernel
theorem dX3_rate_19 : decode cX3_rate 19 = .ok (.aload_n 0, 1) := by decide +kernel
theorem dX3_rate_20 : decode cX3_rate 20 = .ok (.iload_n 1, 1) := by decide +kernel
theorem dX3_rate_21 : decode cX3_rate 21 = .ok (.putfield 56, 3) := by decide +kernel
theorem dX3_rate_24 : decode cX3_rate 24 = .ok (.iload_n 2, 1) := by decide +kernel
theorem dX3_rate_25 : decode cX3_rate 25 = .ok (.ireturn, 1) := by decide +kernel
theorem dX3_frame_0 : decode cX3_frame 0 = .ok (.iload_n 1, 1) := by decide +kernel
theorem dX3_frame_1 : decode cX3_frame 1 = .ok (.iconst 0, 1) := by decide +kernel
theorem dX3_frame_2 : decode cX3_frame 2 = .ok (.ldc 211, 2) := by decide +kernel
theorem dX3_frame_4 : decode cX3_frame 4 = .ok (.invokestatic 102, 3) := by decide +kernel
theorem dX3_frame_7 : decode cX3_frame 7 = .ok (.ifCond .ne 6, 3) := by decide +kernel
theorem dX3_frame_10 : decode cX3_frame 10 = .ok (.bipush (-2), 2) := by decide +kernel
theorem dX3_frame_12 : decode cX3_frame 12 = .ok (.ireturn, 1) := by decide +kernel
theorem dX3_frame_13 : decode cX3_frame 13 = .ok (.sipush 1000, 3) := by decide +kernel
theorem dX3_frame_16 : decode cX3_frame 16 = .ok (.iload_n 1, 1) := by decide +kernel
theorem dX3_frame_17 : decode cX3_frame 17 = .ok (.imul, 1) := by decide +kernel
theorem dX3_frame_18 : decode cX3_frame 18 = .ok (.aload_n 0, 1) := by decide +kernel
theorem dX3_frame_19 : decode cX3_frame 19 = .ok (.getfield 56, 3) := by decide +kernel
theorem dX3_frame_22 : decode cX3_frame 22 = .ok (.invokestatic 212, 3) := by decide +kernel
theorem dX3_frame_25 : decode cX3_frame 25 = .ok (.ireturn, 1) := by decide +kernel
theorem dX3_frames_0 : decode cX3_frames 0 = .ok (.aload_n 0, 1) := by decide +kernel
theorem dX3_frames_1 : decode cX3_frames 1 = .ok (.getfield 56, 3) := by decide +kernel
theorem dX3_frames_4 : decode cX3_frames 4 = .ok (.i2l, 1) := by decide +kernel
theorem dX3_frames_5 : decode cX3_frames 5 = .ok (.aload_n 0, 1) := by decide +kernel
theorem dX3_frames_6 : decode cX3_frames 6 = .ok (.getfield 40, 3) := by decide +kernel
theorem dX3_frames_9 : decode cX3_frames 9 = .ok (.iconst 1, 1) := by decide +kernel
theorem dX3_frames_10 : decode cX3_frames 10 = .ok (.iadd, 1) := by decide +kernel
theorem dX3_frames_11 : decode cX3_frames 11 = .ok (.i2l, 1) := by decide +kernel
theorem dX3_frames_12 : decode cX3_frames 12 = .ok (.lmul, 1) := by decide +kernel
theorem dX3_frames_13 : decode cX3_frames 13 = .ok (.lstore_n 1, 1) := by decide +kernel
theorem dX3_frames_14 : decode cX3_frames 14 = .ok (.lload_n 1, 1) := by decide +kernel
theorem dX3_frames_15 : decode cX3_frames 15 = .ok (.ldc2_w 215, 3) := by decide +kernel
theorem dX3_frames_18 : decode cX3_frames 18 = .ok (.ladd, 1) := by decide +kernel
theorem dX3_frames_19 : decode cX3_frames 19 = .ok (.ldc2_w 217, 3) := by decide +kernel
theorem dX3_frames_22 : decode cX3_frames 22 = .ok (.ldiv, 1) := by decide +kernel
theorem dX3_frames_23 : decode cX3_frames 23 = .ok (.l2i, 1) := by decide +kernel
theorem dX3_frames_24 : decode cX3_frames 24 = .ok (.ireturn, 1) := by decide +kernel
theorem dX3_peak_0 : decode cX3_peak 0 = .ok (.iload_n 1, 1) := by decide +kernel
theorem dX3_peak_1 : decode cX3_peak 1 = .ok (.invokestatic 110, 3) := by decide +kernel
theorem dX3_peak_4 : decode cX3_peak 4 = .ok (.ifCond .ne 5, 3) := by decide +kernel
theorem dX3_peak_7 : decode cX3_peak 7 = .ok (.iconst (-1), 1) := by decide +kernel
theorem dX3_peak_8 : decode cX3_peak 8 = .ok (.ireturn, 1) := by decide +kernel
theorem dX3_peak_9 : decode cX3_peak 9 = .ok (.iload_n 2, 1) := by decide +kernel
theorem dX3_peak_10 : decode cX3_peak 10 = .ok (.iconst 1, 1) := by decide +kernel
theorem dX3_peak_11 : decode cX3_peak 11 = .ok (.sipush 2000, 3) := by decide +kernel
theorem dX3_peak_14 : decode cX3_peak 14 = .ok (.invokestatic 102, 3) := by decide +kernel
theorem dX3_peak_17 : decode cX3_peak 17 = .ok (.ifCond .eq 12, 3) := by decide +kernel
theorem dX3_peak_20 : decode cX3_peak 20 = .ok (.iload_n 3, 1) := by decide +kernel
theorem dX3_peak_21 : decode cX3_peak 21 = .ok (.iconst 0, 1) := by decide +kernel
theorem dX3_peak_22 : decode cX3_peak 22 = .ok (.iconst 1, 1) := by decide +kernel
theorem dX3_peak_23 : decode cX3_peak 23 = .ok (.invokestatic 102, 3) := by decide +kernel
theorem dX3_peak_26 : decode cX3_peak 26 = .ok (.ifCond .ne 6, 3) := by decide +kernel
theorem dX3_peak_29 : decode cX3_peak 29 = .ok (.bipush (-2), 2) := by decide +kernel
theorem dX3_peak_31 : decode cX3_peak 31 = .ok (.ireturn, 1) := by decide +kernel
theorem dX3_peak_32 : decode cX3_peak 32 = .ok (.iconst 0, 1) := by decide +kernel
theorem dX3_peak_33 : decode cX3_peak 33 = .ok (.istore 4, 2) := by decide +kernel
theorem dX3_peak_35 : decode cX3_peak 35 = .ok (.aload_n 0, 1) := by decide +kernel
theorem dX3_peak_36 : decode cX3_peak 36 = .ok (.getfield 40, 3) := by decide +kernel
theorem dX3_peak_39 : decode cX3_peak 39 = .ok (.istore 5, 2) := by decide +kernel
theorem dX3_peak_41 : decode cX3_peak 41 = .ok (.aload_n 0, 1) := by decide +kernel
theorem dX3_peak_42 : decode cX3_peak 42 = .ok (.iload_n 2, 1) := by decide +kernel
theorem dX3_peak_43 : decode cX3_peak 43 = .ok (.invokevirtual 219, 3) := by decide +kernel
theorem dX3_peak_46 : decode cX3_peak 46 = .ok (.istore 6, 2) := by decide +kernel
theorem dX3_peak_48 : decode cX3_peak 48 = .ok (.aload_n 0, 1) := by decide +kernel
theorem dX3_peak_49 : decode cX3_peak 49 = .ok (.getfield 40, 3) := by decide +kernel
theorem dX3_peak_52 : decode cX3_peak 52 = .ok (.istore 7, 2) := by decide +kernel
theorem dX3_peak_54 : decode cX3_peak 54 = .ok (.iload 7, 2) := by decide +kernel
theorem dX3_peak_56 : decode cX3_peak 56 = .ok (.iload 6, 2) := by decide +kernel
theorem dX3_peak_58 : decode cX3_peak 58 = .ok (.if_icmp .ge 41, 3) := by decide +kernel
theorem dX3_peak_61 : decode cX3_peak 61 = .ok (.aload_n 0, 1) := by decide +kernel
theorem dX3_peak_62 : decode cX3_peak 62 = .ok (.iload 7, 2) := by decide +kernel
theorem dX3_peak_64 : decode cX3_peak 64 = .ok (.aload_n 0, 1) := by decide +kernel
theorem dX3_peak_65 : decode cX3_peak 65 = .ok (.getfield 27, 3) := by decide +kernel
theorem dX3_peak_68 : decode cX3_peak 68 = .ok (.iload_n 1, 1) := by decide +kernel
theorem dX3_peak_69 : decode cX3_peak 69 = .ok (.aaload, 1) := by decide +kernel
theorem dX3_peak_70 : decode cX3_peak 70 = .ok (.invokevirtual 204, 3) := by decide +kernel
theorem dX3_peak_73 : decode cX3_peak 73 = .ok (.invokestatic 222, 3) := by decide +kernel
theorem dX3_peak_76 : decode cX3_peak 76 = .ok (.istore 8, 2) := by decide +kernel
theorem dX3_peak_78 : decode cX3_peak 78 = .ok (.iload 8, 2) := by decide +kernel
theorem dX3_peak_80 : decode cX3_peak 80 = .ok (.iload 4, 2) := by decide +kernel
theorem dX3_peak_82 : decode cX3_peak 82 = .ok (.if_icmp .le 11, 3) := by decide +kernel
theorem dX3_peak_85 : decode cX3_peak 85 = .ok (.iload 8, 2) := by decide +kernel
theorem dX3_peak_87 : decode cX3_peak 87 = .ok (.istore 4, 2) := by decide +kernel
theorem dX3_peak_89 : decode cX3_peak 89 = .ok (.iload 7, 2) := by decide +kernel
theorem dX3_peak_91 : decode cX3_peak 91 = .ok (.istore 5, 2) := by decide +kernel
theorem dX3_peak_93 : decode cX3_peak 93 = .ok (.iinc 7 1, 3) := by decide +kernel
theorem dX3_peak_96 : decode cX3_peak 96 = .ok (.goto (-42), 3) := by decide +kernel
theorem dX3_peak_99 : decode cX3_peak 99 = .ok (.iload_n 3, 1) := by decide +kernel
theorem dX3_peak_100 : decode cX3_peak 100 = .ok (.ifCond .ne 8, 3) := by decide +kernel
theorem dX3_peak_103 : decode cX3_peak 103 = .ok (.iload 4, 2) := by decide +kernel
theorem dX3_peak_105 : decode cX3_peak 105 = .ok (.goto 10, 3) := by decide +kernel
theorem dX3_peak_108 : decode cX3_peak 108 = .ok (.iload 5, 2) := by decide +kernel
theorem dX3_peak_110 : decode cX3_peak 110 = .ok (.aload_n 0, 1) := by decide +kernel
theorem dX3_peak_111 : decode cX3_peak 111 = .ok (.getfield 40, 3) := by decide +kernel
theorem dX3_peak_114 : decode cX3_peak 114 = .ok (.isub, 1) := by decide +kernel
theorem dX3_peak_115 : decode cX3_peak 115 = .ok (.ireturn, 1) := by decide +kernel
theorem dX3_soLong_0 : decode cX3_soLong 0 = .ok (.iload_n 1, 1) := by decide +kernel
theorem dX3_soLong_1 : decode cX3_soLong 1 = .ok (.iconst 1, 1) := by decide +kernel
theorem dX3_soLong_2 : decode cX3_soLong 2 = .ok (.sipush 2000, 3) := by decide +kernel
theorem dX3_soLong_5 : decode cX3_soLong 5 = .ok (.invokestatic 102, 3) := by decide +kernel
theorem dX3_soLong_8 : decode cX3_soLong 8 = .ok (.ifCond .ne 6, 3) := by decide +kernel
theorem dX3_soLong_11 : decode cX3_soLong 11 = .ok (.bipush (-2), 2) := by decide +kernel
theorem dX3_soLong_13 : decode cX3_soLong 13 = .ok (.ireturn, 1) := by decide +kernel
theorem dX3_soLong_14 : decode cX3_soLong 14 = .ok (.iconst 0, 1) := by decide +kernel
theorem dX3_soLong_15 : decode cX3_soLong 15 = .ok (.istore_n 2, 1) := by decide +kernel
theorem dX3_soLong_16 : decode cX3_soLong 16 = .ok (.aload_n 0, 1) := by decide +kernel
theorem dX3_soLong_17 : decode cX3_soLong 17 = .ok (.iload_n 1, 1) := by decide +kernel
theorem dX3_soLong_18 : decode cX3_soLong 18 = .ok (.invokevirtual 219, 3) := by decide +kernel
theorem dX3_soLong_21 : decode cX3_soLong 21 = .ok (.istore_n 3, 1) := by decide +kernel
theorem dX3_soLong_22 : decode cX3_soLong 22 = .ok (.aload_n 0, 1) := by decide +kernel
theorem dX3_soLong_23 : decode cX3_soLong 23 = .ok (.getfield 40, 3) := by decide +kernel
theorem dX3_soLong_26 : decode cX3_soLong 26 = .ok (.istore 4, 2) := by decide +kernel
theorem dX3_soLong_28 : decode cX3_soLong 28 = .ok (.iload 4, 2) := by decide +kernel
theorem dX3_soLong_30 : decode cX3_soLong 30 = .ok (.iload_n 3, 1) := by decide +kernel
theorem dX3_soLong_31 : decode cX3_soLong 31 = .ok (.if_icmp .ge 48, 3) := by decide +kernel
theorem dX3_soLong_34 : decode cX3_soLong 34 = .ok (.aload_n 0, 1) := by decide +kernel
theorem dX3_soLong_35 : decode cX3_soLong 35 = .ok (.iload 4, 2) := by decide +kernel
theorem dX3_soLong_37 : decode cX3_soLong 37 = .ok (.aload_n 0, 1) := by decide +kernel
theorem dX3_soLong_38 : decode cX3_soLong 38 = .ok (.getfield 27, 3) := by decide +kernel
theorem dX3_soLong_41 : decode cX3_soLong 41 = .ok (.iconst 0, 1) := by decide +kernel
theorem dX3_soLong_42 : decode cX3_soLong 42 = .ok (.aaload, 1) := by decide +kernel
theorem dX3_soLong_43 : decode cX3_soLong 43 = .ok (.invokevirtual 204, 3) := by decide +kernel
theorem dX3_soLong_46 : decode cX3_soLong 46 = .ok (.invokestatic 225, 3) := by decide +kernel
theorem dX3_soLong_49 : decode cX3_soLong 49 = .ok (.ifCond .ne 21, 3) := by decide +kernel
theorem dX3_soLong_52 : decode cX3_soLong 52 = .ok (.aload_n 0, 1) := by decide +kernel
theorem dX3_soLong_53 : decode cX3_soLong 53 = .ok (.iload 4, 2) := by decide +kernel
theorem dX3_soLong_55 : decode cX3_soLong 55 = .ok (.aload_n 0, 1) := by decide +kernel
theorem dX3_soLong_56 : decode cX3_soLong 56 = .ok (.getfield 27, 3) := by decide +kernel
theorem dX3_soLong_59 : decode cX3_soLong 59 = .ok (.iconst 1, 1) := by decide +kernel
theorem dX3_soLong_60 : decode cX3_soLong 60 = .ok (.aaload, 1) := by decide +kernel
theorem dX3_soLong_61 : decode cX3_soLong 61 = .ok (.invokevirtual 204, 3) := by decide +kernel
theorem dX3_soLong_64 : decode cX3_soLong 64 = .ok (.invokestatic 225, 3) := by decide +kernel
theorem dX3_soLong_67 : decode cX3_soLong 67 = .ok (.ifCond .eq 6, 3) := by decide +kernel
theorem dX3_soLong_70 : decode cX3_soLong 70 = .ok (.iinc 2 1, 3) := by decide +kernel
theorem dX3_soLong_73 : decode cX3_soLong 73 = .ok (.iinc 4 1, 3) := by decide +kernel
theorem dX3_soLong_76 : decode cX3_soLong 76 = .ok (.goto (-48), 3) := by decide +kernel
theorem dX3_soLong_79 : decode cX3_soLong 79 = .ok (.iload_n 2, 1) := by decide +kernel
theorem dX3_soLong_80 : decode cX3_soLong 80 = .ok (.ireturn, 1) := by decide +kernel
theorem dX3_quiet_0 : decode cX3_quiet 0 = .ok (.iload_n 1, 1) := by decide +kernel
theorem dX3_quiet_1 : decode cX3_quiet 1 = .ok (.iconst 1, 1) := by decide +kernel
theorem dX3_quiet_2 : decode cX3_quiet 2 = .ok (.sipush 400, 3) := by decide +kernel
theorem dX3_quiet_5 : decode cX3_quiet 5 = .ok (.invokestatic 102, 3) := by decide +kernel
theorem dX3_quiet_8 : decode cX3_quiet 8 = .ok (.ifCond .ne 6, 3) := by decide +kernel
theorem dX3_quiet_11 : decode cX3_quiet 11 = .ok (.bipush (-2), 2) := by decide +kernel
theorem dX3_quiet_13 : decode cX3_quiet 13 = .ok (.ireturn, 1) := by decide +kernel
theorem dX3_quiet_14 : decode cX3_quiet 14 = .ok (.aload_n 0, 1) := by decide +kernel
theorem dX3_quiet_15 : decode cX3_quiet 15 = .ok (.invokevirtual 228, 3) := by decide +kernel
theorem dX3_quiet_18 : decode cX3_quiet 18 = .ok (.istore_n 2, 1) := by decide +kernel
theorem dX3_quiet_19 : decode cX3_quiet 19 = .ok (.iconst 1, 1) := by decide +kernel
theorem dX3_quiet_20 : decode cX3_quiet 20 = .ok (.iload_n 2, 1) := by decide +kernel
theorem dX3_quiet_21 : decode cX3_quiet 21 = .ok (.ishl, 1) := by decide +kernel
theorem dX3_quiet_22 : decode cX3_quiet 22 = .ok (.istore_n 3, 1) := by decide +kernel
theorem dX3_quiet_23 : decode cX3_quiet 23 = .ok (.iconst 0, 1) := by decide +kernel
theorem dX3_quiet_24 : decode cX3_quiet 24 = .ok (.istore 4, 2) := by decide +kernel
theorem dX3_quiet_26 : decode cX3_quiet 26 = .ok (.iload 4, 2) := by decide +kernel
theorem dX3_quiet_28 : decode cX3_quiet 28 = .ok (.iload_n 3, 1) := by decide +kernel
theorem dX3_quiet_29 : decode cX3_quiet 29 = .ok (.if_icmp .ge 17, 3) := by decide +kernel
theorem dX3_quiet_32 : decode cX3_quiet 32 = .ok (.aload_n 0, 1) := by decide +kernel
theorem dX3_quiet_33 : decode cX3_quiet 33 = .ok (.getfield 66, 3) := by decide +kernel
theorem dX3_quiet_36 : decode cX3_quiet 36 = .ok (.iload 4, 2) := by decide +kernel
theorem dX3_quiet_38 : decode cX3_quiet 38 = .ok (.iconst 0, 1) := by decide +kernel
theorem dX3_quiet_39 : decode cX3_quiet 39 = .ok (.bastore, 1) := by decide +kernel
theorem dX3_quiet_40 : decode cX3_quiet 40 = .ok (.iinc 4 1, 3) := by decide +kernel
theorem dX3_quiet_43 : decode cX3_quiet 43 = .ok (.goto (-17), 3) := by decide +kernel
theorem dX3_quiet_46 : decode cX3_quiet 46 = .ok (.aload_n 0, 1) := by decide +kernel
theorem dX3_quiet_47 : decode cX3_quiet 47 = .ok (.iload_n 1, 1) := by decide +kernel
theorem dX3_quiet_48 : decode cX3_quiet 48 = .ok (.invokevirtual 219, 3) := by decide +kernel
theorem dX3_quiet_51 : decode cX3_quiet 51 = .ok (.istore 4, 2) := by decide +kernel
theorem dX3_quiet_53 : decode cX3_quiet 53 = .ok (.aload_n 0, 1) := by decide +kernel
theorem dX3_quiet_54 : decode cX3_quiet 54 = .ok (.getfield 40, 3) := by decide +kernel
theorem dX3_quiet_57 : decode cX3_quiet 57 = .ok (.istore 5, 2) := by decide +kernel
theorem dX3_quiet_59 : decode cX3_quiet 59 = .ok (.iload 5, 2) := by decide +kernel
theorem dX3_quiet_61 : decode cX3_quiet 61 = .ok (.iload 4, 2) := by decide +kernel
theorem dX3_quiet_63 : decode cX3_quiet 63 = .ok (.if_icmp .ge 35, 3) := by decide +kernel
theorem dX3_quiet_66 : decode cX3_quiet 66 = .ok (.aload_n 0, 1) := by decide +kernel
theorem dX3_quiet_67 : decode cX3_quiet 67 = .ok (.iload 5, 2) := by decide +kernel
theorem dX3_quiet_69 : decode cX3_quiet 69 = .ok (.aload_n 0, 1) := by decide +kernel
theorem dX3_quiet_70 : decode cX3_quiet 70 = .ok (.getfield 27, 3) := by decide +kernel
theorem dX3_quiet_73 : decode cX3_quiet 73 = .ok (.iconst 0, 1) := by decide +kernel
theorem dX3_quiet_74 : decode cX3_quiet 74 = .ok (.aaload, 1) := by decide +kernel
theorem dX3_quiet_75 : decode cX3_quiet 75 = .ok (.iload_n 3, 1) := by decide +kernel
theorem dX3_quiet_76 : decode cX3_quiet 76 = .ok (.invokevirtual 231, 3) := by decide +kernel
theorem dX3_quiet_79 : decode cX3_quiet 79 = .ok (.aload_n 0, 1) := by decide +kernel
theorem dX3_quiet_80 : decode cX3_quiet 80 = .ok (.iload 5, 2) := by decide +kernel
theorem dX3_quiet_82 : decode cX3_quiet 82 = .ok (.aload_n 0, 1) := by decide +kernel
theorem dX3_quiet_83 : decode cX3_quiet 83 = .ok (.getfield 27, 3) := by decide +kernel
theorem dX3_quiet_86 : decode cX3_quiet 86 = .ok (.iconst 1, 1) := by decide +kernel
theorem dX3_quiet_87 : decode cX3_quiet 87 = .ok (.aaload, 1) := by decide +kernel
theorem dX3_quiet_88 : decode cX3_quiet 88 = .ok (.iload_n 3, 1) := by decide +kernel
theorem dX3_quiet_89 : decode cX3_quiet 89 = .ok (.invokevirtual 231, 3) := by decide +kernel
theorem dX3_quiet_92 : decode cX3_quiet 92 = .ok (.iinc 5 1, 3) := by decide +kernel
theorem dX3_quiet_95 : decode cX3_quiet 95 = .ok (.goto (-36), 3) := by decide +kernel
theorem dX3_quiet_98 : decode cX3_quiet 98 = .ok (.aload_n 0, 1) := by decide +kernel
theorem dX3_quiet_99 : decode cX3_quiet 99 = .ok (.iload_n 3, 1) := by decide +kernel
theorem dX3_quiet_100 : decode cX3_quiet 100 = .ok (.invokevirtual 235, 3) := by decide +kernel
theorem dX3_quiet_103 : decode cX3_quiet 103 = .ok (.istore 5, 2) := by decide +kernel
theorem dX3_quiet_105 : decode cX3_quiet 105 = .ok (.iload 5, 2) := by decide +kernel
theorem dX3_quiet_107 : decode cX3_quiet 107 = .ok (.bipush (-9), 2) := by decide +kernel
theorem dX3_quiet_109 : decode cX3_quiet 109 = .ok (.if_icmp .ne 8, 3) := by decide +kernel
theorem dX3_quiet_112 : decode cX3_quiet 112 = .ok (.bipush (-9), 2) := by decide +kernel
theorem dX3_quiet_114 : decode cX3_quiet 114 = .ok (.goto 10, 3) := by decide +kernel
theorem dX3_quiet_117 : decode cX3_quiet 117 = .ok (.aload_n 0, 1) := by decide +kernel
theorem dX3_quiet_118 : decode cX3_quiet 118 = .ok (.iload 5, 2) := by decide +kernel
theorem dX3_quiet_120 : decode cX3_quiet 120 = .ok (.iload_n 2, 1) := by decide +kernel
theorem dX3_quiet_121 : decode cX3_quiet 121 = .ok (.invokevirtual 238, 3) := by decide +kernel
theorem dX3_quiet_124 : decode cX3_quiet 124 = .ok (.ireturn, 1) := by decide +kernel
theorem dX3_many_0 : decode cX3_many 0 = .ok (.iload_n 1, 1) := by decide +kernel
theorem dX3_many_1 : decode cX3_many 1 = .ok (.tableswitch 122 0 10 #[59, 64, 69, 74, 79, 84, 89, 94, 107, 112, 117], 59) := by decide +kernel
theorem dX3_many_60 : decode cX3_many 60 = .ok (.aload_n 0, 1) := by decide +kernel
theorem dX3_many_61 : decode cX3_many 61 = .ok (.getfield 15, 3) := by decide +kernel
theorem dX3_many_64 : decode cX3_many 64 = .ok (.ireturn, 1) := by decide +kernel
theorem dX3_many_65 : decode cX3_many 65 = .ok (.aload_n 0, 1) := by decide +kernel
theorem dX3_many_66 : decode cX3_many 66 = .ok (.invokevirtual 241, 3) := by decide +kernel
theorem dX3_many_69 : decode cX3_many 69 = .ok (.ireturn, 1) := by decide +kernel
theorem dX3_many_70 : decode cX3_many 70 = .ok (.aload_n 0, 1) := by decide +kernel
theorem dX3_many_71 : decode cX3_many 71 = .ok (.invokevirtual 186, 3) := by decide +kernel
theorem dX3_many_74 : decode cX3_many 74 = .ok (.ireturn, 1) := by decide +kernel
theorem dX3_many_75 : decode cX3_many 75 = .ok (.aload_n 0, 1) := by decide +kernel
theorem dX3_many_76 : decode cX3_many 76 = .ok (.invokevirtual 244, 3) := by decide +kernel
theorem dX3_many_79 : decode cX3_many 79 = .ok (.ireturn, 1) := by decide +kernel
theorem dX3_many_80 : decode cX3_many 80 = .ok (.aload_n 0, 1) := by decide +kernel
theorem dX3_many_81 : decode cX3_many 81 = .ok (.getfield 22, 3) := by decide +kernel
theorem dX3_many_84 : decode cX3_many 84 = .ok (.ireturn, 1) := by decide +kernel
theorem dX3_many_85 : decode cX3_many 85 = .ok (.aload_n 0, 1) := by decide +kernel
theorem dX3_many_86 : decode cX3_many 86 = .ok (.invokevirtual 247, 3) := by decide +kernel
theorem dX3_many_89 : decode cX3_many 89 = .ok (.ireturn, 1) := by decide +kernel
theorem dX3_many_90 : decode cX3_many 90 = .ok (.aload_n 0, 1) := by decide +kernel
theorem dX3_many_91 : decode cX3_many 91 = .ok (.getfield 40, 3) := by decide +kernel
theorem dX3_many_94 : decode cX3_many 94 = .ok (.ireturn, 1) := by decide +kernel
theorem dX3_many_95 : decode cX3_many 95 = .ok (.aload_n 0, 1) := by decide +kernel
theorem dX3_many_96 : decode cX3_many 96 = .ok (.getfield 49, 3) := by decide +kernel
theorem dX3_many_99 : decode cX3_many 99 = .ok (.ifCond .eq 7, 3) := by decide +kernel
theorem dX3_many_102 : decode cX3_many 102 = .ok (.iconst 1, 1) := by decide +kernel
theorem dX3_many_103 : decode cX3_many 103 = .ok (.goto 4, 3) := by decide +kernel
theorem dX3_many_106 : decode cX3_many 106 = .ok (.iconst 0, 1) := by decide +kernel
theorem dX3_many_107 : decode cX3_many 107 = .ok (.ireturn, 1) := by decide +kernel
theorem dX3_many_108 : decode cX3_many 108 = .ok (.aload_n 0, 1) := by decide +kernel
theorem dX3_many_109 : decode cX3_many 109 = .ok (.getfield 43, 3) := by decide +kernel
theorem dX3_many_112 : decode cX3_many 112 = .ok (.ireturn, 1) := by decide +kernel
theorem dX3_many_113 : decode cX3_many 113 = .ok (.aload_n 0, 1) := by decide +kernel
theorem dX3_many_114 : decode cX3_many 114 = .ok (.getfield 53, 3) := by decide +kernel
theorem dX3_many_117 : decode cX3_many 117 = .ok (.ireturn, 1) := by decide +kernel
theorem dX3_many_118 : decode cX3_many 118 = .ok (.aload_n 0, 1) := by decide +kernel
theorem dX3_many_119 : decode cX3_many 119 = .ok (.getfield 56, 3) := by decide +kernel
theorem dX3_many_122 : decode cX3_many 122 = .ok (.ireturn, 1) := by decide +kernel
theorem dX3_many_123 : decode cX3_many 123 = .ok (.bipush (-2), 2) := by decide +kernel
theorem dX3_many_125 : decode cX3_many 125 = .ok (.ireturn, 1) := by decide +kernel
theorem dX3_isWithin_0 : decode cX3_isWithin 0 = .ok (.iload_n 0, 1) := by decide +kernel
theorem dX3_isWithin_1 : decode cX3_isWithin 1 = .ok (.iload_n 1, 1) := by decide +kernel
theorem dX3_isWithin_2 : decode cX3_isWithin 2 = .ok (.if_icmp .lt 12, 3) := by decide +kernel
theorem dX3_isWithin_5 : decode cX3_isWithin 5 = .ok (.iload_n 0, 1) := by decide +kernel
theorem dX3_isWithin_6 : decode cX3_isWithin 6 = .ok (.iload_n 2, 1) := by decide +kernel
theorem dX3_isWithin_7 : decode cX3_isWithin 7 = .ok (.if_icmp .gt 7, 3) := by decide +kernel
theorem dX3_isWithin_10 : decode cX3_isWithin 10 = .ok (.iconst 1, 1) := by decide +kernel
theorem dX3_isWithin_11 : decode cX3_isWithin 11 = .ok (.goto 4, 3) := by decide +kernel
theorem dX3_isWithin_14 : decode cX3_isWithin 14 = .ok (.iconst 0, 1) := by decide +kernel
theorem dX3_isWithin_15 : decode cX3_isWithin 15 = .ok (.ireturn, 1) := by decide +kernel
theorem dX3_isEffect_0 : decode cX3_isEffect 0 = .ok (.iload_n 1, 1) := by decide +kernel
theorem dX3_isEffect_1 : decode cX3_isEffect 1 = .ok (.ifCond .lt 21, 3) := by decide +kernel
theorem dX3_isEffect_4 : decode cX3_isEffect 4 = .ok (.iload_n 1, 1) := by decide +kernel
theorem dX3_isEffect_5 : decode cX3_isEffect 5 = .ok (.aload_n 0, 1) := by decide +kernel
theorem dX3_isEffect_6 : decode cX3_isEffect 6 = .ok (.getfield 15, 3) := by decide +kernel
theorem dX3_isEffect_9 : decode cX3_isEffect 9 = .ok (.if_icmp .ge 13, 3) := by decide +kernel
theorem dX3_isEffect_12 : decode cX3_isEffect 12 = .ok (.iload_n 1, 1) := by decide +kernel
theorem dX3_isEffect_13 : decode cX3_isEffect 13 = .ok (.bipush 12, 2) := by decide +kernel
theorem dX3_isEffect_15 : decode cX3_isEffect 15 = .ok (.if_icmp .ge 7, 3) := by decide +kernel
theorem dX3_isEffect_18 : decode cX3_isEffect 18 = .ok (.iconst 1, 1) := by decide +kernel
theorem dX3_isEffect_19 : decode cX3_isEffect 19 = .ok (.goto 4, 3) := by decide +kernel
theorem dX3_isEffect_22 : decode cX3_isEffect 22 = .ok (.iconst 0, 1) := by decide +kernel
theorem dX3_isEffect_23 : decode cX3_isEffect 23 = .ok (.ireturn, 1) := by decide +kernel
theorem dX3_isAxis_0 : decode cX3_isAxis 0 = .ok (.iload_n 0, 1) := by decide +kernel
theorem dX3_isAxis_1 : decode cX3_isAxis 1 = .ok (.ifCond .lt 12, 3) := by decide +kernel
theorem dX3_isAxis_4 : decode cX3_isAxis 4 = .ok (.iload_n 0, 1) := by decide +kernel
theorem dX3_isAxis_5 : decode cX3_isAxis 5 = .ok (.iconst 2, 1) := by decide +kernel
theorem dX3_isAxis_6 : decode cX3_isAxis 6 = .ok (.if_icmp .ge 7, 3) := by decide +kernel
theorem dX3_isAxis_9 : decode cX3_isAxis 9 = .ok (.iconst 1, 1) := by decide +kernel
theorem dX3_isAxis_10 : decode cX3_isAxis 10 = .ok (.goto 4, 3) := by decide +kernel
theorem dX3_isAxis_13 : decode cX3_isAxis 13 = .ok (.iconst 0, 1) := by decide +kernel
theorem dX3_isAxis_14 : decode cX3_isAxis 14 = .ok (.ireturn, 1) := by decide +kernel
theorem dX3_isButton_0 : decode cX3_isButton 0 = .ok (.iload_n 0, 1) := by decide +kernel
theorem dX3_isButton_1 : decode cX3_isButton 1 = .ok (.ifCond .lt 12, 3) := by decide +kernel
theorem dX3_isButton_4 : decode cX3_isButton 4 = .ok (.iload_n 0, 1) := by decide +kernel
theorem dX3_isButton_5 : decode cX3_isButton 5 = .ok (.iconst 4, 1) := by decide +kernel
theorem dX3_isButton_6 : decode cX3_isButton 6 = .ok (.if_icmp .ge 7, 3) := by decide +kernel
theorem dX3_isButton_9 : decode cX3_isButton 9 = .ok (.iconst 1, 1) := by decide +kernel
theorem dX3_isButton_10 : decode cX3_isButton 10 = .ok (.goto 4, 3) := by decide +kernel
theorem dX3_isButton_13 : decode cX3_isButton 13 = .ok (.iconst 0, 1) := by decide +kernel
theorem dX3_isButton_14 : decode cX3_isButton 14 = .ok (.ireturn, 1) := by decide +kernel
theorem dX3_isShape_0 : decode cX3_isShape 0 = .ok (.iload_n 0, 1) := by decide +kernel
theorem dX3_isShape_1 : decode cX3_isShape 1 = .ok (.ifCond .lt 9, 3) := by decide +kernel
theorem dX3_isShape_4 : decode cX3_isShape 4 = .ok (.iload_n 0, 1) := by decide +kernel
theorem dX3_isShape_5 : decode cX3_isShape 5 = .ok (.bipush 7, 2) := by decide +kernel
theorem dX3_isShape_7 : decode cX3_isShape 7 = .ok (.if_icmp .lt 5, 3) := by decide +kernel
theorem dX3_isShape_10 : decode cX3_isShape 10 = .ok (.iconst 0, 1) := by decide +kernel
theorem dX3_isShape_11 : decode cX3_isShape 11 = .ok (.ireturn, 1) := by decide +kernel
theorem dX3_isShape_12 : decode cX3_isShape 12 = .ok (.iload_n 0, 1) := by decide +kernel
theorem dX3_isShape_13 : decode cX3_isShape 13 = .ok (.iconst 1, 1) := by decide +kernel
theorem dX3_isShape_14 : decode cX3_isShape 14 = .ok (.if_icmp .eq 8, 3) := by decide +kernel
theorem dX3_isShape_17 : decode cX3_isShape 17 = .ok (.iload_n 0, 1) := by decide +kernel
theorem dX3_isShape_18 : decode cX3_isShape 18 = .ok (.iconst 2, 1) := by decide +kernel
theorem dX3_isShape_19 : decode cX3_isShape 19 = .ok (.if_icmp .ne 7, 3) := by decide +kernel
theorem dX3_isShape_22 : decode cX3_isShape 22 = .ok (.iconst 1, 1) := by decide +kernel
theorem dX3_isShape_23 : decode cX3_isShape 23 = .ok (.goto 4, 3) := by decide +kernel
theorem dX3_isShape_26 : decode cX3_isShape 26 = .ok (.iconst 0, 1) := by decide +kernel
theorem dX3_isShape_27 : decode cX3_isShape 27 = .ok (.istore 5, 2) := by decide +kernel
theorem dX3_isShape_29 : decode cX3_isShape 29 = .ok (.iload_n 0, 1) := by decide +kernel
theorem dX3_isShape_30 : decode cX3_isShape 30 = .ok (.iconst 0, 1) := by decide +kernel
theorem dX3_isShape_31 : decode cX3_isShape 31 = .ok (.iload_n 1, 1) := by decide +kernel
theorem dX3_isShape_32 : decode cX3_isShape 32 = .ok (.invokestatic 250, 3) := by decide +kernel
theorem dX3_isShape_35 : decode cX3_isShape 35 = .ok (.ifCond .eq 46, 3) := by decide +kernel
theorem dX3_isShape_38 : decode cX3_isShape 38 = .ok (.iload_n 0, 1) := by decide +kernel
theorem dX3_isShape_39 : decode cX3_isShape 39 = .ok (.iconst 1, 1) := by decide +kernel
theorem dX3_isShape_40 : decode cX3_isShape 40 = .ok (.iload_n 2, 1) := by decide +kernel
theorem dX3_isShape_41 : decode cX3_isShape 41 = .ok (.invokestatic 250, 3) := by decide +kernel
theorem dX3_isShape_44 : decode cX3_isShape 44 = .ok (.ifCond .eq 37, 3) := by decide +kernel
theorem dX3_isShape_47 : decode cX3_isShape 47 = .ok (.iload_n 0, 1) := by decide +kernel
theorem dX3_isShape_48 : decode cX3_isShape 48 = .ok (.iconst 2, 1) := by decide +kernel
theorem dX3_isShape_49 : decode cX3_isShape 49 = .ok (.iload_n 3, 1) := by decide +kernel
theorem dX3_isShape_50 : decode cX3_isShape 50 = .ok (.invokestatic 250, 3) := by decide +kernel
theorem dX3_isShape_53 : decode cX3_isShape 53 = .ok (.ifCond .eq 28, 3) := by decide +kernel
theorem dX3_isShape_56 : decode cX3_isShape 56 = .ok (.iload_n 0, 1) := by decide +kernel
theorem dX3_isShape_57 : decode cX3_isShape 57 = .ok (.iconst 3, 1) := by decide +kernel
theorem dX3_isShape_58 : decode cX3_isShape 58 = .ok (.iload 4, 2) := by decide +kernel
theorem dX3_isShape_60 : decode cX3_isShape 60 = .ok (.invokestatic 250, 3) := by decide +kernel
theorem dX3_isShape_63 : decode cX3_isShape 63 = .ok (.ifCond .eq 18, 3) := by decide +kernel
theorem dX3_isShape_66 : decode cX3_isShape 66 = .ok (.iload 5, 2) := by decide +kernel
theorem dX3_isShape_68 : decode cX3_isShape 68 = .ok (.ifCond .eq 9, 3) := by decide +kernel
theorem dX3_isShape_71 : decode cX3_isShape 71 = .ok (.iload 4, 2) := by decide +kernel
theorem dX3_isShape_73 : decode cX3_isShape 73 = .ok (.iload_n 3, 1) := by decide +kernel
theorem dX3_isShape_74 : decode cX3_isShape 74 = .ok (.if_icmp .ge 7, 3) := by decide +kernel
theorem dX3_isShape_77 : decode cX3_isShape 77 = .ok (.iconst 1, 1) := by decide +kernel
theorem dX3_isShape_78 : decode cX3_isShape 78 = .ok (.goto 4, 3) := by decide +kernel
theorem dX3_isShape_81 : decode cX3_isShape 81 = .ok (.iconst 0, 1) := by decide +kernel
theorem dX3_isShape_82 : decode cX3_isShape 82 = .ok (.ireturn, 1) := by decide +kernel
theorem dX3_isShapeNumber_0 : decode cX3_isShapeNumber 0 = .ok (.iconst 4, 1) := by decide +kernel
theorem dX3_isShapeNumber_1 : decode cX3_isShapeNumber 1 = .ok (.iload_n 0, 1) := by decide +kernel
theorem dX3_isShapeNumber_2 : decode cX3_isShapeNumber 2 = .ok (.imul, 1) := by decide +kernel
theorem dX3_isShapeNumber_3 : decode cX3_isShapeNumber 3 = .ok (.iload_n 1, 1) := by decide +kernel
theorem dX3_isShapeNumber_4 : decode cX3_isShapeNumber 4 = .ok (.iadd, 1) := by decide +kernel
theorem dX3_isShapeNumber_5 : decode cX3_isShapeNumber 5 = .ok (.istore_n 3, 1) := by decide +kernel
theorem dX3_isShapeNumber_6 : decode cX3_isShapeNumber 6 = .ok (.iload_n 2, 1) := by decide +kernel
theorem dX3_isShapeNumber_7 : decode cX3_isShapeNumber 7 = .ok (.getstatic 253, 3) := by decide +kernel
theorem dX3_isShapeNumber_10 : decode cX3_isShapeNumber 10 = .ok (.iload_n 3, 1) := by decide +kernel
theorem dX3_isShapeNumber_11 : decode cX3_isShapeNumber 11 = .ok (.iaload, 1) := by decide +kernel
theorem dX3_isShapeNumber_12 : decode cX3_isShapeNumber 12 = .ok (.getstatic 256, 3) := by decide +kernel
theorem dX3_isShapeNumber_15 : decode cX3_isShapeNumber 15 = .ok (.iload_n 3, 1) := by decide +kernel
theorem dX3_isShapeNumber_16 : decode cX3_isShapeNumber 16 = .ok (.iaload, 1) := by decide +kernel
theorem dX3_isShapeNumber_17 : decode cX3_isShapeNumber 17 = .ok (.invokestatic 102, 3) := by decide +kernel
theorem dX3_isShapeNumber_20 : decode cX3_isShapeNumber 20 = .ok (.ireturn, 1) := by decide +kernel
theorem dX3_isNumber_0 : decode cX3_isNumber 0 = .ok (.iload_n 0, 1) := by decide +kernel
theorem dX3_isNumber_1 : decode cX3_isNumber 1 = .ok (.ifCond .lt 9, 3) := by decide +kernel
theorem dX3_isNumber_4 : decode cX3_isNumber 4 = .ok (.iload_n 0, 1) := by decide +kernel
theorem dX3_isNumber_5 : decode cX3_isNumber 5 = .ok (.bipush 12, 2) := by decide +kernel
theorem dX3_isNumber_7 : decode cX3_isNumber 7 = .ok (.if_icmp .lt 5, 3) := by decide +kernel
theorem dX3_isNumber_10 : decode cX3_isNumber 10 = .ok (.iconst 0, 1) := by decide +kernel
theorem dX3_isNumber_11 : decode cX3_isNumber 11 = .ok (.ireturn, 1) := by decide +kernel
theorem dX3_isNumber_12 : decode cX3_isNumber 12 = .ok (.iload_n 1, 1) := by decide +kernel
theorem dX3_isNumber_13 : decode cX3_isNumber 13 = .ok (.bipush (-9), 2) := by decide +kernel
theorem dX3_isNumber_15 : decode cX3_isNumber 15 = .ok (.if_icmp .ne 15, 3) := by decide +kernel
theorem dX3_isNumber_18 : decode cX3_isNumber 18 = .ok (.iload_n 0, 1) := by decide +kernel
theorem dX3_isNumber_19 : decode cX3_isNumber 19 = .ok (.ifCond .eq 9, 3) := by decide +kernel
theorem dX3_isNumber_22 : decode cX3_isNumber 22 = .ok (.iload_n 0, 1) := by decide +kernel
theorem dX3_isNumber_23 : decode cX3_isNumber 23 = .ok (.bipush 10, 2) := by decide +kernel
theorem dX3_isNumber_25 : decode cX3_isNumber 25 = .ok (.if_icmp .ne 5, 3) := by decide +kernel
theorem dX3_isNumber_28 : decode cX3_isNumber 28 = .ok (.iconst 1, 1) := by decide +kernel
theorem dX3_isNumber_29 : decode cX3_isNumber 29 = .ok (.ireturn, 1) := by decide +kernel
theorem dX3_isNumber_30 : decode cX3_isNumber 30 = .ok (.iload_n 1, 1) := by decide +kernel
theorem dX3_isNumber_31 : decode cX3_isNumber 31 = .ok (.getstatic 259, 3) := by decide +kernel
theorem dX3_isNumber_34 : decode cX3_isNumber 34 = .ok (.iload_n 0, 1) := by decide +kernel
theorem dX3_isNumber_35 : decode cX3_isNumber 35 = .ok (.iaload, 1) := by decide +kernel
theorem dX3_isNumber_36 : decode cX3_isNumber 36 = .ok (.getstatic 262, 3) := by decide +kernel
theorem dX3_isNumber_39 : decode cX3_isNumber 39 = .ok (.iload_n 0, 1) := by decide +kernel
theorem dX3_isNumber_40 : decode cX3_isNumber 40 = .ok (.iaload, 1) := by decide +kernel
theorem dX3_isNumber_41 : decode cX3_isNumber 41 = .ok (.invokestatic 102, 3) := by decide +kernel
theorem dX3_isNumber_44 : decode cX3_isNumber 44 = .ok (.ireturn, 1) := by decide +kernel
theorem dX3_toldNumber_0 : decode cX3_toldNumber 0 = .ok (.iload_n 1, 1) := by decide +kernel
theorem dX3_toldNumber_1 : decode cX3_toldNumber 1 = .ok (.bipush 6, 2) := by decide +kernel
theorem dX3_toldNumber_3 : decode cX3_toldNumber 3 = .ok (.if_icmp .eq 9, 3) := by decide +kernel
theorem dX3_toldNumber_6 : decode cX3_toldNumber 6 = .ok (.iload_n 1, 1) := by decide +kernel
theorem dX3_toldNumber_7 : decode cX3_toldNumber 7 = .ok (.bipush 7, 2) := by decide +kernel
theorem dX3_toldNumber_9 : decode cX3_toldNumber 9 = .ok (.if_icmp .ne 16, 3) := by decide +kernel
theorem dX3_toldNumber_12 : decode cX3_toldNumber 12 = .ok (.aload_n 0, 1) := by decide +kernel
theorem dX3_toldNumber_13 : decode cX3_toldNumber 13 = .ok (.getfield 95, 3) := by decide +kernel
theorem dX3_toldNumber_16 : decode cX3_toldNumber 16 = .ok (.iload_n 1, 1) := by decide +kernel
theorem dX3_toldNumber_17 : decode cX3_toldNumber 17 = .ok (.iaload, 1) := by decide +kernel
theorem dX3_toldNumber_18 : decode cX3_toldNumber 18 = .ok (.sipush 10000, 3) := by decide +kernel
theorem dX3_toldNumber_21 : decode cX3_toldNumber 21 = .ok (.iadd, 1) := by decide +kernel
theorem dX3_toldNumber_22 : decode cX3_toldNumber 22 = .ok (.goto 9, 3) := by decide +kernel
theorem dX3_toldNumber_25 : decode cX3_toldNumber 25 = .ok (.aload_n 0, 1) := by decide +kernel
theorem dX3_toldNumber_26 : decode cX3_toldNumber 26 = .ok (.getfield 95, 3) := by decide +kernel
theorem dX3_toldNumber_29 : decode cX3_toldNumber 29 = .ok (.iload_n 1, 1) := by decide +kernel
theorem dX3_toldNumber_30 : decode cX3_toldNumber 30 = .ok (.iaload, 1) := by decide +kernel
theorem dX3_toldNumber_31 : decode cX3_toldNumber 31 = .ok (.ireturn, 1) := by decide +kernel
theorem dX3_quotient_0 : decode cX3_quotient 0 = .ok (.iload_n 1, 1) := by decide +kernel
theorem dX3_quotient_1 : decode cX3_quotient 1 = .ok (.ifCond .le 9, 3) := by decide +kernel
theorem dX3_quotient_4 : decode cX3_quotient 4 = .ok (.iload_n 0, 1) := by decide +kernel
theorem dX3_quotient_5 : decode cX3_quotient 5 = .ok (.iload_n 1, 1) := by decide +kernel
theorem dX3_quotient_6 : decode cX3_quotient 6 = .ok (.idiv, 1) := by decide +kernel
theorem dX3_quotient_7 : decode cX3_quotient 7 = .ok (.goto 4, 3) := by decide +kernel
theorem dX3_quotient_10 : decode cX3_quotient 10 = .ok (.iconst 0, 1) := by decide +kernel
theorem dX3_quotient_11 : decode cX3_quotient 11 = .ok (.ireturn, 1) := by decide +kernel
theorem dX3_remainder_0 : decode cX3_remainder 0 = .ok (.iload_n 1, 1) := by decide +kernel
theorem dX3_remainder_1 : decode cX3_remainder 1 = .ok (.ifCond .le 9, 3) := by decide +kernel
theorem dX3_remainder_4 : decode cX3_remainder 4 = .ok (.iload_n 0, 1) := by decide +kernel
theorem dX3_remainder_5 : decode cX3_remainder 5 = .ok (.iload_n 1, 1) := by decide +kernel
theorem dX3_remainder_6 : decode cX3_remainder 6 = .ok (.irem, 1) := by decide +kernel
theorem dX3_remainder_7 : decode cX3_remainder 7 = .ok (.goto 4, 3) := by decide +kernel
theorem dX3_remainder_10 : decode cX3_remainder 10 = .ok (.iconst 0, 1) := by decide +kernel
theorem dX3_remainder_11 : decode cX3_remainder 11 = .ok (.ireturn, 1) := by decide +kernel
theorem dX3_noFarther_0 : decode cX3_noFarther 0 = .ok (.iload_n 0, 1) := by decide +kernel
theorem dX3_noFarther_1 : decode cX3_noFarther 1 = .ok (.iload_n 1, 1) := by decide +kernel
theorem dX3_noFarther_2 : decode cX3_noFarther 2 = .ok (.if_icmp .le 5, 3) := by decide +kernel
theorem dX3_noFarther_5 : decode cX3_noFarther 5 = .ok (.iload_n 1, 1) := by decide +kernel
theorem dX3_noFarther_6 : decode cX3_noFarther 6 = .ok (.ireturn, 1) := by decide +kernel
theorem dX3_noFarther_7 : decode cX3_noFarther 7 = .ok (.iload_n 0, 1) := by decide +kernel
theorem dX3_noFarther_8 : decode cX3_noFarther 8 = .ok (.iload_n 1, 1) := by decide +kernel
theorem dX3_noFarther_9 : decode cX3_noFarther 9 = .ok (.ineg, 1) := by decide +kernel
theorem dX3_noFarther_10 : decode cX3_noFarther 10 = .ok (.if_icmp .ge 8, 3) := by decide +kernel
theorem dX3_noFarther_13 : decode cX3_noFarther 13 = .ok (.iload_n 1, 1) := by decide +kernel
theorem dX3_noFarther_14 : decode cX3_noFarther 14 = .ok (.ineg, 1) := by decide +kernel
theorem dX3_noFarther_15 : decode cX3_noFarther 15 = .ok (.goto 4, 3) := by decide +kernel
theorem dX3_noFarther_18 : decode cX3_noFarther 18 = .ok (.iload_n 0, 1) := by decide +kernel
theorem dX3_noFarther_19 : decode cX3_noFarther 19 = .ok (.ireturn, 1) := by decide +kernel
theorem dX3_bringIn_0 : decode cX3_bringIn 0 = .ok (.aload_n 1, 1) := by decide +kernel
theorem dX3_bringIn_1 : decode cX3_bringIn 1 = .ok (.getfield 135, 3) := by decide +kernel
theorem dX3_bringIn_4 : decode cX3_bringIn 4 = .ok (.bipush (-9), 2) := by decide +kernel
theorem dX3_bringIn_6 : decode cX3_bringIn 6 = .ok (.if_icmp .eq 8, 3) := by decide +kernel
theorem dX3_bringIn_9 : decode cX3_bringIn 9 = .ok (.aload_n 1, 1) := by decide +kernel
theorem dX3_bringIn_10 : decode cX3_bringIn 10 = .ok (.getfield 135, 3) := by decide +kernel
theorem dX3_bringIn_13 : decode cX3_bringIn 13 = .ok (.ireturn, 1) := by decide +kernel
theorem dX3_bringIn_14 : decode cX3_bringIn 14 = .ok (.aload_n 0, 1) := by decide +kernel
theorem dX3_bringIn_15 : decode cX3_bringIn 15 = .ok (.invokevirtual 265, 3) := by decide +kernel
theorem dX3_bringIn_18 : decode cX3_bringIn 18 = .ok (.istore_n 2, 1) := by decide +kernel
theorem dX3_bringIn_19 : decode cX3_bringIn 19 = .ok (.iload_n 2, 1) := by decide +kernel
theorem dX3_bringIn_20 : decode cX3_bringIn 20 = .ok (.bipush (-9), 2) := by decide +kernel
theorem dX3_bringIn_22 : decode cX3_bringIn 22 = .ok (.if_icmp .ne 32, 3) := by decide +kernel
theorem dX3_bringIn_25 : decode cX3_bringIn 25 = .ok (.aload_n 0, 1) := by decide +kernel
theorem dX3_bringIn_26 : decode cX3_bringIn 26 = .ok (.aload_n 1, 1) := by decide +kernel
theorem dX3_bringIn_27 : decode cX3_bringIn 27 = .ok (.getfield 95, 3) := by decide +kernel
theorem dX3_bringIn_30 : decode cX3_bringIn 30 = .ok (.bipush 9, 2) := by decide +kernel
theorem dX3_bringIn_32 : decode cX3_bringIn 32 = .ok (.iaload, 1) := by decide +kernel
theorem dX3_bringIn_33 : decode cX3_bringIn 33 = .ok (.invokevirtual 268, 3) := by decide +kernel
theorem dX3_bringIn_36 : decode cX3_bringIn 36 = .ok (.astore_n 3, 1) := by decide +kernel
theorem dX3_bringIn_37 : decode cX3_bringIn 37 = .ok (.aload_n 3, 1) := by decide +kernel
theorem dX3_bringIn_38 : decode cX3_bringIn 38 = .ok (.ifnonnull 6, 3) := by decide +kernel
theorem dX3_bringIn_41 : decode cX3_bringIn 41 = .ok (.bipush (-4), 2) := by decide +kernel
theorem dX3_bringIn_43 : decode cX3_bringIn 43 = .ok (.ireturn, 1) := by decide +kernel
theorem dX3_bringIn_44 : decode cX3_bringIn 44 = .ok (.aload_n 3, 1) := by decide +kernel
theorem dX3_bringIn_45 : decode cX3_bringIn 45 = .ok (.getfield 135, 3) := by decide +kernel
theorem dX3_bringIn_48 : decode cX3_bringIn 48 = .ok (.istore_n 2, 1) := by decide +kernel
theorem dX3_bringIn_49 : decode cX3_bringIn 49 = .ok (.aload_n 0, 1) := by decide +kernel
theorem dX3_bringIn_50 : decode cX3_bringIn 50 = .ok (.aload_n 3, 1) := by decide +kernel
theorem dX3_bringIn_51 : decode cX3_bringIn 51 = .ok (.invokevirtual 98, 3) := by decide +kernel
theorem dX3_bringIn_54 : decode cX3_bringIn 54 = .ok (.iload_n 2, 1) := by decide +kernel
theorem dX3_bringIn_55 : decode cX3_bringIn 55 = .ok (.ifCond .lt 21, 3) := by decide +kernel
theorem dX3_bringIn_58 : decode cX3_bringIn 58 = .ok (.iload_n 2, 1) := by decide +kernel
theorem dX3_bringIn_59 : decode cX3_bringIn 59 = .ok (.bipush 6, 2) := by decide +kernel
theorem dX3_bringIn_61 : decode cX3_bringIn 61 = .ok (.if_icmp .ge 15, 3) := by decide +kernel
theorem dX3_bringIn_64 : decode cX3_bringIn 64 = .ok (.aload_n 0, 1) := by decide +kernel
theorem dX3_bringIn_65 : decode cX3_bringIn 65 = .ok (.getfield 19, 3) := by decide +kernel
theorem dX3_bringIn_68 : decode cX3_bringIn 68 = .ok (.iload_n 2, 1) := by decide +kernel
theorem dX3_bringIn_69 : decode cX3_bringIn 69 = .ok (.aload_n 1, 1) := by decide +kernel
theorem dX3_bringIn_70 : decode cX3_bringIn 70 = .ok (.aastore, 1) := by decide +kernel
theorem dX3_bringIn_71 : decode cX3_bringIn 71 = .ok (.aload_n 1, 1) := by decide +kernel
theorem dX3_bringIn_72 : decode cX3_bringIn 72 = .ok (.iload_n 2, 1) := by decide +kernel
theorem dX3_bringIn_73 : decode cX3_bringIn 73 = .ok (.putfield 135, 3) := by decide +kernel
theorem dX3_bringIn_76 : decode cX3_bringIn 76 = .ok (.iload_n 2, 1) := by decide +kernel
theorem dX3_bringIn_77 : decode cX3_bringIn 77 = .ok (.ireturn, 1) := by decide +kernel
theorem dX3_leastFreeSlot_0 : decode cX3_leastFreeSlot 0 = .ok (.iconst 0, 1) := by decide +kernel
theorem dX3_leastFreeSlot_1 : decode cX3_leastFreeSlot 1 = .ok (.istore_n 1, 1) := by decide +kernel
theorem dX3_leastFreeSlot_2 : decode cX3_leastFreeSlot 2 = .ok (.iload_n 1, 1) := by decide +kernel
theorem dX3_leastFreeSlot_3 : decode cX3_leastFreeSlot 3 = .ok (.aload_n 0, 1) := by decide +kernel
theorem dX3_leastFreeSlot_4 : decode cX3_leastFreeSlot 4 = .ok (.getfield 22, 3) := by decide +kernel
theorem dX3_leastFreeSlot_7 : decode cX3_leastFreeSlot 7 = .ok (.if_icmp .ge 20, 3) := by decide +kernel
theorem dX3_leastFreeSlot_10 : decode cX3_leastFreeSlot 10 = .ok (.aload_n 0, 1) := by decide +kernel
theorem dX3_leastFreeSlot_11 : decode cX3_leastFreeSlot 11 = .ok (.getfield 19, 3) := by decide +kernel
theorem dX3_leastFreeSlot_14 : decode cX3_leastFreeSlot 14 = .ok (.iload_n 1, 1) := by decide +kernel
theorem dX3_leastFreeSlot_15 : decode cX3_leastFreeSlot 15 = .ok (.aaload, 1) := by decide +kernel
theorem dX3_leastFreeSlot_16 : decode cX3_leastFreeSlot 16 = .ok (.ifnonnull 5, 3) := by decide +kernel
theorem dX3_leastFreeSlot_19 : decode cX3_leastFreeSlot 19 = .ok (.iload_n 1, 1) := by decide +kernel
theorem dX3_leastFreeSlot_20 : decode cX3_leastFreeSlot 20 = .ok (.ireturn, 1) := by decide +kernel
theorem dX3_leastFreeSlot_21 : decode cX3_leastFreeSlot 21 = .ok (.iinc 1 1, 3) := by decide +kernel
theorem dX3_leastFreeSlot_24 : decode cX3_leastFreeSlot 24 = .ok (.goto (-22), 3) := by decide +kernel
theorem dX3_leastFreeSlot_27 : decode cX3_leastFreeSlot 27 = .ok (.bipush (-9), 2) := by decide +kernel
theorem dX3_leastFreeSlot_29 : decode cX3_leastFreeSlot 29 = .ok (.ireturn, 1) := by decide +kernel
theorem dX3_whichGoes_0 : decode cX3_whichGoes 0 = .ok (.aconst_null, 1) := by decide +kernel
theorem dX3_whichGoes_1 : decode cX3_whichGoes 1 = .ok (.astore_n 2, 1) := by decide +kernel
theorem dX3_whichGoes_2 : decode cX3_whichGoes 2 = .ok (.aconst_null, 1) := by decide +kernel
theorem dX3_whichGoes_3 : decode cX3_whichGoes 3 = .ok (.astore_n 3, 1) := by decide +kernel
theorem dX3_whichGoes_4 : decode cX3_whichGoes 4 = .ok (.iconst 0, 1) := by decide +kernel
theorem dX3_whichGoes_5 : decode cX3_whichGoes 5 = .ok (.istore 4, 2) := by decide +kernel
theorem dX3_whichGoes_7 : decode cX3_whichGoes 7 = .ok (.iload 4, 2) := by decide +kernel
theorem dX3_whichGoes_9 : decode cX3_whichGoes 9 = .ok (.aload_n 0, 1) := by decide +kernel
theorem dX3_whichGoes_10 : decode cX3_whichGoes 10 = .ok (.getfield 15, 3) := by decide +kernel
theorem dX3_whichGoes_13 : decode cX3_whichGoes 13 = .ok (.if_icmp .ge 105, 3) := by decide +kernel
theorem dX3_whichGoes_16 : decode cX3_whichGoes 16 = .ok (.aload_n 0, 1) := by decide +kernel
theorem dX3_whichGoes_17 : decode cX3_whichGoes 17 = .ok (.getfield 11, 3) := by decide +kernel
theorem dX3_whichGoes_20 : decode cX3_whichGoes 20 = .ok (.iload 4, 2) := by decide +kernel
theorem dX3_whichGoes_22 : decode cX3_whichGoes 22 = .ok (.aaload, 1) := by decide +kernel
theorem dX3_whichGoes_23 : decode cX3_whichGoes 23 = .ok (.astore 5, 2) := by decide +kernel
theorem dX3_whichGoes_25 : decode cX3_whichGoes 25 = .ok (.aload 5, 2) := by decide +kernel
theorem dX3_whichGoes_27 : decode cX3_whichGoes 27 = .ok (.getfield 135, 3) := by decide +kernel
theorem dX3_whichGoes_30 : decode cX3_whichGoes 30 = .ok (.bipush (-9), 2) := by decide +kernel
theorem dX3_whichGoes_32 : decode cX3_whichGoes 32 = .ok (.if_icmp .ne 6, 3) := by decide +kernel
theorem dX3_whichGoes_35 : decode cX3_whichGoes 35 = .ok (.goto 77, 3) := by decide +kernel
theorem dX3_whichGoes_38 : decode cX3_whichGoes 38 = .ok (.aload 5, 2) := by decide +kernel
theorem dX3_whichGoes_40 : decode cX3_whichGoes 40 = .ok (.getfield 95, 3) := by decide +kernel
theorem dX3_whichGoes_43 : decode cX3_whichGoes 43 = .ok (.bipush 9, 2) := by decide +kernel
theorem dX3_whichGoes_45 : decode cX3_whichGoes 45 = .ok (.iaload, 1) := by decide +kernel
theorem dX3_whichGoes_46 : decode cX3_whichGoes 46 = .ok (.istore 6, 2) := by decide +kernel
theorem dX3_whichGoes_48 : decode cX3_whichGoes 48 = .ok (.aload 5, 2) := by decide +kernel
theorem dX3_whichGoes_50 : decode cX3_whichGoes 50 = .ok (.aload 5, 2) := by decide +kernel
theorem dX3_whichGoes_52 : decode cX3_whichGoes 52 = .ok (.getfield 138, 3) := by decide +kernel
theorem dX3_whichGoes_55 : decode cX3_whichGoes 55 = .ok (.aload_n 0, 1) := by decide +kernel
theorem dX3_whichGoes_56 : decode cX3_whichGoes 56 = .ok (.getfield 40, 3) := by decide +kernel
theorem dX3_whichGoes_59 : decode cX3_whichGoes 59 = .ok (.invokevirtual 141, 3) := by decide +kernel
theorem dX3_whichGoes_62 : decode cX3_whichGoes 62 = .ok (.ifCond .ne 25, 3) := by decide +kernel
theorem dX3_whichGoes_65 : decode cX3_whichGoes 65 = .ok (.aload_n 2, 1) := by decide +kernel
theorem dX3_whichGoes_66 : decode cX3_whichGoes 66 = .ok (.ifnull 15, 3) := by decide +kernel
theorem dX3_whichGoes_69 : decode cX3_whichGoes 69 = .ok (.iload 6, 2) := by decide +kernel
theorem dX3_whichGoes_71 : decode cX3_whichGoes 71 = .ok (.aload_n 2, 1) := by decide +kernel
theorem dX3_whichGoes_72 : decode cX3_whichGoes 72 = .ok (.getfield 95, 3) := by decide +kernel
theorem dX3_whichGoes_75 : decode cX3_whichGoes 75 = .ok (.bipush 9, 2) := by decide +kernel
theorem dX3_whichGoes_77 : decode cX3_whichGoes 77 = .ok (.iaload, 1) := by decide +kernel
theorem dX3_whichGoes_78 : decode cX3_whichGoes 78 = .ok (.if_icmp .ge 34, 3) := by decide +kernel
theorem dX3_whichGoes_81 : decode cX3_whichGoes 81 = .ok (.aload 5, 2) := by decide +kernel
theorem dX3_whichGoes_83 : decode cX3_whichGoes 83 = .ok (.astore_n 2, 1) := by decide +kernel
theorem dX3_whichGoes_84 : decode cX3_whichGoes 84 = .ok (.goto 28, 3) := by decide +kernel
theorem dX3_whichGoes_87 : decode cX3_whichGoes 87 = .ok (.iload 6, 2) := by decide +kernel
theorem dX3_whichGoes_89 : decode cX3_whichGoes 89 = .ok (.iload_n 1, 1) := by decide +kernel
theorem dX3_whichGoes_90 : decode cX3_whichGoes 90 = .ok (.if_icmp .ge 22, 3) := by decide +kernel
theorem dX3_whichGoes_93 : decode cX3_whichGoes 93 = .ok (.aload_n 3, 1) := by decide +kernel
theorem dX3_whichGoes_94 : decode cX3_whichGoes 94 = .ok (.ifnull 15, 3) := by decide +kernel
theorem dX3_whichGoes_97 : decode cX3_whichGoes 97 = .ok (.iload 6, 2) := by decide +kernel
theorem dX3_whichGoes_99 : decode cX3_whichGoes 99 = .ok (.aload_n 3, 1) := by decide +kernel
theorem dX3_whichGoes_100 : decode cX3_whichGoes 100 = .ok (.getfield 95, 3) := by decide +kernel
theorem dX3_whichGoes_103 : decode cX3_whichGoes 103 = .ok (.bipush 9, 2) := by decide +kernel
theorem dX3_whichGoes_105 : decode cX3_whichGoes 105 = .ok (.iaload, 1) := by decide +kernel
theorem dX3_whichGoes_106 : decode cX3_whichGoes 106 = .ok (.if_icmp .ge 6, 3) := by decide +kernel
theorem dX3_whichGoes_109 : decode cX3_whichGoes 109 = .ok (.aload 5, 2) := by decide +kernel
theorem dX3_whichGoes_111 : decode cX3_whichGoes 111 = .ok (.astore_n 3, 1) := by decide +kernel
theorem dX3_whichGoes_112 : decode cX3_whichGoes 112 = .ok (.iinc 4 1, 3) := by decide +kernel
theorem dX3_whichGoes_115 : decode cX3_whichGoes 115 = .ok (.goto (-108), 3) := by decide +kernel
theorem dX3_whichGoes_118 : decode cX3_whichGoes 118 = .ok (.aload_n 2, 1) := by decide +kernel
theorem dX3_whichGoes_119 : decode cX3_whichGoes 119 = .ok (.ifnull 7, 3) := by decide +kernel
theorem dX3_whichGoes_122 : decode cX3_whichGoes 122 = .ok (.aload_n 2, 1) := by decide +kernel
theorem dX3_whichGoes_123 : decode cX3_whichGoes 123 = .ok (.goto 4, 3) := by decide +kernel
theorem dX3_whichGoes_126 : decode cX3_whichGoes 126 = .ok (.aload_n 3, 1) := by decide +kernel
theorem dX3_whichGoes_127 : decode cX3_whichGoes 127 = .ok (.areturn, 1) := by decide +kernel
theorem dX3_takeOut_0 : decode cX3_takeOut 0 = .ok (.aload_n 1, 1) := by decide +kernel
theorem dX3_takeOut_1 : decode cX3_takeOut 1 = .ok (.getfield 135, 3) := by decide +kernel
theorem dX3_takeOut_4 : decode cX3_takeOut 4 = .ok (.istore_n 2, 1) := by decide +kernel
theorem dX3_takeOut_5 : decode cX3_takeOut 5 = .ok (.iload_n 2, 1) := by decide +kernel
theorem dX3_takeOut_6 : decode cX3_takeOut 6 = .ok (.ifCond .lt 16, 3) := by decide +kernel
theorem dX3_takeOut_9 : decode cX3_takeOut 9 = .ok (.iload_n 2, 1) := by decide +kernel
theorem dX3_takeOut_10 : decode cX3_takeOut 10 = .ok (.bipush 6, 2) := by decide +kernel
theorem dX3_takeOut_12 : decode cX3_takeOut 12 = .ok (.if_icmp .ge 10, 3) := by decide +kernel
theorem dX3_takeOut_15 : decode cX3_takeOut 15 = .ok (.aload_n 0, 1) := by decide +kernel
theorem dX3_takeOut_16 : decode cX3_takeOut 16 = .ok (.getfield 19, 3) := by decide +kernel
theorem dX3_takeOut_19 : decode cX3_takeOut 19 = .ok (.iload_n 2, 1) := by decide +kernel
theorem dX3_takeOut_20 : decode cX3_takeOut 20 = .ok (.aconst_null, 1) := by decide +kernel
theorem dX3_takeOut_21 : decode cX3_takeOut 21 = .ok (.aastore, 1) := by decide +kernel
theorem dX3_takeOut_22 : decode cX3_takeOut 22 = .ok (.aload_n 1, 1) := by decide +kernel
theorem dX3_takeOut_23 : decode cX3_takeOut 23 = .ok (.bipush (-9), 2) := by decide +kernel
theorem dX3_takeOut_25 : decode cX3_takeOut 25 = .ok (.putfield 135, 3) := by decide +kernel
theorem dX3_takeOut_28 : decode cX3_takeOut 28 = .ok (.aload_n 1, 1) := by decide +kernel
theorem dX3_takeOut_29 : decode cX3_takeOut 29 = .ok (.bipush (-9), 2) := by decide +kernel
theorem dX3_takeOut_31 : decode cX3_takeOut 31 = .ok (.putfield 138, 3) := by decide +kernel
theorem dX3_takeOut_34 : decode cX3_takeOut 34 = .ok (.iconst 0, 1) := by decide +kernel
theorem dX3_takeOut_35 : decode cX3_takeOut 35 = .ok (.istore_n 3, 1) := by decide +kernel
theorem dX3_takeOut_36 : decode cX3_takeOut 36 = .ok (.iload_n 3, 1) := by decide +kernel
theorem dX3_takeOut_37 : decode cX3_takeOut 37 = .ok (.iconst 4, 1) := by decide +kernel
theorem dX3_takeOut_38 : decode cX3_takeOut 38 = .ok (.if_icmp .ge 16, 3) := by decide +kernel
theorem dX3_takeOut_41 : decode cX3_takeOut 41 = .ok (.aload_n 1, 1) := by decide +kernel
theorem dX3_takeOut_42 : decode cX3_takeOut 42 = .ok (.getfield 163, 3) := by decide +kernel
theorem dX3_takeOut_45 : decode cX3_takeOut 45 = .ok (.iload_n 3, 1) := by decide +kernel
theorem dX3_takeOut_46 : decode cX3_takeOut 46 = .ok (.iconst 0, 1) := by decide +kernel
theorem dX3_takeOut_47 : decode cX3_takeOut 47 = .ok (.iastore, 1) := by decide +kernel
theorem dX3_takeOut_48 : decode cX3_takeOut 48 = .ok (.iinc 3 1, 3) := by decide +kernel
theorem dX3_takeOut_51 : decode cX3_takeOut 51 = .ok (.goto (-15), 3) := by decide +kernel
theorem dX3_takeOut_54 : decode cX3_takeOut 54 = .ok (.return_, 1) := by decide +kernel
theorem dX3_letGo_0 : decode cX3_letGo 0 = .ok (.aload_n 0, 1) := by decide +kernel
theorem dX3_letGo_1 : decode cX3_letGo 1 = .ok (.getfield 36, 3) := by decide +kernel
theorem dX3_letGo_4 : decode cX3_letGo 4 = .ok (.iload_n 1, 1) := by decide +kernel
theorem dX3_letGo_5 : decode cX3_letGo 5 = .ok (.aaload, 1) := by decide +kernel
theorem dX3_letGo_6 : decode cX3_letGo 6 = .ok (.iconst 0, 1) := by decide +kernel
theorem dX3_letGo_7 : decode cX3_letGo 7 = .ok (.putfield 157, 3) := by decide +kernel
theorem dX3_letGo_10 : decode cX3_letGo 10 = .ok (.iconst 0, 1) := by decide +kernel
theorem dX3_letGo_11 : decode cX3_letGo 11 = .ok (.istore_n 2, 1) := by decide +kernel
theorem dX3_letGo_12 : decode cX3_letGo 12 = .ok (.iload_n 2, 1) := by decide +kernel
theorem dX3_letGo_13 : decode cX3_letGo 13 = .ok (.bipush 12, 2) := by decide +kernel
theorem dX3_letGo_15 : decode cX3_letGo 15 = .ok (.if_icmp .ge 21, 3) := by decide +kernel
theorem dX3_letGo_18 : decode cX3_letGo 18 = .ok (.aload_n 0, 1) := by decide +kernel
theorem dX3_letGo_19 : decode cX3_letGo 19 = .ok (.getfield 11, 3) := by decide +kernel
theorem dX3_letGo_22 : decode cX3_letGo 22 = .ok (.iload_n 2, 1) := by decide +kernel
theorem dX3_letGo_23 : decode cX3_letGo 23 = .ok (.aaload, 1) := by decide +kernel
theorem dX3_letGo_24 : decode cX3_letGo 24 = .ok (.getfield 163, 3) := by decide +kernel
theorem dX3_letGo_27 : decode cX3_letGo 27 = .ok (.iload_n 1, 1) := by decide +kernel
theorem dX3_letGo_28 : decode cX3_letGo 28 = .ok (.iconst 0, 1) := by decide +kernel
theorem dX3_letGo_29 : decode cX3_letGo 29 = .ok (.iastore, 1) := by decide +kernel
theorem dX3_letGo_30 : decode cX3_letGo 30 = .ok (.iinc 2 1, 3) := by decide +kernel
theorem dX3_letGo_33 : decode cX3_letGo 33 = .ok (.goto (-21), 3) := by decide +kernel
theorem dX3_letGo_36 : decode cX3_letGo 36 = .ok (.return_, 1) := by decide +kernel
theorem dX3_lossAt_0 : decode cX3_lossAt 0 = .ok (.aload_n 0, 1) := by decide +kernel
theorem dX3_lossAt_1 : decode cX3_lossAt 1 = .ok (.getfield 49, 3) := by decide +kernel
theorem dX3_lossAt_4 : decode cX3_lossAt 4 = .ok (.ifCond .ne 22, 3) := by decide +kernel
theorem dX3_lossAt_7 : decode cX3_lossAt 7 = .ok (.aload_n 0, 1) := by decide +kernel
theorem dX3_lossAt_8 : decode cX3_lossAt 8 = .ok (.getfield 43, 3) := by decide +kernel
theorem dX3_lossAt_11 : decode cX3_lossAt 11 = .ok (.ifCond .le 15, 3) := by decide +kernel
theorem dX3_lossAt_14 : decode cX3_lossAt 14 = .ok (.aload_n 0, 1) := by decide +kernel
theorem dX3_lossAt_15 : decode cX3_lossAt 15 = .ok (.getfield 46, 3) := by decide +kernel
theorem dX3_lossAt_18 : decode cX3_lossAt 18 = .ok (.aload_n 0, 1) := by decide +kernel
theorem dX3_lossAt_19 : decode cX3_lossAt 19 = .ok (.getfield 43, 3) := by decide +kernel
theorem dX3_lossAt_22 : decode cX3_lossAt 22 = .ok (.iadd, 1) := by decide +kernel
theorem dX3_lossAt_23 : decode cX3_lossAt 23 = .ok (.goto 6, 3) := by decide +kernel
theorem dX3_lossAt_26 : decode cX3_lossAt 26 = .ok (.ldc_w 272, 3) := by decide +kernel
theorem dX3_lossAt_29 : decode cX3_lossAt 29 = .ok (.ireturn, 1) := by decide +kernel
theorem dX3_startBy_0 : decode cX3_startBy 0 = .ok (.aload_n 1, 1) := by decide +kernel
theorem dX3_startBy_1 : decode cX3_startBy 1 = .ok (.getfield 138, 3) := by decide +kernel
theorem dX3_startBy_4 : decode cX3_startBy 4 = .ok (.istore_n 3, 1) := by decide +kernel
theorem dX3_startBy_5 : decode cX3_startBy 5 = .ok (.iconst 0, 1) := by decide +kernel
theorem dX3_startBy_6 : decode cX3_startBy 6 = .ok (.istore 4, 2) := by decide +kernel
theorem dX3_startBy_8 : decode cX3_startBy 8 = .ok (.iload 4, 2) := by decide +kernel
theorem dX3_startBy_10 : decode cX3_startBy 10 = .ok (.iconst 4, 1) := by decide +kernel
theorem dX3_startBy_11 : decode cX3_startBy 11 = .ok (.if_icmp .ge 62, 3) := by decide +kernel
theorem dX3_startBy_14 : decode cX3_startBy 14 = .ok (.aload_n 1, 1) := by decide +kernel
theorem dX3_startBy_15 : decode cX3_startBy 15 = .ok (.getfield 163, 3) := by decide +kernel
theorem dX3_startBy_18 : decode cX3_startBy 18 = .ok (.iload 4, 2) := by decide +kernel
theorem dX3_startBy_20 : decode cX3_startBy 20 = .ok (.iaload, 1) := by decide +kernel
theorem dX3_startBy_21 : decode cX3_startBy 21 = .ok (.istore 5, 2) := by decide +kernel
theorem dX3_startBy_23 : decode cX3_startBy 23 = .ok (.iload 5, 2) := by decide +kernel
theorem dX3_startBy_25 : decode cX3_startBy 25 = .ok (.ifCond .le 42, 3) := by decide +kernel
theorem dX3_startBy_28 : decode cX3_startBy 28 = .ok (.iload_n 2, 1) := by decide +kernel
theorem dX3_startBy_29 : decode cX3_startBy 29 = .ok (.iload_n 2, 1) := by decide +kernel
theorem dX3_startBy_30 : decode cX3_startBy 30 = .ok (.aload_n 0, 1) := by decide +kernel
theorem dX3_startBy_31 : decode cX3_startBy 31 = .ok (.getfield 36, 3) := by decide +kernel
theorem dX3_startBy_34 : decode cX3_startBy 34 = .ok (.iload 4, 2) := by decide +kernel
theorem dX3_startBy_36 : decode cX3_startBy 36 = .ok (.aaload, 1) := by decide +kernel
theorem dX3_startBy_37 : decode cX3_startBy 37 = .ok (.getfield 160, 3) := by decide +kernel
theorem dX3_startBy_40 : decode cX3_startBy 40 = .ok (.isub, 1) := by decide +kernel
theorem dX3_startBy_41 : decode cX3_startBy 41 = .ok (.iload 5, 2) := by decide +kernel
theorem dX3_startBy_43 : decode cX3_startBy 43 = .ok (.invokestatic 273, 3) := by decide +kernel
theorem dX3_startBy_46 : decode cX3_startBy 46 = .ok (.isub, 1) := by decide +kernel
theorem dX3_startBy_47 : decode cX3_startBy 47 = .ok (.istore 6, 2) := by decide +kernel
theorem dX3_startBy_49 : decode cX3_startBy 49 = .ok (.iload 6, 2) := by decide +kernel
theorem dX3_startBy_51 : decode cX3_startBy 51 = .ok (.aload_n 0, 1) := by decide +kernel
theorem dX3_startBy_52 : decode cX3_startBy 52 = .ok (.getfield 40, 3) := by decide +kernel
theorem dX3_startBy_55 : decode cX3_startBy 55 = .ok (.if_icmp .le 12, 3) := by decide +kernel
theorem dX3_startBy_58 : decode cX3_startBy 58 = .ok (.iload 6, 2) := by decide +kernel
theorem dX3_startBy_60 : decode cX3_startBy 60 = .ok (.iload_n 3, 1) := by decide +kernel
theorem dX3_startBy_61 : decode cX3_startBy 61 = .ok (.if_icmp .le 6, 3) := by decide +kernel
theorem dX3_startBy_64 : decode cX3_startBy 64 = .ok (.iload 6, 2) := by decide +kernel
theorem dX3_startBy_66 : decode cX3_startBy 66 = .ok (.istore_n 3, 1) := by decide +kernel
theorem dX3_startBy_67 : decode cX3_startBy 67 = .ok (.iinc 4 1, 3) := by decide +kernel
theorem dX3_startBy_70 : decode cX3_startBy 70 = .ok (.goto (-62), 3) := by decide +kernel
theorem dX3_startBy_73 : decode cX3_startBy 73 = .ok (.iload_n 3, 1) := by decide +kernel
theorem dX3_startBy_74 : decode cX3_startBy 74 = .ok (.ireturn, 1) := by decide +kernel
theorem dX3_beginAgainUpTo_0 : decode cX3_beginAgainUpTo 0 = .ok (.iconst 0, 1) := by decide +kernel
theorem dX3_beginAgainUpTo_1 : decode cX3_beginAgainUpTo 1 = .ok (.istore_n 2, 1) := by decide +kernel
theorem dX3_beginAgainUpTo_2 : decode cX3_beginAgainUpTo 2 = .ok (.iload_n 2, 1) := by decide +kernel
theorem dX3_beginAgainUpTo_3 : decode cX3_beginAgainUpTo 3 = .ok (.bipush 6, 2) := by decide +kernel
theorem dX3_beginAgainUpTo_5 : decode cX3_beginAgainUpTo 5 = .ok (.if_icmp .ge 30, 3) := by decide +kernel
theorem dX3_beginAgainUpTo_8 : decode cX3_beginAgainUpTo 8 = .ok (.aload_n 0, 1) := by decide +kernel
theorem dX3_beginAgainUpTo_9 : decode cX3_beginAgainUpTo 9 = .ok (.getfield 19, 3) := by decide +kernel
theorem dX3_beginAgainUpTo_12 : decode cX3_beginAgainUpTo 12 = .ok (.iload_n 2, 1) := by decide +kernel
theorem dX3_beginAgainUpTo_13 : decode cX3_beginAgainUpTo 13 = .ok (.aaload, 1) := by decide +kernel
theorem dX3_beginAgainUpTo_14 : decode cX3_beginAgainUpTo 14 = .ok (.astore_n 3, 1) := by decide +kernel
theorem dX3_beginAgainUpTo_15 : decode cX3_beginAgainUpTo 15 = .ok (.aload_n 3, 1) := by decide +kernel
theorem dX3_beginAgainUpTo_16 : decode cX3_beginAgainUpTo 16 = .ok (.ifnull 13, 3) := by decide +kernel
theorem dX3_beginAgainUpTo_19 : decode cX3_beginAgainUpTo 19 = .ok (.aload_n 3, 1) := by decide +kernel
theorem dX3_beginAgainUpTo_20 : decode cX3_beginAgainUpTo 20 = .ok (.aload_n 0, 1) := by decide +kernel
theorem dX3_beginAgainUpTo_21 : decode cX3_beginAgainUpTo 21 = .ok (.aload_n 3, 1) := by decide +kernel
theorem dX3_beginAgainUpTo_22 : decode cX3_beginAgainUpTo 22 = .ok (.iload_n 1, 1) := by decide +kernel
theorem dX3_beginAgainUpTo_23 : decode cX3_beginAgainUpTo 23 = .ok (.invokevirtual 276, 3) := by decide +kernel
theorem dX3_beginAgainUpTo_26 : decode cX3_beginAgainUpTo 26 = .ok (.putfield 138, 3) := by decide +kernel
theorem dX3_beginAgainUpTo_29 : decode cX3_beginAgainUpTo 29 = .ok (.iinc 2 1, 3) := by decide +kernel
theorem dX3_beginAgainUpTo_32 : decode cX3_beginAgainUpTo 32 = .ok (.goto (-30), 3) := by decide +kernel
theorem dX3_beginAgainUpTo_35 : decode cX3_beginAgainUpTo 35 = .ok (.return_, 1) := by decide +kernel
theorem dX3_loseHostAt_0 : decode cX3_loseHostAt 0 = .ok (.aload_n 0, 1) := by decide +kernel
theorem dX3_loseHostAt_1 : decode cX3_loseHostAt 1 = .ok (.iconst 1, 1) := by decide +kernel
theorem dX3_loseHostAt_2 : decode cX3_loseHostAt 2 = .ok (.putfield 49, 3) := by decide +kernel
theorem dX3_loseHostAt_5 : decode cX3_loseHostAt 5 = .ok (.iconst 0, 1) := by decide +kernel
theorem dX3_loseHostAt_6 : decode cX3_loseHostAt 6 = .ok (.istore_n 2, 1) := by decide +kernel
theorem dX3_loseHostAt_7 : decode cX3_loseHostAt 7 = .ok (.iload_n 2, 1) := by decide +kernel
theorem dX3_loseHostAt_8 : decode cX3_loseHostAt 8 = .ok (.bipush 6, 2) := by decide +kernel
theorem dX3_loseHostAt_10 : decode cX3_loseHostAt 10 = .ok (.if_icmp .ge 38, 3) := by decide +kernel
theorem dX3_loseHostAt_13 : decode cX3_loseHostAt 13 = .ok (.aload_n 0, 1) := by decide +kernel
theorem dX3_loseHostAt_14 : decode cX3_loseHostAt 14 = .ok (.getfield 19, 3) := by decide +kernel
theorem dX3_loseHostAt_17 : decode cX3_loseHostAt 17 = .ok (.iload_n 2, 1) := by decide +kernel
theorem dX3_loseHostAt_18 : decode cX3_loseHostAt 18 = .ok (.aaload, 1) := by decide +kernel
theorem dX3_loseHostAt_19 : decode cX3_loseHostAt 19 = .ok (.astore_n 3, 1) := by decide +kernel
theorem dX3_loseHostAt_20 : decode cX3_loseHostAt 20 = .ok (.aload_n 3, 1) := by decide +kernel
theorem dX3_loseHostAt_21 : decode cX3_loseHostAt 21 = .ok (.ifnull 21, 3) := by decide +kernel
theorem dX3_loseHostAt_24 : decode cX3_loseHostAt 24 = .ok (.aload_n 3, 1) := by decide +kernel
theorem dX3_loseHostAt_25 : decode cX3_loseHostAt 25 = .ok (.aload_n 3, 1) := by decide +kernel
theorem dX3_loseHostAt_26 : decode cX3_loseHostAt 26 = .ok (.getfield 138, 3) := by decide +kernel
theorem dX3_loseHostAt_29 : decode cX3_loseHostAt 29 = .ok (.iload_n 1, 1) := by decide +kernel
theorem dX3_loseHostAt_30 : decode cX3_loseHostAt 30 = .ok (.invokevirtual 141, 3) := by decide +kernel
theorem dX3_loseHostAt_33 : decode cX3_loseHostAt 33 = .ok (.ifCond .eq 9, 3) := by decide +kernel
theorem dX3_loseHostAt_36 : decode cX3_loseHostAt 36 = .ok (.aload_n 3, 1) := by decide +kernel
theorem dX3_loseHostAt_37 : decode cX3_loseHostAt 37 = .ok (.bipush (-9), 2) := by decide +kernel
theorem dX3_loseHostAt_39 : decode cX3_loseHostAt 39 = .ok (.putfield 138, 3) := by decide +kernel
theorem dX3_loseHostAt_42 : decode cX3_loseHostAt 42 = .ok (.iinc 2 1, 3) := by decide +kernel
theorem dX3_loseHostAt_45 : decode cX3_loseHostAt 45 = .ok (.goto (-38), 3) := by decide +kernel
theorem dX3_loseHostAt_48 : decode cX3_loseHostAt 48 = .ok (.iconst 0, 1) := by decide +kernel
theorem dX3_loseHostAt_49 : decode cX3_loseHostAt 49 = .ok (.istore_n 2, 1) := by decide +kernel
theorem dX3_loseHostAt_50 : decode cX3_loseHostAt 50 = .ok (.iload_n 2, 1) := by decide +kernel
theorem dX3_loseHostAt_51 : decode cX3_loseHostAt 51 = .ok (.iconst 4, 1) := by decide +kernel
theorem dX3_loseHostAt_52 : decode cX3_loseHostAt 52 = .ok (.if_icmp .ge 14, 3) := by decide +kernel
theorem dX3_loseHostAt_55 : decode cX3_loseHostAt 55 = .ok (.aload_n 0, 1) := by decide +kernel
theorem dX3_loseHostAt_56 : decode cX3_loseHostAt 56 = .ok (.iload_n 2, 1) := by decide +kernel
theorem dX3_loseHostAt_57 : decode cX3_loseHostAt 57 = .ok (.invokevirtual 166, 3) := by decide +kernel
theorem dX3_loseHostAt_60 : decode cX3_loseHostAt 60 = .ok (.iinc 2 1, 3) := by decide +kernel
theorem dX3_loseHostAt_63 : decode cX3_loseHostAt 63 = .ok (.goto (-13), 3) := by decide +kernel
theorem dX3_loseHostAt_66 : decode cX3_loseHostAt 66 = .ok (.return_, 1) := by decide +kernel
theorem dX3_howManyLoaded_0 : decode cX3_howManyLoaded 0 = .ok (.iconst 0, 1) := by decide +kernel
theorem dX3_howManyLoaded_1 : decode cX3_howManyLoaded 1 = .ok (.istore_n 1, 1) := by decide +kernel
theorem dX3_howManyLoaded_2 : decode cX3_howManyLoaded 2 = .ok (.iconst 0, 1) := by decide +kernel
theorem dX3_howManyLoaded_3 : decode cX3_howManyLoaded 3 = .ok (.istore_n 2, 1) := by decide +kernel
theorem dX3_howManyLoaded_4 : decode cX3_howManyLoaded 4 = .ok (.iload_n 2, 1) := by decide +kernel
theorem dX3_howManyLoaded_5 : decode cX3_howManyLoaded 5 = .ok (.bipush 6, 2) := by decide +kernel
theorem dX3_howManyLoaded_7 : decode cX3_howManyLoaded 7 = .ok (.if_icmp .ge 21, 3) := by decide +kernel
theorem dX3_howManyLoaded_10 : decode cX3_howManyLoaded 10 = .ok (.aload_n 0, 1) := by decide +kernel
theorem dX3_howManyLoaded_11 : decode cX3_howManyLoaded 11 = .ok (.getfield 19, 3) := by decide +kernel
theorem dX3_howManyLoaded_14 : decode cX3_howManyLoaded 14 = .ok (.iload_n 2, 1) := by decide +kernel
theorem dX3_howManyLoaded_15 : decode cX3_howManyLoaded 15 = .ok (.aaload, 1) := by decide +kernel
theorem dX3_howManyLoaded_16 : decode cX3_howManyLoaded 16 = .ok (.ifnull 6, 3) := by decide +kernel
theorem dX3_howManyLoaded_19 : decode cX3_howManyLoaded 19 = .ok (.iinc 1 1, 3) := by decide +kernel
theorem dX3_howManyLoaded_22 : decode cX3_howManyLoaded 22 = .ok (.iinc 2 1, 3) := by decide +kernel
theorem dX3_howManyLoaded_25 : decode cX3_howManyLoaded 25 = .ok (.goto (-21), 3) := by decide +kernel
theorem dX3_howManyLoaded_28 : decode cX3_howManyLoaded 28 = .ok (.iload_n 1, 1) := by decide +kernel
theorem dX3_howManyLoaded_29 : decode cX3_howManyLoaded 29 = .ok (.ireturn, 1) := by decide +kernel
theorem dX3_howManyPlay_0 : decode cX3_howManyPlay 0 = .ok (.iconst 0, 1) := by decide +kernel
theorem dX3_howManyPlay_1 : decode cX3_howManyPlay 1 = .ok (.istore_n 1, 1) := by decide +kernel
theorem dX3_howManyPlay_2 : decode cX3_howManyPlay 2 = .ok (.iconst 0, 1) := by decide +kernel
theorem dX3_howManyPlay_3 : decode cX3_howManyPlay 3 = .ok (.istore_n 2, 1) := by decide +kernel
theorem dX3_howManyPlay_4 : decode cX3_howManyPlay 4 = .ok (.iload_n 2, 1) := by decide +kernel
theorem dX3_howManyPlay_5 : decode cX3_howManyPlay 5 = .ok (.bipush 6, 2) := by decide +kernel
theorem dX3_howManyPlay_7 : decode cX3_howManyPlay 7 = .ok (.if_icmp .ge 38, 3) := by decide +kernel
theorem dX3_howManyPlay_10 : decode cX3_howManyPlay 10 = .ok (.aload_n 0, 1) := by decide +kernel
theorem dX3_howManyPlay_11 : decode cX3_howManyPlay 11 = .ok (.getfield 19, 3) := by decide +kernel
theorem dX3_howManyPlay_14 : decode cX3_howManyPlay 14 = .ok (.iload_n 2, 1) := by decide +kernel
theorem dX3_howManyPlay_15 : decode cX3_howManyPlay 15 = .ok (.aaload, 1) := by decide +kernel
theorem dX3_howManyPlay_16 : decode cX3_howManyPlay 16 = .ok (.astore_n 3, 1) := by decide +kernel
theorem dX3_howManyPlay_17 : decode cX3_howManyPlay 17 = .ok (.aload_n 3, 1) := by decide +kernel
theorem dX3_howManyPlay_18 : decode cX3_howManyPlay 18 = .ok (.ifnull 21, 3) := by decide +kernel
theorem dX3_howManyPlay_21 : decode cX3_howManyPlay 21 = .ok (.aload_n 3, 1) := by decide +kernel
theorem dX3_howManyPlay_22 : decode cX3_howManyPlay 22 = .ok (.aload_n 3, 1) := by decide +kernel
theorem dX3_howManyPlay_23 : decode cX3_howManyPlay 23 = .ok (.getfield 138, 3) := by decide +kernel
theorem dX3_howManyPlay_26 : decode cX3_howManyPlay 26 = .ok (.aload_n 0, 1) := by decide +kernel
theorem dX3_howManyPlay_27 : decode cX3_howManyPlay 27 = .ok (.getfield 40, 3) := by decide +kernel
theorem dX3_howManyPlay_30 : decode cX3_howManyPlay 30 = .ok (.invokevirtual 141, 3) := by decide +kernel
theorem dX3_howManyPlay_33 : decode cX3_howManyPlay 33 = .ok (.ifCond .eq 6, 3) := by decide +kernel
theorem dX3_howManyPlay_36 : decode cX3_howManyPlay 36 = .ok (.iinc 1 1, 3) := by decide +kernel
theorem dX3_howManyPlay_39 : decode cX3_howManyPlay 39 = .ok (.iinc 2 1, 3) := by decide +kernel
theorem dX3_howManyPlay_42 : decode cX3_howManyPlay 42 = .ok (.goto (-38), 3) := by decide +kernel
theorem dX3_howManyPlay_45 : decode cX3_howManyPlay 45 = .ok (.iload_n 1, 1) := by decide +kernel
theorem dX3_howManyPlay_46 : decode cX3_howManyPlay 46 = .ok (.ireturn, 1) := by decide +kernel
theorem dX3_howManyOn_0 : decode cX3_howManyOn 0 = .ok (.iconst 0, 1) := by decide +kernel
theorem dX3_howManyOn_1 : decode cX3_howManyOn 1 = .ok (.istore_n 1, 1) := by decide +kernel
theorem dX3_howManyOn_2 : decode cX3_howManyOn 2 = .ok (.iconst 0, 1) := by decide +kernel
theorem dX3_howManyOn_3 : decode cX3_howManyOn 3 = .ok (.istore_n 2, 1) := by decide +kernel
theorem dX3_howManyOn_4 : decode cX3_howManyOn 4 = .ok (.iload_n 2, 1) := by decide +kernel
theorem dX3_howManyOn_5 : decode cX3_howManyOn 5 = .ok (.bipush 6, 2) := by decide +kernel
theorem dX3_howManyOn_7 : decode cX3_howManyOn 7 = .ok (.if_icmp .ge 38, 3) := by decide +kernel
theorem dX3_howManyOn_10 : decode cX3_howManyOn 10 = .ok (.aload_n 0, 1) := by decide +kernel
theorem dX3_howManyOn_11 : decode cX3_howManyOn 11 = .ok (.getfield 19, 3) := by decide +kernel
theorem dX3_howManyOn_14 : decode cX3_howManyOn 14 = .ok (.iload_n 2, 1) := by decide +kernel
theorem dX3_howManyOn_15 : decode cX3_howManyOn 15 = .ok (.aaload, 1) := by decide +kernel
theorem dX3_howManyOn_16 : decode cX3_howManyOn 16 = .ok (.astore_n 3, 1) := by decide +kernel
theorem dX3_howManyOn_17 : decode cX3_howManyOn 17 = .ok (.aload_n 3, 1) := by decide +kernel
theorem dX3_howManyOn_18 : decode cX3_howManyOn 18 = .ok (.ifnull 21, 3) := by decide +kernel
theorem dX3_howManyOn_21 : decode cX3_howManyOn 21 = .ok (.aload_n 3, 1) := by decide +kernel
theorem dX3_howManyOn_22 : decode cX3_howManyOn 22 = .ok (.aload_n 3, 1) := by decide +kernel
theorem dX3_howManyOn_23 : decode cX3_howManyOn 23 = .ok (.getfield 138, 3) := by decide +kernel
theorem dX3_howManyOn_26 : decode cX3_howManyOn 26 = .ok (.aload_n 0, 1) := by decide +kernel
theorem dX3_howManyOn_27 : decode cX3_howManyOn 27 = .ok (.getfield 40, 3) := by decide +kernel
theorem dX3_howManyOn_30 : decode cX3_howManyOn 30 = .ok (.invokevirtual 144, 3) := by decide +kernel
theorem dX3_howManyOn_33 : decode cX3_howManyOn 33 = .ok (.ifCond .eq 6, 3) := by decide +kernel
theorem dX3_howManyOn_36 : decode cX3_howManyOn 36 = .ok (.iinc 1 1, 3) := by decide +kernel
theorem dX3_howManyOn_39 : decode cX3_howManyOn 39 = .ok (.iinc 2 1, 3) := by decide +kernel
theorem dX3_howManyOn_42 : decode cX3_howManyOn 42 = .ok (.goto (-38), 3) := by decide +kernel
theorem dX3_howManyOn_45 : decode cX3_howManyOn 45 = .ok (.iload_n 1, 1) := by decide +kernel
theorem dX3_howManyOn_46 : decode cX3_howManyOn 46 = .ok (.ireturn, 1) := by decide +kernel
theorem dX3_howManyHeld_0 : decode cX3_howManyHeld 0 = .ok (.iconst 0, 1) := by decide +kernel
theorem dX3_howManyHeld_1 : decode cX3_howManyHeld 1 = .ok (.istore_n 1, 1) := by decide +kernel
theorem dX3_howManyHeld_2 : decode cX3_howManyHeld 2 = .ok (.iconst 0, 1) := by decide +kernel
theorem dX3_howManyHeld_3 : decode cX3_howManyHeld 3 = .ok (.istore_n 2, 1) := by decide +kernel
theorem dX3_howManyHeld_4 : decode cX3_howManyHeld 4 = .ok (.iload_n 2, 1) := by decide +kernel
theorem dX3_howManyHeld_5 : decode cX3_howManyHeld 5 = .ok (.iconst 4, 1) := by decide +kernel
theorem dX3_howManyHeld_6 : decode cX3_howManyHeld 6 = .ok (.if_icmp .ge 24, 3) := by decide +kernel
theorem dX3_howManyHeld_9 : decode cX3_howManyHeld 9 = .ok (.aload_n 0, 1) := by decide +kernel
theorem dX3_howManyHeld_10 : decode cX3_howManyHeld 10 = .ok (.getfield 36, 3) := by decide +kernel
theorem dX3_howManyHeld_13 : decode cX3_howManyHeld 13 = .ok (.iload_n 2, 1) := by decide +kernel
theorem dX3_howManyHeld_14 : decode cX3_howManyHeld 14 = .ok (.aaload, 1) := by decide +kernel
theorem dX3_howManyHeld_15 : decode cX3_howManyHeld 15 = .ok (.getfield 157, 3) := by decide +kernel
theorem dX3_howManyHeld_18 : decode cX3_howManyHeld 18 = .ok (.ifCond .eq 6, 3) := by decide +kernel
theorem dX3_howManyHeld_21 : decode cX3_howManyHeld 21 = .ok (.iinc 1 1, 3) := by decide +kernel
theorem dX3_howManyHeld_24 : decode cX3_howManyHeld 24 = .ok (.iinc 2 1, 3) := by decide +kernel
theorem dX3_howManyHeld_27 : decode cX3_howManyHeld 27 = .ok (.goto (-23), 3) := by decide +kernel
theorem dX3_howManyHeld_30 : decode cX3_howManyHeld 30 = .ok (.iload_n 1, 1) := by decide +kernel
theorem dX3_howManyHeld_31 : decode cX3_howManyHeld 31 = .ok (.ireturn, 1) := by decide +kernel
theorem dX3_endOfPush_0 : decode cX3_endOfPush 0 = .ok (.aload_n 0, 1) := by decide +kernel
theorem dX3_endOfPush_1 : decode cX3_endOfPush 1 = .ok (.getfield 40, 3) := by decide +kernel
theorem dX3_endOfPush_4 : decode cX3_endOfPush 4 = .ok (.iload_n 1, 1) := by decide +kernel
theorem dX3_endOfPush_5 : decode cX3_endOfPush 5 = .ok (.iadd, 1) := by decide +kernel
theorem dX3_endOfPush_6 : decode cX3_endOfPush 6 = .ok (.aload_n 0, 1) := by decide +kernel
theorem dX3_endOfPush_7 : decode cX3_endOfPush 7 = .ok (.invokevirtual 170, 3) := by decide +kernel
theorem dX3_endOfPush_10 : decode cX3_endOfPush 10 = .ok (.invokestatic 174, 3) := by decide +kernel
theorem dX3_endOfPush_13 : decode cX3_endOfPush 13 = .ok (.ireturn, 1) := by decide +kernel
theorem dX3_rawAt_0 : decode cX3_rawAt 0 = .ok (.iconst 0, 1) := by decide +kernel
theorem dX3_rawAt_1 : decode cX3_rawAt 1 = .ok (.istore_n 3, 1) := by decide +kernel
theorem dX3_rawAt_2 : decode cX3_rawAt 2 = .ok (.iconst 0, 1) := by decide +kernel
theorem dX3_rawAt_3 : decode cX3_rawAt 3 = .ok (.istore 4, 2) := by decide +kernel
theorem dX3_rawAt_5 : decode cX3_rawAt 5 = .ok (.iload 4, 2) := by decide +kernel
theorem dX3_rawAt_7 : decode cX3_rawAt 7 = .ok (.bipush 6, 2) := by decide +kernel
theorem dX3_rawAt_9 : decode cX3_rawAt 9 = .ok (.if_icmp .ge 40, 3) := by decide +kernel
theorem dX3_rawAt_12 : decode cX3_rawAt 12 = .ok (.aload_n 0, 1) := by decide +kernel
theorem dX3_rawAt_13 : decode cX3_rawAt 13 = .ok (.getfield 19, 3) := by decide +kernel
theorem dX3_rawAt_16 : decode cX3_rawAt 16 = .ok (.iload 4, 2) := by decide +kernel
theorem dX3_rawAt_18 : decode cX3_rawAt 18 = .ok (.aaload, 1) := by decide +kernel
theorem dX3_rawAt_19 : decode cX3_rawAt 19 = .ok (.astore 5, 2) := by decide +kernel
theorem dX3_rawAt_21 : decode cX3_rawAt 21 = .ok (.aload 5, 2) := by decide +kernel
theorem dX3_rawAt_23 : decode cX3_rawAt 23 = .ok (.ifnull 20, 3) := by decide +kernel
theorem dX3_rawAt_26 : decode cX3_rawAt 26 = .ok (.iload_n 3, 1) := by decide +kernel
theorem dX3_rawAt_27 : decode cX3_rawAt 27 = .ok (.aload 5, 2) := by decide +kernel
theorem dX3_rawAt_29 : decode cX3_rawAt 29 = .ok (.aload_n 0, 1) := by decide +kernel
theorem dX3_rawAt_30 : decode cX3_rawAt 30 = .ok (.aload 5, 2) := by decide +kernel
theorem dX3_rawAt_32 : decode cX3_rawAt 32 = .ok (.iload_n 1, 1) := by decide +kernel
theorem dX3_rawAt_33 : decode cX3_rawAt 33 = .ok (.invokevirtual 276, 3) := by decide +kernel
theorem dX3_rawAt_36 : decode cX3_rawAt 36 = .ok (.iload_n 1, 1) := by decide +kernel
theorem dX3_rawAt_37 : decode cX3_rawAt 37 = .ok (.aload_n 2, 1) := by decide +kernel
theorem dX3_rawAt_38 : decode cX3_rawAt 38 = .ok (.invokevirtual 189, 3) := by decide +kernel
theorem dX3_rawAt_41 : decode cX3_rawAt 41 = .ok (.iadd, 1) := by decide +kernel
theorem dX3_rawAt_42 : decode cX3_rawAt 42 = .ok (.istore_n 3, 1) := by decide +kernel
theorem dX3_rawAt_43 : decode cX3_rawAt 43 = .ok (.iinc 4 1, 3) := by decide +kernel
theorem dX3_rawAt_46 : decode cX3_rawAt 46 = .ok (.goto (-41), 3) := by decide +kernel
theorem dX3_rawAt_49 : decode cX3_rawAt 49 = .ok (.iload_n 3, 1) := by decide +kernel
theorem dX3_rawAt_50 : decode cX3_rawAt 50 = .ok (.ireturn, 1) := by decide +kernel
theorem dX3_isHeldBack_0 : decode cX3_isHeldBack 0 = .ok (.iload_n 0, 1) := by decide +kernel
theorem dX3_isHeldBack_1 : decode cX3_isHeldBack 1 = .ok (.sipush 1000, 3) := by decide +kernel
theorem dX3_isHeldBack_4 : decode cX3_isHeldBack 4 = .ok (.if_icmp .gt 10, 3) := by decide +kernel
theorem dX3_isHeldBack_7 : decode cX3_isHeldBack 7 = .ok (.iload_n 0, 1) := by decide +kernel
theorem dX3_isHeldBack_8 : decode cX3_isHeldBack 8 = .ok (.sipush (-1000), 3) := by decide +kernel
theorem dX3_isHeldBack_11 : decode cX3_isHeldBack 11 = .ok (.if_icmp .ge 7, 3) := by decide +kernel
theorem dX3_isHeldBack_14 : decode cX3_isHeldBack 14 = .ok (.iconst 1, 1) := by decide +kernel
theorem dX3_isHeldBack_15 : decode cX3_isHeldBack 15 = .ok (.goto 4, 3) := by decide +kernel
theorem dX3_isHeldBack_18 : decode cX3_isHeldBack 18 = .ok (.iconst 0, 1) := by decide +kernel
theorem dX3_isHeldBack_19 : decode cX3_isHeldBack 19 = .ok (.ireturn, 1) := by decide +kernel
theorem dX3_gatherPlaying_0 : decode cX3_gatherPlaying 0 = .ok (.iconst 0, 1) := by decide +kernel
theorem dX3_gatherPlaying_1 : decode cX3_gatherPlaying 1 = .ok (.istore_n 1, 1) := by decide +kernel
theorem dX3_gatherPlaying_2 : decode cX3_gatherPlaying 2 = .ok (.iconst 0, 1) := by decide +kernel
theorem dX3_gatherPlaying_3 : decode cX3_gatherPlaying 3 = .ok (.istore_n 2, 1) := by decide +kernel
theorem dX3_gatherPlaying_4 : decode cX3_gatherPlaying 4 = .ok (.iload_n 2, 1) := by decide +kernel
theorem dX3_gatherPlaying_5 : decode cX3_gatherPlaying 5 = .ok (.aload_n 0, 1) := by decide +kernel
theorem dX3_gatherPlaying_6 : decode cX3_gatherPlaying 6 = .ok (.getfield 15, 3) := by decide +kernel
theorem dX3_gatherPlaying_9 : decode cX3_gatherPlaying 9 = .ok (.if_icmp .ge 47, 3) := by decide +kernel
theorem dX3_gatherPlaying_12 : decode cX3_gatherPlaying 12 = .ok (.iload_n 1, 1) := by decide +kernel
theorem dX3_gatherPlaying_13 : decode cX3_gatherPlaying 13 = .ok (.bipush 6, 2) := by decide +kernel
theorem dX3_gatherPlaying_15 : decode cX3_gatherPlaying 15 = .ok (.if_icmp .ge 41, 3) := by decide +kernel
theorem dX3_gatherPlaying_18 : decode cX3_gatherPlaying 18 = .ok (.aload_n 0, 1) := by decide +kernel
theorem dX3_gatherPlaying_19 : decode cX3_gatherPlaying 19 = .ok (.getfield 11, 3) := by decide +kernel
theorem dX3_gatherPlaying_22 : decode cX3_gatherPlaying 22 = .ok (.iload_n 2, 1) := by decide +kernel
theorem dX3_gatherPlaying_23 : decode cX3_gatherPlaying 23 = .ok (.aaload, 1) := by decide +kernel
theorem dX3_gatherPlaying_24 : decode cX3_gatherPlaying 24 = .ok (.astore_n 3, 1) := by decide +kernel
theorem dX3_gatherPlaying_25 : decode cX3_gatherPlaying 25 = .ok (.aload_n 3, 1) := by decide +kernel
theorem dX3_gatherPlaying_26 : decode cX3_gatherPlaying 26 = .ok (.aload_n 3, 1) := by decide +kernel
theorem dX3_gatherPlaying_27 : decode cX3_gatherPlaying 27 = .ok (.getfield 138, 3) := by decide +kernel
theorem dX3_gatherPlaying_30 : decode cX3_gatherPlaying 30 = .ok (.aload_n 0, 1) := by decide +kernel
theorem dX3_gatherPlaying_31 : decode cX3_gatherPlaying 31 = .ok (.getfield 40, 3) := by decide +kernel
theorem dX3_gatherPlaying_34 : decode cX3_gatherPlaying 34 = .ok (.invokevirtual 141, 3) := by decide +kernel
theorem dX3_gatherPlaying_37 : decode cX3_gatherPlaying 37 = .ok (.ifCond .eq 13, 3) := by decide +kernel
theorem dX3_gatherPlaying_40 : decode cX3_gatherPlaying 40 = .ok (.aload_n 0, 1) := by decide +kernel
theorem dX3_gatherPlaying_41 : decode cX3_gatherPlaying 41 = .ok (.getfield 59, 3) := by decide +kernel
theorem dX3_gatherPlaying_44 : decode cX3_gatherPlaying 44 = .ok (.iload_n 1, 1) := by decide +kernel
theorem dX3_gatherPlaying_45 : decode cX3_gatherPlaying 45 = .ok (.aload_n 3, 1) := by decide +kernel
theorem dX3_gatherPlaying_46 : decode cX3_gatherPlaying 46 = .ok (.aastore, 1) := by decide +kernel
theorem dX3_gatherPlaying_47 : decode cX3_gatherPlaying 47 = .ok (.iinc 1 1, 3) := by decide +kernel
theorem dX3_gatherPlaying_50 : decode cX3_gatherPlaying 50 = .ok (.iinc 2 1, 3) := by decide +kernel
theorem dX3_gatherPlaying_53 : decode cX3_gatherPlaying 53 = .ok (.goto (-49), 3) := by decide +kernel
theorem dX3_gatherPlaying_56 : decode cX3_gatherPlaying 56 = .ok (.iload_n 1, 1) := by decide +kernel
theorem dX3_gatherPlaying_57 : decode cX3_gatherPlaying 57 = .ok (.ireturn, 1) := by decide +kernel
theorem dX3_markHeldBack_0 : decode cX3_markHeldBack 0 = .ok (.aload_n 0, 1) := by decide +kernel
theorem dX3_markHeldBack_1 : decode cX3_markHeldBack 1 = .ok (.getfield 62, 3) := by decide +kernel
theorem dX3_markHeldBack_4 : decode cX3_markHeldBack 4 = .ok (.iconst 0, 1) := by decide +kernel
theorem dX3_markHeldBack_5 : decode cX3_markHeldBack 5 = .ok (.aload_n 0, 1) := by decide +kernel
theorem dX3_markHeldBack_6 : decode cX3_markHeldBack 6 = .ok (.iload_n 1, 1) := by decide +kernel
theorem dX3_markHeldBack_7 : decode cX3_markHeldBack 7 = .ok (.aload_n 2, 1) := by decide +kernel
theorem dX3_markHeldBack_8 : decode cX3_markHeldBack 8 = .ok (.invokevirtual 204, 3) := by decide +kernel
theorem dX3_markHeldBack_11 : decode cX3_markHeldBack 11 = .ok (.iastore, 1) := by decide +kernel
theorem dX3_markHeldBack_12 : decode cX3_markHeldBack 12 = .ok (.iconst 1, 1) := by decide +kernel
theorem dX3_markHeldBack_13 : decode cX3_markHeldBack 13 = .ok (.istore 4, 2) := by decide +kernel
theorem dX3_markHeldBack_15 : decode cX3_markHeldBack 15 = .ok (.iconst 0, 1) := by decide +kernel
theorem dX3_markHeldBack_16 : decode cX3_markHeldBack 16 = .ok (.istore 5, 2) := by decide +kernel
theorem dX3_markHeldBack_18 : decode cX3_markHeldBack 18 = .ok (.iload 5, 2) := by decide +kernel
theorem dX3_markHeldBack_20 : decode cX3_markHeldBack 20 = .ok (.bipush 6, 2) := by decide +kernel
theorem dX3_markHeldBack_22 : decode cX3_markHeldBack 22 = .ok (.if_icmp .ge 72, 3) := by decide +kernel
theorem dX3_markHeldBack_25 : decode cX3_markHeldBack 25 = .ok (.iload 4, 2) := by decide +kernel
theorem dX3_markHeldBack_27 : decode cX3_markHeldBack 27 = .ok (.iload_n 3, 1) := by decide +kernel
theorem dX3_markHeldBack_28 : decode cX3_markHeldBack 28 = .ok (.if_icmp .ge 66, 3) := by decide +kernel
theorem dX3_markHeldBack_31 : decode cX3_markHeldBack 31 = .ok (.aload_n 0, 1) := by decide +kernel
theorem dX3_markHeldBack_32 : decode cX3_markHeldBack 32 = .ok (.aload_n 0, 1) := by decide +kernel
theorem dX3_markHeldBack_33 : decode cX3_markHeldBack 33 = .ok (.getfield 59, 3) := by decide +kernel
theorem dX3_markHeldBack_36 : decode cX3_markHeldBack 36 = .ok (.iload 5, 2) := by decide +kernel
theorem dX3_markHeldBack_38 : decode cX3_markHeldBack 38 = .ok (.aaload, 1) := by decide +kernel
theorem dX3_markHeldBack_39 : decode cX3_markHeldBack 39 = .ok (.iload_n 1, 1) := by decide +kernel
theorem dX3_markHeldBack_40 : decode cX3_markHeldBack 40 = .ok (.aload_n 2, 1) := by decide +kernel
theorem dX3_markHeldBack_41 : decode cX3_markHeldBack 41 = .ok (.invokevirtual 279, 3) := by decide +kernel
theorem dX3_markHeldBack_44 : decode cX3_markHeldBack 44 = .ok (.istore 6, 2) := by decide +kernel
theorem dX3_markHeldBack_46 : decode cX3_markHeldBack 46 = .ok (.iconst 0, 1) := by decide +kernel
theorem dX3_markHeldBack_47 : decode cX3_markHeldBack 47 = .ok (.istore 7, 2) := by decide +kernel
theorem dX3_markHeldBack_49 : decode cX3_markHeldBack 49 = .ok (.iload 7, 2) := by decide +kernel
theorem dX3_markHeldBack_51 : decode cX3_markHeldBack 51 = .ok (.iload 4, 2) := by decide +kernel
theorem dX3_markHeldBack_53 : decode cX3_markHeldBack 53 = .ok (.if_icmp .ge 29, 3) := by decide +kernel
theorem dX3_markHeldBack_56 : decode cX3_markHeldBack 56 = .ok (.aload_n 0, 1) := by decide +kernel
theorem dX3_markHeldBack_57 : decode cX3_markHeldBack 57 = .ok (.getfield 62, 3) := by decide +kernel
theorem dX3_markHeldBack_60 : decode cX3_markHeldBack 60 = .ok (.iload 4, 2) := by decide +kernel
theorem dX3_markHeldBack_62 : decode cX3_markHeldBack 62 = .ok (.iload 7, 2) := by decide +kernel
theorem dX3_markHeldBack_64 : decode cX3_markHeldBack 64 = .ok (.iadd, 1) := by decide +kernel
theorem dX3_markHeldBack_65 : decode cX3_markHeldBack 65 = .ok (.aload_n 0, 1) := by decide +kernel
theorem dX3_markHeldBack_66 : decode cX3_markHeldBack 66 = .ok (.getfield 62, 3) := by decide +kernel
theorem dX3_markHeldBack_69 : decode cX3_markHeldBack 69 = .ok (.iload 7, 2) := by decide +kernel
theorem dX3_markHeldBack_71 : decode cX3_markHeldBack 71 = .ok (.iaload, 1) := by decide +kernel
theorem dX3_markHeldBack_72 : decode cX3_markHeldBack 72 = .ok (.iload 6, 2) := by decide +kernel
theorem dX3_markHeldBack_74 : decode cX3_markHeldBack 74 = .ok (.isub, 1) := by decide +kernel
theorem dX3_markHeldBack_75 : decode cX3_markHeldBack 75 = .ok (.iastore, 1) := by decide +kernel
theorem dX3_markHeldBack_76 : decode cX3_markHeldBack 76 = .ok (.iinc 7 1, 3) := by decide +kernel
theorem dX3_markHeldBack_79 : decode cX3_markHeldBack 79 = .ok (.goto (-30), 3) := by decide +kernel
theorem dX3_markHeldBack_82 : decode cX3_markHeldBack 82 = .ok (.iconst 2, 1) := by decide +kernel
theorem dX3_markHeldBack_83 : decode cX3_markHeldBack 83 = .ok (.iload 4, 2) := by decide +kernel
theorem dX3_markHeldBack_85 : decode cX3_markHeldBack 85 = .ok (.imul, 1) := by decide +kernel
theorem dX3_markHeldBack_86 : decode cX3_markHeldBack 86 = .ok (.istore 4, 2) := by decide +kernel
theorem dX3_markHeldBack_88 : decode cX3_markHeldBack 88 = .ok (.iinc 5 1, 3) := by decide +kernel
theorem dX3_markHeldBack_91 : decode cX3_markHeldBack 91 = .ok (.goto (-73), 3) := by decide +kernel
theorem dX3_markHeldBack_94 : decode cX3_markHeldBack 94 = .ok (.iconst 0, 1) := by decide +kernel
theorem dX3_markHeldBack_95 : decode cX3_markHeldBack 95 = .ok (.istore 5, 2) := by decide +kernel
theorem dX3_markHeldBack_97 : decode cX3_markHeldBack 97 = .ok (.iload 5, 2) := by decide +kernel
theorem dX3_markHeldBack_99 : decode cX3_markHeldBack 99 = .ok (.iload_n 3, 1) := by decide +kernel
theorem dX3_markHeldBack_100 : decode cX3_markHeldBack 100 = .ok (.if_icmp .ge 30, 3) := by decide +kernel
theorem dX3_markHeldBack_103 : decode cX3_markHeldBack 103 = .ok (.aload_n 0, 1) := by decide +kernel
theorem dX3_markHeldBack_104 : decode cX3_markHeldBack 104 = .ok (.getfield 62, 3) := by decide +kernel
theorem dX3_markHeldBack_107 : decode cX3_markHeldBack 107 = .ok (.iload 5, 2) := by decide +kernel
theorem dX3_markHeldBack_109 : decode cX3_markHeldBack 109 = .ok (.iaload, 1) := by decide +kernel
theorem dX3_markHeldBack_110 : decode cX3_markHeldBack 110 = .ok (.invokestatic 225, 3) := by decide +kernel
theorem dX3_markHeldBack_113 : decode cX3_markHeldBack 113 = .ok (.ifCond .eq 11, 3) := by decide +kernel
theorem dX3_markHeldBack_116 : decode cX3_markHeldBack 116 = .ok (.aload_n 0, 1) := by decide +kernel
theorem dX3_markHeldBack_117 : decode cX3_markHeldBack 117 = .ok (.getfield 66, 3) := by decide +kernel
theorem dX3_markHeldBack_120 : decode cX3_markHeldBack 120 = .ok (.iload 5, 2) := by decide +kernel
theorem dX3_markHeldBack_122 : decode cX3_markHeldBack 122 = .ok (.iconst 1, 1) := by decide +kernel
theorem dX3_markHeldBack_123 : decode cX3_markHeldBack 123 = .ok (.bastore, 1) := by decide +kernel
theorem dX3_markHeldBack_124 : decode cX3_markHeldBack 124 = .ok (.iinc 5 1, 3) := by decide +kernel
theorem dX3_markHeldBack_127 : decode cX3_markHeldBack 127 = .ok (.goto (-30), 3) := by decide +kernel
theorem dX3_markHeldBack_130 : decode cX3_markHeldBack 130 = .ok (.return_, 1) := by decide +kernel
theorem dX3_lackAt_0 : decode cX3_lackAt 0 = .ok (.aload_n 1, 1) := by decide +kernel
theorem dX3_lackAt_1 : decode cX3_lackAt 1 = .ok (.ifnonnull 5, 3) := by decide +kernel
theorem dX3_lackAt_4 : decode cX3_lackAt 4 = .ok (.iconst 0, 1) := by decide +kernel
theorem dX3_lackAt_5 : decode cX3_lackAt 5 = .ok (.ireturn, 1) := by decide +kernel
theorem dX3_lackAt_6 : decode cX3_lackAt 6 = .ok (.aload_n 0, 1) := by decide +kernel
theorem dX3_lackAt_7 : decode cX3_lackAt 7 = .ok (.aload_n 1, 1) := by decide +kernel
theorem dX3_lackAt_8 : decode cX3_lackAt 8 = .ok (.iload_n 2, 1) := by decide +kernel
theorem dX3_lackAt_9 : decode cX3_lackAt 9 = .ok (.invokevirtual 276, 3) := by decide +kernel
theorem dX3_lackAt_12 : decode cX3_lackAt 12 = .ok (.istore 4, 2) := by decide +kernel
theorem dX3_lackAt_14 : decode cX3_lackAt 14 = .ok (.iload 4, 2) := by decide +kernel
theorem dX3_lackAt_16 : decode cX3_lackAt 16 = .ok (.aload_n 0, 1) := by decide +kernel
theorem dX3_lackAt_17 : decode cX3_lackAt 17 = .ok (.getfield 40, 3) := by decide +kernel
theorem dX3_lackAt_20 : decode cX3_lackAt 20 = .ok (.if_icmp .le 7, 3) := by decide +kernel
theorem dX3_lackAt_23 : decode cX3_lackAt 23 = .ok (.iconst 0, 1) := by decide +kernel
theorem dX3_lackAt_24 : decode cX3_lackAt 24 = .ok (.goto 11, 3) := by decide +kernel
theorem dX3_lackAt_27 : decode cX3_lackAt 27 = .ok (.aload_n 1, 1) := by decide +kernel
theorem dX3_lackAt_28 : decode cX3_lackAt 28 = .ok (.iload 4, 2) := by decide +kernel
theorem dX3_lackAt_30 : decode cX3_lackAt 30 = .ok (.iload_n 2, 1) := by decide +kernel
theorem dX3_lackAt_31 : decode cX3_lackAt 31 = .ok (.aload_n 3, 1) := by decide +kernel
theorem dX3_lackAt_32 : decode cX3_lackAt 32 = .ok (.invokevirtual 189, 3) := by decide +kernel
theorem dX3_lackAt_35 : decode cX3_lackAt 35 = .ok (.ireturn, 1) := by decide +kernel
theorem dX3_fewestNotHeldBack_0 : decode cX3_fewestNotHeldBack 0 = .ok (.bipush (-9), 2) := by decide +kernel
theorem dX3_fewestNotHeldBack_2 : decode cX3_fewestNotHeldBack 2 = .ok (.istore_n 2, 1) := by decide +kernel
theorem dX3_fewestNotHeldBack_3 : decode cX3_fewestNotHeldBack 3 = .ok (.iconst 0, 1) := by decide +kernel
theorem dX3_fewestNotHeldBack_4 : decode cX3_fewestNotHeldBack 4 = .ok (.istore_n 3, 1) := by decide +kernel
theorem dX3_fewestNotHeldBack_5 : decode cX3_fewestNotHeldBack 5 = .ok (.iload_n 3, 1) := by decide +kernel
theorem dX3_fewestNotHeldBack_6 : decode cX3_fewestNotHeldBack 6 = .ok (.iload_n 1, 1) := by decide +kernel
theorem dX3_fewestNotHeldBack_7 : decode cX3_fewestNotHeldBack 7 = .ok (.if_icmp .ge 49, 3) := by decide +kernel
theorem dX3_fewestNotHeldBack_10 : decode cX3_fewestNotHeldBack 10 = .ok (.iload_n 2, 1) := by decide +kernel
theorem dX3_fewestNotHeldBack_11 : decode cX3_fewestNotHeldBack 11 = .ok (.bipush (-9), 2) := by decide +kernel
theorem dX3_fewestNotHeldBack_13 : decode cX3_fewestNotHeldBack 13 = .ok (.if_icmp .eq 14, 3) := by decide +kernel
theorem dX3_fewestNotHeldBack_16 : decode cX3_fewestNotHeldBack 16 = .ok (.iload_n 3, 1) := by decide +kernel
theorem dX3_fewestNotHeldBack_17 : decode cX3_fewestNotHeldBack 17 = .ok (.invokestatic 283, 3) := by decide +kernel
theorem dX3_fewestNotHeldBack_20 : decode cX3_fewestNotHeldBack 20 = .ok (.iload_n 2, 1) := by decide +kernel
theorem dX3_fewestNotHeldBack_21 : decode cX3_fewestNotHeldBack 21 = .ok (.invokestatic 283, 3) := by decide +kernel
theorem dX3_fewestNotHeldBack_24 : decode cX3_fewestNotHeldBack 24 = .ok (.if_icmp .ge 7, 3) := by decide +kernel
theorem dX3_fewestNotHeldBack_27 : decode cX3_fewestNotHeldBack 27 = .ok (.iconst 1, 1) := by decide +kernel
theorem dX3_fewestNotHeldBack_28 : decode cX3_fewestNotHeldBack 28 = .ok (.goto 4, 3) := by decide +kernel
theorem dX3_fewestNotHeldBack_31 : decode cX3_fewestNotHeldBack 31 = .ok (.iconst 0, 1) := by decide +kernel
theorem dX3_fewestNotHeldBack_32 : decode cX3_fewestNotHeldBack 32 = .ok (.istore 4, 2) := by decide +kernel
theorem dX3_fewestNotHeldBack_34 : decode cX3_fewestNotHeldBack 34 = .ok (.aload_n 0, 1) := by decide +kernel
theorem dX3_fewestNotHeldBack_35 : decode cX3_fewestNotHeldBack 35 = .ok (.getfield 66, 3) := by decide +kernel
theorem dX3_fewestNotHeldBack_38 : decode cX3_fewestNotHeldBack 38 = .ok (.iload_n 3, 1) := by decide +kernel
theorem dX3_fewestNotHeldBack_39 : decode cX3_fewestNotHeldBack 39 = .ok (.baload, 1) := by decide +kernel
theorem dX3_fewestNotHeldBack_40 : decode cX3_fewestNotHeldBack 40 = .ok (.ifCond .ne 10, 3) := by decide +kernel
theorem dX3_fewestNotHeldBack_43 : decode cX3_fewestNotHeldBack 43 = .ok (.iload 4, 2) := by decide +kernel
theorem dX3_fewestNotHeldBack_45 : decode cX3_fewestNotHeldBack 45 = .ok (.ifCond .eq 5, 3) := by decide +kernel
theorem dX3_fewestNotHeldBack_48 : decode cX3_fewestNotHeldBack 48 = .ok (.iload_n 3, 1) := by decide +kernel
theorem dX3_fewestNotHeldBack_49 : decode cX3_fewestNotHeldBack 49 = .ok (.istore_n 2, 1) := by decide +kernel
theorem dX3_fewestNotHeldBack_50 : decode cX3_fewestNotHeldBack 50 = .ok (.iinc 3 1, 3) := by decide +kernel
theorem dX3_fewestNotHeldBack_53 : decode cX3_fewestNotHeldBack 53 = .ok (.goto (-48), 3) := by decide +kernel
theorem dX3_fewestNotHeldBack_56 : decode cX3_fewestNotHeldBack 56 = .ok (.iload_n 2, 1) := by decide +kernel
theorem dX3_fewestNotHeldBack_57 : decode cX3_fewestNotHeldBack 57 = .ok (.ireturn, 1) := by decide +kernel
theorem dX3_asEffects_0 : decode cX3_asEffects 0 = .ok (.iconst 0, 1) := by decide +kernel
theorem dX3_asEffects_1 : decode cX3_asEffects 1 = .ok (.istore_n 3, 1) := by decide +kernel
theorem dX3_asEffects_2 : decode cX3_asEffects 2 = .ok (.iconst 0, 1) := by decide +kernel
theorem dX3_asEffects_3 : decode cX3_asEffects 3 = .ok (.istore 4, 2) := by decide +kernel
theorem dX3_asEffects_5 : decode cX3_asEffects 5 = .ok (.iload 4, 2) := by decide +kernel
theorem dX3_asEffects_7 : decode cX3_asEffects 7 = .ok (.iload_n 2, 1) := by decide +kernel
theorem dX3_asEffects_8 : decode cX3_asEffects 8 = .ok (.if_icmp .ge 43, 3) := by decide +kernel
theorem dX3_asEffects_11 : decode cX3_asEffects 11 = .ok (.aload_n 0, 1) := by decide +kernel
theorem dX3_asEffects_12 : decode cX3_asEffects 12 = .ok (.getfield 59, 3) := by decide +kernel
theorem dX3_asEffects_15 : decode cX3_asEffects 15 = .ok (.iload 4, 2) := by decide +kernel
theorem dX3_asEffects_17 : decode cX3_asEffects 17 = .ok (.aaload, 1) := by decide +kernel
theorem dX3_asEffects_18 : decode cX3_asEffects 18 = .ok (.astore 5, 2) := by decide +kernel
theorem dX3_asEffects_20 : decode cX3_asEffects 20 = .ok (.aload 5, 2) := by decide +kernel
theorem dX3_asEffects_22 : decode cX3_asEffects 22 = .ok (.ifnull 23, 3) := by decide +kernel
theorem dX3_asEffects_25 : decode cX3_asEffects 25 = .ok (.iload_n 1, 1) := by decide +kernel
theorem dX3_asEffects_26 : decode cX3_asEffects 26 = .ok (.iload 4, 2) := by decide +kernel
theorem dX3_asEffects_28 : decode cX3_asEffects 28 = .ok (.ishr, 1) := by decide +kernel
theorem dX3_asEffects_29 : decode cX3_asEffects 29 = .ok (.iconst 1, 1) := by decide +kernel
theorem dX3_asEffects_30 : decode cX3_asEffects 30 = .ok (.iand, 1) := by decide +kernel
theorem dX3_asEffects_31 : decode cX3_asEffects 31 = .ok (.iconst 1, 1) := by decide +kernel
theorem dX3_asEffects_32 : decode cX3_asEffects 32 = .ok (.if_icmp .ne 13, 3) := by decide +kernel
theorem dX3_asEffects_35 : decode cX3_asEffects 35 = .ok (.iload_n 3, 1) := by decide +kernel
theorem dX3_asEffects_36 : decode cX3_asEffects 36 = .ok (.iconst 1, 1) := by decide +kernel
theorem dX3_asEffects_37 : decode cX3_asEffects 37 = .ok (.aload 5, 2) := by decide +kernel
theorem dX3_asEffects_39 : decode cX3_asEffects 39 = .ok (.getfield 147, 3) := by decide +kernel
theorem dX3_asEffects_42 : decode cX3_asEffects 42 = .ok (.ishl, 1) := by decide +kernel
theorem dX3_asEffects_43 : decode cX3_asEffects 43 = .ok (.ior, 1) := by decide +kernel
theorem dX3_asEffects_44 : decode cX3_asEffects 44 = .ok (.istore_n 3, 1) := by decide +kernel
theorem dX3_asEffects_45 : decode cX3_asEffects 45 = .ok (.iinc 4 1, 3) := by decide +kernel
theorem dX3_asEffects_48 : decode cX3_asEffects 48 = .ok (.goto (-43), 3) := by decide +kernel
theorem dX3_asEffects_51 : decode cX3_asEffects 51 = .ok (.iload_n 3, 1) := by decide +kernel
theorem dX3_asEffects_52 : decode cX3_asEffects 52 = .ok (.ireturn, 1) := by decide +kernel
