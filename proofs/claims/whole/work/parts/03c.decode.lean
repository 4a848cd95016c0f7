theorem dX4_init_0 : decode cX4_init 0 = .ok (.aload_n 0, 1) := by decide +kernel
theorem dX4_init_1 : decode cX4_init 1 = .ok (.invokespecial 1, 3) := by decide +kernel
theorem dX4_init_4 : decode cX4_init 4 = .ok (.aload_n 0, 1) := by decide +kernel
theorem dX4_init_5 : decode cX4_init 5 = .ok (.iconst 2, 1) := by decide +kernel
theorem dX4_init_6 : decode cX4_init 6 = .ok (.newarray .int, 2) := by decide +kernel
theorem dX4_init_8 : decode cX4_init 8 = .ok (.putfield 7, 3) := by decide +kernel
theorem dX4_init_11 : decode cX4_init 11 = .ok (.aload_n 0, 1) := by decide +kernel
theorem dX4_init_12 : decode cX4_init 12 = .ok (.iconst 2, 1) := by decide +kernel
theorem dX4_init_13 : decode cX4_init 13 = .ok (.newarray .int, 2) := by decide +kernel
theorem dX4_init_15 : decode cX4_init 15 = .ok (.putfield 13, 3) := by decide +kernel
theorem dX4_init_18 : decode cX4_init 18 = .ok (.aload_n 0, 1) := by decide +kernel
theorem dX4_init_19 : decode cX4_init 19 = .ok (.bipush 12, 2) := by decide +kernel
theorem dX4_init_21 : decode cX4_init 21 = .ok (.newarray .int, 2) := by decide +kernel
theorem dX4_init_23 : decode cX4_init 23 = .ok (.putfield 16, 3) := by decide +kernel
theorem dX4_init_26 : decode cX4_init 26 = .ok (.aload_n 0, 1) := by decide +kernel
theorem dX4_init_27 : decode cX4_init 27 = .ok (.bipush 12, 2) := by decide +kernel
theorem dX4_init_29 : decode cX4_init 29 = .ok (.newarray .int, 2) := by decide +kernel
theorem dX4_init_31 : decode cX4_init 31 = .ok (.putfield 19, 3) := by decide +kernel
theorem dX4_init_34 : decode cX4_init 34 = .ok (.aload_n 0, 1) := by decide +kernel
theorem dX4_init_35 : decode cX4_init 35 = .ok (.bipush 12, 2) := by decide +kernel
theorem dX4_init_37 : decode cX4_init 37 = .ok (.newarray .int, 2) := by decide +kernel
theorem dX4_init_39 : decode cX4_init 39 = .ok (.putfield 22, 3) := by decide +kernel
theorem dX4_init_42 : decode cX4_init 42 = .ok (.aload_n 0, 1) := by decide +kernel
theorem dX4_init_43 : decode cX4_init 43 = .ok (.bipush 12, 2) := by decide +kernel
theorem dX4_init_45 : decode cX4_init 45 = .ok (.newarray .int, 2) := by decide +kernel
theorem dX4_init_47 : decode cX4_init 47 = .ok (.putfield 25, 3) := by decide +kernel
theorem dX4_init_50 : decode cX4_init 50 = .ok (.aload_n 0, 1) := by decide +kernel
theorem dX4_init_51 : decode cX4_init 51 = .ok (.bipush 12, 2) := by decide +kernel
theorem dX4_init_53 : decode cX4_init 53 = .ok (.newarray .int, 2) := by decide +kernel
theorem dX4_init_55 : decode cX4_init 55 = .ok (.putfield 28, 3) := by decide +kernel
theorem dX4_init_58 : decode cX4_init 58 = .ok (.aload_n 0, 1) := by decide +kernel
theorem dX4_init_59 : decode cX4_init 59 = .ok (.sipush 144, 3) := by decide +kernel
theorem dX4_init_62 : decode cX4_init 62 = .ok (.newarray .int, 2) := by decide +kernel
theorem dX4_init_64 : decode cX4_init 64 = .ok (.putfield 31, 3) := by decide +kernel
theorem dX4_init_67 : decode cX4_init 67 = .ok (.aload_n 0, 1) := by decide +kernel
theorem dX4_init_68 : decode cX4_init 68 = .ok (.bipush 12, 2) := by decide +kernel
theorem dX4_init_70 : decode cX4_init 70 = .ok (.newarray .int, 2) := by decide +kernel
theorem dX4_init_72 : decode cX4_init 72 = .ok (.putfield 34, 3) := by decide +kernel
theorem dX4_init_75 : decode cX4_init 75 = .ok (.aload_n 0, 1) := by decide +kernel
theorem dX4_init_76 : decode cX4_init 76 = .ok (.iconst 4, 1) := by decide +kernel
theorem dX4_init_77 : decode cX4_init 77 = .ok (.putfield 37, 3) := by decide +kernel
theorem dX4_init_80 : decode cX4_init 80 = .ok (.aload_n 0, 1) := by decide +kernel
theorem dX4_init_81 : decode cX4_init 81 = .ok (.bipush 6, 2) := by decide +kernel
theorem dX4_init_83 : decode cX4_init 83 = .ok (.newarray .int, 2) := by decide +kernel
theorem dX4_init_85 : decode cX4_init 85 = .ok (.putfield 41, 3) := by decide +kernel
theorem dX4_init_88 : decode cX4_init 88 = .ok (.aload_n 0, 1) := by decide +kernel
theorem dX4_init_89 : decode cX4_init 89 = .ok (.iconst 4, 1) := by decide +kernel
theorem dX4_init_90 : decode cX4_init 90 = .ok (.newarray .int, 2) := by decide +kernel
theorem dX4_init_92 : decode cX4_init 92 = .ok (.putfield 44, 3) := by decide +kernel
theorem dX4_init_95 : decode cX4_init 95 = .ok (.aload_n 0, 1) := by decide +kernel
theorem dX4_init_96 : decode cX4_init 96 = .ok (.bipush 48, 2) := by decide +kernel
theorem dX4_init_98 : decode cX4_init 98 = .ok (.newarray .int, 2) := by decide +kernel
theorem dX4_init_100 : decode cX4_init 100 = .ok (.putfield 47, 3) := by decide +kernel
theorem dX4_init_103 : decode cX4_init 103 = .ok (.aload_n 0, 1) := by decide +kernel
theorem dX4_init_104 : decode cX4_init 104 = .ok (.bipush 100, 2) := by decide +kernel
theorem dX4_init_106 : decode cX4_init 106 = .ok (.putfield 50, 3) := by decide +kernel
theorem dX4_init_109 : decode cX4_init 109 = .ok (.aload_n 0, 1) := by decide +kernel
theorem dX4_init_110 : decode cX4_init 110 = .ok (.sipush 250, 3) := by decide +kernel
theorem dX4_init_113 : decode cX4_init 113 = .ok (.putfield 53, 3) := by decide +kernel
theorem dX4_init_116 : decode cX4_init 116 = .ok (.iconst 0, 1) := by decide +kernel
theorem dX4_init_117 : decode cX4_init 117 = .ok (.istore_n 1, 1) := by decide +kernel
theorem dX4_init_118 : decode cX4_init 118 = .ok (.iload_n 1, 1) := by decide +kernel
theorem dX4_init_119 : decode cX4_init 119 = .ok (.bipush 6, 2) := by decide +kernel
theorem dX4_init_121 : decode cX4_init 121 = .ok (.if_icmp .ge 17, 3) := by decide +kernel
theorem dX4_init_124 : decode cX4_init 124 = .ok (.aload_n 0, 1) := by decide +kernel
theorem dX4_init_125 : decode cX4_init 125 = .ok (.getfield 41, 3) := by decide +kernel
theorem dX4_init_128 : decode cX4_init 128 = .ok (.iload_n 1, 1) := by decide +kernel
theorem dX4_init_129 : decode cX4_init 129 = .ok (.bipush (-9), 2) := by decide +kernel
theorem dX4_init_131 : decode cX4_init 131 = .ok (.iastore, 1) := by decide +kernel
theorem dX4_init_132 : decode cX4_init 132 = .ok (.iinc 1 1, 3) := by decide +kernel
theorem dX4_init_135 : decode cX4_init 135 = .ok (.goto (-17), 3) := by decide +kernel
theorem dX4_init_138 : decode cX4_init 138 = .ok (.iconst 0, 1) := by decide +kernel
theorem dX4_init_139 : decode cX4_init 139 = .ok (.istore_n 1, 1) := by decide +kernel
theorem dX4_init_140 : decode cX4_init 140 = .ok (.iload_n 1, 1) := by decide +kernel
theorem dX4_init_141 : decode cX4_init 141 = .ok (.iconst 4, 1) := by decide +kernel
theorem dX4_init_142 : decode cX4_init 142 = .ok (.if_icmp .ge 17, 3) := by decide +kernel
theorem dX4_init_145 : decode cX4_init 145 = .ok (.aload_n 0, 1) := by decide +kernel
theorem dX4_init_146 : decode cX4_init 146 = .ok (.getfield 44, 3) := by decide +kernel
theorem dX4_init_149 : decode cX4_init 149 = .ok (.iload_n 1, 1) := by decide +kernel
theorem dX4_init_150 : decode cX4_init 150 = .ok (.bipush (-9), 2) := by decide +kernel
theorem dX4_init_152 : decode cX4_init 152 = .ok (.iastore, 1) := by decide +kernel
theorem dX4_init_153 : decode cX4_init 153 = .ok (.iinc 1 1, 3) := by decide +kernel
theorem dX4_init_156 : decode cX4_init 156 = .ok (.goto (-16), 3) := by decide +kernel
theorem dX4_init_159 : decode cX4_init 159 = .ok (.return_, 1) := by decide +kernel
theorem dX4_within_0 : decode cX4_within 0 = .ok (.iload_n 0, 1) := by decide +kernel
theorem dX4_within_1 : decode cX4_within 1 = .ok (.iload_n 1, 1) := by decide +kernel
theorem dX4_within_2 : decode cX4_within 2 = .ok (.if_icmp .lt 12, 3) := by decide +kernel
theorem dX4_within_5 : decode cX4_within 5 = .ok (.iload_n 0, 1) := by decide +kernel
theorem dX4_within_6 : decode cX4_within 6 = .ok (.iload_n 2, 1) := by decide +kernel
theorem dX4_within_7 : decode cX4_within 7 = .ok (.if_icmp .gt 7, 3) := by decide +kernel
theorem dX4_within_10 : decode cX4_within 10 = .ok (.iconst 1, 1) := by decide +kernel
theorem dX4_within_11 : decode cX4_within 11 = .ok (.goto 4, 3) := by decide +kernel
theorem dX4_within_14 : decode cX4_within 14 = .ok (.iconst 0, 1) := by decide +kernel
theorem dX4_within_15 : decode cX4_within 15 = .ok (.ireturn, 1) := by decide +kernel
theorem dX4_size_0 : decode cX4_size 0 = .ok (.iload_n 0, 1) := by decide +kernel
theorem dX4_size_1 : decode cX4_size 1 = .ok (.ifCond .ge 8, 3) := by decide +kernel
theorem dX4_size_4 : decode cX4_size 4 = .ok (.iload_n 0, 1) := by decide +kernel
theorem dX4_size_5 : decode cX4_size 5 = .ok (.ineg, 1) := by decide +kernel
theorem dX4_size_6 : decode cX4_size 6 = .ok (.goto 4, 3) := by decide +kernel
theorem dX4_size_9 : decode cX4_size 9 = .ok (.iload_n 0, 1) := by decide +kernel
theorem dX4_size_10 : decode cX4_size 10 = .ok (.ireturn, 1) := by decide +kernel
theorem dX4_held_0 : decode cX4_held 0 = .ok (.iload_n 0, 1) := by decide +kernel
theorem dX4_held_1 : decode cX4_held 1 = .ok (.iload_n 1, 1) := by decide +kernel
theorem dX4_held_2 : decode cX4_held 2 = .ok (.if_icmp .le 7, 3) := by decide +kernel
theorem dX4_held_5 : decode cX4_held 5 = .ok (.iload_n 1, 1) := by decide +kernel
theorem dX4_held_6 : decode cX4_held 6 = .ok (.goto 15, 3) := by decide +kernel
theorem dX4_held_9 : decode cX4_held 9 = .ok (.iload_n 0, 1) := by decide +kernel
theorem dX4_held_10 : decode cX4_held 10 = .ok (.iload_n 1, 1) := by decide +kernel
theorem dX4_held_11 : decode cX4_held 11 = .ok (.ineg, 1) := by decide +kernel
theorem dX4_held_12 : decode cX4_held 12 = .ok (.if_icmp .ge 8, 3) := by decide +kernel
theorem dX4_held_15 : decode cX4_held 15 = .ok (.iload_n 1, 1) := by decide +kernel
theorem dX4_held_16 : decode cX4_held 16 = .ok (.ineg, 1) := by decide +kernel
theorem dX4_held_17 : decode cX4_held 17 = .ok (.goto 4, 3) := by decide +kernel
theorem dX4_held_20 : decode cX4_held 20 = .ok (.iload_n 0, 1) := by decide +kernel
theorem dX4_held_21 : decode cX4_held 21 = .ok (.ireturn, 1) := by decide +kernel
theorem dX4_isEffect_0 : decode cX4_isEffect 0 = .ok (.iload_n 1, 1) := by decide +kernel
theorem dX4_isEffect_1 : decode cX4_isEffect 1 = .ok (.iconst 0, 1) := by decide +kernel
theorem dX4_isEffect_2 : decode cX4_isEffect 2 = .ok (.aload_n 0, 1) := by decide +kernel
theorem dX4_isEffect_3 : decode cX4_isEffect 3 = .ok (.getfield 56, 3) := by decide +kernel
theorem dX4_isEffect_6 : decode cX4_isEffect 6 = .ok (.iconst 1, 1) := by decide +kernel
theorem dX4_isEffect_7 : decode cX4_isEffect 7 = .ok (.isub, 1) := by decide +kernel
theorem dX4_isEffect_8 : decode cX4_isEffect 8 = .ok (.invokestatic 59, 3) := by decide +kernel
theorem dX4_isEffect_11 : decode cX4_isEffect 11 = .ok (.ireturn, 1) := by decide +kernel
theorem dX4_isAxis_0 : decode cX4_isAxis 0 = .ok (.iload_n 0, 1) := by decide +kernel
theorem dX4_isAxis_1 : decode cX4_isAxis 1 = .ok (.iconst 0, 1) := by decide +kernel
theorem dX4_isAxis_2 : decode cX4_isAxis 2 = .ok (.iconst 1, 1) := by decide +kernel
theorem dX4_isAxis_3 : decode cX4_isAxis 3 = .ok (.invokestatic 59, 3) := by decide +kernel
theorem dX4_isAxis_6 : decode cX4_isAxis 6 = .ok (.ireturn, 1) := by decide +kernel
theorem dX4_numberOf_0 : decode cX4_numberOf 0 = .ok (.aload_n 0, 1) := by decide +kernel
theorem dX4_numberOf_1 : decode cX4_numberOf 1 = .ok (.getfield 31, 3) := by decide +kernel
theorem dX4_numberOf_4 : decode cX4_numberOf 4 = .ok (.bipush 12, 2) := by decide +kernel
theorem dX4_numberOf_6 : decode cX4_numberOf 6 = .ok (.iload_n 1, 1) := by decide +kernel
theorem dX4_numberOf_7 : decode cX4_numberOf 7 = .ok (.imul, 1) := by decide +kernel
theorem dX4_numberOf_8 : decode cX4_numberOf 8 = .ok (.iload_n 2, 1) := by decide +kernel
theorem dX4_numberOf_9 : decode cX4_numberOf 9 = .ok (.iadd, 1) := by decide +kernel
theorem dX4_numberOf_10 : decode cX4_numberOf 10 = .ok (.iaload, 1) := by decide +kernel
theorem dX4_numberOf_11 : decode cX4_numberOf 11 = .ok (.ireturn, 1) := by decide +kernel
theorem dX4_mayBe_0 : decode cX4_mayBe 0 = .ok (.iload_n 2, 1) := by decide +kernel
theorem dX4_mayBe_1 : decode cX4_mayBe 1 = .ok (.sipush (-1000), 3) := by decide +kernel
theorem dX4_mayBe_4 : decode cX4_mayBe 4 = .ok (.sipush 1000, 3) := by decide +kernel
theorem dX4_mayBe_7 : decode cX4_mayBe 7 = .ok (.invokestatic 59, 3) := by decide +kernel
theorem dX4_mayBe_10 : decode cX4_mayBe 10 = .ok (.istore 5, 2) := by decide +kernel
theorem dX4_mayBe_12 : decode cX4_mayBe 12 = .ok (.iload_n 0, 1) := by decide +kernel
theorem dX4_mayBe_13 : decode cX4_mayBe 13 = .ok (.tableswitch 285 0 6 #[43, 75, 75, 120, 153, 198, 242], 43) := by decide +kernel
theorem dX4_mayBe_56 : decode cX4_mayBe 56 = .ok (.iload_n 1, 1) := by decide +kernel
theorem dX4_mayBe_57 : decode cX4_mayBe 57 = .ok (.sipush (-1000), 3) := by decide +kernel
theorem dX4_mayBe_60 : decode cX4_mayBe 60 = .ok (.sipush 1000, 3) := by decide +kernel
theorem dX4_mayBe_63 : decode cX4_mayBe 63 = .ok (.invokestatic 59, 3) := by decide +kernel
theorem dX4_mayBe_66 : decode cX4_mayBe 66 = .ok (.ifCond .eq 20, 3) := by decide +kernel
theorem dX4_mayBe_69 : decode cX4_mayBe 69 = .ok (.iload_n 2, 1) := by decide +kernel
theorem dX4_mayBe_70 : decode cX4_mayBe 70 = .ok (.ifCond .ne 16, 3) := by decide +kernel
theorem dX4_mayBe_73 : decode cX4_mayBe 73 = .ok (.iload_n 3, 1) := by decide +kernel
theorem dX4_mayBe_74 : decode cX4_mayBe 74 = .ok (.ifCond .ne 12, 3) := by decide +kernel
theorem dX4_mayBe_77 : decode cX4_mayBe 77 = .ok (.iload 4, 2) := by decide +kernel
theorem dX4_mayBe_79 : decode cX4_mayBe 79 = .ok (.ifCond .ne 7, 3) := by decide +kernel
theorem dX4_mayBe_82 : decode cX4_mayBe 82 = .ok (.iconst 1, 1) := by decide +kernel
theorem dX4_mayBe_83 : decode cX4_mayBe 83 = .ok (.goto 4, 3) := by decide +kernel
theorem dX4_mayBe_86 : decode cX4_mayBe 86 = .ok (.iconst 0, 1) := by decide +kernel
theorem dX4_mayBe_87 : decode cX4_mayBe 87 = .ok (.ireturn, 1) := by decide +kernel
theorem dX4_mayBe_88 : decode cX4_mayBe 88 = .ok (.iload_n 1, 1) := by decide +kernel
theorem dX4_mayBe_89 : decode cX4_mayBe 89 = .ok (.iconst 0, 1) := by decide +kernel
theorem dX4_mayBe_90 : decode cX4_mayBe 90 = .ok (.sipush 1000, 3) := by decide +kernel
theorem dX4_mayBe_93 : decode cX4_mayBe 93 = .ok (.invokestatic 59, 3) := by decide +kernel
theorem dX4_mayBe_96 : decode cX4_mayBe 96 = .ok (.ifCond .eq 35, 3) := by decide +kernel
theorem dX4_mayBe_99 : decode cX4_mayBe 99 = .ok (.iload 5, 2) := by decide +kernel
theorem dX4_mayBe_101 : decode cX4_mayBe 101 = .ok (.ifCond .eq 30, 3) := by decide +kernel
theorem dX4_mayBe_104 : decode cX4_mayBe 104 = .ok (.iload_n 3, 1) := by decide +kernel
theorem dX4_mayBe_105 : decode cX4_mayBe 105 = .ok (.iconst 2, 1) := by decide +kernel
theorem dX4_mayBe_106 : decode cX4_mayBe 106 = .ok (.sipush 2000, 3) := by decide +kernel
theorem dX4_mayBe_109 : decode cX4_mayBe 109 = .ok (.invokestatic 59, 3) := by decide +kernel
theorem dX4_mayBe_112 : decode cX4_mayBe 112 = .ok (.ifCond .eq 19, 3) := by decide +kernel
theorem dX4_mayBe_115 : decode cX4_mayBe 115 = .ok (.iload 4, 2) := by decide +kernel
theorem dX4_mayBe_117 : decode cX4_mayBe 117 = .ok (.iconst 0, 1) := by decide +kernel
theorem dX4_mayBe_118 : decode cX4_mayBe 118 = .ok (.iload_n 3, 1) := by decide +kernel
theorem dX4_mayBe_119 : decode cX4_mayBe 119 = .ok (.iconst 1, 1) := by decide +kernel
theorem dX4_mayBe_120 : decode cX4_mayBe 120 = .ok (.isub, 1) := by decide +kernel
theorem dX4_mayBe_121 : decode cX4_mayBe 121 = .ok (.invokestatic 59, 3) := by decide +kernel
theorem dX4_mayBe_124 : decode cX4_mayBe 124 = .ok (.ifCond .eq 7, 3) := by decide +kernel
theorem dX4_mayBe_127 : decode cX4_mayBe 127 = .ok (.iconst 1, 1) := by decide +kernel
theorem dX4_mayBe_128 : decode cX4_mayBe 128 = .ok (.goto 4, 3) := by decide +kernel
theorem dX4_mayBe_131 : decode cX4_mayBe 131 = .ok (.iconst 0, 1) := by decide +kernel
theorem dX4_mayBe_132 : decode cX4_mayBe 132 = .ok (.ireturn, 1) := by decide +kernel
theorem dX4_mayBe_133 : decode cX4_mayBe 133 = .ok (.iload_n 1, 1) := by decide +kernel
theorem dX4_mayBe_134 : decode cX4_mayBe 134 = .ok (.sipush (-1000), 3) := by decide +kernel
theorem dX4_mayBe_137 : decode cX4_mayBe 137 = .ok (.sipush 1000, 3) := by decide +kernel
theorem dX4_mayBe_140 : decode cX4_mayBe 140 = .ok (.invokestatic 59, 3) := by decide +kernel
theorem dX4_mayBe_143 : decode cX4_mayBe 143 = .ok (.ifCond .eq 21, 3) := by decide +kernel
theorem dX4_mayBe_146 : decode cX4_mayBe 146 = .ok (.iload 5, 2) := by decide +kernel
theorem dX4_mayBe_148 : decode cX4_mayBe 148 = .ok (.ifCond .eq 16, 3) := by decide +kernel
theorem dX4_mayBe_151 : decode cX4_mayBe 151 = .ok (.iload_n 3, 1) := by decide +kernel
theorem dX4_mayBe_152 : decode cX4_mayBe 152 = .ok (.ifCond .ne 12, 3) := by decide +kernel
theorem dX4_mayBe_155 : decode cX4_mayBe 155 = .ok (.iload 4, 2) := by decide +kernel
theorem dX4_mayBe_157 : decode cX4_mayBe 157 = .ok (.ifCond .ne 7, 3) := by decide +kernel
theorem dX4_mayBe_160 : decode cX4_mayBe 160 = .ok (.iconst 1, 1) := by decide +kernel
theorem dX4_mayBe_161 : decode cX4_mayBe 161 = .ok (.goto 4, 3) := by decide +kernel
theorem dX4_mayBe_164 : decode cX4_mayBe 164 = .ok (.iconst 0, 1) := by decide +kernel
theorem dX4_mayBe_165 : decode cX4_mayBe 165 = .ok (.ireturn, 1) := by decide +kernel
theorem dX4_mayBe_166 : decode cX4_mayBe 166 = .ok (.iload_n 1, 1) := by decide +kernel
theorem dX4_mayBe_167 : decode cX4_mayBe 167 = .ok (.bipush (-100), 2) := by decide +kernel
theorem dX4_mayBe_169 : decode cX4_mayBe 169 = .ok (.bipush 100, 2) := by decide +kernel
theorem dX4_mayBe_171 : decode cX4_mayBe 171 = .ok (.invokestatic 59, 3) := by decide +kernel
theorem dX4_mayBe_174 : decode cX4_mayBe 174 = .ok (.ifCond .eq 35, 3) := by decide +kernel
theorem dX4_mayBe_177 : decode cX4_mayBe 177 = .ok (.iload 5, 2) := by decide +kernel
theorem dX4_mayBe_179 : decode cX4_mayBe 179 = .ok (.ifCond .eq 30, 3) := by decide +kernel
theorem dX4_mayBe_182 : decode cX4_mayBe 182 = .ok (.iload_n 3, 1) := by decide +kernel
theorem dX4_mayBe_183 : decode cX4_mayBe 183 = .ok (.iconst 0, 1) := by decide +kernel
theorem dX4_mayBe_184 : decode cX4_mayBe 184 = .ok (.sipush 1000, 3) := by decide +kernel
theorem dX4_mayBe_187 : decode cX4_mayBe 187 = .ok (.invokestatic 59, 3) := by decide +kernel
theorem dX4_mayBe_190 : decode cX4_mayBe 190 = .ok (.ifCond .eq 19, 3) := by decide +kernel
theorem dX4_mayBe_193 : decode cX4_mayBe 193 = .ok (.iload 4, 2) := by decide +kernel
theorem dX4_mayBe_195 : decode cX4_mayBe 195 = .ok (.iconst 0, 1) := by decide +kernel
theorem dX4_mayBe_196 : decode cX4_mayBe 196 = .ok (.sipush 1000, 3) := by decide +kernel
theorem dX4_mayBe_199 : decode cX4_mayBe 199 = .ok (.invokestatic 59, 3) := by decide +kernel
theorem dX4_mayBe_202 : decode cX4_mayBe 202 = .ok (.ifCond .eq 7, 3) := by decide +kernel
theorem dX4_mayBe_205 : decode cX4_mayBe 205 = .ok (.iconst 1, 1) := by decide +kernel
theorem dX4_mayBe_206 : decode cX4_mayBe 206 = .ok (.goto 4, 3) := by decide +kernel
theorem dX4_mayBe_209 : decode cX4_mayBe 209 = .ok (.iconst 0, 1) := by decide +kernel
theorem dX4_mayBe_210 : decode cX4_mayBe 210 = .ok (.ireturn, 1) := by decide +kernel
theorem dX4_mayBe_211 : decode cX4_mayBe 211 = .ok (.iload_n 1, 1) := by decide +kernel
theorem dX4_mayBe_212 : decode cX4_mayBe 212 = .ok (.bipush (-100), 2) := by decide +kernel
theorem dX4_mayBe_214 : decode cX4_mayBe 214 = .ok (.bipush 100, 2) := by decide +kernel
theorem dX4_mayBe_216 : decode cX4_mayBe 216 = .ok (.invokestatic 59, 3) := by decide +kernel
theorem dX4_mayBe_219 : decode cX4_mayBe 219 = .ok (.ifCond .eq 34, 3) := by decide +kernel
theorem dX4_mayBe_222 : decode cX4_mayBe 222 = .ok (.iload_n 2, 1) := by decide +kernel
theorem dX4_mayBe_223 : decode cX4_mayBe 223 = .ok (.ifCond .ne 30, 3) := by decide +kernel
theorem dX4_mayBe_226 : decode cX4_mayBe 226 = .ok (.iload_n 3, 1) := by decide +kernel
theorem dX4_mayBe_227 : decode cX4_mayBe 227 = .ok (.iconst 0, 1) := by decide +kernel
theorem dX4_mayBe_228 : decode cX4_mayBe 228 = .ok (.sipush 9999, 3) := by decide +kernel
theorem dX4_mayBe_231 : decode cX4_mayBe 231 = .ok (.invokestatic 59, 3) := by decide +kernel
theorem dX4_mayBe_234 : decode cX4_mayBe 234 = .ok (.ifCond .eq 19, 3) := by decide +kernel
theorem dX4_mayBe_237 : decode cX4_mayBe 237 = .ok (.iload 4, 2) := by decide +kernel
theorem dX4_mayBe_239 : decode cX4_mayBe 239 = .ok (.iconst 0, 1) := by decide +kernel
theorem dX4_mayBe_240 : decode cX4_mayBe 240 = .ok (.sipush 1000, 3) := by decide +kernel
theorem dX4_mayBe_243 : decode cX4_mayBe 243 = .ok (.invokestatic 59, 3) := by decide +kernel
theorem dX4_mayBe_246 : decode cX4_mayBe 246 = .ok (.ifCond .eq 7, 3) := by decide +kernel
theorem dX4_mayBe_249 : decode cX4_mayBe 249 = .ok (.iconst 1, 1) := by decide +kernel
theorem dX4_mayBe_250 : decode cX4_mayBe 250 = .ok (.goto 4, 3) := by decide +kernel
theorem dX4_mayBe_253 : decode cX4_mayBe 253 = .ok (.iconst 0, 1) := by decide +kernel
theorem dX4_mayBe_254 : decode cX4_mayBe 254 = .ok (.ireturn, 1) := by decide +kernel
theorem dX4_mayBe_255 : decode cX4_mayBe 255 = .ok (.iload_n 1, 1) := by decide +kernel
theorem dX4_mayBe_256 : decode cX4_mayBe 256 = .ok (.iconst 1, 1) := by decide +kernel
theorem dX4_mayBe_257 : decode cX4_mayBe 257 = .ok (.sipush 1000, 3) := by decide +kernel
theorem dX4_mayBe_260 : decode cX4_mayBe 260 = .ok (.invokestatic 59, 3) := by decide +kernel
theorem dX4_mayBe_263 : decode cX4_mayBe 263 = .ok (.ifCond .eq 33, 3) := by decide +kernel
theorem dX4_mayBe_266 : decode cX4_mayBe 266 = .ok (.iload 5, 2) := by decide +kernel
theorem dX4_mayBe_268 : decode cX4_mayBe 268 = .ok (.ifCond .eq 28, 3) := by decide +kernel
theorem dX4_mayBe_271 : decode cX4_mayBe 271 = .ok (.iload_n 3, 1) := by decide +kernel
theorem dX4_mayBe_272 : decode cX4_mayBe 272 = .ok (.iconst 0, 1) := by decide +kernel
theorem dX4_mayBe_273 : decode cX4_mayBe 273 = .ok (.iconst 1, 1) := by decide +kernel
theorem dX4_mayBe_274 : decode cX4_mayBe 274 = .ok (.invokestatic 59, 3) := by decide +kernel
theorem dX4_mayBe_277 : decode cX4_mayBe 277 = .ok (.ifCond .eq 19, 3) := by decide +kernel
theorem dX4_mayBe_280 : decode cX4_mayBe 280 = .ok (.iload 4, 2) := by decide +kernel
theorem dX4_mayBe_282 : decode cX4_mayBe 282 = .ok (.iconst 0, 1) := by decide +kernel
theorem dX4_mayBe_283 : decode cX4_mayBe 283 = .ok (.sipush 1000, 3) := by decide +kernel
theorem dX4_mayBe_286 : decode cX4_mayBe 286 = .ok (.invokestatic 59, 3) := by decide +kernel
theorem dX4_mayBe_289 : decode cX4_mayBe 289 = .ok (.ifCond .eq 7, 3) := by decide +kernel
theorem dX4_mayBe_292 : decode cX4_mayBe 292 = .ok (.iconst 1, 1) := by decide +kernel
theorem dX4_mayBe_293 : decode cX4_mayBe 293 = .ok (.goto 4, 3) := by decide +kernel
theorem dX4_mayBe_296 : decode cX4_mayBe 296 = .ok (.iconst 0, 1) := by decide +kernel
theorem dX4_mayBe_297 : decode cX4_mayBe 297 = .ok (.ireturn, 1) := by decide +kernel
theorem dX4_mayBe_298 : decode cX4_mayBe 298 = .ok (.iconst 0, 1) := by decide +kernel
theorem dX4_mayBe_299 : decode cX4_mayBe 299 = .ok (.ireturn, 1) := by decide +kernel
theorem dX4_effect_0 : decode cX4_effect 0 = .ok (.iload_n 1, 1) := by decide +kernel
theorem dX4_effect_1 : decode cX4_effect 1 = .ok (.iload_n 2, 1) := by decide +kernel
theorem dX4_effect_2 : decode cX4_effect 2 = .ok (.iload_n 3, 1) := by decide +kernel
theorem dX4_effect_3 : decode cX4_effect 3 = .ok (.iload 4, 2) := by decide +kernel
theorem dX4_effect_5 : decode cX4_effect 5 = .ok (.iload 5, 2) := by decide +kernel
theorem dX4_effect_7 : decode cX4_effect 7 = .ok (.invokestatic 63, 3) := by decide +kernel
theorem dX4_effect_10 : decode cX4_effect 10 = .ok (.ifCond .ne 6, 3) := by decide +kernel
theorem dX4_effect_13 : decode cX4_effect 13 = .ok (.bipush (-2), 2) := by decide +kernel
theorem dX4_effect_15 : decode cX4_effect 15 = .ok (.ireturn, 1) := by decide +kernel
theorem dX4_effect_16 : decode cX4_effect 16 = .ok (.aload_n 0, 1) := by decide +kernel
theorem dX4_effect_17 : decode cX4_effect 17 = .ok (.getfield 56, 3) := by decide +kernel
theorem dX4_effect_20 : decode cX4_effect 20 = .ok (.bipush 12, 2) := by decide +kernel
theorem dX4_effect_22 : decode cX4_effect 22 = .ok (.if_icmp .ne 6, 3) := by decide +kernel
theorem dX4_effect_25 : decode cX4_effect 25 = .ok (.bipush (-4), 2) := by decide +kernel
theorem dX4_effect_27 : decode cX4_effect 27 = .ok (.ireturn, 1) := by decide +kernel
theorem dX4_effect_28 : decode cX4_effect 28 = .ok (.aload_n 0, 1) := by decide +kernel
theorem dX4_effect_29 : decode cX4_effect 29 = .ok (.getfield 56, 3) := by decide +kernel
theorem dX4_effect_32 : decode cX4_effect 32 = .ok (.istore 6, 2) := by decide +kernel
theorem dX4_effect_34 : decode cX4_effect 34 = .ok (.aload_n 0, 1) := by decide +kernel
theorem dX4_effect_35 : decode cX4_effect 35 = .ok (.getfield 16, 3) := by decide +kernel
theorem dX4_effect_38 : decode cX4_effect 38 = .ok (.iload 6, 2) := by decide +kernel
theorem dX4_effect_40 : decode cX4_effect 40 = .ok (.iload_n 1, 1) := by decide +kernel
theorem dX4_effect_41 : decode cX4_effect 41 = .ok (.iastore, 1) := by decide +kernel
theorem dX4_effect_42 : decode cX4_effect 42 = .ok (.aload_n 0, 1) := by decide +kernel
theorem dX4_effect_43 : decode cX4_effect 43 = .ok (.getfield 19, 3) := by decide +kernel
theorem dX4_effect_46 : decode cX4_effect 46 = .ok (.iload 6, 2) := by decide +kernel
theorem dX4_effect_48 : decode cX4_effect 48 = .ok (.iload_n 2, 1) := by decide +kernel
theorem dX4_effect_49 : decode cX4_effect 49 = .ok (.iastore, 1) := by decide +kernel
theorem dX4_effect_50 : decode cX4_effect 50 = .ok (.aload_n 0, 1) := by decide +kernel
theorem dX4_effect_51 : decode cX4_effect 51 = .ok (.getfield 22, 3) := by decide +kernel
theorem dX4_effect_54 : decode cX4_effect 54 = .ok (.iload 6, 2) := by decide +kernel
theorem dX4_effect_56 : decode cX4_effect 56 = .ok (.iload_n 3, 1) := by decide +kernel
theorem dX4_effect_57 : decode cX4_effect 57 = .ok (.iastore, 1) := by decide +kernel
theorem dX4_effect_58 : decode cX4_effect 58 = .ok (.aload_n 0, 1) := by decide +kernel
theorem dX4_effect_59 : decode cX4_effect 59 = .ok (.getfield 25, 3) := by decide +kernel
theorem dX4_effect_62 : decode cX4_effect 62 = .ok (.iload 6, 2) := by decide +kernel
theorem dX4_effect_64 : decode cX4_effect 64 = .ok (.iload 4, 2) := by decide +kernel
theorem dX4_effect_66 : decode cX4_effect 66 = .ok (.iastore, 1) := by decide +kernel
theorem dX4_effect_67 : decode cX4_effect 67 = .ok (.aload_n 0, 1) := by decide +kernel
theorem dX4_effect_68 : decode cX4_effect 68 = .ok (.getfield 28, 3) := by decide +kernel
theorem dX4_effect_71 : decode cX4_effect 71 = .ok (.iload 6, 2) := by decide +kernel
theorem dX4_effect_73 : decode cX4_effect 73 = .ok (.iload 5, 2) := by decide +kernel
theorem dX4_effect_75 : decode cX4_effect 75 = .ok (.iastore, 1) := by decide +kernel
theorem dX4_effect_76 : decode cX4_effect 76 = .ok (.iconst 0, 1) := by decide +kernel
theorem dX4_effect_77 : decode cX4_effect 77 = .ok (.istore 7, 2) := by decide +kernel
theorem dX4_effect_79 : decode cX4_effect 79 = .ok (.iload 7, 2) := by decide +kernel
theorem dX4_effect_81 : decode cX4_effect 81 = .ok (.bipush 12, 2) := by decide +kernel
theorem dX4_effect_83 : decode cX4_effect 83 = .ok (.if_icmp .ge 59, 3) := by decide +kernel
theorem dX4_effect_86 : decode cX4_effect 86 = .ok (.aload_n 0, 1) := by decide +kernel
theorem dX4_effect_87 : decode cX4_effect 87 = .ok (.getfield 31, 3) := by decide +kernel
theorem dX4_effect_90 : decode cX4_effect 90 = .ok (.bipush 12, 2) := by decide +kernel
theorem dX4_effect_92 : decode cX4_effect 92 = .ok (.iload 6, 2) := by decide +kernel
theorem dX4_effect_94 : decode cX4_effect 94 = .ok (.imul, 1) := by decide +kernel
theorem dX4_effect_95 : decode cX4_effect 95 = .ok (.iload 7, 2) := by decide +kernel
theorem dX4_effect_97 : decode cX4_effect 97 = .ok (.iadd, 1) := by decide +kernel
theorem dX4_effect_98 : decode cX4_effect 98 = .ok (.iload 7, 2) := by decide +kernel
theorem dX4_effect_100 : decode cX4_effect 100 = .ok (.ifCond .eq 10, 3) := by decide +kernel
theorem dX4_effect_103 : decode cX4_effect 103 = .ok (.iload 7, 2) := by decide +kernel
theorem dX4_effect_105 : decode cX4_effect 105 = .ok (.bipush 10, 2) := by decide +kernel
theorem dX4_effect_107 : decode cX4_effect 107 = .ok (.if_icmp .ne 8, 3) := by decide +kernel
theorem dX4_effect_110 : decode cX4_effect 110 = .ok (.bipush (-9), 2) := by decide +kernel
theorem dX4_effect_112 : decode cX4_effect 112 = .ok (.goto 23, 3) := by decide +kernel
theorem dX4_effect_115 : decode cX4_effect 115 = .ok (.iload 7, 2) := by decide +kernel
theorem dX4_effect_117 : decode cX4_effect 117 = .ok (.bipush 6, 2) := by decide +kernel
theorem dX4_effect_119 : decode cX4_effect 119 = .ok (.if_icmp .eq 10, 3) := by decide +kernel
theorem dX4_effect_122 : decode cX4_effect 122 = .ok (.iload 7, 2) := by decide +kernel
theorem dX4_effect_124 : decode cX4_effect 124 = .ok (.bipush 8, 2) := by decide +kernel
theorem dX4_effect_126 : decode cX4_effect 126 = .ok (.if_icmp .ne 8, 3) := by decide +kernel
theorem dX4_effect_129 : decode cX4_effect 129 = .ok (.bipush 100, 2) := by decide +kernel
theorem dX4_effect_131 : decode cX4_effect 131 = .ok (.goto 4, 3) := by decide +kernel
theorem dX4_effect_134 : decode cX4_effect 134 = .ok (.iconst 0, 1) := by decide +kernel
theorem dX4_effect_135 : decode cX4_effect 135 = .ok (.iastore, 1) := by decide +kernel
theorem dX4_effect_136 : decode cX4_effect 136 = .ok (.iinc 7 1, 3) := by decide +kernel
theorem dX4_effect_139 : decode cX4_effect 139 = .ok (.goto (-60), 3) := by decide +kernel
theorem dX4_effect_142 : decode cX4_effect 142 = .ok (.aload_n 0, 1) := by decide +kernel
theorem dX4_effect_143 : decode cX4_effect 143 = .ok (.getfield 34, 3) := by decide +kernel
theorem dX4_effect_146 : decode cX4_effect 146 = .ok (.iload 6, 2) := by decide +kernel
theorem dX4_effect_148 : decode cX4_effect 148 = .ok (.bipush (-9), 2) := by decide +kernel
theorem dX4_effect_150 : decode cX4_effect 150 = .ok (.iastore, 1) := by decide +kernel
theorem dX4_effect_151 : decode cX4_effect 151 = .ok (.aload_n 0, 1) := by decide +kernel
theorem dX4_effect_152 : decode cX4_effect 152 = .ok (.dup, 1) := by decide +kernel
theorem dX4_effect_153 : decode cX4_effect 153 = .ok (.getfield 56, 3) := by decide +kernel
theorem dX4_effect_156 : decode cX4_effect 156 = .ok (.iconst 1, 1) := by decide +kernel
theorem dX4_effect_157 : decode cX4_effect 157 = .ok (.iadd, 1) := by decide +kernel
theorem dX4_effect_158 : decode cX4_effect 158 = .ok (.putfield 56, 3) := by decide +kernel
theorem dX4_effect_161 : decode cX4_effect 161 = .ok (.iload 6, 2) := by decide +kernel
theorem dX4_effect_163 : decode cX4_effect 163 = .ok (.ireturn, 1) := by decide +kernel
theorem dX4_mostOf_0 : decode cX4_mostOf 0 = .ok (.iload_n 0, 1) := by decide +kernel
theorem dX4_mostOf_1 : decode cX4_mostOf 1 = .ok (.tableswitch 75 0 11 #[63, 66, 66, 75, 66, 75, 75, 75, 75, 70, 73, 66], 63) := by decide +kernel
theorem dX4_mostOf_64 : decode cX4_mostOf 64 = .ok (.ldc 67, 2) := by decide +kernel
theorem dX4_mostOf_66 : decode cX4_mostOf 66 = .ok (.ireturn, 1) := by decide +kernel
theorem dX4_mostOf_67 : decode cX4_mostOf 67 = .ok (.sipush 5000, 3) := by decide +kernel
theorem dX4_mostOf_70 : decode cX4_mostOf 70 = .ok (.ireturn, 1) := by decide +kernel
theorem dX4_mostOf_71 : decode cX4_mostOf 71 = .ok (.bipush 9, 2) := by decide +kernel
theorem dX4_mostOf_73 : decode cX4_mostOf 73 = .ok (.ireturn, 1) := by decide +kernel
theorem dX4_mostOf_74 : decode cX4_mostOf 74 = .ok (.iconst 3, 1) := by decide +kernel
theorem dX4_mostOf_75 : decode cX4_mostOf 75 = .ok (.ireturn, 1) := by decide +kernel
theorem dX4_mostOf_76 : decode cX4_mostOf 76 = .ok (.bipush 100, 2) := by decide +kernel
theorem dX4_mostOf_78 : decode cX4_mostOf 78 = .ok (.ireturn, 1) := by decide +kernel
theorem dX4_mayBeNumber_0 : decode cX4_mayBeNumber 0 = .ok (.iload_n 0, 1) := by decide +kernel
theorem dX4_mayBeNumber_1 : decode cX4_mayBeNumber 1 = .ok (.ifCond .eq 9, 3) := by decide +kernel
theorem dX4_mayBeNumber_4 : decode cX4_mayBeNumber 4 = .ok (.iload_n 0, 1) := by decide +kernel
theorem dX4_mayBeNumber_5 : decode cX4_mayBeNumber 5 = .ok (.bipush 10, 2) := by decide +kernel
theorem dX4_mayBeNumber_7 : decode cX4_mayBeNumber 7 = .ok (.if_icmp .ne 11, 3) := by decide +kernel
theorem dX4_mayBeNumber_10 : decode cX4_mayBeNumber 10 = .ok (.iload_n 1, 1) := by decide +kernel
theorem dX4_mayBeNumber_11 : decode cX4_mayBeNumber 11 = .ok (.bipush (-9), 2) := by decide +kernel
theorem dX4_mayBeNumber_13 : decode cX4_mayBeNumber 13 = .ok (.if_icmp .ne 5, 3) := by decide +kernel
theorem dX4_mayBeNumber_16 : decode cX4_mayBeNumber 16 = .ok (.iconst 1, 1) := by decide +kernel
theorem dX4_mayBeNumber_17 : decode cX4_mayBeNumber 17 = .ok (.ireturn, 1) := by decide +kernel
theorem dX4_mayBeNumber_18 : decode cX4_mayBeNumber 18 = .ok (.iload_n 0, 1) := by decide +kernel
theorem dX4_mayBeNumber_19 : decode cX4_mayBeNumber 19 = .ok (.ifCond .ne 7, 3) := by decide +kernel
theorem dX4_mayBeNumber_22 : decode cX4_mayBeNumber 22 = .ok (.iconst 1, 1) := by decide +kernel
theorem dX4_mayBeNumber_23 : decode cX4_mayBeNumber 23 = .ok (.goto 21, 3) := by decide +kernel
theorem dX4_mayBeNumber_26 : decode cX4_mayBeNumber 26 = .ok (.iload_n 0, 1) := by decide +kernel
theorem dX4_mayBeNumber_27 : decode cX4_mayBeNumber 27 = .ok (.bipush 6, 2) := by decide +kernel
theorem dX4_mayBeNumber_29 : decode cX4_mayBeNumber 29 = .ok (.if_icmp .eq 9, 3) := by decide +kernel
theorem dX4_mayBeNumber_32 : decode cX4_mayBeNumber 32 = .ok (.iload_n 0, 1) := by decide +kernel
theorem dX4_mayBeNumber_33 : decode cX4_mayBeNumber 33 = .ok (.bipush 7, 2) := by decide +kernel
theorem dX4_mayBeNumber_35 : decode cX4_mayBeNumber 35 = .ok (.if_icmp .ne 8, 3) := by decide +kernel
theorem dX4_mayBeNumber_38 : decode cX4_mayBeNumber 38 = .ok (.bipush (-100), 2) := by decide +kernel
theorem dX4_mayBeNumber_40 : decode cX4_mayBeNumber 40 = .ok (.goto 4, 3) := by decide +kernel
theorem dX4_mayBeNumber_43 : decode cX4_mayBeNumber 43 = .ok (.iconst 0, 1) := by decide +kernel
theorem dX4_mayBeNumber_44 : decode cX4_mayBeNumber 44 = .ok (.istore_n 2, 1) := by decide +kernel
theorem dX4_mayBeNumber_45 : decode cX4_mayBeNumber 45 = .ok (.iload_n 1, 1) := by decide +kernel
theorem dX4_mayBeNumber_46 : decode cX4_mayBeNumber 46 = .ok (.iload_n 2, 1) := by decide +kernel
theorem dX4_mayBeNumber_47 : decode cX4_mayBeNumber 47 = .ok (.iload_n 0, 1) := by decide +kernel
theorem dX4_mayBeNumber_48 : decode cX4_mayBeNumber 48 = .ok (.invokestatic 68, 3) := by decide +kernel
theorem dX4_mayBeNumber_51 : decode cX4_mayBeNumber 51 = .ok (.invokestatic 59, 3) := by decide +kernel
theorem dX4_mayBeNumber_54 : decode cX4_mayBeNumber 54 = .ok (.ireturn, 1) := by decide +kernel
theorem dX4_tellNumber_0 : decode cX4_tellNumber 0 = .ok (.aload_n 0, 1) := by decide +kernel
theorem dX4_tellNumber_1 : decode cX4_tellNumber 1 = .ok (.iload_n 1, 1) := by decide +kernel
theorem dX4_tellNumber_2 : decode cX4_tellNumber 2 = .ok (.iload_n 2, 1) := by decide +kernel
theorem dX4_tellNumber_3 : decode cX4_tellNumber 3 = .ok (.invokevirtual 72, 3) := by decide +kernel
theorem dX4_tellNumber_6 : decode cX4_tellNumber 6 = .ok (.iload_n 2, 1) := by decide +kernel
theorem dX4_tellNumber_7 : decode cX4_tellNumber 7 = .ok (.bipush 6, 2) := by decide +kernel
theorem dX4_tellNumber_9 : decode cX4_tellNumber 9 = .ok (.if_icmp .eq 9, 3) := by decide +kernel
theorem dX4_tellNumber_12 : decode cX4_tellNumber 12 = .ok (.iload_n 2, 1) := by decide +kernel
theorem dX4_tellNumber_13 : decode cX4_tellNumber 13 = .ok (.bipush 7, 2) := by decide +kernel
theorem dX4_tellNumber_15 : decode cX4_tellNumber 15 = .ok (.if_icmp .ne 9, 3) := by decide +kernel
theorem dX4_tellNumber_18 : decode cX4_tellNumber 18 = .ok (.sipush 10000, 3) := by decide +kernel
theorem dX4_tellNumber_21 : decode cX4_tellNumber 21 = .ok (.goto 4, 3) := by decide +kernel
theorem dX4_tellNumber_24 : decode cX4_tellNumber 24 = .ok (.iconst 0, 1) := by decide +kernel
theorem dX4_tellNumber_25 : decode cX4_tellNumber 25 = .ok (.iadd, 1) := by decide +kernel
theorem dX4_tellNumber_26 : decode cX4_tellNumber 26 = .ok (.ireturn, 1) := by decide +kernel
theorem dX4_set_0 : decode cX4_set 0 = .ok (.aload_n 0, 1) := by decide +kernel
theorem dX4_set_1 : decode cX4_set 1 = .ok (.iload_n 1, 1) := by decide +kernel
theorem dX4_set_2 : decode cX4_set 2 = .ok (.invokevirtual 76, 3) := by decide +kernel
theorem dX4_set_5 : decode cX4_set 5 = .ok (.ifCond .ne 5, 3) := by decide +kernel
theorem dX4_set_8 : decode cX4_set 8 = .ok (.iconst (-1), 1) := by decide +kernel
theorem dX4_set_9 : decode cX4_set 9 = .ok (.ireturn, 1) := by decide +kernel
theorem dX4_set_10 : decode cX4_set 10 = .ok (.iload_n 2, 1) := by decide +kernel
theorem dX4_set_11 : decode cX4_set 11 = .ok (.iconst 0, 1) := by decide +kernel
theorem dX4_set_12 : decode cX4_set 12 = .ok (.bipush 11, 2) := by decide +kernel
theorem dX4_set_14 : decode cX4_set 14 = .ok (.invokestatic 59, 3) := by decide +kernel
theorem dX4_set_17 : decode cX4_set 17 = .ok (.ifCond .eq 11, 3) := by decide +kernel
theorem dX4_set_20 : decode cX4_set 20 = .ok (.iload_n 2, 1) := by decide +kernel
theorem dX4_set_21 : decode cX4_set 21 = .ok (.iload_n 3, 1) := by decide +kernel
theorem dX4_set_22 : decode cX4_set 22 = .ok (.invokestatic 80, 3) := by decide +kernel
theorem dX4_set_25 : decode cX4_set 25 = .ok (.ifCond .ne 6, 3) := by decide +kernel
theorem dX4_set_28 : decode cX4_set 28 = .ok (.bipush (-2), 2) := by decide +kernel
theorem dX4_set_30 : decode cX4_set 30 = .ok (.ireturn, 1) := by decide +kernel
theorem dX4_set_31 : decode cX4_set 31 = .ok (.aload_n 0, 1) := by decide +kernel
theorem dX4_set_32 : decode cX4_set 32 = .ok (.iload_n 1, 1) := by decide +kernel
theorem dX4_set_33 : decode cX4_set 33 = .ok (.iload_n 2, 1) := by decide +kernel
theorem dX4_set_34 : decode cX4_set 34 = .ok (.invokevirtual 84, 3) := by decide +kernel
theorem dX4_set_37 : decode cX4_set 37 = .ok (.istore 4, 2) := by decide +kernel
theorem dX4_set_39 : decode cX4_set 39 = .ok (.aload_n 0, 1) := by decide +kernel
theorem dX4_set_40 : decode cX4_set 40 = .ok (.getfield 31, 3) := by decide +kernel
theorem dX4_set_43 : decode cX4_set 43 = .ok (.bipush 12, 2) := by decide +kernel
theorem dX4_set_45 : decode cX4_set 45 = .ok (.iload_n 1, 1) := by decide +kernel
theorem dX4_set_46 : decode cX4_set 46 = .ok (.imul, 1) := by decide +kernel
theorem dX4_set_47 : decode cX4_set 47 = .ok (.iload_n 2, 1) := by decide +kernel
theorem dX4_set_48 : decode cX4_set 48 = .ok (.iadd, 1) := by decide +kernel
theorem dX4_set_49 : decode cX4_set 49 = .ok (.iload_n 3, 1) := by decide +kernel
theorem dX4_set_50 : decode cX4_set 50 = .ok (.iastore, 1) := by decide +kernel
theorem dX4_set_51 : decode cX4_set 51 = .ok (.iload 4, 2) := by decide +kernel
theorem dX4_set_53 : decode cX4_set 53 = .ok (.ireturn, 1) := by decide +kernel
theorem dX4_drop_0 : decode cX4_drop 0 = .ok (.aload_n 0, 1) := by decide +kernel
theorem dX4_drop_1 : decode cX4_drop 1 = .ok (.getfield 56, 3) := by decide +kernel
theorem dX4_drop_4 : decode cX4_drop 4 = .ok (.ifCond .ne 6, 3) := by decide +kernel
theorem dX4_drop_7 : decode cX4_drop 7 = .ok (.bipush (-3), 2) := by decide +kernel
theorem dX4_drop_9 : decode cX4_drop 9 = .ok (.ireturn, 1) := by decide +kernel
theorem dX4_drop_10 : decode cX4_drop 10 = .ok (.aload_n 0, 1) := by decide +kernel
theorem dX4_drop_11 : decode cX4_drop 11 = .ok (.aload_n 0, 1) := by decide +kernel
theorem dX4_drop_12 : decode cX4_drop 12 = .ok (.getfield 56, 3) := by decide +kernel
theorem dX4_drop_15 : decode cX4_drop 15 = .ok (.iconst 1, 1) := by decide +kernel
theorem dX4_drop_16 : decode cX4_drop 16 = .ok (.isub, 1) := by decide +kernel
theorem dX4_drop_17 : decode cX4_drop 17 = .ok (.invokevirtual 87, 3) := by decide +kernel
theorem dX4_drop_20 : decode cX4_drop 20 = .ok (.aload_n 0, 1) := by decide +kernel
theorem dX4_drop_21 : decode cX4_drop 21 = .ok (.dup, 1) := by decide +kernel
theorem dX4_drop_22 : decode cX4_drop 22 = .ok (.getfield 56, 3) := by decide +kernel
theorem dX4_drop_25 : decode cX4_drop 25 = .ok (.iconst 1, 1) := by decide +kernel
theorem dX4_drop_26 : decode cX4_drop 26 = .ok (.isub, 1) := by decide +kernel
theorem dX4_drop_27 : decode cX4_drop 27 = .ok (.putfield 56, 3) := by decide +kernel
theorem dX4_drop_30 : decode cX4_drop 30 = .ok (.aload_n 0, 1) := by decide +kernel
theorem dX4_drop_31 : decode cX4_drop 31 = .ok (.getfield 56, 3) := by decide +kernel
theorem dX4_drop_34 : decode cX4_drop 34 = .ok (.ireturn, 1) := by decide +kernel
theorem dX4_moves_0 : decode cX4_moves 0 = .ok (.aload_n 0, 1) := by decide +kernel
theorem dX4_moves_1 : decode cX4_moves 1 = .ok (.getfield 91, 3) := by decide +kernel
theorem dX4_moves_4 : decode cX4_moves 4 = .ok (.aload_n 0, 1) := by decide +kernel
theorem dX4_moves_5 : decode cX4_moves 5 = .ok (.getfield 94, 3) := by decide +kernel
theorem dX4_moves_8 : decode cX4_moves 8 = .ok (.isub, 1) := by decide +kernel
theorem dX4_moves_9 : decode cX4_moves 9 = .ok (.istore_n 3, 1) := by decide +kernel
theorem dX4_moves_10 : decode cX4_moves 10 = .ok (.iload_n 3, 1) := by decide +kernel
theorem dX4_moves_11 : decode cX4_moves 11 = .ok (.ifCond .le 23, 3) := by decide +kernel
theorem dX4_moves_14 : decode cX4_moves 14 = .ok (.aload_n 0, 1) := by decide +kernel
theorem dX4_moves_15 : decode cX4_moves 15 = .ok (.getfield 13, 3) := by decide +kernel
theorem dX4_moves_18 : decode cX4_moves 18 = .ok (.iload_n 1, 1) := by decide +kernel
theorem dX4_moves_19 : decode cX4_moves 19 = .ok (.sipush 1000, 3) := by decide +kernel
theorem dX4_moves_22 : decode cX4_moves 22 = .ok (.iload_n 2, 1) := by decide +kernel
theorem dX4_moves_23 : decode cX4_moves 23 = .ok (.aload_n 0, 1) := by decide +kernel
theorem dX4_moves_24 : decode cX4_moves 24 = .ok (.getfield 7, 3) := by decide +kernel
theorem dX4_moves_27 : decode cX4_moves 27 = .ok (.iload_n 1, 1) := by decide +kernel
theorem dX4_moves_28 : decode cX4_moves 28 = .ok (.iaload, 1) := by decide +kernel
theorem dX4_moves_29 : decode cX4_moves 29 = .ok (.isub, 1) := by decide +kernel
theorem dX4_moves_30 : decode cX4_moves 30 = .ok (.imul, 1) := by decide +kernel
theorem dX4_moves_31 : decode cX4_moves 31 = .ok (.iload_n 3, 1) := by decide +kernel
theorem dX4_moves_32 : decode cX4_moves 32 = .ok (.idiv, 1) := by decide +kernel
theorem dX4_moves_33 : decode cX4_moves 33 = .ok (.iastore, 1) := by decide +kernel
theorem dX4_moves_34 : decode cX4_moves 34 = .ok (.aload_n 0, 1) := by decide +kernel
theorem dX4_moves_35 : decode cX4_moves 35 = .ok (.getfield 7, 3) := by decide +kernel
theorem dX4_moves_38 : decode cX4_moves 38 = .ok (.iload_n 1, 1) := by decide +kernel
theorem dX4_moves_39 : decode cX4_moves 39 = .ok (.iload_n 2, 1) := by decide +kernel
theorem dX4_moves_40 : decode cX4_moves 40 = .ok (.iastore, 1) := by decide +kernel
theorem dX4_moves_41 : decode cX4_moves 41 = .ok (.return_, 1) := by decide +kernel
theorem dX4_hand_0 : decode cX4_hand 0 = .ok (.iload_n 1, 1) := by decide +kernel
theorem dX4_hand_1 : decode cX4_hand 1 = .ok (.sipush (-1000), 3) := by decide +kernel
theorem dX4_hand_4 : decode cX4_hand 4 = .ok (.sipush 1000, 3) := by decide +kernel
theorem dX4_hand_7 : decode cX4_hand 7 = .ok (.invokestatic 59, 3) := by decide +kernel
theorem dX4_hand_10 : decode cX4_hand 10 = .ok (.ifCond .eq 16, 3) := by decide +kernel
theorem dX4_hand_13 : decode cX4_hand 13 = .ok (.iload_n 2, 1) := by decide +kernel
theorem dX4_hand_14 : decode cX4_hand 14 = .ok (.sipush (-1000), 3) := by decide +kernel
theorem dX4_hand_17 : decode cX4_hand 17 = .ok (.sipush 1000, 3) := by decide +kernel
theorem dX4_hand_20 : decode cX4_hand 20 = .ok (.invokestatic 59, 3) := by decide +kernel
theorem dX4_hand_23 : decode cX4_hand 23 = .ok (.ifCond .ne 6, 3) := by decide +kernel
theorem dX4_hand_26 : decode cX4_hand 26 = .ok (.bipush (-2), 2) := by decide +kernel
theorem dX4_hand_28 : decode cX4_hand 28 = .ok (.ireturn, 1) := by decide +kernel
theorem dX4_hand_29 : decode cX4_hand 29 = .ok (.aload_n 0, 1) := by decide +kernel
theorem dX4_hand_30 : decode cX4_hand 30 = .ok (.iconst 0, 1) := by decide +kernel
theorem dX4_hand_31 : decode cX4_hand 31 = .ok (.iload_n 1, 1) := by decide +kernel
theorem dX4_hand_32 : decode cX4_hand 32 = .ok (.invokevirtual 97, 3) := by decide +kernel
theorem dX4_hand_35 : decode cX4_hand 35 = .ok (.aload_n 0, 1) := by decide +kernel
theorem dX4_hand_36 : decode cX4_hand 36 = .ok (.iconst 1, 1) := by decide +kernel
theorem dX4_hand_37 : decode cX4_hand 37 = .ok (.iload_n 2, 1) := by decide +kernel
theorem dX4_hand_38 : decode cX4_hand 38 = .ok (.invokevirtual 97, 3) := by decide +kernel
theorem dX4_hand_41 : decode cX4_hand 41 = .ok (.aload_n 0, 1) := by decide +kernel
theorem dX4_hand_42 : decode cX4_hand 42 = .ok (.aload_n 0, 1) := by decide +kernel
theorem dX4_hand_43 : decode cX4_hand 43 = .ok (.getfield 91, 3) := by decide +kernel
theorem dX4_hand_46 : decode cX4_hand 46 = .ok (.putfield 94, 3) := by decide +kernel
theorem dX4_hand_49 : decode cX4_hand 49 = .ok (.iconst 1, 1) := by decide +kernel
theorem dX4_hand_50 : decode cX4_hand 50 = .ok (.ireturn, 1) := by decide +kernel
theorem dX4_ofAxis_0 : decode cX4_ofAxis 0 = .ok (.iload_n 1, 1) := by decide +kernel
theorem dX4_ofAxis_1 : decode cX4_ofAxis 1 = .ok (.invokestatic 101, 3) := by decide +kernel
theorem dX4_ofAxis_4 : decode cX4_ofAxis 4 = .ok (.ifCond .ne 5, 3) := by decide +kernel
theorem dX4_ofAxis_7 : decode cX4_ofAxis 7 = .ok (.iconst (-1), 1) := by decide +kernel
theorem dX4_ofAxis_8 : decode cX4_ofAxis 8 = .ok (.ireturn, 1) := by decide +kernel
theorem dX4_ofAxis_9 : decode cX4_ofAxis 9 = .ok (.iload_n 2, 1) := by decide +kernel
theorem dX4_ofAxis_10 : decode cX4_ofAxis 10 = .ok (.iconst 0, 1) := by decide +kernel
theorem dX4_ofAxis_11 : decode cX4_ofAxis 11 = .ok (.iconst 1, 1) := by decide +kernel
theorem dX4_ofAxis_12 : decode cX4_ofAxis 12 = .ok (.invokestatic 59, 3) := by decide +kernel
theorem dX4_ofAxis_15 : decode cX4_ofAxis 15 = .ok (.ifCond .ne 6, 3) := by decide +kernel
theorem dX4_ofAxis_18 : decode cX4_ofAxis 18 = .ok (.bipush (-2), 2) := by decide +kernel
theorem dX4_ofAxis_20 : decode cX4_ofAxis 20 = .ok (.ireturn, 1) := by decide +kernel
theorem dX4_ofAxis_21 : decode cX4_ofAxis 21 = .ok (.ldc 104, 2) := by decide +kernel
theorem dX4_ofAxis_23 : decode cX4_ofAxis 23 = .ok (.iload_n 2, 1) := by decide +kernel
theorem dX4_ofAxis_24 : decode cX4_ofAxis 24 = .ok (.ifCond .ne 12, 3) := by decide +kernel
theorem dX4_ofAxis_27 : decode cX4_ofAxis 27 = .ok (.aload_n 0, 1) := by decide +kernel
theorem dX4_ofAxis_28 : decode cX4_ofAxis 28 = .ok (.getfield 7, 3) := by decide +kernel
theorem dX4_ofAxis_31 : decode cX4_ofAxis 31 = .ok (.iload_n 1, 1) := by decide +kernel
theorem dX4_ofAxis_32 : decode cX4_ofAxis 32 = .ok (.iaload, 1) := by decide +kernel
theorem dX4_ofAxis_33 : decode cX4_ofAxis 33 = .ok (.goto 9, 3) := by decide +kernel
theorem dX4_ofAxis_36 : decode cX4_ofAxis 36 = .ok (.aload_n 0, 1) := by decide +kernel
theorem dX4_ofAxis_37 : decode cX4_ofAxis 37 = .ok (.getfield 13, 3) := by decide +kernel
theorem dX4_ofAxis_40 : decode cX4_ofAxis 40 = .ok (.iload_n 1, 1) := by decide +kernel
theorem dX4_ofAxis_41 : decode cX4_ofAxis 41 = .ok (.iaload, 1) := by decide +kernel
theorem dX4_ofAxis_42 : decode cX4_ofAxis 42 = .ok (.iadd, 1) := by decide +kernel
theorem dX4_ofAxis_43 : decode cX4_ofAxis 43 = .ok (.ireturn, 1) := by decide +kernel
theorem dX4_ofEffect_0 : decode cX4_ofEffect 0 = .ok (.aload_n 0, 1) := by decide +kernel
theorem dX4_ofEffect_1 : decode cX4_ofEffect 1 = .ok (.iload_n 1, 1) := by decide +kernel
theorem dX4_ofEffect_2 : decode cX4_ofEffect 2 = .ok (.invokevirtual 76, 3) := by decide +kernel
theorem dX4_ofEffect_5 : decode cX4_ofEffect 5 = .ok (.ifCond .ne 5, 3) := by decide +kernel
theorem dX4_ofEffect_8 : decode cX4_ofEffect 8 = .ok (.iconst (-1), 1) := by decide +kernel
theorem dX4_ofEffect_9 : decode cX4_ofEffect 9 = .ok (.ireturn, 1) := by decide +kernel
theorem dX4_ofEffect_10 : decode cX4_ofEffect 10 = .ok (.iload_n 2, 1) := by decide +kernel
theorem dX4_ofEffect_11 : decode cX4_ofEffect 11 = .ok (.bipush 10, 2) := by decide +kernel
theorem dX4_ofEffect_13 : decode cX4_ofEffect 13 = .ok (.bipush 21, 2) := by decide +kernel
theorem dX4_ofEffect_15 : decode cX4_ofEffect 15 = .ok (.invokestatic 59, 3) := by decide +kernel
theorem dX4_ofEffect_18 : decode cX4_ofEffect 18 = .ok (.ifCond .eq 13, 3) := by decide +kernel
theorem dX4_ofEffect_21 : decode cX4_ofEffect 21 = .ok (.aload_n 0, 1) := by decide +kernel
theorem dX4_ofEffect_22 : decode cX4_ofEffect 22 = .ok (.iload_n 1, 1) := by decide +kernel
theorem dX4_ofEffect_23 : decode cX4_ofEffect 23 = .ok (.iload_n 2, 1) := by decide +kernel
theorem dX4_ofEffect_24 : decode cX4_ofEffect 24 = .ok (.bipush 10, 2) := by decide +kernel
theorem dX4_ofEffect_26 : decode cX4_ofEffect 26 = .ok (.isub, 1) := by decide +kernel
theorem dX4_ofEffect_27 : decode cX4_ofEffect 27 = .ok (.invokevirtual 84, 3) := by decide +kernel
theorem dX4_ofEffect_30 : decode cX4_ofEffect 30 = .ok (.ireturn, 1) := by decide +kernel
theorem dX4_ofEffect_31 : decode cX4_ofEffect 31 = .ok (.iload_n 2, 1) := by decide +kernel
theorem dX4_ofEffect_32 : decode cX4_ofEffect 32 = .ok (.tableswitch 164 0 8 #[52, 59, 70, 81, 92, 103, 109, 133, 157], 52) := by decide +kernel
theorem dX4_ofEffect_84 : decode cX4_ofEffect 84 = .ok (.aload_n 0, 1) := by decide +kernel
theorem dX4_ofEffect_85 : decode cX4_ofEffect 85 = .ok (.getfield 16, 3) := by decide +kernel
theorem dX4_ofEffect_88 : decode cX4_ofEffect 88 = .ok (.iload_n 1, 1) := by decide +kernel
theorem dX4_ofEffect_89 : decode cX4_ofEffect 89 = .ok (.iaload, 1) := by decide +kernel
theorem dX4_ofEffect_90 : decode cX4_ofEffect 90 = .ok (.ireturn, 1) := by decide +kernel
theorem dX4_ofEffect_91 : decode cX4_ofEffect 91 = .ok (.aload_n 0, 1) := by decide +kernel
theorem dX4_ofEffect_92 : decode cX4_ofEffect 92 = .ok (.getfield 19, 3) := by decide +kernel
theorem dX4_ofEffect_95 : decode cX4_ofEffect 95 = .ok (.iload_n 1, 1) := by decide +kernel
theorem dX4_ofEffect_96 : decode cX4_ofEffect 96 = .ok (.iaload, 1) := by decide +kernel
theorem dX4_ofEffect_97 : decode cX4_ofEffect 97 = .ok (.sipush 10000, 3) := by decide +kernel
theorem dX4_ofEffect_100 : decode cX4_ofEffect 100 = .ok (.iadd, 1) := by decide +kernel
theorem dX4_ofEffect_101 : decode cX4_ofEffect 101 = .ok (.ireturn, 1) := by decide +kernel
theorem dX4_ofEffect_102 : decode cX4_ofEffect 102 = .ok (.aload_n 0, 1) := by decide +kernel
theorem dX4_ofEffect_103 : decode cX4_ofEffect 103 = .ok (.getfield 22, 3) := by decide +kernel
theorem dX4_ofEffect_106 : decode cX4_ofEffect 106 = .ok (.iload_n 1, 1) := by decide +kernel
theorem dX4_ofEffect_107 : decode cX4_ofEffect 107 = .ok (.iaload, 1) := by decide +kernel
theorem dX4_ofEffect_108 : decode cX4_ofEffect 108 = .ok (.sipush 10000, 3) := by decide +kernel
theorem dX4_ofEffect_111 : decode cX4_ofEffect 111 = .ok (.iadd, 1) := by decide +kernel
theorem dX4_ofEffect_112 : decode cX4_ofEffect 112 = .ok (.ireturn, 1) := by decide +kernel
theorem dX4_ofEffect_113 : decode cX4_ofEffect 113 = .ok (.aload_n 0, 1) := by decide +kernel
theorem dX4_ofEffect_114 : decode cX4_ofEffect 114 = .ok (.getfield 25, 3) := by decide +kernel
theorem dX4_ofEffect_117 : decode cX4_ofEffect 117 = .ok (.iload_n 1, 1) := by decide +kernel
theorem dX4_ofEffect_118 : decode cX4_ofEffect 118 = .ok (.iaload, 1) := by decide +kernel
theorem dX4_ofEffect_119 : decode cX4_ofEffect 119 = .ok (.sipush 10000, 3) := by decide +kernel
theorem dX4_ofEffect_122 : decode cX4_ofEffect 122 = .ok (.iadd, 1) := by decide +kernel
theorem dX4_ofEffect_123 : decode cX4_ofEffect 123 = .ok (.ireturn, 1) := by decide +kernel
theorem dX4_ofEffect_124 : decode cX4_ofEffect 124 = .ok (.aload_n 0, 1) := by decide +kernel
theorem dX4_ofEffect_125 : decode cX4_ofEffect 125 = .ok (.getfield 28, 3) := by decide +kernel
theorem dX4_ofEffect_128 : decode cX4_ofEffect 128 = .ok (.iload_n 1, 1) := by decide +kernel
theorem dX4_ofEffect_129 : decode cX4_ofEffect 129 = .ok (.iaload, 1) := by decide +kernel
theorem dX4_ofEffect_130 : decode cX4_ofEffect 130 = .ok (.sipush 10000, 3) := by decide +kernel
theorem dX4_ofEffect_133 : decode cX4_ofEffect 133 = .ok (.iadd, 1) := by decide +kernel
theorem dX4_ofEffect_134 : decode cX4_ofEffect 134 = .ok (.ireturn, 1) := by decide +kernel
theorem dX4_ofEffect_135 : decode cX4_ofEffect 135 = .ok (.aload_n 0, 1) := by decide +kernel
theorem dX4_ofEffect_136 : decode cX4_ofEffect 136 = .ok (.iload_n 1, 1) := by decide +kernel
theorem dX4_ofEffect_137 : decode cX4_ofEffect 137 = .ok (.invokevirtual 105, 3) := by decide +kernel
theorem dX4_ofEffect_140 : decode cX4_ofEffect 140 = .ok (.ireturn, 1) := by decide +kernel
theorem dX4_ofEffect_141 : decode cX4_ofEffect 141 = .ok (.aload_n 0, 1) := by decide +kernel
theorem dX4_ofEffect_142 : decode cX4_ofEffect 142 = .ok (.iload_n 1, 1) := by decide +kernel
theorem dX4_ofEffect_143 : decode cX4_ofEffect 143 = .ok (.aload_n 0, 1) := by decide +kernel
theorem dX4_ofEffect_144 : decode cX4_ofEffect 144 = .ok (.getfield 34, 3) := by decide +kernel
theorem dX4_ofEffect_147 : decode cX4_ofEffect 147 = .ok (.iload_n 1, 1) := by decide +kernel
theorem dX4_ofEffect_148 : decode cX4_ofEffect 148 = .ok (.iaload, 1) := by decide +kernel
theorem dX4_ofEffect_149 : decode cX4_ofEffect 149 = .ok (.aload_n 0, 1) := by decide +kernel
theorem dX4_ofEffect_150 : decode cX4_ofEffect 150 = .ok (.getfield 91, 3) := by decide +kernel
theorem dX4_ofEffect_153 : decode cX4_ofEffect 153 = .ok (.invokevirtual 108, 3) := by decide +kernel
theorem dX4_ofEffect_156 : decode cX4_ofEffect 156 = .ok (.ifCond .eq 7, 3) := by decide +kernel
theorem dX4_ofEffect_159 : decode cX4_ofEffect 159 = .ok (.iconst 1, 1) := by decide +kernel
theorem dX4_ofEffect_160 : decode cX4_ofEffect 160 = .ok (.goto 4, 3) := by decide +kernel
theorem dX4_ofEffect_163 : decode cX4_ofEffect 163 = .ok (.iconst 0, 1) := by decide +kernel
theorem dX4_ofEffect_164 : decode cX4_ofEffect 164 = .ok (.ireturn, 1) := by decide +kernel
theorem dX4_ofEffect_165 : decode cX4_ofEffect 165 = .ok (.aload_n 0, 1) := by decide +kernel
theorem dX4_ofEffect_166 : decode cX4_ofEffect 166 = .ok (.iload_n 1, 1) := by decide +kernel
theorem dX4_ofEffect_167 : decode cX4_ofEffect 167 = .ok (.aload_n 0, 1) := by decide +kernel
theorem dX4_ofEffect_168 : decode cX4_ofEffect 168 = .ok (.getfield 34, 3) := by decide +kernel
theorem dX4_ofEffect_171 : decode cX4_ofEffect 171 = .ok (.iload_n 1, 1) := by decide +kernel
theorem dX4_ofEffect_172 : decode cX4_ofEffect 172 = .ok (.iaload, 1) := by decide +kernel
theorem dX4_ofEffect_173 : decode cX4_ofEffect 173 = .ok (.aload_n 0, 1) := by decide +kernel
theorem dX4_ofEffect_174 : decode cX4_ofEffect 174 = .ok (.getfield 91, 3) := by decide +kernel
theorem dX4_ofEffect_177 : decode cX4_ofEffect 177 = .ok (.invokevirtual 111, 3) := by decide +kernel
theorem dX4_ofEffect_180 : decode cX4_ofEffect 180 = .ok (.ifCond .eq 7, 3) := by decide +kernel
theorem dX4_ofEffect_183 : decode cX4_ofEffect 183 = .ok (.iconst 1, 1) := by decide +kernel
theorem dX4_ofEffect_184 : decode cX4_ofEffect 184 = .ok (.goto 4, 3) := by decide +kernel
theorem dX4_ofEffect_187 : decode cX4_ofEffect 187 = .ok (.iconst 0, 1) := by decide +kernel
theorem dX4_ofEffect_188 : decode cX4_ofEffect 188 = .ok (.ireturn, 1) := by decide +kernel
theorem dX4_ofEffect_189 : decode cX4_ofEffect 189 = .ok (.aload_n 0, 1) := by decide +kernel
theorem dX4_ofEffect_190 : decode cX4_ofEffect 190 = .ok (.getfield 34, 3) := by decide +kernel
theorem dX4_ofEffect_193 : decode cX4_ofEffect 193 = .ok (.iload_n 1, 1) := by decide +kernel
theorem dX4_ofEffect_194 : decode cX4_ofEffect 194 = .ok (.iaload, 1) := by decide +kernel
theorem dX4_ofEffect_195 : decode cX4_ofEffect 195 = .ok (.ireturn, 1) := by decide +kernel
theorem dX4_ofEffect_196 : decode cX4_ofEffect 196 = .ok (.bipush (-2), 2) := by decide +kernel
theorem dX4_ofEffect_198 : decode cX4_ofEffect 198 = .ok (.ireturn, 1) := by decide +kernel
theorem dX4_slotOf_0 : decode cX4_slotOf 0 = .ok (.iconst 0, 1) := by decide +kernel
theorem dX4_slotOf_1 : decode cX4_slotOf 1 = .ok (.istore_n 2, 1) := by decide +kernel
theorem dX4_slotOf_2 : decode cX4_slotOf 2 = .ok (.iload_n 2, 1) := by decide +kernel
theorem dX4_slotOf_3 : decode cX4_slotOf 3 = .ok (.bipush 6, 2) := by decide +kernel
theorem dX4_slotOf_5 : decode cX4_slotOf 5 = .ok (.if_icmp .ge 21, 3) := by decide +kernel
theorem dX4_slotOf_8 : decode cX4_slotOf 8 = .ok (.aload_n 0, 1) := by decide +kernel
theorem dX4_slotOf_9 : decode cX4_slotOf 9 = .ok (.getfield 41, 3) := by decide +kernel
theorem dX4_slotOf_12 : decode cX4_slotOf 12 = .ok (.iload_n 2, 1) := by decide +kernel
theorem dX4_slotOf_13 : decode cX4_slotOf 13 = .ok (.iaload, 1) := by decide +kernel
theorem dX4_slotOf_14 : decode cX4_slotOf 14 = .ok (.iload_n 1, 1) := by decide +kernel
theorem dX4_slotOf_15 : decode cX4_slotOf 15 = .ok (.if_icmp .ne 5, 3) := by decide +kernel
theorem dX4_slotOf_18 : decode cX4_slotOf 18 = .ok (.iload_n 2, 1) := by decide +kernel
theorem dX4_slotOf_19 : decode cX4_slotOf 19 = .ok (.ireturn, 1) := by decide +kernel
theorem dX4_slotOf_20 : decode cX4_slotOf 20 = .ok (.iinc 2 1, 3) := by decide +kernel
theorem dX4_slotOf_23 : decode cX4_slotOf 23 = .ok (.goto (-21), 3) := by decide +kernel
theorem dX4_slotOf_26 : decode cX4_slotOf 26 = .ok (.bipush (-9), 2) := by decide +kernel
theorem dX4_slotOf_28 : decode cX4_slotOf 28 = .ok (.ireturn, 1) := by decide +kernel
theorem dX4_doesPlay_0 : decode cX4_doesPlay 0 = .ok (.aload_n 0, 1) := by decide +kernel
theorem dX4_doesPlay_1 : decode cX4_doesPlay 1 = .ok (.iload_n 1, 1) := by decide +kernel
theorem dX4_doesPlay_2 : decode cX4_doesPlay 2 = .ok (.iconst 0, 1) := by decide +kernel
theorem dX4_doesPlay_3 : decode cX4_doesPlay 3 = .ok (.invokevirtual 72, 3) := by decide +kernel
theorem dX4_doesPlay_6 : decode cX4_doesPlay 6 = .ok (.istore 4, 2) := by decide +kernel
theorem dX4_doesPlay_8 : decode cX4_doesPlay 8 = .ok (.iload_n 2, 1) := by decide +kernel
theorem dX4_doesPlay_9 : decode cX4_doesPlay 9 = .ok (.bipush (-9), 2) := by decide +kernel
theorem dX4_doesPlay_11 : decode cX4_doesPlay 11 = .ok (.if_icmp .eq 29, 3) := by decide +kernel
theorem dX4_doesPlay_14 : decode cX4_doesPlay 14 = .ok (.iload 4, 2) := by decide +kernel
theorem dX4_doesPlay_16 : decode cX4_doesPlay 16 = .ok (.bipush (-9), 2) := by decide +kernel
theorem dX4_doesPlay_18 : decode cX4_doesPlay 18 = .ok (.if_icmp .eq 18, 3) := by decide +kernel
theorem dX4_doesPlay_21 : decode cX4_doesPlay 21 = .ok (.iload_n 3, 1) := by decide +kernel
theorem dX4_doesPlay_22 : decode cX4_doesPlay 22 = .ok (.iload_n 2, 1) := by decide +kernel
theorem dX4_doesPlay_23 : decode cX4_doesPlay 23 = .ok (.aload_n 0, 1) := by decide +kernel
theorem dX4_doesPlay_24 : decode cX4_doesPlay 24 = .ok (.iload_n 1, 1) := by decide +kernel
theorem dX4_doesPlay_25 : decode cX4_doesPlay 25 = .ok (.iconst 1, 1) := by decide +kernel
theorem dX4_doesPlay_26 : decode cX4_doesPlay 26 = .ok (.invokevirtual 72, 3) := by decide +kernel
theorem dX4_doesPlay_29 : decode cX4_doesPlay 29 = .ok (.iadd, 1) := by decide +kernel
theorem dX4_doesPlay_30 : decode cX4_doesPlay 30 = .ok (.iload 4, 2) := by decide +kernel
theorem dX4_doesPlay_32 : decode cX4_doesPlay 32 = .ok (.iadd, 1) := by decide +kernel
theorem dX4_doesPlay_33 : decode cX4_doesPlay 33 = .ok (.if_icmp .ge 7, 3) := by decide +kernel
theorem dX4_doesPlay_36 : decode cX4_doesPlay 36 = .ok (.iconst 1, 1) := by decide +kernel
theorem dX4_doesPlay_37 : decode cX4_doesPlay 37 = .ok (.goto 4, 3) := by decide +kernel
theorem dX4_doesPlay_40 : decode cX4_doesPlay 40 = .ok (.iconst 0, 1) := by decide +kernel
theorem dX4_doesPlay_41 : decode cX4_doesPlay 41 = .ok (.ireturn, 1) := by decide +kernel
theorem dX4_isOn_0 : decode cX4_isOn 0 = .ok (.aload_n 0, 1) := by decide +kernel
theorem dX4_isOn_1 : decode cX4_isOn 1 = .ok (.iload_n 1, 1) := by decide +kernel
theorem dX4_isOn_2 : decode cX4_isOn 2 = .ok (.iload_n 2, 1) := by decide +kernel
theorem dX4_isOn_3 : decode cX4_isOn 3 = .ok (.iload_n 3, 1) := by decide +kernel
theorem dX4_isOn_4 : decode cX4_isOn 4 = .ok (.invokevirtual 108, 3) := by decide +kernel
theorem dX4_isOn_7 : decode cX4_isOn 7 = .ok (.ifCond .eq 19, 3) := by decide +kernel
theorem dX4_isOn_10 : decode cX4_isOn 10 = .ok (.iload_n 3, 1) := by decide +kernel
theorem dX4_isOn_11 : decode cX4_isOn 11 = .ok (.iload_n 2, 1) := by decide +kernel
theorem dX4_isOn_12 : decode cX4_isOn 12 = .ok (.aload_n 0, 1) := by decide +kernel
theorem dX4_isOn_13 : decode cX4_isOn 13 = .ok (.iload_n 1, 1) := by decide +kernel
theorem dX4_isOn_14 : decode cX4_isOn 14 = .ok (.iconst 1, 1) := by decide +kernel
theorem dX4_isOn_15 : decode cX4_isOn 15 = .ok (.invokevirtual 72, 3) := by decide +kernel
theorem dX4_isOn_18 : decode cX4_isOn 18 = .ok (.iadd, 1) := by decide +kernel
theorem dX4_isOn_19 : decode cX4_isOn 19 = .ok (.if_icmp .lt 7, 3) := by decide +kernel
theorem dX4_isOn_22 : decode cX4_isOn 22 = .ok (.iconst 1, 1) := by decide +kernel
theorem dX4_isOn_23 : decode cX4_isOn 23 = .ok (.goto 4, 3) := by decide +kernel
theorem dX4_isOn_26 : decode cX4_isOn 26 = .ok (.iconst 0, 1) := by decide +kernel
theorem dX4_isOn_27 : decode cX4_isOn 27 = .ok (.ireturn, 1) := by decide +kernel
theorem dX4_goes_0 : decode cX4_goes 0 = .ok (.aload_n 0, 1) := by decide +kernel
theorem dX4_goes_1 : decode cX4_goes 1 = .ok (.iload_n 1, 1) := by decide +kernel
theorem dX4_goes_2 : decode cX4_goes 2 = .ok (.invokevirtual 105, 3) := by decide +kernel
theorem dX4_goes_5 : decode cX4_goes 5 = .ok (.istore_n 2, 1) := by decide +kernel
theorem dX4_goes_6 : decode cX4_goes 6 = .ok (.iload_n 2, 1) := by decide +kernel
theorem dX4_goes_7 : decode cX4_goes 7 = .ok (.bipush (-9), 2) := by decide +kernel
theorem dX4_goes_9 : decode cX4_goes 9 = .ok (.if_icmp .eq 11, 3) := by decide +kernel
theorem dX4_goes_12 : decode cX4_goes 12 = .ok (.aload_n 0, 1) := by decide +kernel
theorem dX4_goes_13 : decode cX4_goes 13 = .ok (.getfield 41, 3) := by decide +kernel
theorem dX4_goes_16 : decode cX4_goes 16 = .ok (.iload_n 2, 1) := by decide +kernel
theorem dX4_goes_17 : decode cX4_goes 17 = .ok (.bipush (-9), 2) := by decide +kernel
theorem dX4_goes_19 : decode cX4_goes 19 = .ok (.iastore, 1) := by decide +kernel
theorem dX4_goes_20 : decode cX4_goes 20 = .ok (.aload_n 0, 1) := by decide +kernel
theorem dX4_goes_21 : decode cX4_goes 21 = .ok (.getfield 34, 3) := by decide +kernel
theorem dX4_goes_24 : decode cX4_goes 24 = .ok (.iload_n 1, 1) := by decide +kernel
theorem dX4_goes_25 : decode cX4_goes 25 = .ok (.bipush (-9), 2) := by decide +kernel
theorem dX4_goes_27 : decode cX4_goes 27 = .ok (.iastore, 1) := by decide +kernel
theorem dX4_goes_28 : decode cX4_goes 28 = .ok (.iconst 0, 1) := by decide +kernel
theorem dX4_goes_29 : decode cX4_goes 29 = .ok (.istore_n 3, 1) := by decide +kernel
theorem dX4_goes_30 : decode cX4_goes 30 = .ok (.iload_n 3, 1) := by decide +kernel
theorem dX4_goes_31 : decode cX4_goes 31 = .ok (.iconst 4, 1) := by decide +kernel
theorem dX4_goes_32 : decode cX4_goes 32 = .ok (.if_icmp .ge 21, 3) := by decide +kernel
theorem dX4_goes_35 : decode cX4_goes 35 = .ok (.aload_n 0, 1) := by decide +kernel
theorem dX4_goes_36 : decode cX4_goes 36 = .ok (.getfield 47, 3) := by decide +kernel
theorem dX4_goes_39 : decode cX4_goes 39 = .ok (.bipush 12, 2) := by decide +kernel
theorem dX4_goes_41 : decode cX4_goes 41 = .ok (.iload_n 3, 1) := by decide +kernel
theorem dX4_goes_42 : decode cX4_goes 42 = .ok (.imul, 1) := by decide +kernel
theorem dX4_goes_43 : decode cX4_goes 43 = .ok (.iload_n 1, 1) := by decide +kernel
theorem dX4_goes_44 : decode cX4_goes 44 = .ok (.iadd, 1) := by decide +kernel
theorem dX4_goes_45 : decode cX4_goes 45 = .ok (.iconst 0, 1) := by decide +kernel
theorem dX4_goes_46 : decode cX4_goes 46 = .ok (.iastore, 1) := by decide +kernel
theorem dX4_goes_47 : decode cX4_goes 47 = .ok (.iinc 3 1, 3) := by decide +kernel
theorem dX4_goes_50 : decode cX4_goes 50 = .ok (.goto (-20), 3) := by decide +kernel
theorem dX4_goes_53 : decode cX4_goes 53 = .ok (.return_, 1) := by decide +kernel
theorem dX4_slots_0 : decode cX4_slots 0 = .ok (.iload_n 1, 1) := by decide +kernel
theorem dX4_slots_1 : decode cX4_slots 1 = .ok (.iconst 1, 1) := by decide +kernel
theorem dX4_slots_2 : decode cX4_slots 2 = .ok (.bipush 6, 2) := by decide +kernel
theorem dX4_slots_4 : decode cX4_slots 4 = .ok (.invokestatic 59, 3) := by decide +kernel
theorem dX4_slots_7 : decode cX4_slots 7 = .ok (.ifCond .ne 6, 3) := by decide +kernel
theorem dX4_slots_10 : decode cX4_slots 10 = .ok (.bipush (-2), 2) := by decide +kernel
theorem dX4_slots_12 : decode cX4_slots 12 = .ok (.ireturn, 1) := by decide +kernel
theorem dX4_slots_13 : decode cX4_slots 13 = .ok (.iload_n 1, 1) := by decide +kernel
theorem dX4_slots_14 : decode cX4_slots 14 = .ok (.istore_n 2, 1) := by decide +kernel
theorem dX4_slots_15 : decode cX4_slots 15 = .ok (.iload_n 2, 1) := by decide +kernel
theorem dX4_slots_16 : decode cX4_slots 16 = .ok (.bipush 6, 2) := by decide +kernel
theorem dX4_slots_18 : decode cX4_slots 18 = .ok (.if_icmp .ge 23, 3) := by decide +kernel
theorem dX4_slots_21 : decode cX4_slots 21 = .ok (.aload_n 0, 1) := by decide +kernel
theorem dX4_slots_22 : decode cX4_slots 22 = .ok (.getfield 41, 3) := by decide +kernel
theorem dX4_slots_25 : decode cX4_slots 25 = .ok (.iload_n 2, 1) := by decide +kernel
theorem dX4_slots_26 : decode cX4_slots 26 = .ok (.iaload, 1) := by decide +kernel
theorem dX4_slots_27 : decode cX4_slots 27 = .ok (.bipush (-9), 2) := by decide +kernel
theorem dX4_slots_29 : decode cX4_slots 29 = .ok (.if_icmp .eq 6, 3) := by decide +kernel
theorem dX4_slots_32 : decode cX4_slots 32 = .ok (.bipush (-3), 2) := by decide +kernel
theorem dX4_slots_34 : decode cX4_slots 34 = .ok (.ireturn, 1) := by decide +kernel
theorem dX4_slots_35 : decode cX4_slots 35 = .ok (.iinc 2 1, 3) := by decide +kernel
theorem dX4_slots_38 : decode cX4_slots 38 = .ok (.goto (-23), 3) := by decide +kernel
theorem dX4_slots_41 : decode cX4_slots 41 = .ok (.aload_n 0, 1) := by decide +kernel
theorem dX4_slots_42 : decode cX4_slots 42 = .ok (.getfield 37, 3) := by decide +kernel
theorem dX4_slots_45 : decode cX4_slots 45 = .ok (.istore_n 2, 1) := by decide +kernel
theorem dX4_slots_46 : decode cX4_slots 46 = .ok (.aload_n 0, 1) := by decide +kernel
theorem dX4_slots_47 : decode cX4_slots 47 = .ok (.iload_n 1, 1) := by decide +kernel
theorem dX4_slots_48 : decode cX4_slots 48 = .ok (.putfield 37, 3) := by decide +kernel
theorem dX4_slots_51 : decode cX4_slots 51 = .ok (.iload_n 2, 1) := by decide +kernel
theorem dX4_slots_52 : decode cX4_slots 52 = .ok (.ireturn, 1) := by decide +kernel
theorem dX4_slot_0 : decode cX4_slot 0 = .ok (.iload_n 1, 1) := by decide +kernel
theorem dX4_slot_1 : decode cX4_slot 1 = .ok (.iconst 0, 1) := by decide +kernel
theorem dX4_slot_2 : decode cX4_slot 2 = .ok (.aload_n 0, 1) := by decide +kernel
theorem dX4_slot_3 : decode cX4_slot 3 = .ok (.getfield 37, 3) := by decide +kernel
theorem dX4_slot_6 : decode cX4_slot 6 = .ok (.iconst 1, 1) := by decide +kernel
theorem dX4_slot_7 : decode cX4_slot 7 = .ok (.isub, 1) := by decide +kernel
theorem dX4_slot_8 : decode cX4_slot 8 = .ok (.invokestatic 59, 3) := by decide +kernel
theorem dX4_slot_11 : decode cX4_slot 11 = .ok (.ifCond .eq 12, 3) := by decide +kernel
theorem dX4_slot_14 : decode cX4_slot 14 = .ok (.aload_n 0, 1) := by decide +kernel
theorem dX4_slot_15 : decode cX4_slot 15 = .ok (.getfield 41, 3) := by decide +kernel
theorem dX4_slot_18 : decode cX4_slot 18 = .ok (.iload_n 1, 1) := by decide +kernel
theorem dX4_slot_19 : decode cX4_slot 19 = .ok (.iaload, 1) := by decide +kernel
theorem dX4_slot_20 : decode cX4_slot 20 = .ok (.goto 4, 3) := by decide +kernel
theorem dX4_slot_23 : decode cX4_slot 23 = .ok (.iconst (-1), 1) := by decide +kernel
theorem dX4_slot_24 : decode cX4_slot 24 = .ok (.ireturn, 1) := by decide +kernel
theorem dX4_freeSlot_0 : decode cX4_freeSlot 0 = .ok (.iconst 0, 1) := by decide +kernel
theorem dX4_freeSlot_1 : decode cX4_freeSlot 1 = .ok (.istore_n 1, 1) := by decide +kernel
theorem dX4_freeSlot_2 : decode cX4_freeSlot 2 = .ok (.iload_n 1, 1) := by decide +kernel
theorem dX4_freeSlot_3 : decode cX4_freeSlot 3 = .ok (.aload_n 0, 1) := by decide +kernel
theorem dX4_freeSlot_4 : decode cX4_freeSlot 4 = .ok (.getfield 37, 3) := by decide +kernel
theorem dX4_freeSlot_7 : decode cX4_freeSlot 7 = .ok (.if_icmp .ge 22, 3) := by decide +kernel
theorem dX4_freeSlot_10 : decode cX4_freeSlot 10 = .ok (.aload_n 0, 1) := by decide +kernel
theorem dX4_freeSlot_11 : decode cX4_freeSlot 11 = .ok (.getfield 41, 3) := by decide +kernel
theorem dX4_freeSlot_14 : decode cX4_freeSlot 14 = .ok (.iload_n 1, 1) := by decide +kernel
theorem dX4_freeSlot_15 : decode cX4_freeSlot 15 = .ok (.iaload, 1) := by decide +kernel
theorem dX4_freeSlot_16 : decode cX4_freeSlot 16 = .ok (.bipush (-9), 2) := by decide +kernel
theorem dX4_freeSlot_18 : decode cX4_freeSlot 18 = .ok (.if_icmp .ne 5, 3) := by decide +kernel
theorem dX4_freeSlot_21 : decode cX4_freeSlot 21 = .ok (.iload_n 1, 1) := by decide +kernel
theorem dX4_freeSlot_22 : decode cX4_freeSlot 22 = .ok (.ireturn, 1) := by decide +kernel
theorem dX4_freeSlot_23 : decode cX4_freeSlot 23 = .ok (.iinc 1 1, 3) := by decide +kernel
theorem dX4_freeSlot_26 : decode cX4_freeSlot 26 = .ok (.goto (-24), 3) := by decide +kernel
theorem dX4_freeSlot_29 : decode cX4_freeSlot 29 = .ok (.bipush (-9), 2) := by decide +kernel
theorem dX4_freeSlot_31 : decode cX4_freeSlot 31 = .ok (.ireturn, 1) := by decide +kernel
theorem dX4_firstToGo_0 : decode cX4_firstToGo 0 = .ok (.bipush (-9), 2) := by decide +kernel
theorem dX4_firstToGo_2 : decode cX4_firstToGo 2 = .ok (.istore_n 3, 1) := by decide +kernel
theorem dX4_firstToGo_3 : decode cX4_firstToGo 3 = .ok (.iconst 0, 1) := by decide +kernel
theorem dX4_firstToGo_4 : decode cX4_firstToGo 4 = .ok (.istore 4, 2) := by decide +kernel
theorem dX4_firstToGo_6 : decode cX4_firstToGo 6 = .ok (.iload 4, 2) := by decide +kernel
theorem dX4_firstToGo_8 : decode cX4_firstToGo 8 = .ok (.aload_n 0, 1) := by decide +kernel
theorem dX4_firstToGo_9 : decode cX4_firstToGo 9 = .ok (.getfield 56, 3) := by decide +kernel
theorem dX4_firstToGo_12 : decode cX4_firstToGo 12 = .ok (.if_icmp .ge 92, 3) := by decide +kernel
theorem dX4_firstToGo_15 : decode cX4_firstToGo 15 = .ok (.aload_n 0, 1) := by decide +kernel
theorem dX4_firstToGo_16 : decode cX4_firstToGo 16 = .ok (.iload 4, 2) := by decide +kernel
theorem dX4_firstToGo_18 : decode cX4_firstToGo 18 = .ok (.invokevirtual 105, 3) := by decide +kernel
theorem dX4_firstToGo_21 : decode cX4_firstToGo 21 = .ok (.bipush (-9), 2) := by decide +kernel
theorem dX4_firstToGo_23 : decode cX4_firstToGo 23 = .ok (.if_icmp .eq 40, 3) := by decide +kernel
theorem dX4_firstToGo_26 : decode cX4_firstToGo 26 = .ok (.aload_n 0, 1) := by decide +kernel
theorem dX4_firstToGo_27 : decode cX4_firstToGo 27 = .ok (.iload 4, 2) := by decide +kernel
theorem dX4_firstToGo_29 : decode cX4_firstToGo 29 = .ok (.aload_n 0, 1) := by decide +kernel
theorem dX4_firstToGo_30 : decode cX4_firstToGo 30 = .ok (.getfield 34, 3) := by decide +kernel
theorem dX4_firstToGo_33 : decode cX4_firstToGo 33 = .ok (.iload 4, 2) := by decide +kernel
theorem dX4_firstToGo_35 : decode cX4_firstToGo 35 = .ok (.iaload, 1) := by decide +kernel
theorem dX4_firstToGo_36 : decode cX4_firstToGo 36 = .ok (.aload_n 0, 1) := by decide +kernel
theorem dX4_firstToGo_37 : decode cX4_firstToGo 37 = .ok (.getfield 91, 3) := by decide +kernel
theorem dX4_firstToGo_40 : decode cX4_firstToGo 40 = .ok (.invokevirtual 108, 3) := by decide +kernel
theorem dX4_firstToGo_43 : decode cX4_firstToGo 43 = .ok (.iload_n 1, 1) := by decide +kernel
theorem dX4_firstToGo_44 : decode cX4_firstToGo 44 = .ok (.if_icmp .ne 19, 3) := by decide +kernel
theorem dX4_firstToGo_47 : decode cX4_firstToGo 47 = .ok (.aload_n 0, 1) := by decide +kernel
theorem dX4_firstToGo_48 : decode cX4_firstToGo 48 = .ok (.iload 4, 2) := by decide +kernel
theorem dX4_firstToGo_50 : decode cX4_firstToGo 50 = .ok (.bipush 9, 2) := by decide +kernel
theorem dX4_firstToGo_52 : decode cX4_firstToGo 52 = .ok (.invokevirtual 72, 3) := by decide +kernel
theorem dX4_firstToGo_55 : decode cX4_firstToGo 55 = .ok (.iload_n 2, 1) := by decide +kernel
theorem dX4_firstToGo_56 : decode cX4_firstToGo 56 = .ok (.if_icmp .ge 7, 3) := by decide +kernel
theorem dX4_firstToGo_59 : decode cX4_firstToGo 59 = .ok (.iconst 1, 1) := by decide +kernel
theorem dX4_firstToGo_60 : decode cX4_firstToGo 60 = .ok (.goto 4, 3) := by decide +kernel
theorem dX4_firstToGo_63 : decode cX4_firstToGo 63 = .ok (.iconst 0, 1) := by decide +kernel
theorem dX4_firstToGo_64 : decode cX4_firstToGo 64 = .ok (.istore 5, 2) := by decide +kernel
theorem dX4_firstToGo_66 : decode cX4_firstToGo 66 = .ok (.iload 5, 2) := by decide +kernel
theorem dX4_firstToGo_68 : decode cX4_firstToGo 68 = .ok (.ifCond .eq 30, 3) := by decide +kernel
theorem dX4_firstToGo_71 : decode cX4_firstToGo 71 = .ok (.iload_n 3, 1) := by decide +kernel
theorem dX4_firstToGo_72 : decode cX4_firstToGo 72 = .ok (.bipush (-9), 2) := by decide +kernel
theorem dX4_firstToGo_74 : decode cX4_firstToGo 74 = .ok (.if_icmp .eq 21, 3) := by decide +kernel
theorem dX4_firstToGo_77 : decode cX4_firstToGo 77 = .ok (.aload_n 0, 1) := by decide +kernel
theorem dX4_firstToGo_78 : decode cX4_firstToGo 78 = .ok (.iload 4, 2) := by decide +kernel
theorem dX4_firstToGo_80 : decode cX4_firstToGo 80 = .ok (.bipush 9, 2) := by decide +kernel
theorem dX4_firstToGo_82 : decode cX4_firstToGo 82 = .ok (.invokevirtual 72, 3) := by decide +kernel
theorem dX4_firstToGo_85 : decode cX4_firstToGo 85 = .ok (.aload_n 0, 1) := by decide +kernel
theorem dX4_firstToGo_86 : decode cX4_firstToGo 86 = .ok (.iload_n 3, 1) := by decide +kernel
theorem dX4_firstToGo_87 : decode cX4_firstToGo 87 = .ok (.bipush 9, 2) := by decide +kernel
theorem dX4_firstToGo_89 : decode cX4_firstToGo 89 = .ok (.invokevirtual 72, 3) := by decide +kernel
theorem dX4_firstToGo_92 : decode cX4_firstToGo 92 = .ok (.if_icmp .ge 6, 3) := by decide +kernel
theorem dX4_firstToGo_95 : decode cX4_firstToGo 95 = .ok (.iload 4, 2) := by decide +kernel
theorem dX4_firstToGo_97 : decode cX4_firstToGo 97 = .ok (.istore_n 3, 1) := by decide +kernel
theorem dX4_firstToGo_98 : decode cX4_firstToGo 98 = .ok (.iinc 4 1, 3) := by decide +kernel
theorem dX4_firstToGo_101 : decode cX4_firstToGo 101 = .ok (.goto (-95), 3) := by decide +kernel
theorem dX4_firstToGo_104 : decode cX4_firstToGo 104 = .ok (.iload_n 3, 1) := by decide +kernel
theorem dX4_firstToGo_105 : decode cX4_firstToGo 105 = .ok (.ireturn, 1) := by decide +kernel
theorem dX4_loads_0 : decode cX4_loads 0 = .ok (.aload_n 0, 1) := by decide +kernel
theorem dX4_loads_1 : decode cX4_loads 1 = .ok (.iload_n 1, 1) := by decide +kernel
theorem dX4_loads_2 : decode cX4_loads 2 = .ok (.invokevirtual 105, 3) := by decide +kernel
theorem dX4_loads_5 : decode cX4_loads 5 = .ok (.istore_n 2, 1) := by decide +kernel
theorem dX4_loads_6 : decode cX4_loads 6 = .ok (.iload_n 2, 1) := by decide +kernel
theorem dX4_loads_7 : decode cX4_loads 7 = .ok (.bipush (-9), 2) := by decide +kernel
theorem dX4_loads_9 : decode cX4_loads 9 = .ok (.if_icmp .eq 5, 3) := by decide +kernel
theorem dX4_loads_12 : decode cX4_loads 12 = .ok (.iload_n 2, 1) := by decide +kernel
theorem dX4_loads_13 : decode cX4_loads 13 = .ok (.ireturn, 1) := by decide +kernel
theorem dX4_loads_14 : decode cX4_loads 14 = .ok (.aload_n 0, 1) := by decide +kernel
theorem dX4_loads_15 : decode cX4_loads 15 = .ok (.invokevirtual 114, 3) := by decide +kernel
theorem dX4_loads_18 : decode cX4_loads 18 = .ok (.bipush (-9), 2) := by decide +kernel
theorem dX4_loads_20 : decode cX4_loads 20 = .ok (.if_icmp .ne 51, 3) := by decide +kernel
theorem dX4_loads_23 : decode cX4_loads 23 = .ok (.aload_n 0, 1) := by decide +kernel
theorem dX4_loads_24 : decode cX4_loads 24 = .ok (.iconst 0, 1) := by decide +kernel
theorem dX4_loads_25 : decode cX4_loads 25 = .ok (.bipush 10, 2) := by decide +kernel
theorem dX4_loads_27 : decode cX4_loads 27 = .ok (.invokevirtual 118, 3) := by decide +kernel
theorem dX4_loads_30 : decode cX4_loads 30 = .ok (.istore_n 3, 1) := by decide +kernel
theorem dX4_loads_31 : decode cX4_loads 31 = .ok (.iload_n 3, 1) := by decide +kernel
theorem dX4_loads_32 : decode cX4_loads 32 = .ok (.bipush (-9), 2) := by decide +kernel
theorem dX4_loads_34 : decode cX4_loads 34 = .ok (.if_icmp .eq 7, 3) := by decide +kernel
theorem dX4_loads_37 : decode cX4_loads 37 = .ok (.iload_n 3, 1) := by decide +kernel
theorem dX4_loads_38 : decode cX4_loads 38 = .ok (.goto 15, 3) := by decide +kernel
theorem dX4_loads_41 : decode cX4_loads 41 = .ok (.aload_n 0, 1) := by decide +kernel
theorem dX4_loads_42 : decode cX4_loads 42 = .ok (.iconst 1, 1) := by decide +kernel
theorem dX4_loads_43 : decode cX4_loads 43 = .ok (.aload_n 0, 1) := by decide +kernel
theorem dX4_loads_44 : decode cX4_loads 44 = .ok (.iload_n 1, 1) := by decide +kernel
theorem dX4_loads_45 : decode cX4_loads 45 = .ok (.bipush 9, 2) := by decide +kernel
theorem dX4_loads_47 : decode cX4_loads 47 = .ok (.invokevirtual 72, 3) := by decide +kernel
theorem dX4_loads_50 : decode cX4_loads 50 = .ok (.invokevirtual 118, 3) := by decide +kernel
theorem dX4_loads_53 : decode cX4_loads 53 = .ok (.istore 4, 2) := by decide +kernel
theorem dX4_loads_55 : decode cX4_loads 55 = .ok (.iload 4, 2) := by decide +kernel
theorem dX4_loads_57 : decode cX4_loads 57 = .ok (.bipush (-9), 2) := by decide +kernel
theorem dX4_loads_59 : decode cX4_loads 59 = .ok (.if_icmp .ne 6, 3) := by decide +kernel
theorem dX4_loads_62 : decode cX4_loads 62 = .ok (.bipush (-9), 2) := by decide +kernel
theorem dX4_loads_64 : decode cX4_loads 64 = .ok (.ireturn, 1) := by decide +kernel
theorem dX4_loads_65 : decode cX4_loads 65 = .ok (.aload_n 0, 1) := by decide +kernel
theorem dX4_loads_66 : decode cX4_loads 66 = .ok (.iload 4, 2) := by decide +kernel
theorem dX4_loads_68 : decode cX4_loads 68 = .ok (.invokevirtual 87, 3) := by decide +kernel
theorem dX4_loads_71 : decode cX4_loads 71 = .ok (.aload_n 0, 1) := by decide +kernel
theorem dX4_loads_72 : decode cX4_loads 72 = .ok (.invokevirtual 114, 3) := by decide +kernel
theorem dX4_loads_75 : decode cX4_loads 75 = .ok (.istore_n 2, 1) := by decide +kernel
theorem dX4_loads_76 : decode cX4_loads 76 = .ok (.aload_n 0, 1) := by decide +kernel
theorem dX4_loads_77 : decode cX4_loads 77 = .ok (.getfield 41, 3) := by decide +kernel
theorem dX4_loads_80 : decode cX4_loads 80 = .ok (.iload_n 2, 1) := by decide +kernel
theorem dX4_loads_81 : decode cX4_loads 81 = .ok (.iload_n 1, 1) := by decide +kernel
theorem dX4_loads_82 : decode cX4_loads 82 = .ok (.iastore, 1) := by decide +kernel
theorem dX4_loads_83 : decode cX4_loads 83 = .ok (.iload_n 2, 1) := by decide +kernel
theorem dX4_loads_84 : decode cX4_loads 84 = .ok (.ireturn, 1) := by decide +kernel
theorem dX4_load_0 : decode cX4_load 0 = .ok (.aload_n 0, 1) := by decide +kernel
theorem dX4_load_1 : decode cX4_load 1 = .ok (.iload_n 1, 1) := by decide +kernel
theorem dX4_load_2 : decode cX4_load 2 = .ok (.invokevirtual 76, 3) := by decide +kernel
theorem dX4_load_5 : decode cX4_load 5 = .ok (.ifCond .ne 5, 3) := by decide +kernel
theorem dX4_load_8 : decode cX4_load 8 = .ok (.iconst (-1), 1) := by decide +kernel
theorem dX4_load_9 : decode cX4_load 9 = .ok (.ireturn, 1) := by decide +kernel
theorem dX4_load_10 : decode cX4_load 10 = .ok (.aload_n 0, 1) := by decide +kernel
theorem dX4_load_11 : decode cX4_load 11 = .ok (.iload_n 1, 1) := by decide +kernel
theorem dX4_load_12 : decode cX4_load 12 = .ok (.invokevirtual 122, 3) := by decide +kernel
theorem dX4_load_15 : decode cX4_load 15 = .ok (.istore_n 2, 1) := by decide +kernel
theorem dX4_load_16 : decode cX4_load 16 = .ok (.iload_n 2, 1) := by decide +kernel
theorem dX4_load_17 : decode cX4_load 17 = .ok (.bipush (-9), 2) := by decide +kernel
theorem dX4_load_19 : decode cX4_load 19 = .ok (.if_icmp .ne 8, 3) := by decide +kernel
theorem dX4_load_22 : decode cX4_load 22 = .ok (.bipush (-4), 2) := by decide +kernel
theorem dX4_load_24 : decode cX4_load 24 = .ok (.goto 4, 3) := by decide +kernel
theorem dX4_load_27 : decode cX4_load 27 = .ok (.iload_n 2, 1) := by decide +kernel
theorem dX4_load_28 : decode cX4_load 28 = .ok (.ireturn, 1) := by decide +kernel
theorem dX4_unload_0 : decode cX4_unload 0 = .ok (.aload_n 0, 1) := by decide +kernel
theorem dX4_unload_1 : decode cX4_unload 1 = .ok (.iload_n 1, 1) := by decide +kernel
theorem dX4_unload_2 : decode cX4_unload 2 = .ok (.invokevirtual 76, 3) := by decide +kernel
theorem dX4_unload_5 : decode cX4_unload 5 = .ok (.ifCond .ne 5, 3) := by decide +kernel
theorem dX4_unload_8 : decode cX4_unload 8 = .ok (.iconst (-1), 1) := by decide +kernel
theorem dX4_unload_9 : decode cX4_unload 9 = .ok (.ireturn, 1) := by decide +kernel
theorem dX4_unload_10 : decode cX4_unload 10 = .ok (.aload_n 0, 1) := by decide +kernel
theorem dX4_unload_11 : decode cX4_unload 11 = .ok (.iload_n 1, 1) := by decide +kernel
theorem dX4_unload_12 : decode cX4_unload 12 = .ok (.invokevirtual 105, 3) := by decide +kernel
theorem dX4_unload_15 : decode cX4_unload 15 = .ok (.istore_n 2, 1) := by decide +kernel
theorem dX4_unload_16 : decode cX4_unload 16 = .ok (.iload_n 2, 1) := by decide +kernel
theorem dX4_unload_17 : decode cX4_unload 17 = .ok (.bipush (-9), 2) := by decide +kernel
theorem dX4_unload_19 : decode cX4_unload 19 = .ok (.if_icmp .ne 6, 3) := by decide +kernel
theorem dX4_unload_22 : decode cX4_unload 22 = .ok (.bipush (-3), 2) := by decide +kernel
theorem dX4_unload_24 : decode cX4_unload 24 = .ok (.ireturn, 1) := by decide +kernel
theorem dX4_unload_25 : decode cX4_unload 25 = .ok (.aload_n 0, 1) := by decide +kernel
theorem dX4_unload_26 : decode cX4_unload 26 = .ok (.iload_n 1, 1) := by decide +kernel
theorem dX4_unload_27 : decode cX4_unload 27 = .ok (.invokevirtual 87, 3) := by decide +kernel
theorem dX4_unload_30 : decode cX4_unload 30 = .ok (.iload_n 2, 1) := by decide +kernel
theorem dX4_unload_31 : decode cX4_unload 31 = .ok (.ireturn, 1) := by decide +kernel
theorem dX4_play_0 : decode cX4_play 0 = .ok (.aload_n 0, 1) := by decide +kernel
theorem dX4_play_1 : decode cX4_play 1 = .ok (.iload_n 1, 1) := by decide +kernel
theorem dX4_play_2 : decode cX4_play 2 = .ok (.invokevirtual 76, 3) := by decide +kernel
theorem dX4_play_5 : decode cX4_play 5 = .ok (.ifCond .ne 5, 3) := by decide +kernel
theorem dX4_play_8 : decode cX4_play 8 = .ok (.iconst (-1), 1) := by decide +kernel
theorem dX4_play_9 : decode cX4_play 9 = .ok (.ireturn, 1) := by decide +kernel
theorem dX4_play_10 : decode cX4_play 10 = .ok (.aload_n 0, 1) := by decide +kernel
theorem dX4_play_11 : decode cX4_play 11 = .ok (.getfield 125, 3) := by decide +kernel
theorem dX4_play_14 : decode cX4_play 14 = .ok (.ifCond .eq 6, 3) := by decide +kernel
theorem dX4_play_17 : decode cX4_play 17 = .ok (.bipush (-3), 2) := by decide +kernel
theorem dX4_play_19 : decode cX4_play 19 = .ok (.ireturn, 1) := by decide +kernel
theorem dX4_play_20 : decode cX4_play 20 = .ok (.aload_n 0, 1) := by decide +kernel
theorem dX4_play_21 : decode cX4_play 21 = .ok (.iload_n 1, 1) := by decide +kernel
theorem dX4_play_22 : decode cX4_play 22 = .ok (.invokevirtual 122, 3) := by decide +kernel
theorem dX4_play_25 : decode cX4_play 25 = .ok (.istore_n 2, 1) := by decide +kernel
theorem dX4_play_26 : decode cX4_play 26 = .ok (.iload_n 2, 1) := by decide +kernel
theorem dX4_play_27 : decode cX4_play 27 = .ok (.bipush (-9), 2) := by decide +kernel
theorem dX4_play_29 : decode cX4_play 29 = .ok (.if_icmp .ne 6, 3) := by decide +kernel
theorem dX4_play_32 : decode cX4_play 32 = .ok (.bipush (-4), 2) := by decide +kernel
theorem dX4_play_34 : decode cX4_play 34 = .ok (.ireturn, 1) := by decide +kernel
theorem dX4_play_35 : decode cX4_play 35 = .ok (.aload_n 0, 1) := by decide +kernel
theorem dX4_play_36 : decode cX4_play 36 = .ok (.getfield 34, 3) := by decide +kernel
theorem dX4_play_39 : decode cX4_play 39 = .ok (.iload_n 1, 1) := by decide +kernel
theorem dX4_play_40 : decode cX4_play 40 = .ok (.aload_n 0, 1) := by decide +kernel
theorem dX4_play_41 : decode cX4_play 41 = .ok (.getfield 91, 3) := by decide +kernel
theorem dX4_play_44 : decode cX4_play 44 = .ok (.iastore, 1) := by decide +kernel
theorem dX4_play_45 : decode cX4_play 45 = .ok (.iload_n 2, 1) := by decide +kernel
theorem dX4_play_46 : decode cX4_play 46 = .ok (.ireturn, 1) := by decide +kernel
theorem dX4_stop_0 : decode cX4_stop 0 = .ok (.aload_n 0, 1) := by decide +kernel
theorem dX4_stop_1 : decode cX4_stop 1 = .ok (.iload_n 1, 1) := by decide +kernel
theorem dX4_stop_2 : decode cX4_stop 2 = .ok (.invokevirtual 76, 3) := by decide +kernel
theorem dX4_stop_5 : decode cX4_stop 5 = .ok (.ifCond .ne 5, 3) := by decide +kernel
theorem dX4_stop_8 : decode cX4_stop 8 = .ok (.iconst (-1), 1) := by decide +kernel
theorem dX4_stop_9 : decode cX4_stop 9 = .ok (.ireturn, 1) := by decide +kernel
theorem dX4_stop_10 : decode cX4_stop 10 = .ok (.aload_n 0, 1) := by decide +kernel
theorem dX4_stop_11 : decode cX4_stop 11 = .ok (.iload_n 1, 1) := by decide +kernel
theorem dX4_stop_12 : decode cX4_stop 12 = .ok (.aload_n 0, 1) := by decide +kernel
theorem dX4_stop_13 : decode cX4_stop 13 = .ok (.getfield 34, 3) := by decide +kernel
theorem dX4_stop_16 : decode cX4_stop 16 = .ok (.iload_n 1, 1) := by decide +kernel
theorem dX4_stop_17 : decode cX4_stop 17 = .ok (.iaload, 1) := by decide +kernel
theorem dX4_stop_18 : decode cX4_stop 18 = .ok (.aload_n 0, 1) := by decide +kernel
theorem dX4_stop_19 : decode cX4_stop 19 = .ok (.getfield 91, 3) := by decide +kernel
theorem dX4_stop_22 : decode cX4_stop 22 = .ok (.invokevirtual 108, 3) := by decide +kernel
theorem dX4_stop_25 : decode cX4_stop 25 = .ok (.ifCond .eq 7, 3) := by decide +kernel
theorem dX4_stop_28 : decode cX4_stop 28 = .ok (.iconst 1, 1) := by decide +kernel
theorem dX4_stop_29 : decode cX4_stop 29 = .ok (.goto 4, 3) := by decide +kernel
theorem dX4_stop_32 : decode cX4_stop 32 = .ok (.iconst 0, 1) := by decide +kernel
theorem dX4_stop_33 : decode cX4_stop 33 = .ok (.istore_n 2, 1) := by decide +kernel
theorem dX4_stop_34 : decode cX4_stop 34 = .ok (.aload_n 0, 1) := by decide +kernel
theorem dX4_stop_35 : decode cX4_stop 35 = .ok (.getfield 34, 3) := by decide +kernel
theorem dX4_stop_38 : decode cX4_stop 38 = .ok (.iload_n 1, 1) := by decide +kernel
theorem dX4_stop_39 : decode cX4_stop 39 = .ok (.bipush (-9), 2) := by decide +kernel
theorem dX4_stop_41 : decode cX4_stop 41 = .ok (.iastore, 1) := by decide +kernel
theorem dX4_stop_42 : decode cX4_stop 42 = .ok (.iload_n 2, 1) := by decide +kernel
theorem dX4_stop_43 : decode cX4_stop 43 = .ok (.ireturn, 1) := by decide +kernel
theorem dX4_press_0 : decode cX4_press 0 = .ok (.iload_n 1, 1) := by decide +kernel
theorem dX4_press_1 : decode cX4_press 1 = .ok (.iconst 0, 1) := by decide +kernel
theorem dX4_press_2 : decode cX4_press 2 = .ok (.iconst 3, 1) := by decide +kernel
theorem dX4_press_3 : decode cX4_press 3 = .ok (.invokestatic 59, 3) := by decide +kernel
theorem dX4_press_6 : decode cX4_press 6 = .ok (.ifCond .ne 5, 3) := by decide +kernel
theorem dX4_press_9 : decode cX4_press 9 = .ok (.iconst (-1), 1) := by decide +kernel
theorem dX4_press_10 : decode cX4_press 10 = .ok (.ireturn, 1) := by decide +kernel
theorem dX4_press_11 : decode cX4_press 11 = .ok (.aload_n 0, 1) := by decide +kernel
theorem dX4_press_12 : decode cX4_press 12 = .ok (.getfield 44, 3) := by decide +kernel
theorem dX4_press_15 : decode cX4_press 15 = .ok (.iload_n 1, 1) := by decide +kernel
theorem dX4_press_16 : decode cX4_press 16 = .ok (.iaload, 1) := by decide +kernel
theorem dX4_press_17 : decode cX4_press 17 = .ok (.bipush (-9), 2) := by decide +kernel
theorem dX4_press_19 : decode cX4_press 19 = .ok (.if_icmp .ne 10, 3) := by decide +kernel
theorem dX4_press_22 : decode cX4_press 22 = .ok (.aload_n 0, 1) := by decide +kernel
theorem dX4_press_23 : decode cX4_press 23 = .ok (.getfield 125, 3) := by decide +kernel
theorem dX4_press_26 : decode cX4_press 26 = .ok (.ifCond .eq 6, 3) := by decide +kernel
theorem dX4_press_29 : decode cX4_press 29 = .ok (.bipush (-3), 2) := by decide +kernel
theorem dX4_press_31 : decode cX4_press 31 = .ok (.ireturn, 1) := by decide +kernel
theorem dX4_press_32 : decode cX4_press 32 = .ok (.aload_n 0, 1) := by decide +kernel
theorem dX4_press_33 : decode cX4_press 33 = .ok (.getfield 44, 3) := by decide +kernel
theorem dX4_press_36 : decode cX4_press 36 = .ok (.iload_n 1, 1) := by decide +kernel
theorem dX4_press_37 : decode cX4_press 37 = .ok (.aload_n 0, 1) := by decide +kernel
theorem dX4_press_38 : decode cX4_press 38 = .ok (.getfield 91, 3) := by decide +kernel
theorem dX4_press_41 : decode cX4_press 41 = .ok (.iastore, 1) := by decide +kernel
theorem dX4_press_42 : decode cX4_press 42 = .ok (.iconst 0, 1) := by decide +kernel
theorem dX4_press_43 : decode cX4_press 43 = .ok (.istore_n 2, 1) := by decide +kernel
theorem dX4_press_44 : decode cX4_press 44 = .ok (.iconst 0, 1) := by decide +kernel
theorem dX4_press_45 : decode cX4_press 45 = .ok (.istore_n 3, 1) := by decide +kernel
theorem dX4_press_46 : decode cX4_press 46 = .ok (.iload_n 3, 1) := by decide +kernel
theorem dX4_press_47 : decode cX4_press 47 = .ok (.aload_n 0, 1) := by decide +kernel
theorem dX4_press_48 : decode cX4_press 48 = .ok (.getfield 56, 3) := by decide +kernel
theorem dX4_press_51 : decode cX4_press 51 = .ok (.if_icmp .ge 101, 3) := by decide +kernel
theorem dX4_press_54 : decode cX4_press 54 = .ok (.aload_n 0, 1) := by decide +kernel
theorem dX4_press_55 : decode cX4_press 55 = .ok (.iload_n 3, 1) := by decide +kernel
theorem dX4_press_56 : decode cX4_press 56 = .ok (.invokevirtual 105, 3) := by decide +kernel
theorem dX4_press_59 : decode cX4_press 59 = .ok (.bipush (-9), 2) := by decide +kernel
theorem dX4_press_61 : decode cX4_press 61 = .ok (.if_icmp .eq 18, 3) := by decide +kernel
theorem dX4_press_64 : decode cX4_press 64 = .ok (.aload_n 0, 1) := by decide +kernel
theorem dX4_press_65 : decode cX4_press 65 = .ok (.iload_n 3, 1) := by decide +kernel
theorem dX4_press_66 : decode cX4_press 66 = .ok (.bipush 10, 2) := by decide +kernel
theorem dX4_press_68 : decode cX4_press 68 = .ok (.invokevirtual 72, 3) := by decide +kernel
theorem dX4_press_71 : decode cX4_press 71 = .ok (.iload_n 1, 1) := by decide +kernel
theorem dX4_press_72 : decode cX4_press 72 = .ok (.if_icmp .ne 7, 3) := by decide +kernel
theorem dX4_press_75 : decode cX4_press 75 = .ok (.iconst 1, 1) := by decide +kernel
theorem dX4_press_76 : decode cX4_press 76 = .ok (.goto 4, 3) := by decide +kernel
theorem dX4_press_79 : decode cX4_press 79 = .ok (.iconst 0, 1) := by decide +kernel
theorem dX4_press_80 : decode cX4_press 80 = .ok (.istore 4, 2) := by decide +kernel
theorem dX4_press_82 : decode cX4_press 82 = .ok (.aload_n 0, 1) := by decide +kernel
theorem dX4_press_83 : decode cX4_press 83 = .ok (.getfield 47, 3) := by decide +kernel
theorem dX4_press_86 : decode cX4_press 86 = .ok (.bipush 12, 2) := by decide +kernel
theorem dX4_press_88 : decode cX4_press 88 = .ok (.iload_n 1, 1) := by decide +kernel
theorem dX4_press_89 : decode cX4_press 89 = .ok (.imul, 1) := by decide +kernel
theorem dX4_press_90 : decode cX4_press 90 = .ok (.iload_n 3, 1) := by decide +kernel
theorem dX4_press_91 : decode cX4_press 91 = .ok (.iadd, 1) := by decide +kernel
theorem dX4_press_92 : decode cX4_press 92 = .ok (.iload 4, 2) := by decide +kernel
theorem dX4_press_94 : decode cX4_press 94 = .ok (.ifCond .eq 13, 3) := by decide +kernel
theorem dX4_press_97 : decode cX4_press 97 = .ok (.aload_n 0, 1) := by decide +kernel
theorem dX4_press_98 : decode cX4_press 98 = .ok (.iload_n 3, 1) := by decide +kernel
theorem dX4_press_99 : decode cX4_press 99 = .ok (.bipush 11, 2) := by decide +kernel
theorem dX4_press_101 : decode cX4_press 101 = .ok (.invokevirtual 72, 3) := by decide +kernel
theorem dX4_press_104 : decode cX4_press 104 = .ok (.goto 4, 3) := by decide +kernel
theorem dX4_press_107 : decode cX4_press 107 = .ok (.iconst 0, 1) := by decide +kernel
theorem dX4_press_108 : decode cX4_press 108 = .ok (.iastore, 1) := by decide +kernel
theorem dX4_press_109 : decode cX4_press 109 = .ok (.aload_n 0, 1) := by decide +kernel
theorem dX4_press_110 : decode cX4_press 110 = .ok (.getfield 34, 3) := by decide +kernel
theorem dX4_press_113 : decode cX4_press 113 = .ok (.iload_n 3, 1) := by decide +kernel
theorem dX4_press_114 : decode cX4_press 114 = .ok (.iload 4, 2) := by decide +kernel
theorem dX4_press_116 : decode cX4_press 116 = .ok (.ifCond .eq 10, 3) := by decide +kernel
theorem dX4_press_119 : decode cX4_press 119 = .ok (.aload_n 0, 1) := by decide +kernel
theorem dX4_press_120 : decode cX4_press 120 = .ok (.getfield 91, 3) := by decide +kernel
theorem dX4_press_123 : decode cX4_press 123 = .ok (.goto 9, 3) := by decide +kernel
theorem dX4_press_126 : decode cX4_press 126 = .ok (.aload_n 0, 1) := by decide +kernel
theorem dX4_press_127 : decode cX4_press 127 = .ok (.getfield 34, 3) := by decide +kernel
theorem dX4_press_130 : decode cX4_press 130 = .ok (.iload_n 3, 1) := by decide +kernel
theorem dX4_press_131 : decode cX4_press 131 = .ok (.iaload, 1) := by decide +kernel
theorem dX4_press_132 : decode cX4_press 132 = .ok (.iastore, 1) := by decide +kernel
theorem dX4_press_133 : decode cX4_press 133 = .ok (.iload_n 2, 1) := by decide +kernel
theorem dX4_press_134 : decode cX4_press 134 = .ok (.iload 4, 2) := by decide +kernel
theorem dX4_press_136 : decode cX4_press 136 = .ok (.ifCond .eq 7, 3) := by decide +kernel
theorem dX4_press_139 : decode cX4_press 139 = .ok (.iconst 1, 1) := by decide +kernel
theorem dX4_press_140 : decode cX4_press 140 = .ok (.goto 4, 3) := by decide +kernel
theorem dX4_press_143 : decode cX4_press 143 = .ok (.iconst 0, 1) := by decide +kernel
theorem dX4_press_144 : decode cX4_press 144 = .ok (.iadd, 1) := by decide +kernel
theorem dX4_press_145 : decode cX4_press 145 = .ok (.istore_n 2, 1) := by decide +kernel
theorem dX4_press_146 : decode cX4_press 146 = .ok (.iinc 3 1, 3) := by decide +kernel
theorem dX4_press_149 : decode cX4_press 149 = .ok (.goto (-103), 3) := by decide +kernel
theorem dX4_press_152 : decode cX4_press 152 = .ok (.iload_n 2, 1) := by decide +kernel
theorem dX4_press_153 : decode cX4_press 153 = .ok (.ireturn, 1) := by decide +kernel
theorem dX4_comesUp_0 : decode cX4_comesUp 0 = .ok (.aload_n 0, 1) := by decide +kernel
theorem dX4_comesUp_1 : decode cX4_comesUp 1 = .ok (.getfield 44, 3) := by decide +kernel
theorem dX4_comesUp_4 : decode cX4_comesUp 4 = .ok (.iload_n 1, 1) := by decide +kernel
theorem dX4_comesUp_5 : decode cX4_comesUp 5 = .ok (.bipush (-9), 2) := by decide +kernel
theorem dX4_comesUp_7 : decode cX4_comesUp 7 = .ok (.iastore, 1) := by decide +kernel
theorem dX4_comesUp_8 : decode cX4_comesUp 8 = .ok (.iconst 0, 1) := by decide +kernel
theorem dX4_comesUp_9 : decode cX4_comesUp 9 = .ok (.istore_n 2, 1) := by decide +kernel
theorem dX4_comesUp_10 : decode cX4_comesUp 10 = .ok (.iload_n 2, 1) := by decide +kernel
theorem dX4_comesUp_11 : decode cX4_comesUp 11 = .ok (.bipush 12, 2) := by decide +kernel
theorem dX4_comesUp_13 : decode cX4_comesUp 13 = .ok (.if_icmp .ge 21, 3) := by decide +kernel
theorem dX4_comesUp_16 : decode cX4_comesUp 16 = .ok (.aload_n 0, 1) := by decide +kernel
theorem dX4_comesUp_17 : decode cX4_comesUp 17 = .ok (.getfield 47, 3) := by decide +kernel
theorem dX4_comesUp_20 : decode cX4_comesUp 20 = .ok (.bipush 12, 2) := by decide +kernel
theorem dX4_comesUp_22 : decode cX4_comesUp 22 = .ok (.iload_n 1, 1) := by decide +kernel
theorem dX4_comesUp_23 : decode cX4_comesUp 23 = .ok (.imul, 1) := by decide +kernel
theorem dX4_comesUp_24 : decode cX4_comesUp 24 = .ok (.iload_n 2, 1) := by decide +kernel
theorem dX4_comesUp_25 : decode cX4_comesUp 25 = .ok (.iadd, 1) := by decide +kernel
theorem dX4_comesUp_26 : decode cX4_comesUp 26 = .ok (.iconst 0, 1) := by decide +kernel
theorem dX4_comesUp_27 : decode cX4_comesUp 27 = .ok (.iastore, 1) := by decide +kernel
theorem dX4_comesUp_28 : decode cX4_comesUp 28 = .ok (.iinc 2 1, 3) := by decide +kernel
theorem dX4_comesUp_31 : decode cX4_comesUp 31 = .ok (.goto (-21), 3) := by decide +kernel
theorem dX4_comesUp_34 : decode cX4_comesUp 34 = .ok (.return_, 1) := by decide +kernel
theorem dX4_free_0 : decode cX4_free 0 = .ok (.iload_n 1, 1) := by decide +kernel
theorem dX4_free_1 : decode cX4_free 1 = .ok (.iconst 0, 1) := by decide +kernel
theorem dX4_free_2 : decode cX4_free 2 = .ok (.iconst 3, 1) := by decide +kernel
theorem dX4_free_3 : decode cX4_free 3 = .ok (.invokestatic 59, 3) := by decide +kernel
theorem dX4_free_6 : decode cX4_free 6 = .ok (.ifCond .ne 5, 3) := by decide +kernel
theorem dX4_free_9 : decode cX4_free 9 = .ok (.iconst (-1), 1) := by decide +kernel
theorem dX4_free_10 : decode cX4_free 10 = .ok (.ireturn, 1) := by decide +kernel
theorem dX4_free_11 : decode cX4_free 11 = .ok (.aload_n 0, 1) := by decide +kernel
theorem dX4_free_12 : decode cX4_free 12 = .ok (.getfield 44, 3) := by decide +kernel
theorem dX4_free_15 : decode cX4_free 15 = .ok (.iload_n 1, 1) := by decide +kernel
theorem dX4_free_16 : decode cX4_free 16 = .ok (.iaload, 1) := by decide +kernel
theorem dX4_free_17 : decode cX4_free 17 = .ok (.bipush (-9), 2) := by decide +kernel
theorem dX4_free_19 : decode cX4_free 19 = .ok (.if_icmp .ne 6, 3) := by decide +kernel
theorem dX4_free_22 : decode cX4_free 22 = .ok (.bipush (-3), 2) := by decide +kernel
theorem dX4_free_24 : decode cX4_free 24 = .ok (.ireturn, 1) := by decide +kernel
theorem dX4_free_25 : decode cX4_free 25 = .ok (.aload_n 0, 1) := by decide +kernel
theorem dX4_free_26 : decode cX4_free 26 = .ok (.getfield 91, 3) := by decide +kernel
theorem dX4_free_29 : decode cX4_free 29 = .ok (.aload_n 0, 1) := by decide +kernel
theorem dX4_free_30 : decode cX4_free 30 = .ok (.getfield 44, 3) := by decide +kernel
theorem dX4_free_33 : decode cX4_free 33 = .ok (.iload_n 1, 1) := by decide +kernel
theorem dX4_free_34 : decode cX4_free 34 = .ok (.iaload, 1) := by decide +kernel
theorem dX4_free_35 : decode cX4_free 35 = .ok (.isub, 1) := by decide +kernel
theorem dX4_free_36 : decode cX4_free 36 = .ok (.istore_n 2, 1) := by decide +kernel
theorem dX4_free_37 : decode cX4_free 37 = .ok (.aload_n 0, 1) := by decide +kernel
theorem dX4_free_38 : decode cX4_free 38 = .ok (.iload_n 1, 1) := by decide +kernel
theorem dX4_free_39 : decode cX4_free 39 = .ok (.invokevirtual 129, 3) := by decide +kernel
theorem dX4_free_42 : decode cX4_free 42 = .ok (.iload_n 2, 1) := by decide +kernel
theorem dX4_free_43 : decode cX4_free 43 = .ok (.ireturn, 1) := by decide +kernel
theorem dX4_isLostBy_0 : decode cX4_isLostBy 0 = .ok (.aload_n 0, 1) := by decide +kernel
theorem dX4_isLostBy_1 : decode cX4_isLostBy 1 = .ok (.getfield 125, 3) := by decide +kernel
theorem dX4_isLostBy_4 : decode cX4_isLostBy 4 = .ok (.ifCond .ne 27, 3) := by decide +kernel
theorem dX4_isLostBy_7 : decode cX4_isLostBy 7 = .ok (.aload_n 0, 1) := by decide +kernel
theorem dX4_isLostBy_8 : decode cX4_isLostBy 8 = .ok (.getfield 132, 3) := by decide +kernel
theorem dX4_isLostBy_11 : decode cX4_isLostBy 11 = .ok (.ifCond .le 20, 3) := by decide +kernel
theorem dX4_isLostBy_14 : decode cX4_isLostBy 14 = .ok (.aload_n 0, 1) := by decide +kernel
theorem dX4_isLostBy_15 : decode cX4_isLostBy 15 = .ok (.getfield 135, 3) := by decide +kernel
theorem dX4_isLostBy_18 : decode cX4_isLostBy 18 = .ok (.aload_n 0, 1) := by decide +kernel
theorem dX4_isLostBy_19 : decode cX4_isLostBy 19 = .ok (.getfield 132, 3) := by decide +kernel
theorem dX4_isLostBy_22 : decode cX4_isLostBy 22 = .ok (.iadd, 1) := by decide +kernel
theorem dX4_isLostBy_23 : decode cX4_isLostBy 23 = .ok (.iload_n 1, 1) := by decide +kernel
theorem dX4_isLostBy_24 : decode cX4_isLostBy 24 = .ok (.if_icmp .gt 7, 3) := by decide +kernel
theorem dX4_isLostBy_27 : decode cX4_isLostBy 27 = .ok (.iconst 1, 1) := by decide +kernel
theorem dX4_isLostBy_28 : decode cX4_isLostBy 28 = .ok (.goto 4, 3) := by decide +kernel
theorem dX4_isLostBy_31 : decode cX4_isLostBy 31 = .ok (.iconst 0, 1) := by decide +kernel
theorem dX4_isLostBy_32 : decode cX4_isLostBy 32 = .ok (.ireturn, 1) := by decide +kernel
theorem dX4_startAt_0 : decode cX4_startAt 0 = .ok (.iload_n 2, 1) := by decide +kernel
theorem dX4_startAt_1 : decode cX4_startAt 1 = .ok (.istore 4, 2) := by decide +kernel
theorem dX4_startAt_3 : decode cX4_startAt 3 = .ok (.iconst 0, 1) := by decide +kernel
theorem dX4_startAt_4 : decode cX4_startAt 4 = .ok (.istore 5, 2) := by decide +kernel
theorem dX4_startAt_6 : decode cX4_startAt 6 = .ok (.iload 5, 2) := by decide +kernel
theorem dX4_startAt_8 : decode cX4_startAt 8 = .ok (.iconst 4, 1) := by decide +kernel
theorem dX4_startAt_9 : decode cX4_startAt 9 = .ok (.if_icmp .ge 81, 3) := by decide +kernel
theorem dX4_startAt_12 : decode cX4_startAt 12 = .ok (.aload_n 0, 1) := by decide +kernel
theorem dX4_startAt_13 : decode cX4_startAt 13 = .ok (.getfield 47, 3) := by decide +kernel
theorem dX4_startAt_16 : decode cX4_startAt 16 = .ok (.bipush 12, 2) := by decide +kernel
theorem dX4_startAt_18 : decode cX4_startAt 18 = .ok (.iload 5, 2) := by decide +kernel
theorem dX4_startAt_20 : decode cX4_startAt 20 = .ok (.imul, 1) := by decide +kernel
theorem dX4_startAt_21 : decode cX4_startAt 21 = .ok (.iload_n 1, 1) := by decide +kernel
theorem dX4_startAt_22 : decode cX4_startAt 22 = .ok (.iadd, 1) := by decide +kernel
theorem dX4_startAt_23 : decode cX4_startAt 23 = .ok (.iaload, 1) := by decide +kernel
theorem dX4_startAt_24 : decode cX4_startAt 24 = .ok (.istore 6, 2) := by decide +kernel
theorem dX4_startAt_26 : decode cX4_startAt 26 = .ok (.aload_n 0, 1) := by decide +kernel
theorem dX4_startAt_27 : decode cX4_startAt 27 = .ok (.getfield 44, 3) := by decide +kernel
theorem dX4_startAt_30 : decode cX4_startAt 30 = .ok (.iload 5, 2) := by decide +kernel
theorem dX4_startAt_32 : decode cX4_startAt 32 = .ok (.iaload, 1) := by decide +kernel
theorem dX4_startAt_33 : decode cX4_startAt 33 = .ok (.bipush (-9), 2) := by decide +kernel
theorem dX4_startAt_35 : decode cX4_startAt 35 = .ok (.if_icmp .eq 49, 3) := by decide +kernel
theorem dX4_startAt_38 : decode cX4_startAt 38 = .ok (.iload 6, 2) := by decide +kernel
theorem dX4_startAt_40 : decode cX4_startAt 40 = .ok (.ifCond .le 44, 3) := by decide +kernel
theorem dX4_startAt_43 : decode cX4_startAt 43 = .ok (.iload_n 3, 1) := by decide +kernel
theorem dX4_startAt_44 : decode cX4_startAt 44 = .ok (.iload_n 3, 1) := by decide +kernel
theorem dX4_startAt_45 : decode cX4_startAt 45 = .ok (.aload_n 0, 1) := by decide +kernel
theorem dX4_startAt_46 : decode cX4_startAt 46 = .ok (.getfield 44, 3) := by decide +kernel
theorem dX4_startAt_49 : decode cX4_startAt 49 = .ok (.iload 5, 2) := by decide +kernel
theorem dX4_startAt_51 : decode cX4_startAt 51 = .ok (.iaload, 1) := by decide +kernel
theorem dX4_startAt_52 : decode cX4_startAt 52 = .ok (.isub, 1) := by decide +kernel
theorem dX4_startAt_53 : decode cX4_startAt 53 = .ok (.iload 6, 2) := by decide +kernel
theorem dX4_startAt_55 : decode cX4_startAt 55 = .ok (.irem, 1) := by decide +kernel
theorem dX4_startAt_56 : decode cX4_startAt 56 = .ok (.isub, 1) := by decide +kernel
theorem dX4_startAt_57 : decode cX4_startAt 57 = .ok (.istore 7, 2) := by decide +kernel
theorem dX4_startAt_59 : decode cX4_startAt 59 = .ok (.iload 7, 2) := by decide +kernel
theorem dX4_startAt_61 : decode cX4_startAt 61 = .ok (.aload_n 0, 1) := by decide +kernel
theorem dX4_startAt_62 : decode cX4_startAt 62 = .ok (.getfield 91, 3) := by decide +kernel
theorem dX4_startAt_65 : decode cX4_startAt 65 = .ok (.if_icmp .le 15, 3) := by decide +kernel
theorem dX4_startAt_68 : decode cX4_startAt 68 = .ok (.iload 7, 2) := by decide +kernel
theorem dX4_startAt_70 : decode cX4_startAt 70 = .ok (.iload 4, 2) := by decide +kernel
theorem dX4_startAt_72 : decode cX4_startAt 72 = .ok (.if_icmp .le 8, 3) := by decide +kernel
theorem dX4_startAt_75 : decode cX4_startAt 75 = .ok (.iload 7, 2) := by decide +kernel
theorem dX4_startAt_77 : decode cX4_startAt 77 = .ok (.goto 5, 3) := by decide +kernel
theorem dX4_startAt_80 : decode cX4_startAt 80 = .ok (.iload 4, 2) := by decide +kernel
theorem dX4_startAt_82 : decode cX4_startAt 82 = .ok (.istore 4, 2) := by decide +kernel
theorem dX4_startAt_84 : decode cX4_startAt 84 = .ok (.iinc 5 1, 3) := by decide +kernel
theorem dX4_startAt_87 : decode cX4_startAt 87 = .ok (.goto (-81), 3) := by decide +kernel
theorem dX4_startAt_90 : decode cX4_startAt 90 = .ok (.iload 4, 2) := by decide +kernel
theorem dX4_startAt_92 : decode cX4_startAt 92 = .ok (.ireturn, 1) := by decide +kernel
theorem dX4_getsLost_0 : decode cX4_getsLost 0 = .ok (.iconst 0, 1) := by decide +kernel
theorem dX4_getsLost_1 : decode cX4_getsLost 1 = .ok (.istore_n 2, 1) := by decide +kernel
theorem dX4_getsLost_2 : decode cX4_getsLost 2 = .ok (.iload_n 2, 1) := by decide +kernel
theorem dX4_getsLost_3 : decode cX4_getsLost 3 = .ok (.aload_n 0, 1) := by decide +kernel
theorem dX4_getsLost_4 : decode cX4_getsLost 4 = .ok (.getfield 56, 3) := by decide +kernel
theorem dX4_getsLost_7 : decode cX4_getsLost 7 = .ok (.if_icmp .ge 57, 3) := by decide +kernel
theorem dX4_getsLost_10 : decode cX4_getsLost 10 = .ok (.aload_n 0, 1) := by decide +kernel
theorem dX4_getsLost_11 : decode cX4_getsLost 11 = .ok (.getfield 34, 3) := by decide +kernel
theorem dX4_getsLost_14 : decode cX4_getsLost 14 = .ok (.iload_n 2, 1) := by decide +kernel
theorem dX4_getsLost_15 : decode cX4_getsLost 15 = .ok (.aload_n 0, 1) := by decide +kernel
theorem dX4_getsLost_16 : decode cX4_getsLost 16 = .ok (.iload_n 2, 1) := by decide +kernel
theorem dX4_getsLost_17 : decode cX4_getsLost 17 = .ok (.aload_n 0, 1) := by decide +kernel
theorem dX4_getsLost_18 : decode cX4_getsLost 18 = .ok (.iload_n 2, 1) := by decide +kernel
theorem dX4_getsLost_19 : decode cX4_getsLost 19 = .ok (.aload_n 0, 1) := by decide +kernel
theorem dX4_getsLost_20 : decode cX4_getsLost 20 = .ok (.getfield 34, 3) := by decide +kernel
theorem dX4_getsLost_23 : decode cX4_getsLost 23 = .ok (.iload_n 2, 1) := by decide +kernel
theorem dX4_getsLost_24 : decode cX4_getsLost 24 = .ok (.iaload, 1) := by decide +kernel
theorem dX4_getsLost_25 : decode cX4_getsLost 25 = .ok (.iload_n 1, 1) := by decide +kernel
theorem dX4_getsLost_26 : decode cX4_getsLost 26 = .ok (.iconst 1, 1) := by decide +kernel
theorem dX4_getsLost_27 : decode cX4_getsLost 27 = .ok (.isub, 1) := by decide +kernel
theorem dX4_getsLost_28 : decode cX4_getsLost 28 = .ok (.invokevirtual 138, 3) := by decide +kernel
theorem dX4_getsLost_31 : decode cX4_getsLost 31 = .ok (.iload_n 1, 1) := by decide +kernel
theorem dX4_getsLost_32 : decode cX4_getsLost 32 = .ok (.invokevirtual 108, 3) := by decide +kernel
theorem dX4_getsLost_35 : decode cX4_getsLost 35 = .ok (.ifCond .eq 8, 3) := by decide +kernel
theorem dX4_getsLost_38 : decode cX4_getsLost 38 = .ok (.bipush (-9), 2) := by decide +kernel
theorem dX4_getsLost_40 : decode cX4_getsLost 40 = .ok (.goto 17, 3) := by decide +kernel
theorem dX4_getsLost_43 : decode cX4_getsLost 43 = .ok (.aload_n 0, 1) := by decide +kernel
theorem dX4_getsLost_44 : decode cX4_getsLost 44 = .ok (.iload_n 2, 1) := by decide +kernel
theorem dX4_getsLost_45 : decode cX4_getsLost 45 = .ok (.aload_n 0, 1) := by decide +kernel
theorem dX4_getsLost_46 : decode cX4_getsLost 46 = .ok (.getfield 34, 3) := by decide +kernel
theorem dX4_getsLost_49 : decode cX4_getsLost 49 = .ok (.iload_n 2, 1) := by decide +kernel
theorem dX4_getsLost_50 : decode cX4_getsLost 50 = .ok (.iaload, 1) := by decide +kernel
theorem dX4_getsLost_51 : decode cX4_getsLost 51 = .ok (.iload_n 1, 1) := by decide +kernel
theorem dX4_getsLost_52 : decode cX4_getsLost 52 = .ok (.iconst 1, 1) := by decide +kernel
theorem dX4_getsLost_53 : decode cX4_getsLost 53 = .ok (.isub, 1) := by decide +kernel
theorem dX4_getsLost_54 : decode cX4_getsLost 54 = .ok (.invokevirtual 138, 3) := by decide +kernel
theorem dX4_getsLost_57 : decode cX4_getsLost 57 = .ok (.iastore, 1) := by decide +kernel
theorem dX4_getsLost_58 : decode cX4_getsLost 58 = .ok (.iinc 2 1, 3) := by decide +kernel
theorem dX4_getsLost_61 : decode cX4_getsLost 61 = .ok (.goto (-59), 3) := by decide +kernel
theorem dX4_getsLost_64 : decode cX4_getsLost 64 = .ok (.iconst 0, 1) := by decide +kernel
theorem dX4_getsLost_65 : decode cX4_getsLost 65 = .ok (.istore_n 2, 1) := by decide +kernel
theorem dX4_getsLost_66 : decode cX4_getsLost 66 = .ok (.iload_n 2, 1) := by decide +kernel
theorem dX4_getsLost_67 : decode cX4_getsLost 67 = .ok (.iconst 4, 1) := by decide +kernel
theorem dX4_getsLost_68 : decode cX4_getsLost 68 = .ok (.if_icmp .ge 14, 3) := by decide +kernel
theorem dX4_getsLost_71 : decode cX4_getsLost 71 = .ok (.aload_n 0, 1) := by decide +kernel
theorem dX4_getsLost_72 : decode cX4_getsLost 72 = .ok (.iload_n 2, 1) := by decide +kernel
theorem dX4_getsLost_73 : decode cX4_getsLost 73 = .ok (.invokevirtual 129, 3) := by decide +kernel
theorem dX4_getsLost_76 : decode cX4_getsLost 76 = .ok (.iinc 2 1, 3) := by decide +kernel
theorem dX4_getsLost_79 : decode cX4_getsLost 79 = .ok (.goto (-13), 3) := by decide +kernel
theorem dX4_getsLost_82 : decode cX4_getsLost 82 = .ok (.aload_n 0, 1) := by decide +kernel
theorem dX4_getsLost_83 : decode cX4_getsLost 83 = .ok (.iconst 1, 1) := by decide +kernel
theorem dX4_getsLost_84 : decode cX4_getsLost 84 = .ok (.putfield 125, 3) := by decide +kernel
theorem dX4_getsLost_87 : decode cX4_getsLost 87 = .ok (.return_, 1) := by decide +kernel
theorem dX4_manyPlay_0 : decode cX4_manyPlay 0 = .ok (.iconst 0, 1) := by decide +kernel
theorem dX4_manyPlay_1 : decode cX4_manyPlay 1 = .ok (.istore_n 1, 1) := by decide +kernel
theorem dX4_manyPlay_2 : decode cX4_manyPlay 2 = .ok (.iconst 0, 1) := by decide +kernel
theorem dX4_manyPlay_3 : decode cX4_manyPlay 3 = .ok (.istore_n 2, 1) := by decide +kernel
theorem dX4_manyPlay_4 : decode cX4_manyPlay 4 = .ok (.iload_n 2, 1) := by decide +kernel
theorem dX4_manyPlay_5 : decode cX4_manyPlay 5 = .ok (.aload_n 0, 1) := by decide +kernel
theorem dX4_manyPlay_6 : decode cX4_manyPlay 6 = .ok (.getfield 56, 3) := by decide +kernel
theorem dX4_manyPlay_9 : decode cX4_manyPlay 9 = .ok (.if_icmp .ge 35, 3) := by decide +kernel
theorem dX4_manyPlay_12 : decode cX4_manyPlay 12 = .ok (.iload_n 1, 1) := by decide +kernel
theorem dX4_manyPlay_13 : decode cX4_manyPlay 13 = .ok (.aload_n 0, 1) := by decide +kernel
theorem dX4_manyPlay_14 : decode cX4_manyPlay 14 = .ok (.iload_n 2, 1) := by decide +kernel
theorem dX4_manyPlay_15 : decode cX4_manyPlay 15 = .ok (.aload_n 0, 1) := by decide +kernel
theorem dX4_manyPlay_16 : decode cX4_manyPlay 16 = .ok (.getfield 34, 3) := by decide +kernel
theorem dX4_manyPlay_19 : decode cX4_manyPlay 19 = .ok (.iload_n 2, 1) := by decide +kernel
theorem dX4_manyPlay_20 : decode cX4_manyPlay 20 = .ok (.iaload, 1) := by decide +kernel
theorem dX4_manyPlay_21 : decode cX4_manyPlay 21 = .ok (.aload_n 0, 1) := by decide +kernel
theorem dX4_manyPlay_22 : decode cX4_manyPlay 22 = .ok (.getfield 91, 3) := by decide +kernel
theorem dX4_manyPlay_25 : decode cX4_manyPlay 25 = .ok (.invokevirtual 108, 3) := by decide +kernel
theorem dX4_manyPlay_28 : decode cX4_manyPlay 28 = .ok (.ifCond .eq 7, 3) := by decide +kernel
theorem dX4_manyPlay_31 : decode cX4_manyPlay 31 = .ok (.iconst 1, 1) := by decide +kernel
theorem dX4_manyPlay_32 : decode cX4_manyPlay 32 = .ok (.goto 4, 3) := by decide +kernel
theorem dX4_manyPlay_35 : decode cX4_manyPlay 35 = .ok (.iconst 0, 1) := by decide +kernel
theorem dX4_manyPlay_36 : decode cX4_manyPlay 36 = .ok (.iadd, 1) := by decide +kernel
theorem dX4_manyPlay_37 : decode cX4_manyPlay 37 = .ok (.istore_n 1, 1) := by decide +kernel
theorem dX4_manyPlay_38 : decode cX4_manyPlay 38 = .ok (.iinc 2 1, 3) := by decide +kernel
theorem dX4_manyPlay_41 : decode cX4_manyPlay 41 = .ok (.goto (-37), 3) := by decide +kernel
theorem dX4_manyPlay_44 : decode cX4_manyPlay 44 = .ok (.iload_n 1, 1) := by decide +kernel
theorem dX4_manyPlay_45 : decode cX4_manyPlay 45 = .ok (.ireturn, 1) := by decide +kernel
theorem dX4_pass_0 : decode cX4_pass 0 = .ok (.iload_n 1, 1) := by decide +kernel
theorem dX4_pass_1 : decode cX4_pass 1 = .ok (.iconst 1, 1) := by decide +kernel
theorem dX4_pass_2 : decode cX4_pass 2 = .ok (.ldc 142, 2) := by decide +kernel
theorem dX4_pass_4 : decode cX4_pass 4 = .ok (.invokestatic 59, 3) := by decide +kernel
theorem dX4_pass_7 : decode cX4_pass 7 = .ok (.ifCond .ne 6, 3) := by decide +kernel
theorem dX4_pass_10 : decode cX4_pass 10 = .ok (.bipush (-2), 2) := by decide +kernel
theorem dX4_pass_12 : decode cX4_pass 12 = .ok (.ireturn, 1) := by decide +kernel
theorem dX4_pass_13 : decode cX4_pass 13 = .ok (.aload_n 0, 1) := by decide +kernel
theorem dX4_pass_14 : decode cX4_pass 14 = .ok (.getfield 91, 3) := by decide +kernel
theorem dX4_pass_17 : decode cX4_pass 17 = .ok (.iload_n 1, 1) := by decide +kernel
theorem dX4_pass_18 : decode cX4_pass 18 = .ok (.iadd, 1) := by decide +kernel
theorem dX4_pass_19 : decode cX4_pass 19 = .ok (.ldc 104, 2) := by decide +kernel
theorem dX4_pass_21 : decode cX4_pass 21 = .ok (.if_icmp .le 6, 3) := by decide +kernel
theorem dX4_pass_24 : decode cX4_pass 24 = .ok (.bipush (-3), 2) := by decide +kernel
theorem dX4_pass_26 : decode cX4_pass 26 = .ok (.ireturn, 1) := by decide +kernel
theorem dX4_pass_27 : decode cX4_pass 27 = .ok (.aload_n 0, 1) := by decide +kernel
theorem dX4_pass_28 : decode cX4_pass 28 = .ok (.getfield 91, 3) := by decide +kernel
theorem dX4_pass_31 : decode cX4_pass 31 = .ok (.iload_n 1, 1) := by decide +kernel
theorem dX4_pass_32 : decode cX4_pass 32 = .ok (.iadd, 1) := by decide +kernel
theorem dX4_pass_33 : decode cX4_pass 33 = .ok (.istore_n 2, 1) := by decide +kernel
theorem dX4_pass_34 : decode cX4_pass 34 = .ok (.aload_n 0, 1) := by decide +kernel
theorem dX4_pass_35 : decode cX4_pass 35 = .ok (.iload_n 2, 1) := by decide +kernel
theorem dX4_pass_36 : decode cX4_pass 36 = .ok (.invokevirtual 143, 3) := by decide +kernel
theorem dX4_pass_39 : decode cX4_pass 39 = .ok (.ifCond .eq 19, 3) := by decide +kernel
theorem dX4_pass_42 : decode cX4_pass 42 = .ok (.aload_n 0, 1) := by decide +kernel
theorem dX4_pass_43 : decode cX4_pass 43 = .ok (.aload_n 0, 1) := by decide +kernel
theorem dX4_pass_44 : decode cX4_pass 44 = .ok (.getfield 135, 3) := by decide +kernel
theorem dX4_pass_47 : decode cX4_pass 47 = .ok (.aload_n 0, 1) := by decide +kernel
theorem dX4_pass_48 : decode cX4_pass 48 = .ok (.getfield 132, 3) := by decide +kernel
theorem dX4_pass_51 : decode cX4_pass 51 = .ok (.iadd, 1) := by decide +kernel
theorem dX4_pass_52 : decode cX4_pass 52 = .ok (.invokevirtual 146, 3) := by decide +kernel
theorem dX4_pass_55 : decode cX4_pass 55 = .ok (.goto 37, 3) := by decide +kernel
theorem dX4_pass_58 : decode cX4_pass 58 = .ok (.iconst 0, 1) := by decide +kernel
theorem dX4_pass_59 : decode cX4_pass 59 = .ok (.istore_n 3, 1) := by decide +kernel
theorem dX4_pass_60 : decode cX4_pass 60 = .ok (.iload_n 3, 1) := by decide +kernel
theorem dX4_pass_61 : decode cX4_pass 61 = .ok (.aload_n 0, 1) := by decide +kernel
theorem dX4_pass_62 : decode cX4_pass 62 = .ok (.getfield 56, 3) := by decide +kernel
theorem dX4_pass_65 : decode cX4_pass 65 = .ok (.if_icmp .ge 27, 3) := by decide +kernel
theorem dX4_pass_68 : decode cX4_pass 68 = .ok (.aload_n 0, 1) := by decide +kernel
theorem dX4_pass_69 : decode cX4_pass 69 = .ok (.getfield 34, 3) := by decide +kernel
theorem dX4_pass_72 : decode cX4_pass 72 = .ok (.iload_n 3, 1) := by decide +kernel
theorem dX4_pass_73 : decode cX4_pass 73 = .ok (.aload_n 0, 1) := by decide +kernel
theorem dX4_pass_74 : decode cX4_pass 74 = .ok (.iload_n 3, 1) := by decide +kernel
theorem dX4_pass_75 : decode cX4_pass 75 = .ok (.aload_n 0, 1) := by decide +kernel
theorem dX4_pass_76 : decode cX4_pass 76 = .ok (.getfield 34, 3) := by decide +kernel
theorem dX4_pass_79 : decode cX4_pass 79 = .ok (.iload_n 3, 1) := by decide +kernel
theorem dX4_pass_80 : decode cX4_pass 80 = .ok (.iaload, 1) := by decide +kernel
theorem dX4_pass_81 : decode cX4_pass 81 = .ok (.iload_n 2, 1) := by decide +kernel
theorem dX4_pass_82 : decode cX4_pass 82 = .ok (.invokevirtual 138, 3) := by decide +kernel
theorem dX4_pass_85 : decode cX4_pass 85 = .ok (.iastore, 1) := by decide +kernel
theorem dX4_pass_86 : decode cX4_pass 86 = .ok (.iinc 3 1, 3) := by decide +kernel
theorem dX4_pass_89 : decode cX4_pass 89 = .ok (.goto (-29), 3) := by decide +kernel
theorem dX4_pass_92 : decode cX4_pass 92 = .ok (.aload_n 0, 1) := by decide +kernel
theorem dX4_pass_93 : decode cX4_pass 93 = .ok (.iload_n 2, 1) := by decide +kernel
theorem dX4_pass_94 : decode cX4_pass 94 = .ok (.putfield 91, 3) := by decide +kernel
theorem dX4_pass_97 : decode cX4_pass 97 = .ok (.aload_n 0, 1) := by decide +kernel
theorem dX4_pass_98 : decode cX4_pass 98 = .ok (.invokevirtual 149, 3) := by decide +kernel
theorem dX4_pass_101 : decode cX4_pass 101 = .ok (.ireturn, 1) := by decide +kernel
theorem dX4_hello_0 : decode cX4_hello 0 = .ok (.aload_n 0, 1) := by decide +kernel
theorem dX4_hello_1 : decode cX4_hello 1 = .ok (.getfield 125, 3) := by decide +kernel
theorem dX4_hello_4 : decode cX4_hello 4 = .ok (.ifCond .eq 7, 3) := by decide +kernel
theorem dX4_hello_7 : decode cX4_hello 7 = .ok (.iconst 1, 1) := by decide +kernel
theorem dX4_hello_8 : decode cX4_hello 8 = .ok (.goto 4, 3) := by decide +kernel
theorem dX4_hello_11 : decode cX4_hello 11 = .ok (.iconst 0, 1) := by decide +kernel
theorem dX4_hello_12 : decode cX4_hello 12 = .ok (.istore_n 1, 1) := by decide +kernel
theorem dX4_hello_13 : decode cX4_hello 13 = .ok (.aload_n 0, 1) := by decide +kernel
theorem dX4_hello_14 : decode cX4_hello 14 = .ok (.iconst 0, 1) := by decide +kernel
theorem dX4_hello_15 : decode cX4_hello 15 = .ok (.putfield 125, 3) := by decide +kernel
theorem dX4_hello_18 : decode cX4_hello 18 = .ok (.aload_n 0, 1) := by decide +kernel
theorem dX4_hello_19 : decode cX4_hello 19 = .ok (.aload_n 0, 1) := by decide +kernel
theorem dX4_hello_20 : decode cX4_hello 20 = .ok (.getfield 91, 3) := by decide +kernel
theorem dX4_hello_23 : decode cX4_hello 23 = .ok (.putfield 135, 3) := by decide +kernel
theorem dX4_hello_26 : decode cX4_hello 26 = .ok (.iload_n 1, 1) := by decide +kernel
theorem dX4_hello_27 : decode cX4_hello 27 = .ok (.ireturn, 1) := by decide +kernel
theorem dX4_watch_0 : decode cX4_watch 0 = .ok (.iload_n 1, 1) := by decide +kernel
theorem dX4_watch_1 : decode cX4_watch 1 = .ok (.iconst 0, 1) := by decide +kernel
theorem dX4_watch_2 : decode cX4_watch 2 = .ok (.sipush 10000, 3) := by decide +kernel
theorem dX4_watch_5 : decode cX4_watch 5 = .ok (.invokestatic 59, 3) := by decide +kernel
theorem dX4_watch_8 : decode cX4_watch 8 = .ok (.ifCond .ne 6, 3) := by decide +kernel
theorem dX4_watch_11 : decode cX4_watch 11 = .ok (.bipush (-2), 2) := by decide +kernel
theorem dX4_watch_13 : decode cX4_watch 13 = .ok (.ireturn, 1) := by decide +kernel
theorem dX4_watch_14 : decode cX4_watch 14 = .ok (.aload_n 0, 1) := by decide +kernel
theorem dX4_watch_15 : decode cX4_watch 15 = .ok (.getfield 132, 3) := by decide +kernel
theorem dX4_watch_18 : decode cX4_watch 18 = .ok (.istore_n 2, 1) := by decide +kernel
theorem dX4_watch_19 : decode cX4_watch 19 = .ok (.aload_n 0, 1) := by decide +kernel
theorem dX4_watch_20 : decode cX4_watch 20 = .ok (.iload_n 1, 1) := by decide +kernel
theorem dX4_watch_21 : decode cX4_watch 21 = .ok (.putfield 132, 3) := by decide +kernel
theorem dX4_watch_24 : decode cX4_watch 24 = .ok (.aload_n 0, 1) := by decide +kernel
theorem dX4_watch_25 : decode cX4_watch 25 = .ok (.aload_n 0, 1) := by decide +kernel
theorem dX4_watch_26 : decode cX4_watch 26 = .ok (.getfield 91, 3) := by decide +kernel
theorem dX4_watch_29 : decode cX4_watch 29 = .ok (.putfield 135, 3) := by decide +kernel
theorem dX4_watch_32 : decode cX4_watch 32 = .ok (.iload_n 2, 1) := by decide +kernel
theorem dX4_watch_33 : decode cX4_watch 33 = .ok (.ireturn, 1) := by decide +kernel
theorem dX4_master_0 : decode cX4_master 0 = .ok (.iload_n 1, 1) := by decide +kernel
theorem dX4_master_1 : decode cX4_master 1 = .ok (.iconst 0, 1) := by decide +kernel
theorem dX4_master_2 : decode cX4_master 2 = .ok (.bipush 100, 2) := by decide +kernel
theorem dX4_master_4 : decode cX4_master 4 = .ok (.invokestatic 59, 3) := by decide +kernel
theorem dX4_master_7 : decode cX4_master 7 = .ok (.ifCond .ne 6, 3) := by decide +kernel
theorem dX4_master_10 : decode cX4_master 10 = .ok (.bipush (-2), 2) := by decide +kernel
theorem dX4_master_12 : decode cX4_master 12 = .ok (.ireturn, 1) := by decide +kernel
theorem dX4_master_13 : decode cX4_master 13 = .ok (.aload_n 0, 1) := by decide +kernel
theorem dX4_master_14 : decode cX4_master 14 = .ok (.getfield 50, 3) := by decide +kernel
theorem dX4_master_17 : decode cX4_master 17 = .ok (.istore_n 2, 1) := by decide +kernel
theorem dX4_master_18 : decode cX4_master 18 = .ok (.aload_n 0, 1) := by decide +kernel
theorem dX4_master_19 : decode cX4_master 19 = .ok (.iload_n 1, 1) := by decide +kernel
theorem dX4_master_20 : decode cX4_master 20 = .ok (.putfield 50, 3) := by decide +kernel
theorem dX4_master_23 : decode cX4_master 23 = .ok (.iload_n 2, 1) := by decide +kernel
theorem dX4_master_24 : decode cX4_master 24 = .ok (.ireturn, 1) := by decide +kernel
theorem dX4_levelBy_0 : decode cX4_levelBy 0 = .ok (.iload_n 0, 1) := by decide +kernel
theorem dX4_levelBy_1 : decode cX4_levelBy 1 = .ok (.bipush 100, 2) := by decide +kernel
theorem dX4_levelBy_3 : decode cX4_levelBy 3 = .ok (.iload_n 0, 1) := by decide +kernel
theorem dX4_levelBy_4 : decode cX4_levelBy 4 = .ok (.isub, 1) := by decide +kernel
theorem dX4_levelBy_5 : decode cX4_levelBy 5 = .ok (.iload_n 1, 1) := by decide +kernel
theorem dX4_levelBy_6 : decode cX4_levelBy 6 = .ok (.imul, 1) := by decide +kernel
theorem dX4_levelBy_7 : decode cX4_levelBy 7 = .ok (.iload_n 2, 1) := by decide +kernel
theorem dX4_levelBy_8 : decode cX4_levelBy 8 = .ok (.idiv, 1) := by decide +kernel
theorem dX4_levelBy_9 : decode cX4_levelBy 9 = .ok (.iadd, 1) := by decide +kernel
theorem dX4_levelBy_10 : decode cX4_levelBy 10 = .ok (.ireturn, 1) := by decide +kernel
theorem dX4_envelopeAt_0 : decode cX4_envelopeAt 0 = .ok (.aload_n 0, 1) := by decide +kernel
theorem dX4_envelopeAt_1 : decode cX4_envelopeAt 1 = .ok (.iload_n 1, 1) := by decide +kernel
theorem dX4_envelopeAt_2 : decode cX4_envelopeAt 2 = .ok (.iconst 2, 1) := by decide +kernel
theorem dX4_envelopeAt_3 : decode cX4_envelopeAt 3 = .ok (.invokevirtual 72, 3) := by decide +kernel
theorem dX4_envelopeAt_6 : decode cX4_envelopeAt 6 = .ok (.istore_n 3, 1) := by decide +kernel
theorem dX4_envelopeAt_7 : decode cX4_envelopeAt 7 = .ok (.aload_n 0, 1) := by decide +kernel
theorem dX4_envelopeAt_8 : decode cX4_envelopeAt 8 = .ok (.iload_n 1, 1) := by decide +kernel
theorem dX4_envelopeAt_9 : decode cX4_envelopeAt 9 = .ok (.iconst 4, 1) := by decide +kernel
theorem dX4_envelopeAt_10 : decode cX4_envelopeAt 10 = .ok (.invokevirtual 72, 3) := by decide +kernel
theorem dX4_envelopeAt_13 : decode cX4_envelopeAt 13 = .ok (.istore 4, 2) := by decide +kernel
theorem dX4_envelopeAt_15 : decode cX4_envelopeAt 15 = .ok (.aload_n 0, 1) := by decide +kernel
theorem dX4_envelopeAt_16 : decode cX4_envelopeAt 16 = .ok (.iload_n 1, 1) := by decide +kernel
theorem dX4_envelopeAt_17 : decode cX4_envelopeAt 17 = .ok (.iconst 0, 1) := by decide +kernel
theorem dX4_envelopeAt_18 : decode cX4_envelopeAt 18 = .ok (.invokevirtual 72, 3) := by decide +kernel
theorem dX4_envelopeAt_21 : decode cX4_envelopeAt 21 = .ok (.istore 5, 2) := by decide +kernel
theorem dX4_envelopeAt_23 : decode cX4_envelopeAt 23 = .ok (.iload_n 2, 1) := by decide +kernel
theorem dX4_envelopeAt_24 : decode cX4_envelopeAt 24 = .ok (.iload_n 3, 1) := by decide +kernel
theorem dX4_envelopeAt_25 : decode cX4_envelopeAt 25 = .ok (.if_icmp .ge 17, 3) := by decide +kernel
theorem dX4_envelopeAt_28 : decode cX4_envelopeAt 28 = .ok (.aload_n 0, 1) := by decide +kernel
theorem dX4_envelopeAt_29 : decode cX4_envelopeAt 29 = .ok (.iload_n 1, 1) := by decide +kernel
theorem dX4_envelopeAt_30 : decode cX4_envelopeAt 30 = .ok (.iconst 3, 1) := by decide +kernel
theorem dX4_envelopeAt_31 : decode cX4_envelopeAt 31 = .ok (.invokevirtual 72, 3) := by decide +kernel
theorem dX4_envelopeAt_34 : decode cX4_envelopeAt 34 = .ok (.iload_n 2, 1) := by decide +kernel
theorem dX4_envelopeAt_35 : decode cX4_envelopeAt 35 = .ok (.iload_n 3, 1) := by decide +kernel
theorem dX4_envelopeAt_36 : decode cX4_envelopeAt 36 = .ok (.invokestatic 152, 3) := by decide +kernel
theorem dX4_envelopeAt_39 : decode cX4_envelopeAt 39 = .ok (.goto 5, 3) := by decide +kernel
theorem dX4_envelopeAt_42 : decode cX4_envelopeAt 42 = .ok (.bipush 100, 2) := by decide +kernel
theorem dX4_envelopeAt_44 : decode cX4_envelopeAt 44 = .ok (.istore 6, 2) := by decide +kernel
theorem dX4_envelopeAt_46 : decode cX4_envelopeAt 46 = .ok (.iload 5, 2) := by decide +kernel
theorem dX4_envelopeAt_48 : decode cX4_envelopeAt 48 = .ok (.iload_n 2, 1) := by decide +kernel
theorem dX4_envelopeAt_49 : decode cX4_envelopeAt 49 = .ok (.isub, 1) := by decide +kernel
theorem dX4_envelopeAt_50 : decode cX4_envelopeAt 50 = .ok (.istore 7, 2) := by decide +kernel
theorem dX4_envelopeAt_52 : decode cX4_envelopeAt 52 = .ok (.iload 5, 2) := by decide +kernel
theorem dX4_envelopeAt_54 : decode cX4_envelopeAt 54 = .ok (.bipush (-9), 2) := by decide +kernel
theorem dX4_envelopeAt_56 : decode cX4_envelopeAt 56 = .ok (.if_icmp .eq 26, 3) := by decide +kernel
theorem dX4_envelopeAt_59 : decode cX4_envelopeAt 59 = .ok (.iload 7, 2) := by decide +kernel
theorem dX4_envelopeAt_61 : decode cX4_envelopeAt 61 = .ok (.iload 4, 2) := by decide +kernel
theorem dX4_envelopeAt_63 : decode cX4_envelopeAt 63 = .ok (.if_icmp .ge 19, 3) := by decide +kernel
theorem dX4_envelopeAt_66 : decode cX4_envelopeAt 66 = .ok (.aload_n 0, 1) := by decide +kernel
theorem dX4_envelopeAt_67 : decode cX4_envelopeAt 67 = .ok (.iload_n 1, 1) := by decide +kernel
theorem dX4_envelopeAt_68 : decode cX4_envelopeAt 68 = .ok (.iconst 5, 1) := by decide +kernel
theorem dX4_envelopeAt_69 : decode cX4_envelopeAt 69 = .ok (.invokevirtual 72, 3) := by decide +kernel
theorem dX4_envelopeAt_72 : decode cX4_envelopeAt 72 = .ok (.iload 7, 2) := by decide +kernel
theorem dX4_envelopeAt_74 : decode cX4_envelopeAt 74 = .ok (.iload 4, 2) := by decide +kernel
theorem dX4_envelopeAt_76 : decode cX4_envelopeAt 76 = .ok (.invokestatic 152, 3) := by decide +kernel
theorem dX4_envelopeAt_79 : decode cX4_envelopeAt 79 = .ok (.goto 5, 3) := by decide +kernel
theorem dX4_envelopeAt_82 : decode cX4_envelopeAt 82 = .ok (.bipush 100, 2) := by decide +kernel
theorem dX4_envelopeAt_84 : decode cX4_envelopeAt 84 = .ok (.istore 8, 2) := by decide +kernel
theorem dX4_envelopeAt_86 : decode cX4_envelopeAt 86 = .ok (.iload 6, 2) := by decide +kernel
theorem dX4_envelopeAt_88 : decode cX4_envelopeAt 88 = .ok (.iload 8, 2) := by decide +kernel
theorem dX4_envelopeAt_90 : decode cX4_envelopeAt 90 = .ok (.if_icmp .ge 8, 3) := by decide +kernel
theorem dX4_envelopeAt_93 : decode cX4_envelopeAt 93 = .ok (.iload 6, 2) := by decide +kernel
theorem dX4_envelopeAt_95 : decode cX4_envelopeAt 95 = .ok (.goto 5, 3) := by decide +kernel
theorem dX4_envelopeAt_98 : decode cX4_envelopeAt 98 = .ok (.iload 8, 2) := by decide +kernel
theorem dX4_envelopeAt_100 : decode cX4_envelopeAt 100 = .ok (.ireturn, 1) := by decide +kernel
theorem dX4_waveAt_0 : decode cX4_waveAt 0 = .ok (.aload_n 0, 1) := by decide +kernel
theorem dX4_waveAt_1 : decode cX4_waveAt 1 = .ok (.getfield 19, 3) := by decide +kernel
theorem dX4_waveAt_4 : decode cX4_waveAt 4 = .ok (.iload_n 1, 1) := by decide +kernel
theorem dX4_waveAt_5 : decode cX4_waveAt 5 = .ok (.iaload, 1) := by decide +kernel
theorem dX4_waveAt_6 : decode cX4_waveAt 6 = .ok (.istore_n 3, 1) := by decide +kernel
theorem dX4_waveAt_7 : decode cX4_waveAt 7 = .ok (.aload_n 0, 1) := by decide +kernel
theorem dX4_waveAt_8 : decode cX4_waveAt 8 = .ok (.getfield 22, 3) := by decide +kernel
theorem dX4_waveAt_11 : decode cX4_waveAt 11 = .ok (.iload_n 1, 1) := by decide +kernel
theorem dX4_waveAt_12 : decode cX4_waveAt 12 = .ok (.iaload, 1) := by decide +kernel
theorem dX4_waveAt_13 : decode cX4_waveAt 13 = .ok (.istore 4, 2) := by decide +kernel
theorem dX4_waveAt_15 : decode cX4_waveAt 15 = .ok (.aload_n 0, 1) := by decide +kernel
theorem dX4_waveAt_16 : decode cX4_waveAt 16 = .ok (.getfield 25, 3) := by decide +kernel
theorem dX4_waveAt_19 : decode cX4_waveAt 19 = .ok (.iload_n 1, 1) := by decide +kernel
theorem dX4_waveAt_20 : decode cX4_waveAt 20 = .ok (.iaload, 1) := by decide +kernel
theorem dX4_waveAt_21 : decode cX4_waveAt 21 = .ok (.istore 5, 2) := by decide +kernel
theorem dX4_waveAt_23 : decode cX4_waveAt 23 = .ok (.aload_n 0, 1) := by decide +kernel
theorem dX4_waveAt_24 : decode cX4_waveAt 24 = .ok (.iload_n 1, 1) := by decide +kernel
theorem dX4_waveAt_25 : decode cX4_waveAt 25 = .ok (.iconst 0, 1) := by decide +kernel
theorem dX4_waveAt_26 : decode cX4_waveAt 26 = .ok (.invokevirtual 72, 3) := by decide +kernel
theorem dX4_waveAt_29 : decode cX4_waveAt 29 = .ok (.istore 6, 2) := by decide +kernel
theorem dX4_waveAt_31 : decode cX4_waveAt 31 = .ok (.iload 5, 2) := by decide +kernel
theorem dX4_waveAt_33 : decode cX4_waveAt 33 = .ok (.ifCond .le 17, 3) := by decide +kernel
theorem dX4_waveAt_36 : decode cX4_waveAt 36 = .ok (.iload_n 2, 1) := by decide +kernel
theorem dX4_waveAt_37 : decode cX4_waveAt 37 = .ok (.aload_n 0, 1) := by decide +kernel
theorem dX4_waveAt_38 : decode cX4_waveAt 38 = .ok (.getfield 28, 3) := by decide +kernel
theorem dX4_waveAt_41 : decode cX4_waveAt 41 = .ok (.iload_n 1, 1) := by decide +kernel
theorem dX4_waveAt_42 : decode cX4_waveAt 42 = .ok (.iaload, 1) := by decide +kernel
theorem dX4_waveAt_43 : decode cX4_waveAt 43 = .ok (.iadd, 1) := by decide +kernel
theorem dX4_waveAt_44 : decode cX4_waveAt 44 = .ok (.iload 5, 2) := by decide +kernel
theorem dX4_waveAt_46 : decode cX4_waveAt 46 = .ok (.irem, 1) := by decide +kernel
theorem dX4_waveAt_47 : decode cX4_waveAt 47 = .ok (.goto 4, 3) := by decide +kernel
theorem dX4_waveAt_50 : decode cX4_waveAt 50 = .ok (.iconst 0, 1) := by decide +kernel
theorem dX4_waveAt_51 : decode cX4_waveAt 51 = .ok (.istore 7, 2) := by decide +kernel
theorem dX4_waveAt_53 : decode cX4_waveAt 53 = .ok (.aload_n 0, 1) := by decide +kernel
theorem dX4_waveAt_54 : decode cX4_waveAt 54 = .ok (.getfield 16, 3) := by decide +kernel
theorem dX4_waveAt_57 : decode cX4_waveAt 57 = .ok (.iload_n 1, 1) := by decide +kernel
theorem dX4_waveAt_58 : decode cX4_waveAt 58 = .ok (.iaload, 1) := by decide +kernel
theorem dX4_waveAt_59 : decode cX4_waveAt 59 = .ok (.tableswitch 93 0 2 #[25, 27, 48], 25) := by decide +kernel
theorem dX4_waveAt_84 : decode cX4_waveAt 84 = .ok (.iload_n 3, 1) := by decide +kernel
theorem dX4_waveAt_85 : decode cX4_waveAt 85 = .ok (.ireturn, 1) := by decide +kernel
theorem dX4_waveAt_86 : decode cX4_waveAt 86 = .ok (.iconst 2, 1) := by decide +kernel
theorem dX4_waveAt_87 : decode cX4_waveAt 87 = .ok (.iload 7, 2) := by decide +kernel
theorem dX4_waveAt_89 : decode cX4_waveAt 89 = .ok (.imul, 1) := by decide +kernel
theorem dX4_waveAt_90 : decode cX4_waveAt 90 = .ok (.iload 5, 2) := by decide +kernel
theorem dX4_waveAt_92 : decode cX4_waveAt 92 = .ok (.if_icmp .ge 10, 3) := by decide +kernel
theorem dX4_waveAt_95 : decode cX4_waveAt 95 = .ok (.iload 4, 2) := by decide +kernel
theorem dX4_waveAt_97 : decode cX4_waveAt 97 = .ok (.iload_n 3, 1) := by decide +kernel
theorem dX4_waveAt_98 : decode cX4_waveAt 98 = .ok (.iadd, 1) := by decide +kernel
theorem dX4_waveAt_99 : decode cX4_waveAt 99 = .ok (.goto 7, 3) := by decide +kernel
theorem dX4_waveAt_102 : decode cX4_waveAt 102 = .ok (.iload 4, 2) := by decide +kernel
theorem dX4_waveAt_104 : decode cX4_waveAt 104 = .ok (.iload_n 3, 1) := by decide +kernel
theorem dX4_waveAt_105 : decode cX4_waveAt 105 = .ok (.isub, 1) := by decide +kernel
theorem dX4_waveAt_106 : decode cX4_waveAt 106 = .ok (.ireturn, 1) := by decide +kernel
theorem dX4_waveAt_107 : decode cX4_waveAt 107 = .ok (.iconst 2, 1) := by decide +kernel
theorem dX4_waveAt_108 : decode cX4_waveAt 108 = .ok (.iload 7, 2) := by decide +kernel
theorem dX4_waveAt_110 : decode cX4_waveAt 110 = .ok (.imul, 1) := by decide +kernel
theorem dX4_waveAt_111 : decode cX4_waveAt 111 = .ok (.iload 5, 2) := by decide +kernel
theorem dX4_waveAt_113 : decode cX4_waveAt 113 = .ok (.if_icmp .ge 21, 3) := by decide +kernel
theorem dX4_waveAt_116 : decode cX4_waveAt 116 = .ok (.iload 4, 2) := by decide +kernel
theorem dX4_waveAt_118 : decode cX4_waveAt 118 = .ok (.iload_n 3, 1) := by decide +kernel
theorem dX4_waveAt_119 : decode cX4_waveAt 119 = .ok (.iconst 4, 1) := by decide +kernel
theorem dX4_waveAt_120 : decode cX4_waveAt 120 = .ok (.iload 7, 2) := by decide +kernel
theorem dX4_waveAt_122 : decode cX4_waveAt 122 = .ok (.imul, 1) := by decide +kernel
theorem dX4_waveAt_123 : decode cX4_waveAt 123 = .ok (.iload 5, 2) := by decide +kernel
theorem dX4_waveAt_125 : decode cX4_waveAt 125 = .ok (.isub, 1) := by decide +kernel
theorem dX4_waveAt_126 : decode cX4_waveAt 126 = .ok (.imul, 1) := by decide +kernel
theorem dX4_waveAt_127 : decode cX4_waveAt 127 = .ok (.iload 5, 2) := by decide +kernel
theorem dX4_waveAt_129 : decode cX4_waveAt 129 = .ok (.idiv, 1) := by decide +kernel
theorem dX4_waveAt_130 : decode cX4_waveAt 130 = .ok (.iadd, 1) := by decide +kernel
theorem dX4_waveAt_131 : decode cX4_waveAt 131 = .ok (.goto 20, 3) := by decide +kernel
theorem dX4_waveAt_134 : decode cX4_waveAt 134 = .ok (.iload 4, 2) := by decide +kernel
theorem dX4_waveAt_136 : decode cX4_waveAt 136 = .ok (.iload_n 3, 1) := by decide +kernel
theorem dX4_waveAt_137 : decode cX4_waveAt 137 = .ok (.iconst 3, 1) := by decide +kernel
theorem dX4_waveAt_138 : decode cX4_waveAt 138 = .ok (.iload 5, 2) := by decide +kernel
theorem dX4_waveAt_140 : decode cX4_waveAt 140 = .ok (.imul, 1) := by decide +kernel
theorem dX4_waveAt_141 : decode cX4_waveAt 141 = .ok (.iconst 4, 1) := by decide +kernel
theorem dX4_waveAt_142 : decode cX4_waveAt 142 = .ok (.iload 7, 2) := by decide +kernel
theorem dX4_waveAt_144 : decode cX4_waveAt 144 = .ok (.imul, 1) := by decide +kernel
theorem dX4_waveAt_145 : decode cX4_waveAt 145 = .ok (.isub, 1) := by decide +kernel
theorem dX4_waveAt_146 : decode cX4_waveAt 146 = .ok (.imul, 1) := by decide +kernel
theorem dX4_waveAt_147 : decode cX4_waveAt 147 = .ok (.iload 5, 2) := by decide +kernel
theorem dX4_waveAt_149 : decode cX4_waveAt 149 = .ok (.idiv, 1) := by decide +kernel
theorem dX4_waveAt_150 : decode cX4_waveAt 150 = .ok (.iadd, 1) := by decide +kernel
theorem dX4_waveAt_151 : decode cX4_waveAt 151 = .ok (.ireturn, 1) := by decide +kernel
theorem dX4_waveAt_152 : decode cX4_waveAt 152 = .ok (.iload 6, 2) := by decide +kernel
theorem dX4_waveAt_154 : decode cX4_waveAt 154 = .ok (.bipush (-9), 2) := by decide +kernel
theorem dX4_waveAt_156 : decode cX4_waveAt 156 = .ok (.if_icmp .ne 7, 3) := by decide +kernel
theorem dX4_waveAt_159 : decode cX4_waveAt 159 = .ok (.iload_n 3, 1) := by decide +kernel
theorem dX4_waveAt_160 : decode cX4_waveAt 160 = .ok (.goto 14, 3) := by decide +kernel
theorem dX4_waveAt_163 : decode cX4_waveAt 163 = .ok (.iload_n 3, 1) := by decide +kernel
theorem dX4_waveAt_164 : decode cX4_waveAt 164 = .ok (.iload 4, 2) := by decide +kernel
theorem dX4_waveAt_166 : decode cX4_waveAt 166 = .ok (.iload_n 3, 1) := by decide +kernel
theorem dX4_waveAt_167 : decode cX4_waveAt 167 = .ok (.isub, 1) := by decide +kernel
theorem dX4_waveAt_168 : decode cX4_waveAt 168 = .ok (.iload_n 2, 1) := by decide +kernel
theorem dX4_waveAt_169 : decode cX4_waveAt 169 = .ok (.imul, 1) := by decide +kernel
theorem dX4_waveAt_170 : decode cX4_waveAt 170 = .ok (.iload 6, 2) := by decide +kernel
theorem dX4_waveAt_172 : decode cX4_waveAt 172 = .ok (.idiv, 1) := by decide +kernel
theorem dX4_waveAt_173 : decode cX4_waveAt 173 = .ok (.iadd, 1) := by decide +kernel
theorem dX4_waveAt_174 : decode cX4_waveAt 174 = .ok (.ireturn, 1) := by decide +kernel
theorem dX4_beyond_0 : decode cX4_beyond 0 = .ok (.iload_n 0, 1) := by decide +kernel
theorem dX4_beyond_1 : decode cX4_beyond 1 = .ok (.invokestatic 155, 3) := by decide +kernel
theorem dX4_beyond_4 : decode cX4_beyond 4 = .ok (.iload_n 1, 1) := by decide +kernel
theorem dX4_beyond_5 : decode cX4_beyond 5 = .ok (.if_icmp .gt 7, 3) := by decide +kernel
theorem dX4_beyond_8 : decode cX4_beyond 8 = .ok (.iconst 0, 1) := by decide +kernel
theorem dX4_beyond_9 : decode cX4_beyond 9 = .ok (.goto 16, 3) := by decide +kernel
theorem dX4_beyond_12 : decode cX4_beyond 12 = .ok (.iload_n 0, 1) := by decide +kernel
theorem dX4_beyond_13 : decode cX4_beyond 13 = .ok (.ifCond .ge 9, 3) := by decide +kernel
theorem dX4_beyond_16 : decode cX4_beyond 16 = .ok (.iload_n 0, 1) := by decide +kernel
theorem dX4_beyond_17 : decode cX4_beyond 17 = .ok (.iload_n 1, 1) := by decide +kernel
theorem dX4_beyond_18 : decode cX4_beyond 18 = .ok (.iadd, 1) := by decide +kernel
theorem dX4_beyond_19 : decode cX4_beyond 19 = .ok (.goto 6, 3) := by decide +kernel
theorem dX4_beyond_22 : decode cX4_beyond 22 = .ok (.iload_n 0, 1) := by decide +kernel
theorem dX4_beyond_23 : decode cX4_beyond 23 = .ok (.iload_n 1, 1) := by decide +kernel
theorem dX4_beyond_24 : decode cX4_beyond 24 = .ok (.isub, 1) := by decide +kernel
theorem dX4_beyond_25 : decode cX4_beyond 25 = .ok (.ireturn, 1) := by decide +kernel
theorem dX4_byHand_0 : decode cX4_byHand 0 = .ok (.aload_n 0, 1) := by decide +kernel
theorem dX4_byHand_1 : decode cX4_byHand 1 = .ok (.getfield 19, 3) := by decide +kernel
theorem dX4_byHand_4 : decode cX4_byHand 4 = .ok (.iload_n 1, 1) := by decide +kernel
theorem dX4_byHand_5 : decode cX4_byHand 5 = .ok (.iaload, 1) := by decide +kernel
theorem dX4_byHand_6 : decode cX4_byHand 6 = .ok (.istore_n 3, 1) := by decide +kernel
theorem dX4_byHand_7 : decode cX4_byHand 7 = .ok (.aload_n 0, 1) := by decide +kernel
theorem dX4_byHand_8 : decode cX4_byHand 8 = .ok (.getfield 7, 3) := by decide +kernel
theorem dX4_byHand_11 : decode cX4_byHand 11 = .ok (.iload_n 2, 1) := by decide +kernel
theorem dX4_byHand_12 : decode cX4_byHand 12 = .ok (.iaload, 1) := by decide +kernel
theorem dX4_byHand_13 : decode cX4_byHand 13 = .ok (.aload_n 0, 1) := by decide +kernel
theorem dX4_byHand_14 : decode cX4_byHand 14 = .ok (.getfield 22, 3) := by decide +kernel
theorem dX4_byHand_17 : decode cX4_byHand 17 = .ok (.iload_n 1, 1) := by decide +kernel
theorem dX4_byHand_18 : decode cX4_byHand 18 = .ok (.iaload, 1) := by decide +kernel
theorem dX4_byHand_19 : decode cX4_byHand 19 = .ok (.isub, 1) := by decide +kernel
theorem dX4_byHand_20 : decode cX4_byHand 20 = .ok (.istore 4, 2) := by decide +kernel
theorem dX4_byHand_22 : decode cX4_byHand 22 = .ok (.aload_n 0, 1) := by decide +kernel
theorem dX4_byHand_23 : decode cX4_byHand 23 = .ok (.getfield 16, 3) := by decide +kernel
theorem dX4_byHand_26 : decode cX4_byHand 26 = .ok (.iload_n 1, 1) := by decide +kernel
theorem dX4_byHand_27 : decode cX4_byHand 27 = .ok (.iaload, 1) := by decide +kernel
theorem dX4_byHand_28 : decode cX4_byHand 28 = .ok (.iconst 4, 1) := by decide +kernel
theorem dX4_byHand_29 : decode cX4_byHand 29 = .ok (.if_icmp .ne 30, 3) := by decide +kernel
theorem dX4_byHand_32 : decode cX4_byHand 32 = .ok (.iload_n 3, 1) := by decide +kernel
theorem dX4_byHand_33 : decode cX4_byHand 33 = .ok (.ineg, 1) := by decide +kernel
theorem dX4_byHand_34 : decode cX4_byHand 34 = .ok (.iload 4, 2) := by decide +kernel
theorem dX4_byHand_36 : decode cX4_byHand 36 = .ok (.aload_n 0, 1) := by decide +kernel
theorem dX4_byHand_37 : decode cX4_byHand 37 = .ok (.getfield 25, 3) := by decide +kernel
theorem dX4_byHand_40 : decode cX4_byHand 40 = .ok (.iload_n 1, 1) := by decide +kernel
theorem dX4_byHand_41 : decode cX4_byHand 41 = .ok (.iaload, 1) := by decide +kernel
theorem dX4_byHand_42 : decode cX4_byHand 42 = .ok (.invokestatic 158, 3) := by decide +kernel
theorem dX4_byHand_45 : decode cX4_byHand 45 = .ok (.imul, 1) := by decide +kernel
theorem dX4_byHand_46 : decode cX4_byHand 46 = .ok (.bipush 100, 2) := by decide +kernel
theorem dX4_byHand_48 : decode cX4_byHand 48 = .ok (.idiv, 1) := by decide +kernel
theorem dX4_byHand_49 : decode cX4_byHand 49 = .ok (.aload_n 0, 1) := by decide +kernel
theorem dX4_byHand_50 : decode cX4_byHand 50 = .ok (.getfield 28, 3) := by decide +kernel
theorem dX4_byHand_53 : decode cX4_byHand 53 = .ok (.iload_n 1, 1) := by decide +kernel
theorem dX4_byHand_54 : decode cX4_byHand 54 = .ok (.iaload, 1) := by decide +kernel
theorem dX4_byHand_55 : decode cX4_byHand 55 = .ok (.invokestatic 161, 3) := by decide +kernel
theorem dX4_byHand_58 : decode cX4_byHand 58 = .ok (.ireturn, 1) := by decide +kernel
theorem dX4_byHand_59 : decode cX4_byHand 59 = .ok (.aload_n 0, 1) := by decide +kernel
theorem dX4_byHand_60 : decode cX4_byHand 60 = .ok (.getfield 16, 3) := by decide +kernel
theorem dX4_byHand_63 : decode cX4_byHand 63 = .ok (.iload_n 1, 1) := by decide +kernel
theorem dX4_byHand_64 : decode cX4_byHand 64 = .ok (.iaload, 1) := by decide +kernel
theorem dX4_byHand_65 : decode cX4_byHand 65 = .ok (.iconst 5, 1) := by decide +kernel
theorem dX4_byHand_66 : decode cX4_byHand 66 = .ok (.if_icmp .ne 35, 3) := by decide +kernel
theorem dX4_byHand_69 : decode cX4_byHand 69 = .ok (.iload_n 3, 1) := by decide +kernel
theorem dX4_byHand_70 : decode cX4_byHand 70 = .ok (.ineg, 1) := by decide +kernel
theorem dX4_byHand_71 : decode cX4_byHand 71 = .ok (.aload_n 0, 1) := by decide +kernel
theorem dX4_byHand_72 : decode cX4_byHand 72 = .ok (.getfield 13, 3) := by decide +kernel
theorem dX4_byHand_75 : decode cX4_byHand 75 = .ok (.iload_n 2, 1) := by decide +kernel
theorem dX4_byHand_76 : decode cX4_byHand 76 = .ok (.iaload, 1) := by decide +kernel
theorem dX4_byHand_77 : decode cX4_byHand 77 = .ok (.aload_n 0, 1) := by decide +kernel
theorem dX4_byHand_78 : decode cX4_byHand 78 = .ok (.getfield 25, 3) := by decide +kernel
theorem dX4_byHand_81 : decode cX4_byHand 81 = .ok (.iload_n 1, 1) := by decide +kernel
theorem dX4_byHand_82 : decode cX4_byHand 82 = .ok (.iaload, 1) := by decide +kernel
theorem dX4_byHand_83 : decode cX4_byHand 83 = .ok (.invokestatic 158, 3) := by decide +kernel
theorem dX4_byHand_86 : decode cX4_byHand 86 = .ok (.imul, 1) := by decide +kernel
theorem dX4_byHand_87 : decode cX4_byHand 87 = .ok (.sipush 1000, 3) := by decide +kernel
theorem dX4_byHand_90 : decode cX4_byHand 90 = .ok (.idiv, 1) := by decide +kernel
theorem dX4_byHand_91 : decode cX4_byHand 91 = .ok (.aload_n 0, 1) := by decide +kernel
theorem dX4_byHand_92 : decode cX4_byHand 92 = .ok (.getfield 28, 3) := by decide +kernel
theorem dX4_byHand_95 : decode cX4_byHand 95 = .ok (.iload_n 1, 1) := by decide +kernel
theorem dX4_byHand_96 : decode cX4_byHand 96 = .ok (.iaload, 1) := by decide +kernel
theorem dX4_byHand_97 : decode cX4_byHand 97 = .ok (.invokestatic 161, 3) := by decide +kernel
theorem dX4_byHand_100 : decode cX4_byHand 100 = .ok (.ireturn, 1) := by decide +kernel
theorem dX4_byHand_101 : decode cX4_byHand 101 = .ok (.aload_n 0, 1) := by decide +kernel
theorem dX4_byHand_102 : decode cX4_byHand 102 = .ok (.getfield 25, 3) := by decide +kernel
theorem dX4_byHand_105 : decode cX4_byHand 105 = .ok (.iload_n 1, 1) := by decide +kernel
theorem dX4_byHand_106 : decode cX4_byHand 106 = .ok (.iaload, 1) := by decide +kernel
theorem dX4_byHand_107 : decode cX4_byHand 107 = .ok (.ifCond .ne 16, 3) := by decide +kernel
theorem dX4_byHand_110 : decode cX4_byHand 110 = .ok (.iload 4, 2) := by decide +kernel
theorem dX4_byHand_112 : decode cX4_byHand 112 = .ok (.ifCond .le 7, 3) := by decide +kernel
theorem dX4_byHand_115 : decode cX4_byHand 115 = .ok (.iconst 1, 1) := by decide +kernel
theorem dX4_byHand_116 : decode cX4_byHand 116 = .ok (.goto 17, 3) := by decide +kernel
theorem dX4_byHand_119 : decode cX4_byHand 119 = .ok (.iconst 0, 1) := by decide +kernel
theorem dX4_byHand_120 : decode cX4_byHand 120 = .ok (.goto 13, 3) := by decide +kernel
theorem dX4_byHand_123 : decode cX4_byHand 123 = .ok (.iload 4, 2) := by decide +kernel
theorem dX4_byHand_125 : decode cX4_byHand 125 = .ok (.ifCond .ge 7, 3) := by decide +kernel
theorem dX4_byHand_128 : decode cX4_byHand 128 = .ok (.iconst 1, 1) := by decide +kernel
theorem dX4_byHand_129 : decode cX4_byHand 129 = .ok (.goto 4, 3) := by decide +kernel
theorem dX4_byHand_132 : decode cX4_byHand 132 = .ok (.iconst 0, 1) := by decide +kernel
theorem dX4_byHand_133 : decode cX4_byHand 133 = .ok (.istore 5, 2) := by decide +kernel
theorem dX4_byHand_135 : decode cX4_byHand 135 = .ok (.iload 5, 2) := by decide +kernel
theorem dX4_byHand_137 : decode cX4_byHand 137 = .ok (.ifCond .eq 23, 3) := by decide +kernel
theorem dX4_byHand_140 : decode cX4_byHand 140 = .ok (.iload_n 3, 1) := by decide +kernel
theorem dX4_byHand_141 : decode cX4_byHand 141 = .ok (.ineg, 1) := by decide +kernel
theorem dX4_byHand_142 : decode cX4_byHand 142 = .ok (.iload 4, 2) := by decide +kernel
theorem dX4_byHand_144 : decode cX4_byHand 144 = .ok (.imul, 1) := by decide +kernel
theorem dX4_byHand_145 : decode cX4_byHand 145 = .ok (.bipush 100, 2) := by decide +kernel
theorem dX4_byHand_147 : decode cX4_byHand 147 = .ok (.idiv, 1) := by decide +kernel
theorem dX4_byHand_148 : decode cX4_byHand 148 = .ok (.aload_n 0, 1) := by decide +kernel
theorem dX4_byHand_149 : decode cX4_byHand 149 = .ok (.getfield 28, 3) := by decide +kernel
theorem dX4_byHand_152 : decode cX4_byHand 152 = .ok (.iload_n 1, 1) := by decide +kernel
theorem dX4_byHand_153 : decode cX4_byHand 153 = .ok (.iaload, 1) := by decide +kernel
theorem dX4_byHand_154 : decode cX4_byHand 154 = .ok (.invokestatic 161, 3) := by decide +kernel
theorem dX4_byHand_157 : decode cX4_byHand 157 = .ok (.goto 4, 3) := by decide +kernel
theorem dX4_byHand_160 : decode cX4_byHand 160 = .ok (.iconst 0, 1) := by decide +kernel
theorem dX4_byHand_161 : decode cX4_byHand 161 = .ok (.ireturn, 1) := by decide +kernel
theorem dX4_partAt_0 : decode cX4_partAt 0 = .ok (.aload_n 0, 1) := by decide +kernel
theorem dX4_partAt_1 : decode cX4_partAt 1 = .ok (.iload_n 1, 1) := by decide +kernel
theorem dX4_partAt_2 : decode cX4_partAt 2 = .ok (.iload_n 3, 1) := by decide +kernel
theorem dX4_partAt_3 : decode cX4_partAt 3 = .ok (.iload 4, 2) := by decide +kernel
theorem dX4_partAt_5 : decode cX4_partAt 5 = .ok (.invokevirtual 111, 3) := by decide +kernel
theorem dX4_partAt_8 : decode cX4_partAt 8 = .ok (.ifCond .ne 5, 3) := by decide +kernel
theorem dX4_partAt_11 : decode cX4_partAt 11 = .ok (.iconst 0, 1) := by decide +kernel
theorem dX4_partAt_12 : decode cX4_partAt 12 = .ok (.ireturn, 1) := by decide +kernel
theorem dX4_partAt_13 : decode cX4_partAt 13 = .ok (.iload 4, 2) := by decide +kernel
theorem dX4_partAt_15 : decode cX4_partAt 15 = .ok (.iload_n 3, 1) := by decide +kernel
theorem dX4_partAt_16 : decode cX4_partAt 16 = .ok (.isub, 1) := by decide +kernel
theorem dX4_partAt_17 : decode cX4_partAt 17 = .ok (.aload_n 0, 1) := by decide +kernel
theorem dX4_partAt_18 : decode cX4_partAt 18 = .ok (.iload_n 1, 1) := by decide +kernel
theorem dX4_partAt_19 : decode cX4_partAt 19 = .ok (.iconst 1, 1) := by decide +kernel
theorem dX4_partAt_20 : decode cX4_partAt 20 = .ok (.invokevirtual 72, 3) := by decide +kernel
theorem dX4_partAt_23 : decode cX4_partAt 23 = .ok (.isub, 1) := by decide +kernel
theorem dX4_partAt_24 : decode cX4_partAt 24 = .ok (.istore 5, 2) := by decide +kernel
theorem dX4_partAt_26 : decode cX4_partAt 26 = .ok (.aload_n 0, 1) := by decide +kernel
theorem dX4_partAt_27 : decode cX4_partAt 27 = .ok (.getfield 16, 3) := by decide +kernel
theorem dX4_partAt_30 : decode cX4_partAt 30 = .ok (.iload_n 1, 1) := by decide +kernel
theorem dX4_partAt_31 : decode cX4_partAt 31 = .ok (.iaload, 1) := by decide +kernel
theorem dX4_partAt_32 : decode cX4_partAt 32 = .ok (.iconst 4, 1) := by decide +kernel
theorem dX4_partAt_33 : decode cX4_partAt 33 = .ok (.if_icmp .ge 24, 3) := by decide +kernel
theorem dX4_partAt_36 : decode cX4_partAt 36 = .ok (.aload_n 0, 1) := by decide +kernel
theorem dX4_partAt_37 : decode cX4_partAt 37 = .ok (.iload_n 1, 1) := by decide +kernel
theorem dX4_partAt_38 : decode cX4_partAt 38 = .ok (.iload 5, 2) := by decide +kernel
theorem dX4_partAt_40 : decode cX4_partAt 40 = .ok (.invokevirtual 164, 3) := by decide +kernel
theorem dX4_partAt_43 : decode cX4_partAt 43 = .ok (.aload_n 0, 1) := by decide +kernel
theorem dX4_partAt_44 : decode cX4_partAt 44 = .ok (.iload_n 1, 1) := by decide +kernel
theorem dX4_partAt_45 : decode cX4_partAt 45 = .ok (.iload 5, 2) := by decide +kernel
theorem dX4_partAt_47 : decode cX4_partAt 47 = .ok (.invokevirtual 167, 3) := by decide +kernel
theorem dX4_partAt_50 : decode cX4_partAt 50 = .ok (.imul, 1) := by decide +kernel
theorem dX4_partAt_51 : decode cX4_partAt 51 = .ok (.bipush 100, 2) := by decide +kernel
theorem dX4_partAt_53 : decode cX4_partAt 53 = .ok (.idiv, 1) := by decide +kernel
theorem dX4_partAt_54 : decode cX4_partAt 54 = .ok (.goto 9, 3) := by decide +kernel
theorem dX4_partAt_57 : decode cX4_partAt 57 = .ok (.aload_n 0, 1) := by decide +kernel
theorem dX4_partAt_58 : decode cX4_partAt 58 = .ok (.iload_n 1, 1) := by decide +kernel
theorem dX4_partAt_59 : decode cX4_partAt 59 = .ok (.iload_n 2, 1) := by decide +kernel
theorem dX4_partAt_60 : decode cX4_partAt 60 = .ok (.invokevirtual 170, 3) := by decide +kernel
theorem dX4_partAt_63 : decode cX4_partAt 63 = .ok (.istore 6, 2) := by decide +kernel
theorem dX4_partAt_65 : decode cX4_partAt 65 = .ok (.iload 6, 2) := by decide +kernel
theorem dX4_partAt_67 : decode cX4_partAt 67 = .ok (.aload_n 0, 1) := by decide +kernel
theorem dX4_partAt_68 : decode cX4_partAt 68 = .ok (.iload_n 1, 1) := by decide +kernel
theorem dX4_partAt_69 : decode cX4_partAt 69 = .ok (.bipush 8, 2) := by decide +kernel
theorem dX4_partAt_71 : decode cX4_partAt 71 = .ok (.invokevirtual 72, 3) := by decide +kernel
theorem dX4_partAt_74 : decode cX4_partAt 74 = .ok (.imul, 1) := by decide +kernel
theorem dX4_partAt_75 : decode cX4_partAt 75 = .ok (.bipush 100, 2) := by decide +kernel
theorem dX4_partAt_77 : decode cX4_partAt 77 = .ok (.idiv, 1) := by decide +kernel
theorem dX4_partAt_78 : decode cX4_partAt 78 = .ok (.aload_n 0, 1) := by decide +kernel
theorem dX4_partAt_79 : decode cX4_partAt 79 = .ok (.iload_n 1, 1) := by decide +kernel
theorem dX4_partAt_80 : decode cX4_partAt 80 = .ok (.iload_n 2, 1) := by decide +kernel
theorem dX4_partAt_81 : decode cX4_partAt 81 = .ok (.ifCond .ne 8, 3) := by decide +kernel
theorem dX4_partAt_84 : decode cX4_partAt 84 = .ok (.bipush 6, 2) := by decide +kernel
theorem dX4_partAt_86 : decode cX4_partAt 86 = .ok (.goto 5, 3) := by decide +kernel
theorem dX4_partAt_89 : decode cX4_partAt 89 = .ok (.bipush 7, 2) := by decide +kernel
theorem dX4_partAt_91 : decode cX4_partAt 91 = .ok (.invokevirtual 72, 3) := by decide +kernel
theorem dX4_partAt_94 : decode cX4_partAt 94 = .ok (.imul, 1) := by decide +kernel
theorem dX4_partAt_95 : decode cX4_partAt 95 = .ok (.bipush 100, 2) := by decide +kernel
theorem dX4_partAt_97 : decode cX4_partAt 97 = .ok (.idiv, 1) := by decide +kernel
theorem dX4_partAt_98 : decode cX4_partAt 98 = .ok (.ireturn, 1) := by decide +kernel
theorem dX4_rawAt_0 : decode cX4_rawAt 0 = .ok (.aload_n 0, 1) := by decide +kernel
theorem dX4_rawAt_1 : decode cX4_rawAt 1 = .ok (.iload_n 2, 1) := by decide +kernel
theorem dX4_rawAt_2 : decode cX4_rawAt 2 = .ok (.invokevirtual 143, 3) := by decide +kernel
theorem dX4_rawAt_5 : decode cX4_rawAt 5 = .ok (.ifCond .eq 5, 3) := by decide +kernel
theorem dX4_rawAt_8 : decode cX4_rawAt 8 = .ok (.iconst 0, 1) := by decide +kernel
theorem dX4_rawAt_9 : decode cX4_rawAt 9 = .ok (.ireturn, 1) := by decide +kernel
theorem dX4_rawAt_10 : decode cX4_rawAt 10 = .ok (.iconst 0, 1) := by decide +kernel
theorem dX4_rawAt_11 : decode cX4_rawAt 11 = .ok (.istore 4, 2) := by decide +kernel
theorem dX4_rawAt_13 : decode cX4_rawAt 13 = .ok (.iconst 0, 1) := by decide +kernel
theorem dX4_rawAt_14 : decode cX4_rawAt 14 = .ok (.istore 5, 2) := by decide +kernel
theorem dX4_rawAt_16 : decode cX4_rawAt 16 = .ok (.iload 5, 2) := by decide +kernel
theorem dX4_rawAt_18 : decode cX4_rawAt 18 = .ok (.aload_n 0, 1) := by decide +kernel
theorem dX4_rawAt_19 : decode cX4_rawAt 19 = .ok (.getfield 56, 3) := by decide +kernel
theorem dX4_rawAt_22 : decode cX4_rawAt 22 = .ok (.if_icmp .ge 55, 3) := by decide +kernel
theorem dX4_rawAt_25 : decode cX4_rawAt 25 = .ok (.iload_n 3, 1) := by decide +kernel
theorem dX4_rawAt_26 : decode cX4_rawAt 26 = .ok (.iload 5, 2) := by decide +kernel
theorem dX4_rawAt_28 : decode cX4_rawAt 28 = .ok (.ishr, 1) := by decide +kernel
theorem dX4_rawAt_29 : decode cX4_rawAt 29 = .ok (.iconst 1, 1) := by decide +kernel
theorem dX4_rawAt_30 : decode cX4_rawAt 30 = .ok (.iand, 1) := by decide +kernel
theorem dX4_rawAt_31 : decode cX4_rawAt 31 = .ok (.iconst 1, 1) := by decide +kernel
theorem dX4_rawAt_32 : decode cX4_rawAt 32 = .ok (.if_icmp .ne 8, 3) := by decide +kernel
theorem dX4_rawAt_35 : decode cX4_rawAt 35 = .ok (.bipush (-9), 2) := by decide +kernel
theorem dX4_rawAt_37 : decode cX4_rawAt 37 = .ok (.goto 10, 3) := by decide +kernel
theorem dX4_rawAt_40 : decode cX4_rawAt 40 = .ok (.aload_n 0, 1) := by decide +kernel
theorem dX4_rawAt_41 : decode cX4_rawAt 41 = .ok (.getfield 34, 3) := by decide +kernel
theorem dX4_rawAt_44 : decode cX4_rawAt 44 = .ok (.iload 5, 2) := by decide +kernel
theorem dX4_rawAt_46 : decode cX4_rawAt 46 = .ok (.iaload, 1) := by decide +kernel
theorem dX4_rawAt_47 : decode cX4_rawAt 47 = .ok (.istore 6, 2) := by decide +kernel
theorem dX4_rawAt_49 : decode cX4_rawAt 49 = .ok (.iload 4, 2) := by decide +kernel
theorem dX4_rawAt_51 : decode cX4_rawAt 51 = .ok (.aload_n 0, 1) := by decide +kernel
theorem dX4_rawAt_52 : decode cX4_rawAt 52 = .ok (.iload 5, 2) := by decide +kernel
theorem dX4_rawAt_54 : decode cX4_rawAt 54 = .ok (.iload_n 1, 1) := by decide +kernel
theorem dX4_rawAt_55 : decode cX4_rawAt 55 = .ok (.aload_n 0, 1) := by decide +kernel
theorem dX4_rawAt_56 : decode cX4_rawAt 56 = .ok (.iload 5, 2) := by decide +kernel
theorem dX4_rawAt_58 : decode cX4_rawAt 58 = .ok (.iload 6, 2) := by decide +kernel
theorem dX4_rawAt_60 : decode cX4_rawAt 60 = .ok (.iload_n 2, 1) := by decide +kernel
theorem dX4_rawAt_61 : decode cX4_rawAt 61 = .ok (.invokevirtual 138, 3) := by decide +kernel
theorem dX4_rawAt_64 : decode cX4_rawAt 64 = .ok (.iload_n 2, 1) := by decide +kernel
theorem dX4_rawAt_65 : decode cX4_rawAt 65 = .ok (.invokevirtual 173, 3) := by decide +kernel
theorem dX4_rawAt_68 : decode cX4_rawAt 68 = .ok (.iadd, 1) := by decide +kernel
theorem dX4_rawAt_69 : decode cX4_rawAt 69 = .ok (.istore 4, 2) := by decide +kernel
theorem dX4_rawAt_71 : decode cX4_rawAt 71 = .ok (.iinc 5 1, 3) := by decide +kernel
theorem dX4_rawAt_74 : decode cX4_rawAt 74 = .ok (.goto (-58), 3) := by decide +kernel
theorem dX4_rawAt_77 : decode cX4_rawAt 77 = .ok (.iload 4, 2) := by decide +kernel
theorem dX4_rawAt_79 : decode cX4_rawAt 79 = .ok (.ireturn, 1) := by decide +kernel
theorem dX4_part_0 : decode cX4_part 0 = .ok (.aload_n 0, 1) := by decide +kernel
theorem dX4_part_1 : decode cX4_part 1 = .ok (.iload_n 1, 1) := by decide +kernel
theorem dX4_part_2 : decode cX4_part 2 = .ok (.invokevirtual 76, 3) := by decide +kernel
theorem dX4_part_5 : decode cX4_part 5 = .ok (.ifCond .eq 10, 3) := by decide +kernel
theorem dX4_part_8 : decode cX4_part 8 = .ok (.iload_n 2, 1) := by decide +kernel
theorem dX4_part_9 : decode cX4_part 9 = .ok (.invokestatic 101, 3) := by decide +kernel
theorem dX4_part_12 : decode cX4_part 12 = .ok (.ifCond .ne 5, 3) := by decide +kernel
theorem dX4_part_15 : decode cX4_part 15 = .ok (.iconst (-1), 1) := by decide +kernel
theorem dX4_part_16 : decode cX4_part 16 = .ok (.ireturn, 1) := by decide +kernel
theorem dX4_part_17 : decode cX4_part 17 = .ok (.aload_n 0, 1) := by decide +kernel
theorem dX4_part_18 : decode cX4_part 18 = .ok (.iload_n 1, 1) := by decide +kernel
theorem dX4_part_19 : decode cX4_part 19 = .ok (.iload_n 2, 1) := by decide +kernel
theorem dX4_part_20 : decode cX4_part 20 = .ok (.aload_n 0, 1) := by decide +kernel
theorem dX4_part_21 : decode cX4_part 21 = .ok (.getfield 34, 3) := by decide +kernel
theorem dX4_part_24 : decode cX4_part 24 = .ok (.iload_n 1, 1) := by decide +kernel
theorem dX4_part_25 : decode cX4_part 25 = .ok (.iaload, 1) := by decide +kernel
theorem dX4_part_26 : decode cX4_part 26 = .ok (.aload_n 0, 1) := by decide +kernel
theorem dX4_part_27 : decode cX4_part 27 = .ok (.getfield 91, 3) := by decide +kernel
theorem dX4_part_30 : decode cX4_part 30 = .ok (.invokevirtual 173, 3) := by decide +kernel
theorem dX4_part_33 : decode cX4_part 33 = .ok (.sipush 10000, 3) := by decide +kernel
theorem dX4_part_36 : decode cX4_part 36 = .ok (.iadd, 1) := by decide +kernel
theorem dX4_part_37 : decode cX4_part 37 = .ok (.ireturn, 1) := by decide +kernel
theorem dX4_envelope_0 : decode cX4_envelope 0 = .ok (.aload_n 0, 1) := by decide +kernel
theorem dX4_envelope_1 : decode cX4_envelope 1 = .ok (.iload_n 1, 1) := by decide +kernel
theorem dX4_envelope_2 : decode cX4_envelope 2 = .ok (.invokevirtual 76, 3) := by decide +kernel
theorem dX4_envelope_5 : decode cX4_envelope 5 = .ok (.ifCond .ne 5, 3) := by decide +kernel
theorem dX4_envelope_8 : decode cX4_envelope 8 = .ok (.iconst (-1), 1) := by decide +kernel
theorem dX4_envelope_9 : decode cX4_envelope 9 = .ok (.ireturn, 1) := by decide +kernel
theorem dX4_envelope_10 : decode cX4_envelope 10 = .ok (.aload_n 0, 1) := by decide +kernel
theorem dX4_envelope_11 : decode cX4_envelope 11 = .ok (.iload_n 1, 1) := by decide +kernel
theorem dX4_envelope_12 : decode cX4_envelope 12 = .ok (.aload_n 0, 1) := by decide +kernel
theorem dX4_envelope_13 : decode cX4_envelope 13 = .ok (.getfield 34, 3) := by decide +kernel
theorem dX4_envelope_16 : decode cX4_envelope 16 = .ok (.iload_n 1, 1) := by decide +kernel
theorem dX4_envelope_17 : decode cX4_envelope 17 = .ok (.iaload, 1) := by decide +kernel
theorem dX4_envelope_18 : decode cX4_envelope 18 = .ok (.aload_n 0, 1) := by decide +kernel
theorem dX4_envelope_19 : decode cX4_envelope 19 = .ok (.getfield 91, 3) := by decide +kernel
theorem dX4_envelope_22 : decode cX4_envelope 22 = .ok (.invokevirtual 111, 3) := by decide +kernel
theorem dX4_envelope_25 : decode cX4_envelope 25 = .ok (.ifCond .eq 17, 3) := by decide +kernel
theorem dX4_envelope_28 : decode cX4_envelope 28 = .ok (.aload_n 0, 1) := by decide +kernel
theorem dX4_envelope_29 : decode cX4_envelope 29 = .ok (.getfield 16, 3) := by decide +kernel
theorem dX4_envelope_32 : decode cX4_envelope 32 = .ok (.iload_n 1, 1) := by decide +kernel
theorem dX4_envelope_33 : decode cX4_envelope 33 = .ok (.iaload, 1) := by decide +kernel
theorem dX4_envelope_34 : decode cX4_envelope 34 = .ok (.iconst 4, 1) := by decide +kernel
theorem dX4_envelope_35 : decode cX4_envelope 35 = .ok (.if_icmp .ge 7, 3) := by decide +kernel
theorem dX4_envelope_38 : decode cX4_envelope 38 = .ok (.iconst 1, 1) := by decide +kernel
theorem dX4_envelope_39 : decode cX4_envelope 39 = .ok (.goto 4, 3) := by decide +kernel
theorem dX4_envelope_42 : decode cX4_envelope 42 = .ok (.iconst 0, 1) := by decide +kernel
theorem dX4_envelope_43 : decode cX4_envelope 43 = .ok (.istore_n 2, 1) := by decide +kernel
theorem dX4_envelope_44 : decode cX4_envelope 44 = .ok (.iload_n 2, 1) := by decide +kernel
theorem dX4_envelope_45 : decode cX4_envelope 45 = .ok (.ifCond .eq 29, 3) := by decide +kernel
theorem dX4_envelope_48 : decode cX4_envelope 48 = .ok (.aload_n 0, 1) := by decide +kernel
theorem dX4_envelope_49 : decode cX4_envelope 49 = .ok (.iload_n 1, 1) := by decide +kernel
theorem dX4_envelope_50 : decode cX4_envelope 50 = .ok (.aload_n 0, 1) := by decide +kernel
theorem dX4_envelope_51 : decode cX4_envelope 51 = .ok (.getfield 91, 3) := by decide +kernel
theorem dX4_envelope_54 : decode cX4_envelope 54 = .ok (.aload_n 0, 1) := by decide +kernel
theorem dX4_envelope_55 : decode cX4_envelope 55 = .ok (.getfield 34, 3) := by decide +kernel
theorem dX4_envelope_58 : decode cX4_envelope 58 = .ok (.iload_n 1, 1) := by decide +kernel
theorem dX4_envelope_59 : decode cX4_envelope 59 = .ok (.iaload, 1) := by decide +kernel
theorem dX4_envelope_60 : decode cX4_envelope 60 = .ok (.isub, 1) := by decide +kernel
theorem dX4_envelope_61 : decode cX4_envelope 61 = .ok (.aload_n 0, 1) := by decide +kernel
theorem dX4_envelope_62 : decode cX4_envelope 62 = .ok (.iload_n 1, 1) := by decide +kernel
theorem dX4_envelope_63 : decode cX4_envelope 63 = .ok (.iconst 1, 1) := by decide +kernel
theorem dX4_envelope_64 : decode cX4_envelope 64 = .ok (.invokevirtual 72, 3) := by decide +kernel
theorem dX4_envelope_67 : decode cX4_envelope 67 = .ok (.isub, 1) := by decide +kernel
theorem dX4_envelope_68 : decode cX4_envelope 68 = .ok (.invokevirtual 167, 3) := by decide +kernel
theorem dX4_envelope_71 : decode cX4_envelope 71 = .ok (.goto 5, 3) := by decide +kernel
theorem dX4_envelope_74 : decode cX4_envelope 74 = .ok (.bipush (-9), 2) := by decide +kernel
theorem dX4_envelope_76 : decode cX4_envelope 76 = .ok (.ireturn, 1) := by decide +kernel
theorem dX4_force_0 : decode cX4_force 0 = .ok (.iload_n 1, 1) := by decide +kernel
theorem dX4_force_1 : decode cX4_force 1 = .ok (.invokestatic 101, 3) := by decide +kernel
theorem dX4_force_4 : decode cX4_force 4 = .ok (.ifCond .ne 5, 3) := by decide +kernel
theorem dX4_force_7 : decode cX4_force 7 = .ok (.iconst (-1), 1) := by decide +kernel
theorem dX4_force_8 : decode cX4_force 8 = .ok (.ireturn, 1) := by decide +kernel
theorem dX4_force_9 : decode cX4_force 9 = .ok (.iload_n 2, 1) := by decide +kernel
theorem dX4_force_10 : decode cX4_force 10 = .ok (.iconst 0, 1) := by decide +kernel
theorem dX4_force_11 : decode cX4_force 11 = .ok (.iconst 1, 1) := by decide +kernel
theorem dX4_force_12 : decode cX4_force 12 = .ok (.invokestatic 59, 3) := by decide +kernel
theorem dX4_force_15 : decode cX4_force 15 = .ok (.ifCond .ne 6, 3) := by decide +kernel
theorem dX4_force_18 : decode cX4_force 18 = .ok (.bipush (-2), 2) := by decide +kernel
theorem dX4_force_20 : decode cX4_force 20 = .ok (.ireturn, 1) := by decide +kernel
theorem dX4_force_21 : decode cX4_force 21 = .ok (.aload_n 0, 1) := by decide +kernel
theorem dX4_force_22 : decode cX4_force 22 = .ok (.iload_n 1, 1) := by decide +kernel
theorem dX4_force_23 : decode cX4_force 23 = .ok (.aload_n 0, 1) := by decide +kernel
theorem dX4_force_24 : decode cX4_force 24 = .ok (.getfield 91, 3) := by decide +kernel
theorem dX4_force_27 : decode cX4_force 27 = .ok (.iconst 0, 1) := by decide +kernel
theorem dX4_force_28 : decode cX4_force 28 = .ok (.invokevirtual 177, 3) := by decide +kernel
theorem dX4_force_31 : decode cX4_force 31 = .ok (.istore_n 3, 1) := by decide +kernel
theorem dX4_force_32 : decode cX4_force 32 = .ok (.iload_n 2, 1) := by decide +kernel
theorem dX4_force_33 : decode cX4_force 33 = .ok (.ifCond .ne 10, 3) := by decide +kernel
theorem dX4_force_36 : decode cX4_force 36 = .ok (.iload_n 3, 1) := by decide +kernel
theorem dX4_force_37 : decode cX4_force 37 = .ok (.ldc 142, 2) := by decide +kernel
theorem dX4_force_39 : decode cX4_force 39 = .ok (.iadd, 1) := by decide +kernel
theorem dX4_force_40 : decode cX4_force 40 = .ok (.goto 22, 3) := by decide +kernel
theorem dX4_force_43 : decode cX4_force 43 = .ok (.iload_n 3, 1) := by decide +kernel
theorem dX4_force_44 : decode cX4_force 44 = .ok (.sipush 1000, 3) := by decide +kernel
theorem dX4_force_47 : decode cX4_force 47 = .ok (.invokestatic 161, 3) := by decide +kernel
theorem dX4_force_50 : decode cX4_force 50 = .ok (.aload_n 0, 1) := by decide +kernel
theorem dX4_force_51 : decode cX4_force 51 = .ok (.getfield 50, 3) := by decide +kernel
theorem dX4_force_54 : decode cX4_force 54 = .ok (.imul, 1) := by decide +kernel
theorem dX4_force_55 : decode cX4_force 55 = .ok (.bipush 100, 2) := by decide +kernel
theorem dX4_force_57 : decode cX4_force 57 = .ok (.idiv, 1) := by decide +kernel
theorem dX4_force_58 : decode cX4_force 58 = .ok (.sipush 10000, 3) := by decide +kernel
theorem dX4_force_61 : decode cX4_force 61 = .ok (.iadd, 1) := by decide +kernel
theorem dX4_force_62 : decode cX4_force 62 = .ok (.ireturn, 1) := by decide +kernel
theorem dX4_rate_0 : decode cX4_rate 0 = .ok (.iload_n 1, 1) := by decide +kernel
theorem dX4_rate_1 : decode cX4_rate 1 = .ok (.iconst 1, 1) := by decide +kernel
theorem dX4_rate_2 : decode cX4_rate 2 = .ok (.sipush 1000, 3) := by decide +kernel
theorem dX4_rate_5 : decode cX4_rate 5 = .ok (.invokestatic 59, 3) := by decide +kernel
theorem dX4_rate_8 : decode cX4_rate 8 = .ok (.ifCond .ne 6, 3) := by decide +kernel
theorem dX4_rate_11 : decode cX4_rate 11 = .ok (.bipush (-2), 2) := by decide +kernel
theorem dX4_rate_13 : decode cX4_rate 13 = .ok (.ireturn, 1) := by decide +kernel
theorem dX4_rate_14 : decode cX4_rate 14 = .ok (.aload_n 0, 1) := by decide +kernel
theorem dX4_rate_15 : decode cX4_rate 15 = .ok (.getfield 53, 3) := by decide +kernel
theorem dX4_rate_18 : decode cX4_rate 18 = .ok (.istore_n 2, 1) := by decide +kernel
theorem dX4_rate_19 : decode cX4_rate 19 = .ok (.aload_n 0, 1) := by decide +kernel
theorem dX4_rate_20 : decode cX4_rate 20 = .ok (.iload_n 1, 1) := by decide +kernel
theorem dX4_rate_21 : decode cX4_rate 21 = .ok (.putfield 53, 3) := by decide +kernel
theorem dX4_rate_24 : decode cX4_rate 24 = .ok (.iload_n 2, 1) := by decide +kernel
theorem dX4_rate_25 : decode cX4_rate 25 = .ok (.ireturn, 1) := by decide +kernel
theorem dX4_frame_0 : decode cX4_frame 0 = .ok (.iload_n 1, 1) := by decide +kernel
theorem dX4_frame_1 : decode cX4_frame 1 = .ok (.iconst 0, 1) := by decide +kernel
theorem dX4_frame_2 : decode cX4_frame 2 = .ok (.ldc 180, 2) := by decide +kernel
theorem dX4_frame_4 : decode cX4_frame 4 = .ok (.invokestatic 59, 3) := by decide +kernel
theorem dX4_frame_7 : decode cX4_frame 7 = .ok (.ifCond .eq 16, 3) := by decide +kernel
theorem dX4_frame_10 : decode cX4_frame 10 = .ok (.sipush 1000, 3) := by decide +kernel
theorem dX4_frame_13 : decode cX4_frame 13 = .ok (.iload_n 1, 1) := by decide +kernel
theorem dX4_frame_14 : decode cX4_frame 14 = .ok (.imul, 1) := by decide +kernel
theorem dX4_frame_15 : decode cX4_frame 15 = .ok (.aload_n 0, 1) := by decide +kernel
theorem dX4_frame_16 : decode cX4_frame 16 = .ok (.getfield 53, 3) := by decide +kernel
theorem dX4_frame_19 : decode cX4_frame 19 = .ok (.idiv, 1) := by decide +kernel
theorem dX4_frame_20 : decode cX4_frame 20 = .ok (.goto 5, 3) := by decide +kernel
theorem dX4_frame_23 : decode cX4_frame 23 = .ok (.bipush (-2), 2) := by decide +kernel
theorem dX4_frame_25 : decode cX4_frame 25 = .ok (.ireturn, 1) := by decide +kernel
theorem dX4_frames_0 : decode cX4_frames 0 = .ok (.aload_n 0, 1) := by decide +kernel
theorem dX4_frames_1 : decode cX4_frames 1 = .ok (.getfield 91, 3) := by decide +kernel
theorem dX4_frames_4 : decode cX4_frames 4 = .ok (.i2l, 1) := by decide +kernel
theorem dX4_frames_5 : decode cX4_frames 5 = .ok (.lconst 1, 1) := by decide +kernel
theorem dX4_frames_6 : decode cX4_frames 6 = .ok (.ladd, 1) := by decide +kernel
theorem dX4_frames_7 : decode cX4_frames 7 = .ok (.aload_n 0, 1) := by decide +kernel
theorem dX4_frames_8 : decode cX4_frames 8 = .ok (.getfield 53, 3) := by decide +kernel
theorem dX4_frames_11 : decode cX4_frames 11 = .ok (.i2l, 1) := by decide +kernel
theorem dX4_frames_12 : decode cX4_frames 12 = .ok (.lmul, 1) := by decide +kernel
theorem dX4_frames_13 : decode cX4_frames 13 = .ok (.lconst 1, 1) := by decide +kernel
theorem dX4_frames_14 : decode cX4_frames 14 = .ok (.lsub, 1) := by decide +kernel
theorem dX4_frames_15 : decode cX4_frames 15 = .ok (.ldc2_w 181, 3) := by decide +kernel
theorem dX4_frames_18 : decode cX4_frames 18 = .ok (.ldiv, 1) := by decide +kernel
theorem dX4_frames_19 : decode cX4_frames 19 = .ok (.l2i, 1) := by decide +kernel
theorem dX4_frames_20 : decode cX4_frames 20 = .ok (.iconst 1, 1) := by decide +kernel
theorem dX4_frames_21 : decode cX4_frames 21 = .ok (.iadd, 1) := by decide +kernel
theorem dX4_frames_22 : decode cX4_frames 22 = .ok (.ireturn, 1) := by decide +kernel
theorem dX4_peak_0 : decode cX4_peak 0 = .ok (.iload_n 1, 1) := by decide +kernel
theorem dX4_peak_1 : decode cX4_peak 1 = .ok (.invokestatic 101, 3) := by decide +kernel
theorem dX4_peak_4 : decode cX4_peak 4 = .ok (.ifCond .ne 5, 3) := by decide +kernel
theorem dX4_peak_7 : decode cX4_peak 7 = .ok (.iconst (-1), 1) := by decide +kernel
theorem dX4_peak_8 : decode cX4_peak 8 = .ok (.ireturn, 1) := by decide +kernel
theorem dX4_peak_9 : decode cX4_peak 9 = .ok (.iload_n 2, 1) := by decide +kernel
theorem dX4_peak_10 : decode cX4_peak 10 = .ok (.iconst 1, 1) := by decide +kernel
theorem dX4_peak_11 : decode cX4_peak 11 = .ok (.sipush 2000, 3) := by decide +kernel
theorem dX4_peak_14 : decode cX4_peak 14 = .ok (.invokestatic 59, 3) := by decide +kernel
theorem dX4_peak_17 : decode cX4_peak 17 = .ok (.ifCond .eq 12, 3) := by decide +kernel
theorem dX4_peak_20 : decode cX4_peak 20 = .ok (.iload_n 3, 1) := by decide +kernel
theorem dX4_peak_21 : decode cX4_peak 21 = .ok (.iconst 0, 1) := by decide +kernel
theorem dX4_peak_22 : decode cX4_peak 22 = .ok (.iconst 1, 1) := by decide +kernel
theorem dX4_peak_23 : decode cX4_peak 23 = .ok (.invokestatic 59, 3) := by decide +kernel
theorem dX4_peak_26 : decode cX4_peak 26 = .ok (.ifCond .ne 6, 3) := by decide +kernel
theorem dX4_peak_29 : decode cX4_peak 29 = .ok (.bipush (-2), 2) := by decide +kernel
theorem dX4_peak_31 : decode cX4_peak 31 = .ok (.ireturn, 1) := by decide +kernel
theorem dX4_peak_32 : decode cX4_peak 32 = .ok (.iconst (-1), 1) := by decide +kernel
theorem dX4_peak_33 : decode cX4_peak 33 = .ok (.istore 4, 2) := by decide +kernel
theorem dX4_peak_35 : decode cX4_peak 35 = .ok (.iconst 0, 1) := by decide +kernel
theorem dX4_peak_36 : decode cX4_peak 36 = .ok (.istore 5, 2) := by decide +kernel
theorem dX4_peak_38 : decode cX4_peak 38 = .ok (.iconst 0, 1) := by decide +kernel
theorem dX4_peak_39 : decode cX4_peak 39 = .ok (.istore 6, 2) := by decide +kernel
theorem dX4_peak_41 : decode cX4_peak 41 = .ok (.iload 6, 2) := by decide +kernel
theorem dX4_peak_43 : decode cX4_peak 43 = .ok (.iload_n 2, 1) := by decide +kernel
theorem dX4_peak_44 : decode cX4_peak 44 = .ok (.if_icmp .ge 42, 3) := by decide +kernel
theorem dX4_peak_47 : decode cX4_peak 47 = .ok (.aload_n 0, 1) := by decide +kernel
theorem dX4_peak_48 : decode cX4_peak 48 = .ok (.iload_n 1, 1) := by decide +kernel
theorem dX4_peak_49 : decode cX4_peak 49 = .ok (.aload_n 0, 1) := by decide +kernel
theorem dX4_peak_50 : decode cX4_peak 50 = .ok (.getfield 91, 3) := by decide +kernel
theorem dX4_peak_53 : decode cX4_peak 53 = .ok (.iload 6, 2) := by decide +kernel
theorem dX4_peak_55 : decode cX4_peak 55 = .ok (.iadd, 1) := by decide +kernel
theorem dX4_peak_56 : decode cX4_peak 56 = .ok (.iconst 0, 1) := by decide +kernel
theorem dX4_peak_57 : decode cX4_peak 57 = .ok (.invokevirtual 177, 3) := by decide +kernel
theorem dX4_peak_60 : decode cX4_peak 60 = .ok (.invokestatic 155, 3) := by decide +kernel
theorem dX4_peak_63 : decode cX4_peak 63 = .ok (.istore 7, 2) := by decide +kernel
theorem dX4_peak_65 : decode cX4_peak 65 = .ok (.iload 7, 2) := by decide +kernel
theorem dX4_peak_67 : decode cX4_peak 67 = .ok (.iload 4, 2) := by decide +kernel
theorem dX4_peak_69 : decode cX4_peak 69 = .ok (.if_icmp .le 11, 3) := by decide +kernel
theorem dX4_peak_72 : decode cX4_peak 72 = .ok (.iload 7, 2) := by decide +kernel
theorem dX4_peak_74 : decode cX4_peak 74 = .ok (.istore 4, 2) := by decide +kernel
theorem dX4_peak_76 : decode cX4_peak 76 = .ok (.iload 6, 2) := by decide +kernel
theorem dX4_peak_78 : decode cX4_peak 78 = .ok (.istore 5, 2) := by decide +kernel
theorem dX4_peak_80 : decode cX4_peak 80 = .ok (.iinc 6 1, 3) := by decide +kernel
theorem dX4_peak_83 : decode cX4_peak 83 = .ok (.goto (-42), 3) := by decide +kernel
theorem dX4_peak_86 : decode cX4_peak 86 = .ok (.iload_n 3, 1) := by decide +kernel
theorem dX4_peak_87 : decode cX4_peak 87 = .ok (.ifCond .ne 8, 3) := by decide +kernel
theorem dX4_peak_90 : decode cX4_peak 90 = .ok (.iload 4, 2) := by decide +kernel
theorem dX4_peak_92 : decode cX4_peak 92 = .ok (.goto 5, 3) := by decide +kernel
theorem dX4_peak_95 : decode cX4_peak 95 = .ok (.iload 5, 2) := by decide +kernel
theorem dX4_peak_97 : decode cX4_peak 97 = .ok (.ireturn, 1) := by decide +kernel
theorem dX4_isHeldBack_0 : decode cX4_isHeldBack 0 = .ok (.aload_n 0, 1) := by decide +kernel
theorem dX4_isHeldBack_1 : decode cX4_isHeldBack 1 = .ok (.iconst 0, 1) := by decide +kernel
theorem dX4_isHeldBack_2 : decode cX4_isHeldBack 2 = .ok (.iload_n 1, 1) := by decide +kernel
theorem dX4_isHeldBack_3 : decode cX4_isHeldBack 3 = .ok (.iload_n 2, 1) := by decide +kernel
theorem dX4_isHeldBack_4 : decode cX4_isHeldBack 4 = .ok (.invokevirtual 177, 3) := by decide +kernel
theorem dX4_isHeldBack_7 : decode cX4_isHeldBack 7 = .ok (.invokestatic 155, 3) := by decide +kernel
theorem dX4_isHeldBack_10 : decode cX4_isHeldBack 10 = .ok (.sipush 1000, 3) := by decide +kernel
theorem dX4_isHeldBack_13 : decode cX4_isHeldBack 13 = .ok (.if_icmp .gt 19, 3) := by decide +kernel
theorem dX4_isHeldBack_16 : decode cX4_isHeldBack 16 = .ok (.aload_n 0, 1) := by decide +kernel
theorem dX4_isHeldBack_17 : decode cX4_isHeldBack 17 = .ok (.iconst 1, 1) := by decide +kernel
theorem dX4_isHeldBack_18 : decode cX4_isHeldBack 18 = .ok (.iload_n 1, 1) := by decide +kernel
theorem dX4_isHeldBack_19 : decode cX4_isHeldBack 19 = .ok (.iload_n 2, 1) := by decide +kernel
theorem dX4_isHeldBack_20 : decode cX4_isHeldBack 20 = .ok (.invokevirtual 177, 3) := by decide +kernel
theorem dX4_isHeldBack_23 : decode cX4_isHeldBack 23 = .ok (.invokestatic 155, 3) := by decide +kernel
theorem dX4_isHeldBack_26 : decode cX4_isHeldBack 26 = .ok (.sipush 1000, 3) := by decide +kernel
theorem dX4_isHeldBack_29 : decode cX4_isHeldBack 29 = .ok (.if_icmp .le 7, 3) := by decide +kernel
theorem dX4_isHeldBack_32 : decode cX4_isHeldBack 32 = .ok (.iconst 1, 1) := by decide +kernel
theorem dX4_isHeldBack_33 : decode cX4_isHeldBack 33 = .ok (.goto 4, 3) := by decide +kernel
theorem dX4_isHeldBack_36 : decode cX4_isHeldBack 36 = .ok (.iconst 0, 1) := by decide +kernel
theorem dX4_isHeldBack_37 : decode cX4_isHeldBack 37 = .ok (.ireturn, 1) := by decide +kernel
theorem dX4_soLong_0 : decode cX4_soLong 0 = .ok (.iload_n 1, 1) := by decide +kernel
theorem dX4_soLong_1 : decode cX4_soLong 1 = .ok (.iconst 1, 1) := by decide +kernel
theorem dX4_soLong_2 : decode cX4_soLong 2 = .ok (.sipush 2000, 3) := by decide +kernel
theorem dX4_soLong_5 : decode cX4_soLong 5 = .ok (.invokestatic 59, 3) := by decide +kernel
theorem dX4_soLong_8 : decode cX4_soLong 8 = .ok (.ifCond .ne 6, 3) := by decide +kernel
theorem dX4_soLong_11 : decode cX4_soLong 11 = .ok (.bipush (-2), 2) := by decide +kernel
theorem dX4_soLong_13 : decode cX4_soLong 13 = .ok (.ireturn, 1) := by decide +kernel
theorem dX4_soLong_14 : decode cX4_soLong 14 = .ok (.iconst 0, 1) := by decide +kernel
theorem dX4_soLong_15 : decode cX4_soLong 15 = .ok (.istore_n 2, 1) := by decide +kernel
theorem dX4_soLong_16 : decode cX4_soLong 16 = .ok (.iconst 0, 1) := by decide +kernel
theorem dX4_soLong_17 : decode cX4_soLong 17 = .ok (.istore_n 3, 1) := by decide +kernel
theorem dX4_soLong_18 : decode cX4_soLong 18 = .ok (.iload_n 3, 1) := by decide +kernel
theorem dX4_soLong_19 : decode cX4_soLong 19 = .ok (.iload_n 1, 1) := by decide +kernel
theorem dX4_soLong_20 : decode cX4_soLong 20 = .ok (.if_icmp .ge 31, 3) := by decide +kernel
theorem dX4_soLong_23 : decode cX4_soLong 23 = .ok (.iload_n 2, 1) := by decide +kernel
theorem dX4_soLong_24 : decode cX4_soLong 24 = .ok (.aload_n 0, 1) := by decide +kernel
theorem dX4_soLong_25 : decode cX4_soLong 25 = .ok (.aload_n 0, 1) := by decide +kernel
theorem dX4_soLong_26 : decode cX4_soLong 26 = .ok (.getfield 91, 3) := by decide +kernel
theorem dX4_soLong_29 : decode cX4_soLong 29 = .ok (.iload_n 3, 1) := by decide +kernel
theorem dX4_soLong_30 : decode cX4_soLong 30 = .ok (.iadd, 1) := by decide +kernel
theorem dX4_soLong_31 : decode cX4_soLong 31 = .ok (.iconst 0, 1) := by decide +kernel
theorem dX4_soLong_32 : decode cX4_soLong 32 = .ok (.invokevirtual 183, 3) := by decide +kernel
theorem dX4_soLong_35 : decode cX4_soLong 35 = .ok (.ifCond .eq 7, 3) := by decide +kernel
theorem dX4_soLong_38 : decode cX4_soLong 38 = .ok (.iconst 1, 1) := by decide +kernel
theorem dX4_soLong_39 : decode cX4_soLong 39 = .ok (.goto 4, 3) := by decide +kernel
theorem dX4_soLong_42 : decode cX4_soLong 42 = .ok (.iconst 0, 1) := by decide +kernel
theorem dX4_soLong_43 : decode cX4_soLong 43 = .ok (.iadd, 1) := by decide +kernel
theorem dX4_soLong_44 : decode cX4_soLong 44 = .ok (.istore_n 2, 1) := by decide +kernel
theorem dX4_soLong_45 : decode cX4_soLong 45 = .ok (.iinc 3 1, 3) := by decide +kernel
theorem dX4_soLong_48 : decode cX4_soLong 48 = .ok (.goto (-30), 3) := by decide +kernel
theorem dX4_soLong_51 : decode cX4_soLong 51 = .ok (.iload_n 2, 1) := by decide +kernel
theorem dX4_soLong_52 : decode cX4_soLong 52 = .ok (.ireturn, 1) := by decide +kernel
theorem dX4_isQuiet_0 : decode cX4_isQuiet 0 = .ok (.iconst 0, 1) := by decide +kernel
theorem dX4_isQuiet_1 : decode cX4_isQuiet 1 = .ok (.istore_n 3, 1) := by decide +kernel
theorem dX4_isQuiet_2 : decode cX4_isQuiet 2 = .ok (.iload_n 3, 1) := by decide +kernel
theorem dX4_isQuiet_3 : decode cX4_isQuiet 3 = .ok (.iload_n 1, 1) := by decide +kernel
theorem dX4_isQuiet_4 : decode cX4_isQuiet 4 = .ok (.if_icmp .ge 25, 3) := by decide +kernel
theorem dX4_isQuiet_7 : decode cX4_isQuiet 7 = .ok (.aload_n 0, 1) := by decide +kernel
theorem dX4_isQuiet_8 : decode cX4_isQuiet 8 = .ok (.aload_n 0, 1) := by decide +kernel
theorem dX4_isQuiet_9 : decode cX4_isQuiet 9 = .ok (.getfield 91, 3) := by decide +kernel
theorem dX4_isQuiet_12 : decode cX4_isQuiet 12 = .ok (.iload_n 3, 1) := by decide +kernel
theorem dX4_isQuiet_13 : decode cX4_isQuiet 13 = .ok (.iadd, 1) := by decide +kernel
theorem dX4_isQuiet_14 : decode cX4_isQuiet 14 = .ok (.iload_n 2, 1) := by decide +kernel
theorem dX4_isQuiet_15 : decode cX4_isQuiet 15 = .ok (.invokevirtual 183, 3) := by decide +kernel
theorem dX4_isQuiet_18 : decode cX4_isQuiet 18 = .ok (.ifCond .eq 5, 3) := by decide +kernel
theorem dX4_isQuiet_21 : decode cX4_isQuiet 21 = .ok (.iconst 0, 1) := by decide +kernel
theorem dX4_isQuiet_22 : decode cX4_isQuiet 22 = .ok (.ireturn, 1) := by decide +kernel
theorem dX4_isQuiet_23 : decode cX4_isQuiet 23 = .ok (.iinc 3 1, 3) := by decide +kernel
theorem dX4_isQuiet_26 : decode cX4_isQuiet 26 = .ok (.goto (-24), 3) := by decide +kernel
theorem dX4_isQuiet_29 : decode cX4_isQuiet 29 = .ok (.iconst 1, 1) := by decide +kernel
theorem dX4_isQuiet_30 : decode cX4_isQuiet 30 = .ok (.ireturn, 1) := by decide +kernel
theorem dX4_manyOf_0 : decode cX4_manyOf 0 = .ok (.iconst 0, 1) := by decide +kernel
theorem dX4_manyOf_1 : decode cX4_manyOf 1 = .ok (.istore_n 1, 1) := by decide +kernel
theorem dX4_manyOf_2 : decode cX4_manyOf 2 = .ok (.iload_n 0, 1) := by decide +kernel
theorem dX4_manyOf_3 : decode cX4_manyOf 3 = .ok (.istore_n 2, 1) := by decide +kernel
theorem dX4_manyOf_4 : decode cX4_manyOf 4 = .ok (.iload_n 2, 1) := by decide +kernel
theorem dX4_manyOf_5 : decode cX4_manyOf 5 = .ok (.ifCond .le 16, 3) := by decide +kernel
theorem dX4_manyOf_8 : decode cX4_manyOf 8 = .ok (.iload_n 1, 1) := by decide +kernel
theorem dX4_manyOf_9 : decode cX4_manyOf 9 = .ok (.iload_n 2, 1) := by decide +kernel
theorem dX4_manyOf_10 : decode cX4_manyOf 10 = .ok (.iconst 1, 1) := by decide +kernel
theorem dX4_manyOf_11 : decode cX4_manyOf 11 = .ok (.iand, 1) := by decide +kernel
theorem dX4_manyOf_12 : decode cX4_manyOf 12 = .ok (.iadd, 1) := by decide +kernel
theorem dX4_manyOf_13 : decode cX4_manyOf 13 = .ok (.istore_n 1, 1) := by decide +kernel
theorem dX4_manyOf_14 : decode cX4_manyOf 14 = .ok (.iload_n 2, 1) := by decide +kernel
theorem dX4_manyOf_15 : decode cX4_manyOf 15 = .ok (.iconst 1, 1) := by decide +kernel
theorem dX4_manyOf_16 : decode cX4_manyOf 16 = .ok (.ishr, 1) := by decide +kernel
theorem dX4_manyOf_17 : decode cX4_manyOf 17 = .ok (.istore_n 2, 1) := by decide +kernel
theorem dX4_manyOf_18 : decode cX4_manyOf 18 = .ok (.goto (-14), 3) := by decide +kernel
theorem dX4_manyOf_21 : decode cX4_manyOf 21 = .ok (.iload_n 1, 1) := by decide +kernel
theorem dX4_manyOf_22 : decode cX4_manyOf 22 = .ok (.ireturn, 1) := by decide +kernel
theorem dX4_quiet_0 : decode cX4_quiet 0 = .ok (.iload_n 1, 1) := by decide +kernel
theorem dX4_quiet_1 : decode cX4_quiet 1 = .ok (.iconst 1, 1) := by decide +kernel
theorem dX4_quiet_2 : decode cX4_quiet 2 = .ok (.sipush 400, 3) := by decide +kernel
theorem dX4_quiet_5 : decode cX4_quiet 5 = .ok (.invokestatic 59, 3) := by decide +kernel
theorem dX4_quiet_8 : decode cX4_quiet 8 = .ok (.ifCond .ne 6, 3) := by decide +kernel
theorem dX4_quiet_11 : decode cX4_quiet 11 = .ok (.bipush (-2), 2) := by decide +kernel
theorem dX4_quiet_13 : decode cX4_quiet 13 = .ok (.ireturn, 1) := by decide +kernel
theorem dX4_quiet_14 : decode cX4_quiet 14 = .ok (.iconst 0, 1) := by decide +kernel
theorem dX4_quiet_15 : decode cX4_quiet 15 = .ok (.istore_n 2, 1) := by decide +kernel
theorem dX4_quiet_16 : decode cX4_quiet 16 = .ok (.iconst 0, 1) := by decide +kernel
theorem dX4_quiet_17 : decode cX4_quiet 17 = .ok (.istore_n 3, 1) := by decide +kernel
theorem dX4_quiet_18 : decode cX4_quiet 18 = .ok (.iload_n 3, 1) := by decide +kernel
theorem dX4_quiet_19 : decode cX4_quiet 19 = .ok (.aload_n 0, 1) := by decide +kernel
theorem dX4_quiet_20 : decode cX4_quiet 20 = .ok (.getfield 56, 3) := by decide +kernel
theorem dX4_quiet_23 : decode cX4_quiet 23 = .ok (.if_icmp .ge 37, 3) := by decide +kernel
theorem dX4_quiet_26 : decode cX4_quiet 26 = .ok (.iload_n 2, 1) := by decide +kernel
theorem dX4_quiet_27 : decode cX4_quiet 27 = .ok (.aload_n 0, 1) := by decide +kernel
theorem dX4_quiet_28 : decode cX4_quiet 28 = .ok (.iload_n 3, 1) := by decide +kernel
theorem dX4_quiet_29 : decode cX4_quiet 29 = .ok (.aload_n 0, 1) := by decide +kernel
theorem dX4_quiet_30 : decode cX4_quiet 30 = .ok (.getfield 34, 3) := by decide +kernel
theorem dX4_quiet_33 : decode cX4_quiet 33 = .ok (.iload_n 3, 1) := by decide +kernel
theorem dX4_quiet_34 : decode cX4_quiet 34 = .ok (.iaload, 1) := by decide +kernel
theorem dX4_quiet_35 : decode cX4_quiet 35 = .ok (.aload_n 0, 1) := by decide +kernel
theorem dX4_quiet_36 : decode cX4_quiet 36 = .ok (.getfield 91, 3) := by decide +kernel
theorem dX4_quiet_39 : decode cX4_quiet 39 = .ok (.invokevirtual 108, 3) := by decide +kernel
theorem dX4_quiet_42 : decode cX4_quiet 42 = .ok (.ifCond .eq 9, 3) := by decide +kernel
theorem dX4_quiet_45 : decode cX4_quiet 45 = .ok (.iconst 1, 1) := by decide +kernel
theorem dX4_quiet_46 : decode cX4_quiet 46 = .ok (.iload_n 3, 1) := by decide +kernel
theorem dX4_quiet_47 : decode cX4_quiet 47 = .ok (.ishl, 1) := by decide +kernel
theorem dX4_quiet_48 : decode cX4_quiet 48 = .ok (.goto 4, 3) := by decide +kernel
theorem dX4_quiet_51 : decode cX4_quiet 51 = .ok (.iconst 0, 1) := by decide +kernel
theorem dX4_quiet_52 : decode cX4_quiet 52 = .ok (.ior, 1) := by decide +kernel
theorem dX4_quiet_53 : decode cX4_quiet 53 = .ok (.istore_n 2, 1) := by decide +kernel
theorem dX4_quiet_54 : decode cX4_quiet 54 = .ok (.iinc 3 1, 3) := by decide +kernel
theorem dX4_quiet_57 : decode cX4_quiet 57 = .ok (.goto (-39), 3) := by decide +kernel
theorem dX4_quiet_60 : decode cX4_quiet 60 = .ok (.bipush (-9), 2) := by decide +kernel
theorem dX4_quiet_62 : decode cX4_quiet 62 = .ok (.istore_n 3, 1) := by decide +kernel
theorem dX4_quiet_63 : decode cX4_quiet 63 = .ok (.iconst 0, 1) := by decide +kernel
theorem dX4_quiet_64 : decode cX4_quiet 64 = .ok (.istore 4, 2) := by decide +kernel
theorem dX4_quiet_66 : decode cX4_quiet 66 = .ok (.iload 4, 2) := by decide +kernel
theorem dX4_quiet_68 : decode cX4_quiet 68 = .ok (.iload_n 2, 1) := by decide +kernel
theorem dX4_quiet_69 : decode cX4_quiet 69 = .ok (.if_icmp .gt 61, 3) := by decide +kernel
theorem dX4_quiet_72 : decode cX4_quiet 72 = .ok (.iload 4, 2) := by decide +kernel
theorem dX4_quiet_74 : decode cX4_quiet 74 = .ok (.iload_n 2, 1) := by decide +kernel
theorem dX4_quiet_75 : decode cX4_quiet 75 = .ok (.iconst (-1), 1) := by decide +kernel
theorem dX4_quiet_76 : decode cX4_quiet 76 = .ok (.ixor, 1) := by decide +kernel
theorem dX4_quiet_77 : decode cX4_quiet 77 = .ok (.iand, 1) := by decide +kernel
theorem dX4_quiet_78 : decode cX4_quiet 78 = .ok (.ifCond .ne 25, 3) := by decide +kernel
theorem dX4_quiet_81 : decode cX4_quiet 81 = .ok (.iload_n 3, 1) := by decide +kernel
theorem dX4_quiet_82 : decode cX4_quiet 82 = .ok (.bipush (-9), 2) := by decide +kernel
theorem dX4_quiet_84 : decode cX4_quiet 84 = .ok (.if_icmp .eq 15, 3) := by decide +kernel
theorem dX4_quiet_87 : decode cX4_quiet 87 = .ok (.iload 4, 2) := by decide +kernel
theorem dX4_quiet_89 : decode cX4_quiet 89 = .ok (.invokestatic 186, 3) := by decide +kernel
theorem dX4_quiet_92 : decode cX4_quiet 92 = .ok (.iload_n 3, 1) := by decide +kernel
theorem dX4_quiet_93 : decode cX4_quiet 93 = .ok (.invokestatic 186, 3) := by decide +kernel
theorem dX4_quiet_96 : decode cX4_quiet 96 = .ok (.if_icmp .ge 7, 3) := by decide +kernel
theorem dX4_quiet_99 : decode cX4_quiet 99 = .ok (.iconst 1, 1) := by decide +kernel
theorem dX4_quiet_100 : decode cX4_quiet 100 = .ok (.goto 4, 3) := by decide +kernel
theorem dX4_quiet_103 : decode cX4_quiet 103 = .ok (.iconst 0, 1) := by decide +kernel
theorem dX4_quiet_104 : decode cX4_quiet 104 = .ok (.istore 5, 2) := by decide +kernel
theorem dX4_quiet_106 : decode cX4_quiet 106 = .ok (.iload 5, 2) := by decide +kernel
theorem dX4_quiet_108 : decode cX4_quiet 108 = .ok (.ifCond .eq 16, 3) := by decide +kernel
theorem dX4_quiet_111 : decode cX4_quiet 111 = .ok (.aload_n 0, 1) := by decide +kernel
theorem dX4_quiet_112 : decode cX4_quiet 112 = .ok (.iload_n 1, 1) := by decide +kernel
theorem dX4_quiet_113 : decode cX4_quiet 113 = .ok (.iload 4, 2) := by decide +kernel
theorem dX4_quiet_115 : decode cX4_quiet 115 = .ok (.invokevirtual 189, 3) := by decide +kernel
theorem dX4_quiet_118 : decode cX4_quiet 118 = .ok (.ifCond .eq 6, 3) := by decide +kernel
theorem dX4_quiet_121 : decode cX4_quiet 121 = .ok (.iload 4, 2) := by decide +kernel
theorem dX4_quiet_123 : decode cX4_quiet 123 = .ok (.istore_n 3, 1) := by decide +kernel
theorem dX4_quiet_124 : decode cX4_quiet 124 = .ok (.iinc 4 1, 3) := by decide +kernel
theorem dX4_quiet_127 : decode cX4_quiet 127 = .ok (.goto (-61), 3) := by decide +kernel
theorem dX4_quiet_130 : decode cX4_quiet 130 = .ok (.iload_n 3, 1) := by decide +kernel
theorem dX4_quiet_131 : decode cX4_quiet 131 = .ok (.ireturn, 1) := by decide +kernel
theorem dX4_manyOn_0 : decode cX4_manyOn 0 = .ok (.iconst 0, 1) := by decide +kernel
theorem dX4_manyOn_1 : decode cX4_manyOn 1 = .ok (.istore_n 1, 1) := by decide +kernel
theorem dX4_manyOn_2 : decode cX4_manyOn 2 = .ok (.iconst 0, 1) := by decide +kernel
theorem dX4_manyOn_3 : decode cX4_manyOn 3 = .ok (.istore_n 2, 1) := by decide +kernel
theorem dX4_manyOn_4 : decode cX4_manyOn 4 = .ok (.iload_n 2, 1) := by decide +kernel
theorem dX4_manyOn_5 : decode cX4_manyOn 5 = .ok (.aload_n 0, 1) := by decide +kernel
theorem dX4_manyOn_6 : decode cX4_manyOn 6 = .ok (.getfield 56, 3) := by decide +kernel
theorem dX4_manyOn_9 : decode cX4_manyOn 9 = .ok (.if_icmp .ge 35, 3) := by decide +kernel
theorem dX4_manyOn_12 : decode cX4_manyOn 12 = .ok (.iload_n 1, 1) := by decide +kernel
theorem dX4_manyOn_13 : decode cX4_manyOn 13 = .ok (.aload_n 0, 1) := by decide +kernel
theorem dX4_manyOn_14 : decode cX4_manyOn 14 = .ok (.iload_n 2, 1) := by decide +kernel
theorem dX4_manyOn_15 : decode cX4_manyOn 15 = .ok (.aload_n 0, 1) := by decide +kernel
theorem dX4_manyOn_16 : decode cX4_manyOn 16 = .ok (.getfield 34, 3) := by decide +kernel
theorem dX4_manyOn_19 : decode cX4_manyOn 19 = .ok (.iload_n 2, 1) := by decide +kernel
theorem dX4_manyOn_20 : decode cX4_manyOn 20 = .ok (.iaload, 1) := by decide +kernel
theorem dX4_manyOn_21 : decode cX4_manyOn 21 = .ok (.aload_n 0, 1) := by decide +kernel
theorem dX4_manyOn_22 : decode cX4_manyOn 22 = .ok (.getfield 91, 3) := by decide +kernel
theorem dX4_manyOn_25 : decode cX4_manyOn 25 = .ok (.invokevirtual 111, 3) := by decide +kernel
theorem dX4_manyOn_28 : decode cX4_manyOn 28 = .ok (.ifCond .eq 7, 3) := by decide +kernel
theorem dX4_manyOn_31 : decode cX4_manyOn 31 = .ok (.iconst 1, 1) := by decide +kernel
theorem dX4_manyOn_32 : decode cX4_manyOn 32 = .ok (.goto 4, 3) := by decide +kernel
theorem dX4_manyOn_35 : decode cX4_manyOn 35 = .ok (.iconst 0, 1) := by decide +kernel
theorem dX4_manyOn_36 : decode cX4_manyOn 36 = .ok (.iadd, 1) := by decide +kernel
theorem dX4_manyOn_37 : decode cX4_manyOn 37 = .ok (.istore_n 1, 1) := by decide +kernel
theorem dX4_manyOn_38 : decode cX4_manyOn 38 = .ok (.iinc 2 1, 3) := by decide +kernel
theorem dX4_manyOn_41 : decode cX4_manyOn 41 = .ok (.goto (-37), 3) := by decide +kernel
theorem dX4_manyOn_44 : decode cX4_manyOn 44 = .ok (.iload_n 1, 1) := by decide +kernel
theorem dX4_manyOn_45 : decode cX4_manyOn 45 = .ok (.ireturn, 1) := by decide +kernel
theorem dX4_manyLoaded_0 : decode cX4_manyLoaded 0 = .ok (.iconst 0, 1) := by decide +kernel
theorem dX4_manyLoaded_1 : decode cX4_manyLoaded 1 = .ok (.istore_n 1, 1) := by decide +kernel
theorem dX4_manyLoaded_2 : decode cX4_manyLoaded 2 = .ok (.iconst 0, 1) := by decide +kernel
theorem dX4_manyLoaded_3 : decode cX4_manyLoaded 3 = .ok (.istore_n 2, 1) := by decide +kernel
theorem dX4_manyLoaded_4 : decode cX4_manyLoaded 4 = .ok (.iload_n 2, 1) := by decide +kernel
theorem dX4_manyLoaded_5 : decode cX4_manyLoaded 5 = .ok (.bipush 6, 2) := by decide +kernel
theorem dX4_manyLoaded_7 : decode cX4_manyLoaded 7 = .ok (.if_icmp .ge 28, 3) := by decide +kernel
theorem dX4_manyLoaded_10 : decode cX4_manyLoaded 10 = .ok (.iload_n 1, 1) := by decide +kernel
theorem dX4_manyLoaded_11 : decode cX4_manyLoaded 11 = .ok (.aload_n 0, 1) := by decide +kernel
theorem dX4_manyLoaded_12 : decode cX4_manyLoaded 12 = .ok (.getfield 41, 3) := by decide +kernel
theorem dX4_manyLoaded_15 : decode cX4_manyLoaded 15 = .ok (.iload_n 2, 1) := by decide +kernel
theorem dX4_manyLoaded_16 : decode cX4_manyLoaded 16 = .ok (.iaload, 1) := by decide +kernel
theorem dX4_manyLoaded_17 : decode cX4_manyLoaded 17 = .ok (.bipush (-9), 2) := by decide +kernel
theorem dX4_manyLoaded_19 : decode cX4_manyLoaded 19 = .ok (.if_icmp .eq 7, 3) := by decide +kernel
theorem dX4_manyLoaded_22 : decode cX4_manyLoaded 22 = .ok (.iconst 1, 1) := by decide +kernel
theorem dX4_manyLoaded_23 : decode cX4_manyLoaded 23 = .ok (.goto 4, 3) := by decide +kernel
theorem dX4_manyLoaded_26 : decode cX4_manyLoaded 26 = .ok (.iconst 0, 1) := by decide +kernel
theorem dX4_manyLoaded_27 : decode cX4_manyLoaded 27 = .ok (.iadd, 1) := by decide +kernel
theorem dX4_manyLoaded_28 : decode cX4_manyLoaded 28 = .ok (.istore_n 1, 1) := by decide +kernel
theorem dX4_manyLoaded_29 : decode cX4_manyLoaded 29 = .ok (.iinc 2 1, 3) := by decide +kernel
theorem dX4_manyLoaded_32 : decode cX4_manyLoaded 32 = .ok (.goto (-28), 3) := by decide +kernel
theorem dX4_manyLoaded_35 : decode cX4_manyLoaded 35 = .ok (.iload_n 1, 1) := by decide +kernel
theorem dX4_manyLoaded_36 : decode cX4_manyLoaded 36 = .ok (.ireturn, 1) := by decide +kernel
theorem dX4_manyHeld_0 : decode cX4_manyHeld 0 = .ok (.iconst 0, 1) := by decide +kernel
theorem dX4_manyHeld_1 : decode cX4_manyHeld 1 = .ok (.istore_n 1, 1) := by decide +kernel
theorem dX4_manyHeld_2 : decode cX4_manyHeld 2 = .ok (.iconst 0, 1) := by decide +kernel
theorem dX4_manyHeld_3 : decode cX4_manyHeld 3 = .ok (.istore_n 2, 1) := by decide +kernel
theorem dX4_manyHeld_4 : decode cX4_manyHeld 4 = .ok (.iload_n 2, 1) := by decide +kernel
theorem dX4_manyHeld_5 : decode cX4_manyHeld 5 = .ok (.iconst 4, 1) := by decide +kernel
theorem dX4_manyHeld_6 : decode cX4_manyHeld 6 = .ok (.if_icmp .ge 28, 3) := by decide +kernel
theorem dX4_manyHeld_9 : decode cX4_manyHeld 9 = .ok (.iload_n 1, 1) := by decide +kernel
theorem dX4_manyHeld_10 : decode cX4_manyHeld 10 = .ok (.aload_n 0, 1) := by decide +kernel
theorem dX4_manyHeld_11 : decode cX4_manyHeld 11 = .ok (.getfield 44, 3) := by decide +kernel
theorem dX4_manyHeld_14 : decode cX4_manyHeld 14 = .ok (.iload_n 2, 1) := by decide +kernel
theorem dX4_manyHeld_15 : decode cX4_manyHeld 15 = .ok (.iaload, 1) := by decide +kernel
theorem dX4_manyHeld_16 : decode cX4_manyHeld 16 = .ok (.bipush (-9), 2) := by decide +kernel
theorem dX4_manyHeld_18 : decode cX4_manyHeld 18 = .ok (.if_icmp .eq 7, 3) := by decide +kernel
theorem dX4_manyHeld_21 : decode cX4_manyHeld 21 = .ok (.iconst 1, 1) := by decide +kernel
theorem dX4_manyHeld_22 : decode cX4_manyHeld 22 = .ok (.goto 4, 3) := by decide +kernel
theorem dX4_manyHeld_25 : decode cX4_manyHeld 25 = .ok (.iconst 0, 1) := by decide +kernel
theorem dX4_manyHeld_26 : decode cX4_manyHeld 26 = .ok (.iadd, 1) := by decide +kernel
theorem dX4_manyHeld_27 : decode cX4_manyHeld 27 = .ok (.istore_n 1, 1) := by decide +kernel
theorem dX4_manyHeld_28 : decode cX4_manyHeld 28 = .ok (.iinc 2 1, 3) := by decide +kernel
theorem dX4_manyHeld_31 : decode cX4_manyHeld 31 = .ok (.goto (-27), 3) := by decide +kernel
theorem dX4_manyHeld_34 : decode cX4_manyHeld 34 = .ok (.iload_n 1, 1) := by decide +kernel
theorem dX4_manyHeld_35 : decode cX4_manyHeld 35 = .ok (.ireturn, 1) := by decide +kernel
theorem dX4_many_0 : decode cX4_many 0 = .ok (.iload_n 1, 1) := by decide +kernel
theorem dX4_many_1 : decode cX4_many 1 = .ok (.tableswitch 122 0 10 #[59, 64, 69, 74, 79, 84, 89, 94, 107, 112, 117], 59) := by decide +kernel
theorem dX4_many_60 : decode cX4_many 60 = .ok (.aload_n 0, 1) := by decide +kernel
theorem dX4_many_61 : decode cX4_many 61 = .ok (.getfield 56, 3) := by decide +kernel
theorem dX4_many_64 : decode cX4_many 64 = .ok (.ireturn, 1) := by decide +kernel
theorem dX4_many_65 : decode cX4_many 65 = .ok (.aload_n 0, 1) := by decide +kernel
theorem dX4_many_66 : decode cX4_many 66 = .ok (.invokevirtual 192, 3) := by decide +kernel
theorem dX4_many_69 : decode cX4_many 69 = .ok (.ireturn, 1) := by decide +kernel
theorem dX4_many_70 : decode cX4_many 70 = .ok (.aload_n 0, 1) := by decide +kernel
theorem dX4_many_71 : decode cX4_many 71 = .ok (.invokevirtual 149, 3) := by decide +kernel
theorem dX4_many_74 : decode cX4_many 74 = .ok (.ireturn, 1) := by decide +kernel
theorem dX4_many_75 : decode cX4_many 75 = .ok (.aload_n 0, 1) := by decide +kernel
theorem dX4_many_76 : decode cX4_many 76 = .ok (.invokevirtual 195, 3) := by decide +kernel
theorem dX4_many_79 : decode cX4_many 79 = .ok (.ireturn, 1) := by decide +kernel
theorem dX4_many_80 : decode cX4_many 80 = .ok (.aload_n 0, 1) := by decide +kernel
theorem dX4_many_81 : decode cX4_many 81 = .ok (.getfield 37, 3) := by decide +kernel
theorem dX4_many_84 : decode cX4_many 84 = .ok (.ireturn, 1) := by decide +kernel
theorem dX4_many_85 : decode cX4_many 85 = .ok (.aload_n 0, 1) := by decide +kernel
theorem dX4_many_86 : decode cX4_many 86 = .ok (.invokevirtual 198, 3) := by decide +kernel
theorem dX4_many_89 : decode cX4_many 89 = .ok (.ireturn, 1) := by decide +kernel
theorem dX4_many_90 : decode cX4_many 90 = .ok (.aload_n 0, 1) := by decide +kernel
theorem dX4_many_91 : decode cX4_many 91 = .ok (.getfield 91, 3) := by decide +kernel
theorem dX4_many_94 : decode cX4_many 94 = .ok (.ireturn, 1) := by decide +kernel
theorem dX4_many_95 : decode cX4_many 95 = .ok (.aload_n 0, 1) := by decide +kernel
theorem dX4_many_96 : decode cX4_many 96 = .ok (.getfield 125, 3) := by decide +kernel
theorem dX4_many_99 : decode cX4_many 99 = .ok (.ifCond .eq 7, 3) := by decide +kernel
theorem dX4_many_102 : decode cX4_many 102 = .ok (.iconst 1, 1) := by decide +kernel
theorem dX4_many_103 : decode cX4_many 103 = .ok (.goto 4, 3) := by decide +kernel
theorem dX4_many_106 : decode cX4_many 106 = .ok (.iconst 0, 1) := by decide +kernel
theorem dX4_many_107 : decode cX4_many 107 = .ok (.ireturn, 1) := by decide +kernel
theorem dX4_many_108 : decode cX4_many 108 = .ok (.aload_n 0, 1) := by decide +kernel
theorem dX4_many_109 : decode cX4_many 109 = .ok (.getfield 132, 3) := by decide +kernel
theorem dX4_many_112 : decode cX4_many 112 = .ok (.ireturn, 1) := by decide +kernel
theorem dX4_many_113 : decode cX4_many 113 = .ok (.aload_n 0, 1) := by decide +kernel
theorem dX4_many_114 : decode cX4_many 114 = .ok (.getfield 50, 3) := by decide +kernel
theorem dX4_many_117 : decode cX4_many 117 = .ok (.ireturn, 1) := by decide +kernel
theorem dX4_many_118 : decode cX4_many 118 = .ok (.aload_n 0, 1) := by decide +kernel
theorem dX4_many_119 : decode cX4_many 119 = .ok (.getfield 53, 3) := by decide +kernel
theorem dX4_many_122 : decode cX4_many 122 = .ok (.ireturn, 1) := by decide +kernel
theorem dX4_many_123 : decode cX4_many 123 = .ok (.bipush (-2), 2) := by decide +kernel
theorem dX4_many_125 : decode cX4_many 125 = .ok (.ireturn, 1) := by decide +kernel
