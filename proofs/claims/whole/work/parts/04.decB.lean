theorem dX7_init_0 : decode cX7_init 0 = .ok (.aload_n 0, 1) := by decide +kernel
theorem dX7_init_1 : decode cX7_init 1 = .ok (.invokespecial 3, 3) := by decide +kernel
theorem dX7_init_4 : decode cX7_init 4 = .ok (.aload_n 0, 1) := by decide +kernel
theorem dX7_init_5 : decode cX7_init 5 = .ok (.new 9, 3) := by decide +kernel
theorem dX7_init_8 : decode cX7_init 8 = .ok (.dup, 1) := by decide +kernel
theorem dX7_init_9 : decode cX7_init 9 = .ok (.invokespecial 11, 3) := by decide +kernel
theorem dX7_init_12 : decode cX7_init 12 = .ok (.putfield 12, 3) := by decide +kernel
theorem dX7_init_15 : decode cX7_init 15 = .ok (.aload_n 0, 1) := by decide +kernel
theorem dX7_init_16 : decode cX7_init 16 = .ok (.new 9, 3) := by decide +kernel
theorem dX7_init_19 : decode cX7_init 19 = .ok (.dup, 1) := by decide +kernel
theorem dX7_init_20 : decode cX7_init 20 = .ok (.invokespecial 11, 3) := by decide +kernel
theorem dX7_init_23 : decode cX7_init 23 = .ok (.putfield 16, 3) := by decide +kernel
theorem dX7_init_26 : decode cX7_init 26 = .ok (.aload_n 0, 1) := by decide +kernel
theorem dX7_init_27 : decode cX7_init 27 = .ok (.iconst 0, 1) := by decide +kernel
theorem dX7_init_28 : decode cX7_init 28 = .ok (.putfield 19, 3) := by decide +kernel
theorem dX7_init_31 : decode cX7_init 31 = .ok (.aload_n 0, 1) := by decide +kernel
theorem dX7_init_32 : decode cX7_init 32 = .ok (.sipush 160, 3) := by decide +kernel
theorem dX7_init_35 : decode cX7_init 35 = .ok (.newarray .int, 2) := by decide +kernel
theorem dX7_init_37 : decode cX7_init 37 = .ok (.putfield 23, 3) := by decide +kernel
theorem dX7_init_40 : decode cX7_init 40 = .ok (.aload_n 0, 1) := by decide +kernel
theorem dX7_init_41 : decode cX7_init 41 = .ok (.iconst 0, 1) := by decide +kernel
theorem dX7_init_42 : decode cX7_init 42 = .ok (.putfield 27, 3) := by decide +kernel
theorem dX7_init_45 : decode cX7_init 45 = .ok (.aload_n 0, 1) := by decide +kernel
theorem dX7_init_46 : decode cX7_init 46 = .ok (.bipush 6, 2) := by decide +kernel
theorem dX7_init_48 : decode cX7_init 48 = .ok (.anewarray 31, 3) := by decide +kernel
theorem dX7_init_51 : decode cX7_init 51 = .ok (.putfield 33, 3) := by decide +kernel
theorem dX7_init_54 : decode cX7_init 54 = .ok (.aload_n 0, 1) := by decide +kernel
theorem dX7_init_55 : decode cX7_init 55 = .ok (.iconst 0, 1) := by decide +kernel
theorem dX7_init_56 : decode cX7_init 56 = .ok (.putfield 37, 3) := by decide +kernel
theorem dX7_init_59 : decode cX7_init 59 = .ok (.aload_n 0, 1) := by decide +kernel
theorem dX7_init_60 : decode cX7_init 60 = .ok (.new 40, 3) := by decide +kernel
theorem dX7_init_63 : decode cX7_init 63 = .ok (.dup, 1) := by decide +kernel
theorem dX7_init_64 : decode cX7_init 64 = .ok (.invokespecial 42, 3) := by decide +kernel
theorem dX7_init_67 : decode cX7_init 67 = .ok (.putfield 43, 3) := by decide +kernel
theorem dX7_init_70 : decode cX7_init 70 = .ok (.aload_n 0, 1) := by decide +kernel
theorem dX7_init_71 : decode cX7_init 71 = .ok (.iconst 4, 1) := by decide +kernel
theorem dX7_init_72 : decode cX7_init 72 = .ok (.anewarray 47, 3) := by decide +kernel
theorem dX7_init_75 : decode cX7_init 75 = .ok (.putfield 49, 3) := by decide +kernel
theorem dX7_init_78 : decode cX7_init 78 = .ok (.aload_n 0, 1) := by decide +kernel
theorem dX7_init_79 : decode cX7_init 79 = .ok (.new 53, 3) := by decide +kernel
theorem dX7_init_82 : decode cX7_init 82 = .ok (.dup, 1) := by decide +kernel
theorem dX7_init_83 : decode cX7_init 83 = .ok (.aload_n 0, 1) := by decide +kernel
theorem dX7_init_84 : decode cX7_init 84 = .ok (.getfield 12, 3) := by decide +kernel
theorem dX7_init_87 : decode cX7_init 87 = .ok (.aload_n 0, 1) := by decide +kernel
theorem dX7_init_88 : decode cX7_init 88 = .ok (.getfield 33, 3) := by decide +kernel
theorem dX7_init_91 : decode cX7_init 91 = .ok (.invokespecial 55, 3) := by decide +kernel
theorem dX7_init_94 : decode cX7_init 94 = .ok (.putfield 58, 3) := by decide +kernel
theorem dX7_init_97 : decode cX7_init 97 = .ok (.aload_n 0, 1) := by decide +kernel
theorem dX7_init_98 : decode cX7_init 98 = .ok (.new 62, 3) := by decide +kernel
theorem dX7_init_101 : decode cX7_init 101 = .ok (.dup, 1) := by decide +kernel
theorem dX7_init_102 : decode cX7_init 102 = .ok (.aload_n 0, 1) := by decide +kernel
theorem dX7_init_103 : decode cX7_init 103 = .ok (.getfield 12, 3) := by decide +kernel
theorem dX7_init_106 : decode cX7_init 106 = .ok (.aload_n 0, 1) := by decide +kernel
theorem dX7_init_107 : decode cX7_init 107 = .ok (.getfield 58, 3) := by decide +kernel
theorem dX7_init_110 : decode cX7_init 110 = .ok (.invokespecial 64, 3) := by decide +kernel
theorem dX7_init_113 : decode cX7_init 113 = .ok (.putfield 67, 3) := by decide +kernel
theorem dX7_init_116 : decode cX7_init 116 = .ok (.aload_n 0, 1) := by decide +kernel
theorem dX7_init_117 : decode cX7_init 117 = .ok (.new 71, 3) := by decide +kernel
theorem dX7_init_120 : decode cX7_init 120 = .ok (.dup, 1) := by decide +kernel
theorem dX7_init_121 : decode cX7_init 121 = .ok (.aload_n 0, 1) := by decide +kernel
theorem dX7_init_122 : decode cX7_init 122 = .ok (.getfield 12, 3) := by decide +kernel
theorem dX7_init_125 : decode cX7_init 125 = .ok (.invokespecial 73, 3) := by decide +kernel
theorem dX7_init_128 : decode cX7_init 128 = .ok (.putfield 76, 3) := by decide +kernel
theorem dX7_init_131 : decode cX7_init 131 = .ok (.aload_n 0, 1) := by decide +kernel
theorem dX7_init_132 : decode cX7_init 132 = .ok (.bipush 24, 2) := by decide +kernel
theorem dX7_init_134 : decode cX7_init 134 = .ok (.newarray .int, 2) := by decide +kernel
theorem dX7_init_136 : decode cX7_init 136 = .ok (.putfield 80, 3) := by decide +kernel
theorem dX7_init_139 : decode cX7_init 139 = .ok (.iconst 0, 1) := by decide +kernel
theorem dX7_init_140 : decode cX7_init 140 = .ok (.istore_n 1, 1) := by decide +kernel
theorem dX7_init_141 : decode cX7_init 141 = .ok (.iload_n 1, 1) := by decide +kernel
theorem dX7_init_142 : decode cX7_init 142 = .ok (.bipush 6, 2) := by decide +kernel
theorem dX7_init_144 : decode cX7_init 144 = .ok (.if_icmp .ge 22, 3) := by decide +kernel
theorem dX7_init_147 : decode cX7_init 147 = .ok (.aload_n 0, 1) := by decide +kernel
theorem dX7_init_148 : decode cX7_init 148 = .ok (.getfield 33, 3) := by decide +kernel
theorem dX7_init_151 : decode cX7_init 151 = .ok (.iload_n 1, 1) := by decide +kernel
theorem dX7_init_152 : decode cX7_init 152 = .ok (.new 31, 3) := by decide +kernel
theorem dX7_init_155 : decode cX7_init 155 = .ok (.dup, 1) := by decide +kernel
theorem dX7_init_156 : decode cX7_init 156 = .ok (.invokespecial 83, 3) := by decide +kernel
theorem dX7_init_159 : decode cX7_init 159 = .ok (.aastore, 1) := by decide +kernel
theorem dX7_init_160 : decode cX7_init 160 = .ok (.iinc 1 1, 3) := by decide +kernel
theorem dX7_init_163 : decode cX7_init 163 = .ok (.goto (-22), 3) := by decide +kernel
theorem dX7_init_166 : decode cX7_init 166 = .ok (.iconst 0, 1) := by decide +kernel
theorem dX7_init_167 : decode cX7_init 167 = .ok (.istore_n 1, 1) := by decide +kernel
theorem dX7_init_168 : decode cX7_init 168 = .ok (.iload_n 1, 1) := by decide +kernel
theorem dX7_init_169 : decode cX7_init 169 = .ok (.iconst 4, 1) := by decide +kernel
theorem dX7_init_170 : decode cX7_init 170 = .ok (.if_icmp .ge 22, 3) := by decide +kernel
theorem dX7_init_173 : decode cX7_init 173 = .ok (.aload_n 0, 1) := by decide +kernel
theorem dX7_init_174 : decode cX7_init 174 = .ok (.getfield 49, 3) := by decide +kernel
theorem dX7_init_177 : decode cX7_init 177 = .ok (.iload_n 1, 1) := by decide +kernel
theorem dX7_init_178 : decode cX7_init 178 = .ok (.new 47, 3) := by decide +kernel
theorem dX7_init_181 : decode cX7_init 181 = .ok (.dup, 1) := by decide +kernel
theorem dX7_init_182 : decode cX7_init 182 = .ok (.invokespecial 84, 3) := by decide +kernel
theorem dX7_init_185 : decode cX7_init 185 = .ok (.aastore, 1) := by decide +kernel
theorem dX7_init_186 : decode cX7_init 186 = .ok (.iinc 1 1, 3) := by decide +kernel
theorem dX7_init_189 : decode cX7_init 189 = .ok (.goto (-21), 3) := by decide +kernel
theorem dX7_init_192 : decode cX7_init 192 = .ok (.iconst 0, 1) := by decide +kernel
theorem dX7_init_193 : decode cX7_init 193 = .ok (.istore_n 1, 1) := by decide +kernel
theorem dX7_init_194 : decode cX7_init 194 = .ok (.iload_n 1, 1) := by decide +kernel
theorem dX7_init_195 : decode cX7_init 195 = .ok (.ldc 85, 2) := by decide +kernel
theorem dX7_init_197 : decode cX7_init 197 = .ok (.invokevirtual 87, 3) := by decide +kernel
theorem dX7_init_200 : decode cX7_init 200 = .ok (.if_icmp .ge 35, 3) := by decide +kernel
theorem dX7_init_203 : decode cX7_init 203 = .ok (.iload_n 1, 1) := by decide +kernel
theorem dX7_init_204 : decode cX7_init 204 = .ok (.sipush 160, 3) := by decide +kernel
theorem dX7_init_207 : decode cX7_init 207 = .ok (.if_icmp .ge 28, 3) := by decide +kernel
theorem dX7_init_210 : decode cX7_init 210 = .ok (.aload_n 0, 1) := by decide +kernel
theorem dX7_init_211 : decode cX7_init 211 = .ok (.getfield 23, 3) := by decide +kernel
theorem dX7_init_214 : decode cX7_init 214 = .ok (.iload_n 1, 1) := by decide +kernel
theorem dX7_init_215 : decode cX7_init 215 = .ok (.ldc 85, 2) := by decide +kernel
theorem dX7_init_217 : decode cX7_init 217 = .ok (.iload_n 1, 1) := by decide +kernel
theorem dX7_init_218 : decode cX7_init 218 = .ok (.invokevirtual 93, 3) := by decide +kernel
theorem dX7_init_221 : decode cX7_init 221 = .ok (.iastore, 1) := by decide +kernel
theorem dX7_init_222 : decode cX7_init 222 = .ok (.aload_n 0, 1) := by decide +kernel
theorem dX7_init_223 : decode cX7_init 223 = .ok (.iload_n 1, 1) := by decide +kernel
theorem dX7_init_224 : decode cX7_init 224 = .ok (.iconst 1, 1) := by decide +kernel
theorem dX7_init_225 : decode cX7_init 225 = .ok (.iadd, 1) := by decide +kernel
theorem dX7_init_226 : decode cX7_init 226 = .ok (.putfield 27, 3) := by decide +kernel
theorem dX7_init_229 : decode cX7_init 229 = .ok (.iinc 1 1, 3) := by decide +kernel
theorem dX7_init_232 : decode cX7_init 232 = .ok (.goto (-38), 3) := by decide +kernel
theorem dX7_init_235 : decode cX7_init 235 = .ok (.aload_n 0, 1) := by decide +kernel
theorem dX7_init_236 : decode cX7_init 236 = .ok (.invokevirtual 97, 3) := by decide +kernel
theorem dX7_init_239 : decode cX7_init 239 = .ok (.pop, 1) := by decide +kernel
theorem dX7_init_240 : decode cX7_init 240 = .ok (.return_, 1) := by decide +kernel
theorem dX7_come_0 : decode cX7_come 0 = .ok (.iload_n 1, 1) := by decide +kernel
theorem dX7_come_1 : decode cX7_come 1 = .ok (.invokestatic 100, 3) := by decide +kernel
theorem dX7_come_4 : decode cX7_come 4 = .ok (.ifCond .eq 34, 3) := by decide +kernel
theorem dX7_come_7 : decode cX7_come 7 = .ok (.iload_n 2, 1) := by decide +kernel
theorem dX7_come_8 : decode cX7_come 8 = .ok (.ifCond .lt 30, 3) := by decide +kernel
theorem dX7_come_11 : decode cX7_come 11 = .ok (.iload_n 2, 1) := by decide +kernel
theorem dX7_come_12 : decode cX7_come 12 = .ok (.bipush 100, 2) := by decide +kernel
theorem dX7_come_14 : decode cX7_come 14 = .ok (.idiv, 1) := by decide +kernel
theorem dX7_come_15 : decode cX7_come 15 = .ok (.invokestatic 104, 3) := by decide +kernel
theorem dX7_come_18 : decode cX7_come 18 = .ok (.ifCond .eq 20, 3) := by decide +kernel
theorem dX7_come_21 : decode cX7_come 21 = .ok (.iload_n 2, 1) := by decide +kernel
theorem dX7_come_22 : decode cX7_come 22 = .ok (.bipush 100, 2) := by decide +kernel
theorem dX7_come_24 : decode cX7_come 24 = .ok (.irem, 1) := by decide +kernel
theorem dX7_come_25 : decode cX7_come 25 = .ok (.invokestatic 107, 3) := by decide +kernel
theorem dX7_come_28 : decode cX7_come 28 = .ok (.ifCond .eq 10, 3) := by decide +kernel
theorem dX7_come_31 : decode cX7_come 31 = .ok (.iload_n 3, 1) := by decide +kernel
theorem dX7_come_32 : decode cX7_come 32 = .ok (.invokestatic 110, 3) := by decide +kernel
theorem dX7_come_35 : decode cX7_come 35 = .ok (.ifCond .ne 6, 3) := by decide +kernel
theorem dX7_come_38 : decode cX7_come 38 = .ok (.bipush (-2), 2) := by decide +kernel
theorem dX7_come_40 : decode cX7_come 40 = .ok (.ireturn, 1) := by decide +kernel
theorem dX7_come_41 : decode cX7_come 41 = .ok (.aload_n 0, 1) := by decide +kernel
theorem dX7_come_42 : decode cX7_come 42 = .ok (.getfield 12, 3) := by decide +kernel
theorem dX7_come_45 : decode cX7_come 45 = .ok (.getfield 113, 3) := by decide +kernel
theorem dX7_come_48 : decode cX7_come 48 = .ok (.iload_n 1, 1) := by decide +kernel
theorem dX7_come_49 : decode cX7_come 49 = .ok (.iaload, 1) := by decide +kernel
theorem dX7_come_50 : decode cX7_come 50 = .ok (.istore 4, 2) := by decide +kernel
theorem dX7_come_52 : decode cX7_come 52 = .ok (.iload 4, 2) := by decide +kernel
theorem dX7_come_54 : decode cX7_come 54 = .ok (.iconst 4, 1) := by decide +kernel
theorem dX7_come_55 : decode cX7_come 55 = .ok (.if_icmp .lt 6, 3) := by decide +kernel
theorem dX7_come_58 : decode cX7_come 58 = .ok (.bipush (-4), 2) := by decide +kernel
theorem dX7_come_60 : decode cX7_come 60 = .ok (.ireturn, 1) := by decide +kernel
theorem dX7_come_61 : decode cX7_come 61 = .ok (.iload_n 1, 1) := by decide +kernel
theorem dX7_come_62 : decode cX7_come 62 = .ok (.iconst 4, 1) := by decide +kernel
theorem dX7_come_63 : decode cX7_come 63 = .ok (.imul, 1) := by decide +kernel
theorem dX7_come_64 : decode cX7_come 64 = .ok (.iload 4, 2) := by decide +kernel
theorem dX7_come_66 : decode cX7_come 66 = .ok (.iadd, 1) := by decide +kernel
theorem dX7_come_67 : decode cX7_come 67 = .ok (.istore 5, 2) := by decide +kernel
theorem dX7_come_69 : decode cX7_come 69 = .ok (.aload_n 0, 1) := by decide +kernel
theorem dX7_come_70 : decode cX7_come 70 = .ok (.getfield 12, 3) := by decide +kernel
theorem dX7_come_73 : decode cX7_come 73 = .ok (.getfield 116, 3) := by decide +kernel
theorem dX7_come_76 : decode cX7_come 76 = .ok (.iload 5, 2) := by decide +kernel
theorem dX7_come_78 : decode cX7_come 78 = .ok (.iload_n 2, 1) := by decide +kernel
theorem dX7_come_79 : decode cX7_come 79 = .ok (.bipush 100, 2) := by decide +kernel
theorem dX7_come_81 : decode cX7_come 81 = .ok (.idiv, 1) := by decide +kernel
theorem dX7_come_82 : decode cX7_come 82 = .ok (.iastore, 1) := by decide +kernel
theorem dX7_come_83 : decode cX7_come 83 = .ok (.aload_n 0, 1) := by decide +kernel
theorem dX7_come_84 : decode cX7_come 84 = .ok (.getfield 12, 3) := by decide +kernel
theorem dX7_come_87 : decode cX7_come 87 = .ok (.getfield 119, 3) := by decide +kernel
theorem dX7_come_90 : decode cX7_come 90 = .ok (.iload 5, 2) := by decide +kernel
theorem dX7_come_92 : decode cX7_come 92 = .ok (.iload_n 2, 1) := by decide +kernel
theorem dX7_come_93 : decode cX7_come 93 = .ok (.bipush 100, 2) := by decide +kernel
theorem dX7_come_95 : decode cX7_come 95 = .ok (.irem, 1) := by decide +kernel
theorem dX7_come_96 : decode cX7_come 96 = .ok (.iastore, 1) := by decide +kernel
theorem dX7_come_97 : decode cX7_come 97 = .ok (.aload_n 0, 1) := by decide +kernel
theorem dX7_come_98 : decode cX7_come 98 = .ok (.getfield 12, 3) := by decide +kernel
theorem dX7_come_101 : decode cX7_come 101 = .ok (.getfield 122, 3) := by decide +kernel
theorem dX7_come_104 : decode cX7_come 104 = .ok (.iload 5, 2) := by decide +kernel
theorem dX7_come_106 : decode cX7_come 106 = .ok (.iload_n 3, 1) := by decide +kernel
theorem dX7_come_107 : decode cX7_come 107 = .ok (.iastore, 1) := by decide +kernel
theorem dX7_come_108 : decode cX7_come 108 = .ok (.aload_n 0, 1) := by decide +kernel
theorem dX7_come_109 : decode cX7_come 109 = .ok (.getfield 12, 3) := by decide +kernel
theorem dX7_come_112 : decode cX7_come 112 = .ok (.getfield 113, 3) := by decide +kernel
theorem dX7_come_115 : decode cX7_come 115 = .ok (.iload_n 1, 1) := by decide +kernel
theorem dX7_come_116 : decode cX7_come 116 = .ok (.iload 4, 2) := by decide +kernel
theorem dX7_come_118 : decode cX7_come 118 = .ok (.iconst 1, 1) := by decide +kernel
theorem dX7_come_119 : decode cX7_come 119 = .ok (.iadd, 1) := by decide +kernel
theorem dX7_come_120 : decode cX7_come 120 = .ok (.iastore, 1) := by decide +kernel
theorem dX7_come_121 : decode cX7_come 121 = .ok (.aload_n 0, 1) := by decide +kernel
theorem dX7_come_122 : decode cX7_come 122 = .ok (.invokevirtual 125, 3) := by decide +kernel
theorem dX7_come_125 : decode cX7_come 125 = .ok (.iload 4, 2) := by decide +kernel
theorem dX7_come_127 : decode cX7_come 127 = .ok (.ireturn, 1) := by decide +kernel
theorem dX7_set_0 : decode cX7_set 0 = .ok (.aload_n 0, 1) := by decide +kernel
theorem dX7_set_1 : decode cX7_set 1 = .ok (.iload_n 1, 1) := by decide +kernel
theorem dX7_set_2 : decode cX7_set 2 = .ok (.iload_n 2, 1) := by decide +kernel
theorem dX7_set_3 : decode cX7_set 3 = .ok (.invokevirtual 128, 3) := by decide +kernel
theorem dX7_set_6 : decode cX7_set 6 = .ok (.ifCond .ne 6, 3) := by decide +kernel
theorem dX7_set_9 : decode cX7_set 9 = .ok (.bipush (-2), 2) := by decide +kernel
theorem dX7_set_11 : decode cX7_set 11 = .ok (.ireturn, 1) := by decide +kernel
theorem dX7_set_12 : decode cX7_set 12 = .ok (.iload_n 1, 1) := by decide +kernel
theorem dX7_set_13 : decode cX7_set 13 = .ok (.iconst 4, 1) := by decide +kernel
theorem dX7_set_14 : decode cX7_set 14 = .ok (.imul, 1) := by decide +kernel
theorem dX7_set_15 : decode cX7_set 15 = .ok (.iload_n 2, 1) := by decide +kernel
theorem dX7_set_16 : decode cX7_set 16 = .ok (.iadd, 1) := by decide +kernel
theorem dX7_set_17 : decode cX7_set 17 = .ok (.istore 5, 2) := by decide +kernel
theorem dX7_set_19 : decode cX7_set 19 = .ok (.iload_n 3, 1) := by decide +kernel
theorem dX7_set_20 : decode cX7_set 20 = .ok (.ifCond .ne 27, 3) := by decide +kernel
theorem dX7_set_23 : decode cX7_set 23 = .ok (.iload 4, 2) := by decide +kernel
theorem dX7_set_25 : decode cX7_set 25 = .ok (.invokestatic 104, 3) := by decide +kernel
theorem dX7_set_28 : decode cX7_set 28 = .ok (.ifCond .eq 19, 3) := by decide +kernel
theorem dX7_set_31 : decode cX7_set 31 = .ok (.aload_n 0, 1) := by decide +kernel
theorem dX7_set_32 : decode cX7_set 32 = .ok (.aload_n 0, 1) := by decide +kernel
theorem dX7_set_33 : decode cX7_set 33 = .ok (.getfield 12, 3) := by decide +kernel
theorem dX7_set_36 : decode cX7_set 36 = .ok (.getfield 116, 3) := by decide +kernel
theorem dX7_set_39 : decode cX7_set 39 = .ok (.iload 5, 2) := by decide +kernel
theorem dX7_set_41 : decode cX7_set 41 = .ok (.iload 4, 2) := by decide +kernel
theorem dX7_set_43 : decode cX7_set 43 = .ok (.invokevirtual 132, 3) := by decide +kernel
theorem dX7_set_46 : decode cX7_set 46 = .ok (.ireturn, 1) := by decide +kernel
theorem dX7_set_47 : decode cX7_set 47 = .ok (.iload_n 3, 1) := by decide +kernel
theorem dX7_set_48 : decode cX7_set 48 = .ok (.iconst 1, 1) := by decide +kernel
theorem dX7_set_49 : decode cX7_set 49 = .ok (.if_icmp .ne 27, 3) := by decide +kernel
theorem dX7_set_52 : decode cX7_set 52 = .ok (.iload 4, 2) := by decide +kernel
theorem dX7_set_54 : decode cX7_set 54 = .ok (.invokestatic 107, 3) := by decide +kernel
theorem dX7_set_57 : decode cX7_set 57 = .ok (.ifCond .eq 19, 3) := by decide +kernel
theorem dX7_set_60 : decode cX7_set 60 = .ok (.aload_n 0, 1) := by decide +kernel
theorem dX7_set_61 : decode cX7_set 61 = .ok (.aload_n 0, 1) := by decide +kernel
theorem dX7_set_62 : decode cX7_set 62 = .ok (.getfield 12, 3) := by decide +kernel
theorem dX7_set_65 : decode cX7_set 65 = .ok (.getfield 119, 3) := by decide +kernel
theorem dX7_set_68 : decode cX7_set 68 = .ok (.iload 5, 2) := by decide +kernel
theorem dX7_set_70 : decode cX7_set 70 = .ok (.iload 4, 2) := by decide +kernel
theorem dX7_set_72 : decode cX7_set 72 = .ok (.invokevirtual 132, 3) := by decide +kernel
theorem dX7_set_75 : decode cX7_set 75 = .ok (.ireturn, 1) := by decide +kernel
theorem dX7_set_76 : decode cX7_set 76 = .ok (.iload_n 3, 1) := by decide +kernel
theorem dX7_set_77 : decode cX7_set 77 = .ok (.iconst 2, 1) := by decide +kernel
theorem dX7_set_78 : decode cX7_set 78 = .ok (.if_icmp .ne 27, 3) := by decide +kernel
theorem dX7_set_81 : decode cX7_set 81 = .ok (.iload 4, 2) := by decide +kernel
theorem dX7_set_83 : decode cX7_set 83 = .ok (.invokestatic 110, 3) := by decide +kernel
theorem dX7_set_86 : decode cX7_set 86 = .ok (.ifCond .eq 19, 3) := by decide +kernel
theorem dX7_set_89 : decode cX7_set 89 = .ok (.aload_n 0, 1) := by decide +kernel
theorem dX7_set_90 : decode cX7_set 90 = .ok (.aload_n 0, 1) := by decide +kernel
theorem dX7_set_91 : decode cX7_set 91 = .ok (.getfield 12, 3) := by decide +kernel
theorem dX7_set_94 : decode cX7_set 94 = .ok (.getfield 122, 3) := by decide +kernel
theorem dX7_set_97 : decode cX7_set 97 = .ok (.iload 5, 2) := by decide +kernel
theorem dX7_set_99 : decode cX7_set 99 = .ok (.iload 4, 2) := by decide +kernel
theorem dX7_set_101 : decode cX7_set 101 = .ok (.invokevirtual 132, 3) := by decide +kernel
theorem dX7_set_104 : decode cX7_set 104 = .ok (.ireturn, 1) := by decide +kernel
theorem dX7_set_105 : decode cX7_set 105 = .ok (.bipush (-2), 2) := by decide +kernel
theorem dX7_set_107 : decode cX7_set 107 = .ok (.ireturn, 1) := by decide +kernel
theorem dX7_law_0 : decode cX7_law 0 = .ok (.iload_n 1, 1) := by decide +kernel
theorem dX7_law_1 : decode cX7_law 1 = .ok (.ifCond .ne 37, 3) := by decide +kernel
theorem dX7_law_4 : decode cX7_law 4 = .ok (.iload_n 3, 1) := by decide +kernel
theorem dX7_law_5 : decode cX7_law 5 = .ok (.iconst 1, 1) := by decide +kernel
theorem dX7_law_6 : decode cX7_law 6 = .ok (.if_icmp .lt 32, 3) := by decide +kernel
theorem dX7_law_9 : decode cX7_law 9 = .ok (.iload_n 3, 1) := by decide +kernel
theorem dX7_law_10 : decode cX7_law 10 = .ok (.iconst 4, 1) := by decide +kernel
theorem dX7_law_11 : decode cX7_law 11 = .ok (.if_icmp .gt 27, 3) := by decide +kernel
theorem dX7_law_14 : decode cX7_law 14 = .ok (.aload_n 0, 1) := by decide +kernel
theorem dX7_law_15 : decode cX7_law 15 = .ok (.getfield 12, 3) := by decide +kernel
theorem dX7_law_18 : decode cX7_law 18 = .ok (.getfield 136, 3) := by decide +kernel
theorem dX7_law_21 : decode cX7_law 21 = .ok (.istore 4, 2) := by decide +kernel
theorem dX7_law_23 : decode cX7_law 23 = .ok (.aload_n 0, 1) := by decide +kernel
theorem dX7_law_24 : decode cX7_law 24 = .ok (.getfield 12, 3) := by decide +kernel
theorem dX7_law_27 : decode cX7_law 27 = .ok (.iload_n 3, 1) := by decide +kernel
theorem dX7_law_28 : decode cX7_law 28 = .ok (.putfield 136, 3) := by decide +kernel
theorem dX7_law_31 : decode cX7_law 31 = .ok (.aload_n 0, 1) := by decide +kernel
theorem dX7_law_32 : decode cX7_law 32 = .ok (.invokevirtual 125, 3) := by decide +kernel
theorem dX7_law_35 : decode cX7_law 35 = .ok (.iload 4, 2) := by decide +kernel
theorem dX7_law_37 : decode cX7_law 37 = .ok (.ireturn, 1) := by decide +kernel
theorem dX7_law_38 : decode cX7_law 38 = .ok (.iload_n 1, 1) := by decide +kernel
theorem dX7_law_39 : decode cX7_law 39 = .ok (.iconst 1, 1) := by decide +kernel
theorem dX7_law_40 : decode cX7_law 40 = .ok (.if_icmp .ne 34, 3) := by decide +kernel
theorem dX7_law_43 : decode cX7_law 43 = .ok (.iload_n 3, 1) := by decide +kernel
theorem dX7_law_44 : decode cX7_law 44 = .ok (.iconst 1, 1) := by decide +kernel
theorem dX7_law_45 : decode cX7_law 45 = .ok (.if_icmp .lt 29, 3) := by decide +kernel
theorem dX7_law_48 : decode cX7_law 48 = .ok (.iload_n 3, 1) := by decide +kernel
theorem dX7_law_49 : decode cX7_law 49 = .ok (.bipush 9, 2) := by decide +kernel
theorem dX7_law_51 : decode cX7_law 51 = .ok (.if_icmp .gt 23, 3) := by decide +kernel
theorem dX7_law_54 : decode cX7_law 54 = .ok (.aload_n 0, 1) := by decide +kernel
theorem dX7_law_55 : decode cX7_law 55 = .ok (.getfield 12, 3) := by decide +kernel
theorem dX7_law_58 : decode cX7_law 58 = .ok (.getfield 139, 3) := by decide +kernel
theorem dX7_law_61 : decode cX7_law 61 = .ok (.istore 4, 2) := by decide +kernel
theorem dX7_law_63 : decode cX7_law 63 = .ok (.aload_n 0, 1) := by decide +kernel
theorem dX7_law_64 : decode cX7_law 64 = .ok (.getfield 12, 3) := by decide +kernel
theorem dX7_law_67 : decode cX7_law 67 = .ok (.iload_n 3, 1) := by decide +kernel
theorem dX7_law_68 : decode cX7_law 68 = .ok (.putfield 139, 3) := by decide +kernel
theorem dX7_law_71 : decode cX7_law 71 = .ok (.iload 4, 2) := by decide +kernel
theorem dX7_law_73 : decode cX7_law 73 = .ok (.ireturn, 1) := by decide +kernel
theorem dX7_law_74 : decode cX7_law 74 = .ok (.iload_n 1, 1) := by decide +kernel
theorem dX7_law_75 : decode cX7_law 75 = .ok (.iconst 2, 1) := by decide +kernel
theorem dX7_law_76 : decode cX7_law 76 = .ok (.if_icmp .ne 42, 3) := by decide +kernel
theorem dX7_law_79 : decode cX7_law 79 = .ok (.aload_n 0, 1) := by decide +kernel
theorem dX7_law_80 : decode cX7_law 80 = .ok (.iload_n 2, 1) := by decide +kernel
theorem dX7_law_81 : decode cX7_law 81 = .ok (.invokevirtual 142, 3) := by decide +kernel
theorem dX7_law_84 : decode cX7_law 84 = .ok (.ifCond .eq 34, 3) := by decide +kernel
theorem dX7_law_87 : decode cX7_law 87 = .ok (.iload_n 3, 1) := by decide +kernel
theorem dX7_law_88 : decode cX7_law 88 = .ok (.invokestatic 110, 3) := by decide +kernel
theorem dX7_law_91 : decode cX7_law 91 = .ok (.ifCond .eq 27, 3) := by decide +kernel
theorem dX7_law_94 : decode cX7_law 94 = .ok (.aload_n 0, 1) := by decide +kernel
theorem dX7_law_95 : decode cX7_law 95 = .ok (.getfield 12, 3) := by decide +kernel
theorem dX7_law_98 : decode cX7_law 98 = .ok (.getfield 145, 3) := by decide +kernel
theorem dX7_law_101 : decode cX7_law 101 = .ok (.iload_n 2, 1) := by decide +kernel
theorem dX7_law_102 : decode cX7_law 102 = .ok (.iaload, 1) := by decide +kernel
theorem dX7_law_103 : decode cX7_law 103 = .ok (.istore 4, 2) := by decide +kernel
theorem dX7_law_105 : decode cX7_law 105 = .ok (.aload_n 0, 1) := by decide +kernel
theorem dX7_law_106 : decode cX7_law 106 = .ok (.getfield 12, 3) := by decide +kernel
theorem dX7_law_109 : decode cX7_law 109 = .ok (.getfield 145, 3) := by decide +kernel
theorem dX7_law_112 : decode cX7_law 112 = .ok (.iload_n 2, 1) := by decide +kernel
theorem dX7_law_113 : decode cX7_law 113 = .ok (.iload_n 3, 1) := by decide +kernel
theorem dX7_law_114 : decode cX7_law 114 = .ok (.iastore, 1) := by decide +kernel
theorem dX7_law_115 : decode cX7_law 115 = .ok (.iload 4, 2) := by decide +kernel
theorem dX7_law_117 : decode cX7_law 117 = .ok (.ireturn, 1) := by decide +kernel
theorem dX7_law_118 : decode cX7_law 118 = .ok (.bipush (-2), 2) := by decide +kernel
theorem dX7_law_120 : decode cX7_law 120 = .ok (.ireturn, 1) := by decide +kernel
theorem dX7_told_0 : decode cX7_told 0 = .ok (.aload_n 0, 1) := by decide +kernel
theorem dX7_told_1 : decode cX7_told 1 = .ok (.iload_n 1, 1) := by decide +kernel
theorem dX7_told_2 : decode cX7_told 2 = .ok (.iload_n 2, 1) := by decide +kernel
theorem dX7_told_3 : decode cX7_told 3 = .ok (.invokevirtual 128, 3) := by decide +kernel
theorem dX7_told_6 : decode cX7_told 6 = .ok (.ifCond .ne 6, 3) := by decide +kernel
theorem dX7_told_9 : decode cX7_told 9 = .ok (.bipush (-2), 2) := by decide +kernel
theorem dX7_told_11 : decode cX7_told 11 = .ok (.ireturn, 1) := by decide +kernel
theorem dX7_told_12 : decode cX7_told 12 = .ok (.iload_n 1, 1) := by decide +kernel
theorem dX7_told_13 : decode cX7_told 13 = .ok (.iconst 4, 1) := by decide +kernel
theorem dX7_told_14 : decode cX7_told 14 = .ok (.imul, 1) := by decide +kernel
theorem dX7_told_15 : decode cX7_told 15 = .ok (.iload_n 2, 1) := by decide +kernel
theorem dX7_told_16 : decode cX7_told 16 = .ok (.iadd, 1) := by decide +kernel
theorem dX7_told_17 : decode cX7_told 17 = .ok (.istore 4, 2) := by decide +kernel
theorem dX7_told_19 : decode cX7_told 19 = .ok (.aload_n 0, 1) := by decide +kernel
theorem dX7_told_20 : decode cX7_told 20 = .ok (.getfield 12, 3) := by decide +kernel
theorem dX7_told_23 : decode cX7_told 23 = .ok (.iload 4, 2) := by decide +kernel
theorem dX7_told_25 : decode cX7_told 25 = .ok (.aload_n 0, 1) := by decide +kernel
theorem dX7_told_26 : decode cX7_told 26 = .ok (.getfield 12, 3) := by decide +kernel
theorem dX7_told_29 : decode cX7_told 29 = .ok (.getfield 148, 3) := by decide +kernel
theorem dX7_told_32 : decode cX7_told 32 = .ok (.invokevirtual 151, 3) := by decide +kernel
theorem dX7_told_35 : decode cX7_told 35 = .ok (.istore 5, 2) := by decide +kernel
theorem dX7_told_37 : decode cX7_told 37 = .ok (.iload_n 3, 1) := by decide +kernel
theorem dX7_told_38 : decode cX7_told 38 = .ok (.tableswitch 111 0 5 #[38, 49, 60, 71, 85, 99], 38) := by decide +kernel
theorem dX7_told_76 : decode cX7_told 76 = .ok (.aload_n 0, 1) := by decide +kernel
theorem dX7_told_77 : decode cX7_told 77 = .ok (.getfield 12, 3) := by decide +kernel
theorem dX7_told_80 : decode cX7_told 80 = .ok (.getfield 116, 3) := by decide +kernel
theorem dX7_told_83 : decode cX7_told 83 = .ok (.iload 4, 2) := by decide +kernel
theorem dX7_told_85 : decode cX7_told 85 = .ok (.iaload, 1) := by decide +kernel
theorem dX7_told_86 : decode cX7_told 86 = .ok (.ireturn, 1) := by decide +kernel
theorem dX7_told_87 : decode cX7_told 87 = .ok (.aload_n 0, 1) := by decide +kernel
theorem dX7_told_88 : decode cX7_told 88 = .ok (.getfield 12, 3) := by decide +kernel
theorem dX7_told_91 : decode cX7_told 91 = .ok (.getfield 119, 3) := by decide +kernel
theorem dX7_told_94 : decode cX7_told 94 = .ok (.iload 4, 2) := by decide +kernel
theorem dX7_told_96 : decode cX7_told 96 = .ok (.iaload, 1) := by decide +kernel
theorem dX7_told_97 : decode cX7_told 97 = .ok (.ireturn, 1) := by decide +kernel
theorem dX7_told_98 : decode cX7_told 98 = .ok (.aload_n 0, 1) := by decide +kernel
theorem dX7_told_99 : decode cX7_told 99 = .ok (.getfield 12, 3) := by decide +kernel
theorem dX7_told_102 : decode cX7_told 102 = .ok (.getfield 122, 3) := by decide +kernel
theorem dX7_told_105 : decode cX7_told 105 = .ok (.iload 4, 2) := by decide +kernel
theorem dX7_told_107 : decode cX7_told 107 = .ok (.iaload, 1) := by decide +kernel
theorem dX7_told_108 : decode cX7_told 108 = .ok (.ireturn, 1) := by decide +kernel
theorem dX7_told_109 : decode cX7_told 109 = .ok (.iload 5, 2) := by decide +kernel
theorem dX7_told_111 : decode cX7_told 111 = .ok (.bipush 24, 2) := by decide +kernel
theorem dX7_told_113 : decode cX7_told 113 = .ok (.if_icmp .ge 8, 3) := by decide +kernel
theorem dX7_told_116 : decode cX7_told 116 = .ok (.iload 5, 2) := by decide +kernel
theorem dX7_told_118 : decode cX7_told 118 = .ok (.goto 4, 3) := by decide +kernel
theorem dX7_told_121 : decode cX7_told 121 = .ok (.iconst (-1), 1) := by decide +kernel
theorem dX7_told_122 : decode cX7_told 122 = .ok (.ireturn, 1) := by decide +kernel
theorem dX7_told_123 : decode cX7_told 123 = .ok (.iload 5, 2) := by decide +kernel
theorem dX7_told_125 : decode cX7_told 125 = .ok (.aload_n 0, 1) := by decide +kernel
theorem dX7_told_126 : decode cX7_told 126 = .ok (.getfield 12, 3) := by decide +kernel
theorem dX7_told_129 : decode cX7_told 129 = .ok (.getfield 119, 3) := by decide +kernel
theorem dX7_told_132 : decode cX7_told 132 = .ok (.iload 4, 2) := by decide +kernel
theorem dX7_told_134 : decode cX7_told 134 = .ok (.iaload, 1) := by decide +kernel
theorem dX7_told_135 : decode cX7_told 135 = .ok (.isub, 1) := by decide +kernel
theorem dX7_told_136 : decode cX7_told 136 = .ok (.ireturn, 1) := by decide +kernel
theorem dX7_told_137 : decode cX7_told 137 = .ok (.aload_n 0, 1) := by decide +kernel
theorem dX7_told_138 : decode cX7_told 138 = .ok (.getfield 58, 3) := by decide +kernel
theorem dX7_told_141 : decode cX7_told 141 = .ok (.iload 4, 2) := by decide +kernel
theorem dX7_told_143 : decode cX7_told 143 = .ok (.iload 5, 2) := by decide +kernel
theorem dX7_told_145 : decode cX7_told 145 = .ok (.invokevirtual 155, 3) := by decide +kernel
theorem dX7_told_148 : decode cX7_told 148 = .ok (.ireturn, 1) := by decide +kernel
theorem dX7_told_149 : decode cX7_told 149 = .ok (.bipush (-2), 2) := by decide +kernel
theorem dX7_told_151 : decode cX7_told 151 = .ok (.ireturn, 1) := by decide +kernel
theorem dX7_master_0 : decode cX7_master 0 = .ok (.iload_n 1, 1) := by decide +kernel
theorem dX7_master_1 : decode cX7_master 1 = .ok (.invokestatic 159, 3) := by decide +kernel
theorem dX7_master_4 : decode cX7_master 4 = .ok (.ifCond .eq 10, 3) := by decide +kernel
theorem dX7_master_7 : decode cX7_master 7 = .ok (.iload_n 2, 1) := by decide +kernel
theorem dX7_master_8 : decode cX7_master 8 = .ok (.invokestatic 110, 3) := by decide +kernel
theorem dX7_master_11 : decode cX7_master 11 = .ok (.ifCond .ne 6, 3) := by decide +kernel
theorem dX7_master_14 : decode cX7_master 14 = .ok (.bipush (-2), 2) := by decide +kernel
theorem dX7_master_16 : decode cX7_master 16 = .ok (.ireturn, 1) := by decide +kernel
theorem dX7_master_17 : decode cX7_master 17 = .ok (.aload_n 0, 1) := by decide +kernel
theorem dX7_master_18 : decode cX7_master 18 = .ok (.getfield 12, 3) := by decide +kernel
theorem dX7_master_21 : decode cX7_master 21 = .ok (.getfield 162, 3) := by decide +kernel
theorem dX7_master_24 : decode cX7_master 24 = .ok (.istore_n 3, 1) := by decide +kernel
theorem dX7_master_25 : decode cX7_master 25 = .ok (.iload_n 3, 1) := by decide +kernel
theorem dX7_master_26 : decode cX7_master 26 = .ok (.iconst 4, 1) := by decide +kernel
theorem dX7_master_27 : decode cX7_master 27 = .ok (.if_icmp .lt 6, 3) := by decide +kernel
theorem dX7_master_30 : decode cX7_master 30 = .ok (.bipush (-4), 2) := by decide +kernel
theorem dX7_master_32 : decode cX7_master 32 = .ok (.ireturn, 1) := by decide +kernel
theorem dX7_master_33 : decode cX7_master 33 = .ok (.aload_n 0, 1) := by decide +kernel
theorem dX7_master_34 : decode cX7_master 34 = .ok (.getfield 12, 3) := by decide +kernel
theorem dX7_master_37 : decode cX7_master 37 = .ok (.getfield 165, 3) := by decide +kernel
theorem dX7_master_40 : decode cX7_master 40 = .ok (.iload_n 3, 1) := by decide +kernel
theorem dX7_master_41 : decode cX7_master 41 = .ok (.iload_n 1, 1) := by decide +kernel
theorem dX7_master_42 : decode cX7_master 42 = .ok (.iastore, 1) := by decide +kernel
theorem dX7_master_43 : decode cX7_master 43 = .ok (.aload_n 0, 1) := by decide +kernel
theorem dX7_master_44 : decode cX7_master 44 = .ok (.getfield 12, 3) := by decide +kernel
theorem dX7_master_47 : decode cX7_master 47 = .ok (.getfield 145, 3) := by decide +kernel
theorem dX7_master_50 : decode cX7_master 50 = .ok (.iload_n 3, 1) := by decide +kernel
theorem dX7_master_51 : decode cX7_master 51 = .ok (.iload_n 2, 1) := by decide +kernel
theorem dX7_master_52 : decode cX7_master 52 = .ok (.iastore, 1) := by decide +kernel
theorem dX7_master_53 : decode cX7_master 53 = .ok (.aload_n 0, 1) := by decide +kernel
theorem dX7_master_54 : decode cX7_master 54 = .ok (.getfield 12, 3) := by decide +kernel
theorem dX7_master_57 : decode cX7_master 57 = .ok (.iload_n 3, 1) := by decide +kernel
theorem dX7_master_58 : decode cX7_master 58 = .ok (.iconst 1, 1) := by decide +kernel
theorem dX7_master_59 : decode cX7_master 59 = .ok (.iadd, 1) := by decide +kernel
theorem dX7_master_60 : decode cX7_master 60 = .ok (.putfield 162, 3) := by decide +kernel
theorem dX7_master_63 : decode cX7_master 63 = .ok (.iload_n 3, 1) := by decide +kernel
theorem dX7_master_64 : decode cX7_master 64 = .ok (.ireturn, 1) := by decide +kernel
theorem dX7_feed_0 : decode cX7_feed 0 = .ok (.iload_n 1, 1) := by decide +kernel
theorem dX7_feed_1 : decode cX7_feed 1 = .ok (.ifCond .lt 10, 3) := by decide +kernel
theorem dX7_feed_4 : decode cX7_feed 4 = .ok (.iload_n 1, 1) := by decide +kernel
theorem dX7_feed_5 : decode cX7_feed 5 = .ok (.sipush 255, 3) := by decide +kernel
theorem dX7_feed_8 : decode cX7_feed 8 = .ok (.if_icmp .le 6, 3) := by decide +kernel
theorem dX7_feed_11 : decode cX7_feed 11 = .ok (.bipush (-2), 2) := by decide +kernel
theorem dX7_feed_13 : decode cX7_feed 13 = .ok (.ireturn, 1) := by decide +kernel
theorem dX7_feed_14 : decode cX7_feed 14 = .ok (.aload_n 0, 1) := by decide +kernel
theorem dX7_feed_15 : decode cX7_feed 15 = .ok (.getfield 27, 3) := by decide +kernel
theorem dX7_feed_18 : decode cX7_feed 18 = .ok (.sipush 160, 3) := by decide +kernel
theorem dX7_feed_21 : decode cX7_feed 21 = .ok (.if_icmp .lt 6, 3) := by decide +kernel
theorem dX7_feed_24 : decode cX7_feed 24 = .ok (.bipush (-4), 2) := by decide +kernel
theorem dX7_feed_26 : decode cX7_feed 26 = .ok (.ireturn, 1) := by decide +kernel
theorem dX7_feed_27 : decode cX7_feed 27 = .ok (.aload_n 0, 1) := by decide +kernel
theorem dX7_feed_28 : decode cX7_feed 28 = .ok (.getfield 23, 3) := by decide +kernel
theorem dX7_feed_31 : decode cX7_feed 31 = .ok (.aload_n 0, 1) := by decide +kernel
theorem dX7_feed_32 : decode cX7_feed 32 = .ok (.getfield 27, 3) := by decide +kernel
theorem dX7_feed_35 : decode cX7_feed 35 = .ok (.iload_n 1, 1) := by decide +kernel
theorem dX7_feed_36 : decode cX7_feed 36 = .ok (.iastore, 1) := by decide +kernel
theorem dX7_feed_37 : decode cX7_feed 37 = .ok (.aload_n 0, 1) := by decide +kernel
theorem dX7_feed_38 : decode cX7_feed 38 = .ok (.dup, 1) := by decide +kernel
theorem dX7_feed_39 : decode cX7_feed 39 = .ok (.getfield 27, 3) := by decide +kernel
theorem dX7_feed_42 : decode cX7_feed 42 = .ok (.iconst 1, 1) := by decide +kernel
theorem dX7_feed_43 : decode cX7_feed 43 = .ok (.iadd, 1) := by decide +kernel
theorem dX7_feed_44 : decode cX7_feed 44 = .ok (.putfield 27, 3) := by decide +kernel
theorem dX7_feed_47 : decode cX7_feed 47 = .ok (.aload_n 0, 1) := by decide +kernel
theorem dX7_feed_48 : decode cX7_feed 48 = .ok (.getfield 27, 3) := by decide +kernel
theorem dX7_feed_51 : decode cX7_feed 51 = .ok (.ireturn, 1) := by decide +kernel
theorem dX7_text_0 : decode cX7_text 0 = .ok (.aload_n 0, 1) := by decide +kernel
theorem dX7_text_1 : decode cX7_text 1 = .ok (.invokevirtual 97, 3) := by decide +kernel
theorem dX7_text_4 : decode cX7_text 4 = .ok (.ireturn, 1) := by decide +kernel
theorem dX7_force_0 : decode cX7_force 0 = .ok (.iload_n 1, 1) := by decide +kernel
theorem dX7_force_1 : decode cX7_force 1 = .ok (.ifCond .lt 11, 3) := by decide +kernel
theorem dX7_force_4 : decode cX7_force 4 = .ok (.iload_n 1, 1) := by decide +kernel
theorem dX7_force_5 : decode cX7_force 5 = .ok (.aload_n 0, 1) := by decide +kernel
theorem dX7_force_6 : decode cX7_force 6 = .ok (.getfield 37, 3) := by decide +kernel
theorem dX7_force_9 : decode cX7_force 9 = .ok (.if_icmp .lt 6, 3) := by decide +kernel
theorem dX7_force_12 : decode cX7_force 12 = .ok (.bipush (-2), 2) := by decide +kernel
theorem dX7_force_14 : decode cX7_force 14 = .ok (.ireturn, 1) := by decide +kernel
theorem dX7_force_15 : decode cX7_force 15 = .ok (.aload_n 0, 1) := by decide +kernel
theorem dX7_force_16 : decode cX7_force 16 = .ok (.getfield 12, 3) := by decide +kernel
theorem dX7_force_19 : decode cX7_force 19 = .ok (.getfield 168, 3) := by decide +kernel
theorem dX7_force_22 : decode cX7_force 22 = .ok (.istore_n 2, 1) := by decide +kernel
theorem dX7_force_23 : decode cX7_force 23 = .ok (.aload_n 0, 1) := by decide +kernel
theorem dX7_force_24 : decode cX7_force 24 = .ok (.getfield 12, 3) := by decide +kernel
theorem dX7_force_27 : decode cX7_force 27 = .ok (.iload_n 1, 1) := by decide +kernel
theorem dX7_force_28 : decode cX7_force 28 = .ok (.putfield 168, 3) := by decide +kernel
theorem dX7_force_31 : decode cX7_force 31 = .ok (.aload_n 0, 1) := by decide +kernel
theorem dX7_force_32 : decode cX7_force 32 = .ok (.invokevirtual 125, 3) := by decide +kernel
theorem dX7_force_35 : decode cX7_force 35 = .ok (.iload_n 2, 1) := by decide +kernel
theorem dX7_force_36 : decode cX7_force 36 = .ok (.ireturn, 1) := by decide +kernel
theorem dX7_up_0 : decode cX7_up 0 = .ok (.iload_n 1, 1) := by decide +kernel
theorem dX7_up_1 : decode cX7_up 1 = .ok (.invokestatic 107, 3) := by decide +kernel
theorem dX7_up_4 : decode cX7_up 4 = .ok (.ifCond .eq 10, 3) := by decide +kernel
theorem dX7_up_7 : decode cX7_up 7 = .ok (.iload_n 2, 1) := by decide +kernel
theorem dX7_up_8 : decode cX7_up 8 = .ok (.invokestatic 104, 3) := by decide +kernel
theorem dX7_up_11 : decode cX7_up 11 = .ok (.ifCond .ne 6, 3) := by decide +kernel
theorem dX7_up_14 : decode cX7_up 14 = .ok (.bipush (-2), 2) := by decide +kernel
theorem dX7_up_16 : decode cX7_up 16 = .ok (.ireturn, 1) := by decide +kernel
theorem dX7_up_17 : decode cX7_up 17 = .ok (.aload_n 0, 1) := by decide +kernel
theorem dX7_up_18 : decode cX7_up 18 = .ok (.getfield 12, 3) := by decide +kernel
theorem dX7_up_21 : decode cX7_up 21 = .ok (.getfield 148, 3) := by decide +kernel
theorem dX7_up_24 : decode cX7_up 24 = .ok (.iload_n 1, 1) := by decide +kernel
theorem dX7_up_25 : decode cX7_up 25 = .ok (.iaload, 1) := by decide +kernel
theorem dX7_up_26 : decode cX7_up 26 = .ok (.istore_n 3, 1) := by decide +kernel
theorem dX7_up_27 : decode cX7_up 27 = .ok (.aload_n 0, 1) := by decide +kernel
theorem dX7_up_28 : decode cX7_up 28 = .ok (.getfield 12, 3) := by decide +kernel
theorem dX7_up_31 : decode cX7_up 31 = .ok (.getfield 148, 3) := by decide +kernel
theorem dX7_up_34 : decode cX7_up 34 = .ok (.iload_n 1, 1) := by decide +kernel
theorem dX7_up_35 : decode cX7_up 35 = .ok (.iload_n 2, 1) := by decide +kernel
theorem dX7_up_36 : decode cX7_up 36 = .ok (.iastore, 1) := by decide +kernel
theorem dX7_up_37 : decode cX7_up 37 = .ok (.iload_n 3, 1) := by decide +kernel
theorem dX7_up_38 : decode cX7_up 38 = .ok (.ireturn, 1) := by decide +kernel
theorem dX7_at_0 : decode cX7_at 0 = .ok (.iload_n 1, 1) := by decide +kernel
theorem dX7_at_1 : decode cX7_at 1 = .ok (.invokestatic 107, 3) := by decide +kernel
theorem dX7_at_4 : decode cX7_at 4 = .ok (.ifCond .eq 15, 3) := by decide +kernel
theorem dX7_at_7 : decode cX7_at 7 = .ok (.aload_n 0, 1) := by decide +kernel
theorem dX7_at_8 : decode cX7_at 8 = .ok (.getfield 12, 3) := by decide +kernel
theorem dX7_at_11 : decode cX7_at 11 = .ok (.getfield 148, 3) := by decide +kernel
theorem dX7_at_14 : decode cX7_at 14 = .ok (.iload_n 1, 1) := by decide +kernel
theorem dX7_at_15 : decode cX7_at 15 = .ok (.iaload, 1) := by decide +kernel
theorem dX7_at_16 : decode cX7_at 16 = .ok (.goto 5, 3) := by decide +kernel
theorem dX7_at_19 : decode cX7_at 19 = .ok (.bipush (-2), 2) := by decide +kernel
theorem dX7_at_21 : decode cX7_at 21 = .ok (.ireturn, 1) := by decide +kernel
theorem dX7_plan_0 : decode cX7_plan 0 = .ok (.iload_n 1, 1) := by decide +kernel
theorem dX7_plan_1 : decode cX7_plan 1 = .ok (.tableswitch 95 0 3 #[31, 46, 57, 80], 31) := by decide +kernel
theorem dX7_plan_32 : decode cX7_plan 32 = .ok (.aload_n 0, 1) := by decide +kernel
theorem dX7_plan_33 : decode cX7_plan 33 = .ok (.getfield 58, 3) := by decide +kernel
theorem dX7_plan_36 : decode cX7_plan 36 = .ok (.aload_n 0, 1) := by decide +kernel
theorem dX7_plan_37 : decode cX7_plan 37 = .ok (.getfield 12, 3) := by decide +kernel
theorem dX7_plan_40 : decode cX7_plan 40 = .ok (.getfield 148, 3) := by decide +kernel
theorem dX7_plan_43 : decode cX7_plan 43 = .ok (.invokevirtual 171, 3) := by decide +kernel
theorem dX7_plan_46 : decode cX7_plan 46 = .ok (.ireturn, 1) := by decide +kernel
theorem dX7_plan_47 : decode cX7_plan 47 = .ok (.aload_n 0, 1) := by decide +kernel
theorem dX7_plan_48 : decode cX7_plan 48 = .ok (.getfield 12, 3) := by decide +kernel
theorem dX7_plan_51 : decode cX7_plan 51 = .ok (.getfield 148, 3) := by decide +kernel
theorem dX7_plan_54 : decode cX7_plan 54 = .ok (.invokestatic 175, 3) := by decide +kernel
theorem dX7_plan_57 : decode cX7_plan 57 = .ok (.ireturn, 1) := by decide +kernel
theorem dX7_plan_58 : decode cX7_plan 58 = .ok (.aload_n 0, 1) := by decide +kernel
theorem dX7_plan_59 : decode cX7_plan 59 = .ok (.aload_n 0, 1) := by decide +kernel
theorem dX7_plan_60 : decode cX7_plan 60 = .ok (.getfield 12, 3) := by decide +kernel
theorem dX7_plan_63 : decode cX7_plan 63 = .ok (.getfield 148, 3) := by decide +kernel
theorem dX7_plan_66 : decode cX7_plan 66 = .ok (.bipush 24, 2) := by decide +kernel
theorem dX7_plan_68 : decode cX7_plan 68 = .ok (.invokevirtual 178, 3) := by decide +kernel
theorem dX7_plan_71 : decode cX7_plan 71 = .ok (.iconst (-1), 1) := by decide +kernel
theorem dX7_plan_72 : decode cX7_plan 72 = .ok (.if_icmp .ne 7, 3) := by decide +kernel
theorem dX7_plan_75 : decode cX7_plan 75 = .ok (.iconst 1, 1) := by decide +kernel
theorem dX7_plan_76 : decode cX7_plan 76 = .ok (.goto 4, 3) := by decide +kernel
theorem dX7_plan_79 : decode cX7_plan 79 = .ok (.iconst 0, 1) := by decide +kernel
theorem dX7_plan_80 : decode cX7_plan 80 = .ok (.ireturn, 1) := by decide +kernel
theorem dX7_plan_81 : decode cX7_plan 81 = .ok (.aload_n 0, 1) := by decide +kernel
theorem dX7_plan_82 : decode cX7_plan 82 = .ok (.getfield 12, 3) := by decide +kernel
theorem dX7_plan_85 : decode cX7_plan 85 = .ok (.aload_n 0, 1) := by decide +kernel
theorem dX7_plan_86 : decode cX7_plan 86 = .ok (.getfield 12, 3) := by decide +kernel
theorem dX7_plan_89 : decode cX7_plan 89 = .ok (.getfield 148, 3) := by decide +kernel
theorem dX7_plan_92 : decode cX7_plan 92 = .ok (.invokevirtual 182, 3) := by decide +kernel
theorem dX7_plan_95 : decode cX7_plan 95 = .ok (.ireturn, 1) := by decide +kernel
theorem dX7_plan_96 : decode cX7_plan 96 = .ok (.bipush (-2), 2) := by decide +kernel
theorem dX7_plan_98 : decode cX7_plan 98 = .ok (.ireturn, 1) := by decide +kernel
theorem dX7_least_0 : decode cX7_least 0 = .ok (.iload_n 1, 1) := by decide +kernel
theorem dX7_least_1 : decode cX7_least 1 = .ok (.ifCond .lt 9, 3) := by decide +kernel
theorem dX7_least_4 : decode cX7_least 4 = .ok (.iload_n 1, 1) := by decide +kernel
theorem dX7_least_5 : decode cX7_least 5 = .ok (.bipush 25, 2) := by decide +kernel
theorem dX7_least_7 : decode cX7_least 7 = .ok (.if_icmp .le 6, 3) := by decide +kernel
theorem dX7_least_10 : decode cX7_least 10 = .ok (.bipush (-2), 2) := by decide +kernel
theorem dX7_least_12 : decode cX7_least 12 = .ok (.ireturn, 1) := by decide +kernel
theorem dX7_least_13 : decode cX7_least 13 = .ok (.aload_n 0, 1) := by decide +kernel
theorem dX7_least_14 : decode cX7_least 14 = .ok (.getfield 67, 3) := by decide +kernel
theorem dX7_least_17 : decode cX7_least 17 = .ok (.invokevirtual 185, 3) := by decide +kernel
theorem dX7_least_20 : decode cX7_least 20 = .ok (.iload_n 1, 1) := by decide +kernel
theorem dX7_least_21 : decode cX7_least 21 = .ok (.ifCond .ne 11, 3) := by decide +kernel
theorem dX7_least_24 : decode cX7_least 24 = .ok (.aload_n 0, 1) := by decide +kernel
theorem dX7_least_25 : decode cX7_least 25 = .ok (.getfield 67, 3) := by decide +kernel
theorem dX7_least_28 : decode cX7_least 28 = .ok (.getfield 188, 3) := by decide +kernel
theorem dX7_least_31 : decode cX7_least 31 = .ok (.ireturn, 1) := by decide +kernel
theorem dX7_least_32 : decode cX7_least 32 = .ok (.iload_n 1, 1) := by decide +kernel
theorem dX7_least_33 : decode cX7_least 33 = .ok (.iconst 1, 1) := by decide +kernel
theorem dX7_least_34 : decode cX7_least 34 = .ok (.if_icmp .ne 16, 3) := by decide +kernel
theorem dX7_least_37 : decode cX7_least 37 = .ok (.aload_n 0, 1) := by decide +kernel
theorem dX7_least_38 : decode cX7_least 38 = .ok (.getfield 67, 3) := by decide +kernel
theorem dX7_least_41 : decode cX7_least 41 = .ok (.getfield 191, 3) := by decide +kernel
theorem dX7_least_44 : decode cX7_least 44 = .ok (.invokestatic 175, 3) := by decide +kernel
theorem dX7_least_47 : decode cX7_least 47 = .ok (.goto 14, 3) := by decide +kernel
theorem dX7_least_50 : decode cX7_least 50 = .ok (.aload_n 0, 1) := by decide +kernel
theorem dX7_least_51 : decode cX7_least 51 = .ok (.getfield 67, 3) := by decide +kernel
theorem dX7_least_54 : decode cX7_least 54 = .ok (.getfield 191, 3) := by decide +kernel
theorem dX7_least_57 : decode cX7_least 57 = .ok (.iload_n 1, 1) := by decide +kernel
theorem dX7_least_58 : decode cX7_least 58 = .ok (.iconst 2, 1) := by decide +kernel
theorem dX7_least_59 : decode cX7_least 59 = .ok (.isub, 1) := by decide +kernel
theorem dX7_least_60 : decode cX7_least 60 = .ok (.iaload, 1) := by decide +kernel
theorem dX7_least_61 : decode cX7_least 61 = .ok (.ireturn, 1) := by decide +kernel
theorem dX7_lay_0 : decode cX7_lay 0 = .ok (.aload_n 0, 1) := by decide +kernel
theorem dX7_lay_1 : decode cX7_lay 1 = .ok (.getfield 67, 3) := by decide +kernel
theorem dX7_lay_4 : decode cX7_lay 4 = .ok (.invokevirtual 185, 3) := by decide +kernel
theorem dX7_lay_7 : decode cX7_lay 7 = .ok (.aload_n 0, 1) := by decide +kernel
theorem dX7_lay_8 : decode cX7_lay 8 = .ok (.getfield 67, 3) := by decide +kernel
theorem dX7_lay_11 : decode cX7_lay 11 = .ok (.getfield 191, 3) := by decide +kernel
theorem dX7_lay_14 : decode cX7_lay 14 = .ok (.iconst 0, 1) := by decide +kernel
theorem dX7_lay_15 : decode cX7_lay 15 = .ok (.aload_n 0, 1) := by decide +kernel
theorem dX7_lay_16 : decode cX7_lay 16 = .ok (.getfield 12, 3) := by decide +kernel
theorem dX7_lay_19 : decode cX7_lay 19 = .ok (.getfield 148, 3) := by decide +kernel
theorem dX7_lay_22 : decode cX7_lay 22 = .ok (.iconst 0, 1) := by decide +kernel
theorem dX7_lay_23 : decode cX7_lay 23 = .ok (.bipush 24, 2) := by decide +kernel
theorem dX7_lay_25 : decode cX7_lay 25 = .ok (.invokestatic 194, 3) := by decide +kernel
theorem dX7_lay_28 : decode cX7_lay 28 = .ok (.aload_n 0, 1) := by decide +kernel
theorem dX7_lay_29 : decode cX7_lay 29 = .ok (.getfield 67, 3) := by decide +kernel
theorem dX7_lay_32 : decode cX7_lay 32 = .ok (.getfield 188, 3) := by decide +kernel
theorem dX7_lay_35 : decode cX7_lay 35 = .ok (.ireturn, 1) := by decide +kernel
theorem dX7_fewest_0 : decode cX7_fewest 0 = .ok (.aload_n 0, 1) := by decide +kernel
theorem dX7_fewest_1 : decode cX7_fewest 1 = .ok (.getfield 67, 3) := by decide +kernel
theorem dX7_fewest_4 : decode cX7_fewest 4 = .ok (.invokevirtual 200, 3) := by decide +kernel
theorem dX7_fewest_7 : decode cX7_fewest 7 = .ok (.ireturn, 1) := by decide +kernel
theorem dX7_run_0 : decode cX7_run 0 = .ok (.aload_n 0, 1) := by decide +kernel
theorem dX7_run_1 : decode cX7_run 1 = .ok (.iload_n 1, 1) := by decide +kernel
theorem dX7_run_2 : decode cX7_run 2 = .ok (.invokevirtual 142, 3) := by decide +kernel
theorem dX7_run_5 : decode cX7_run 5 = .ok (.ifCond .eq 15, 3) := by decide +kernel
theorem dX7_run_8 : decode cX7_run 8 = .ok (.iload_n 2, 1) := by decide +kernel
theorem dX7_run_9 : decode cX7_run 9 = .ok (.iconst (-1), 1) := by decide +kernel
theorem dX7_run_10 : decode cX7_run 10 = .ok (.if_icmp .eq 13, 3) := by decide +kernel
theorem dX7_run_13 : decode cX7_run 13 = .ok (.iload_n 2, 1) := by decide +kernel
theorem dX7_run_14 : decode cX7_run 14 = .ok (.invokestatic 107, 3) := by decide +kernel
theorem dX7_run_17 : decode cX7_run 17 = .ok (.ifCond .ne 6, 3) := by decide +kernel
theorem dX7_run_20 : decode cX7_run 20 = .ok (.bipush (-2), 2) := by decide +kernel
theorem dX7_run_22 : decode cX7_run 22 = .ok (.ireturn, 1) := by decide +kernel
theorem dX7_run_23 : decode cX7_run 23 = .ok (.aload_n 0, 1) := by decide +kernel
theorem dX7_run_24 : decode cX7_run 24 = .ok (.getfield 76, 3) := by decide +kernel
theorem dX7_run_27 : decode cX7_run 27 = .ok (.iload_n 1, 1) := by decide +kernel
theorem dX7_run_28 : decode cX7_run 28 = .ok (.invokevirtual 203, 3) := by decide +kernel
theorem dX7_run_31 : decode cX7_run 31 = .ok (.iload_n 2, 1) := by decide +kernel
theorem dX7_run_32 : decode cX7_run 32 = .ok (.iconst (-1), 1) := by decide +kernel
theorem dX7_run_33 : decode cX7_run 33 = .ok (.if_icmp .ne 20, 3) := by decide +kernel
theorem dX7_run_36 : decode cX7_run 36 = .ok (.aload_n 0, 1) := by decide +kernel
theorem dX7_run_37 : decode cX7_run 37 = .ok (.getfield 58, 3) := by decide +kernel
theorem dX7_run_40 : decode cX7_run 40 = .ok (.aload_n 0, 1) := by decide +kernel
theorem dX7_run_41 : decode cX7_run 41 = .ok (.getfield 76, 3) := by decide +kernel
theorem dX7_run_44 : decode cX7_run 44 = .ok (.getfield 207, 3) := by decide +kernel
theorem dX7_run_47 : decode cX7_run 47 = .ok (.invokevirtual 171, 3) := by decide +kernel
theorem dX7_run_50 : decode cX7_run 50 = .ok (.goto 12, 3) := by decide +kernel
theorem dX7_run_53 : decode cX7_run 53 = .ok (.aload_n 0, 1) := by decide +kernel
theorem dX7_run_54 : decode cX7_run 54 = .ok (.getfield 76, 3) := by decide +kernel
theorem dX7_run_57 : decode cX7_run 57 = .ok (.getfield 207, 3) := by decide +kernel
theorem dX7_run_60 : decode cX7_run 60 = .ok (.iload_n 2, 1) := by decide +kernel
theorem dX7_run_61 : decode cX7_run 61 = .ok (.iaload, 1) := by decide +kernel
theorem dX7_run_62 : decode cX7_run 62 = .ok (.ireturn, 1) := by decide +kernel
theorem dX7_follow_0 : decode cX7_follow 0 = .ok (.aload_n 0, 1) := by decide +kernel
theorem dX7_follow_1 : decode cX7_follow 1 = .ok (.iload_n 1, 1) := by decide +kernel
theorem dX7_follow_2 : decode cX7_follow 2 = .ok (.invokevirtual 142, 3) := by decide +kernel
theorem dX7_follow_5 : decode cX7_follow 5 = .ok (.ifCond .ne 6, 3) := by decide +kernel
theorem dX7_follow_8 : decode cX7_follow 8 = .ok (.bipush (-2), 2) := by decide +kernel
theorem dX7_follow_10 : decode cX7_follow 10 = .ok (.ireturn, 1) := by decide +kernel
theorem dX7_follow_11 : decode cX7_follow 11 = .ok (.aload_n 0, 1) := by decide +kernel
theorem dX7_follow_12 : decode cX7_follow 12 = .ok (.getfield 76, 3) := by decide +kernel
theorem dX7_follow_15 : decode cX7_follow 15 = .ok (.iload_n 1, 1) := by decide +kernel
theorem dX7_follow_16 : decode cX7_follow 16 = .ok (.invokevirtual 203, 3) := by decide +kernel
theorem dX7_follow_19 : decode cX7_follow 19 = .ok (.aload_n 0, 1) := by decide +kernel
theorem dX7_follow_20 : decode cX7_follow 20 = .ok (.getfield 76, 3) := by decide +kernel
theorem dX7_follow_23 : decode cX7_follow 23 = .ok (.getfield 207, 3) := by decide +kernel
theorem dX7_follow_26 : decode cX7_follow 26 = .ok (.iconst 0, 1) := by decide +kernel
theorem dX7_follow_27 : decode cX7_follow 27 = .ok (.aload_n 0, 1) := by decide +kernel
theorem dX7_follow_28 : decode cX7_follow 28 = .ok (.getfield 12, 3) := by decide +kernel
theorem dX7_follow_31 : decode cX7_follow 31 = .ok (.getfield 148, 3) := by decide +kernel
theorem dX7_follow_34 : decode cX7_follow 34 = .ok (.iconst 0, 1) := by decide +kernel
theorem dX7_follow_35 : decode cX7_follow 35 = .ok (.bipush 24, 2) := by decide +kernel
theorem dX7_follow_37 : decode cX7_follow 37 = .ok (.invokestatic 194, 3) := by decide +kernel
theorem dX7_follow_40 : decode cX7_follow 40 = .ok (.aload_n 0, 1) := by decide +kernel
theorem dX7_follow_41 : decode cX7_follow 41 = .ok (.getfield 58, 3) := by decide +kernel
theorem dX7_follow_44 : decode cX7_follow 44 = .ok (.aload_n 0, 1) := by decide +kernel
theorem dX7_follow_45 : decode cX7_follow 45 = .ok (.getfield 12, 3) := by decide +kernel
theorem dX7_follow_48 : decode cX7_follow 48 = .ok (.getfield 148, 3) := by decide +kernel
theorem dX7_follow_51 : decode cX7_follow 51 = .ok (.invokevirtual 171, 3) := by decide +kernel
theorem dX7_follow_54 : decode cX7_follow 54 = .ok (.ireturn, 1) := by decide +kernel
theorem dX7_way_0 : decode cX7_way 0 = .ok (.aload_n 0, 1) := by decide +kernel
theorem dX7_way_1 : decode cX7_way 1 = .ok (.iconst 1, 1) := by decide +kernel
theorem dX7_way_2 : decode cX7_way 2 = .ok (.iload_n 1, 1) := by decide +kernel
theorem dX7_way_3 : decode cX7_way 3 = .ok (.invokevirtual 128, 3) := by decide +kernel
theorem dX7_way_6 : decode cX7_way 6 = .ok (.ifCond .eq 12, 3) := by decide +kernel
theorem dX7_way_9 : decode cX7_way 9 = .ok (.iload_n 2, 1) := by decide +kernel
theorem dX7_way_10 : decode cX7_way 10 = .ok (.ifCond .lt 8, 3) := by decide +kernel
theorem dX7_way_13 : decode cX7_way 13 = .ok (.iload_n 2, 1) := by decide +kernel
theorem dX7_way_14 : decode cX7_way 14 = .ok (.iconst 1, 1) := by decide +kernel
theorem dX7_way_15 : decode cX7_way 15 = .ok (.if_icmp .le 6, 3) := by decide +kernel
theorem dX7_way_18 : decode cX7_way 18 = .ok (.bipush (-2), 2) := by decide +kernel
theorem dX7_way_20 : decode cX7_way 20 = .ok (.ireturn, 1) := by decide +kernel
theorem dX7_way_21 : decode cX7_way 21 = .ok (.iconst 4, 1) := by decide +kernel
theorem dX7_way_22 : decode cX7_way 22 = .ok (.iload_n 1, 1) := by decide +kernel
theorem dX7_way_23 : decode cX7_way 23 = .ok (.iadd, 1) := by decide +kernel
theorem dX7_way_24 : decode cX7_way 24 = .ok (.istore_n 3, 1) := by decide +kernel
theorem dX7_way_25 : decode cX7_way 25 = .ok (.bipush 24, 2) := by decide +kernel
theorem dX7_way_27 : decode cX7_way 27 = .ok (.istore 4, 2) := by decide +kernel
theorem dX7_way_29 : decode cX7_way 29 = .ok (.iconst (-1), 1) := by decide +kernel
theorem dX7_way_30 : decode cX7_way 30 = .ok (.istore 5, 2) := by decide +kernel
theorem dX7_way_32 : decode cX7_way 32 = .ok (.iconst 0, 1) := by decide +kernel
theorem dX7_way_33 : decode cX7_way 33 = .ok (.istore 6, 2) := by decide +kernel
theorem dX7_way_35 : decode cX7_way 35 = .ok (.iload 6, 2) := by decide +kernel
theorem dX7_way_37 : decode cX7_way 37 = .ok (.iconst 3, 1) := by decide +kernel
theorem dX7_way_38 : decode cX7_way 38 = .ok (.if_icmp .ge 65, 3) := by decide +kernel
theorem dX7_way_41 : decode cX7_way 41 = .ok (.aload_n 0, 1) := by decide +kernel
theorem dX7_way_42 : decode cX7_way 42 = .ok (.iload 6, 2) := by decide +kernel
theorem dX7_way_44 : decode cX7_way 44 = .ok (.aload_n 0, 1) := by decide +kernel
theorem dX7_way_45 : decode cX7_way 45 = .ok (.getfield 12, 3) := by decide +kernel
theorem dX7_way_48 : decode cX7_way 48 = .ok (.getfield 119, 3) := by decide +kernel
theorem dX7_way_51 : decode cX7_way 51 = .ok (.iload_n 3, 1) := by decide +kernel
theorem dX7_way_52 : decode cX7_way 52 = .ok (.iaload, 1) := by decide +kernel
theorem dX7_way_53 : decode cX7_way 53 = .ok (.aload_n 0, 1) := by decide +kernel
theorem dX7_way_54 : decode cX7_way 54 = .ok (.getfield 12, 3) := by decide +kernel
theorem dX7_way_57 : decode cX7_way 57 = .ok (.getfield 139, 3) := by decide +kernel
theorem dX7_way_60 : decode cX7_way 60 = .ok (.iload 6, 2) := by decide +kernel
theorem dX7_way_62 : decode cX7_way 62 = .ok (.aload_n 0, 1) := by decide +kernel
theorem dX7_way_63 : decode cX7_way 63 = .ok (.getfield 12, 3) := by decide +kernel
theorem dX7_way_66 : decode cX7_way 66 = .ok (.getfield 116, 3) := by decide +kernel
theorem dX7_way_69 : decode cX7_way 69 = .ok (.iload_n 3, 1) := by decide +kernel
theorem dX7_way_70 : decode cX7_way 70 = .ok (.iaload, 1) := by decide +kernel
theorem dX7_way_71 : decode cX7_way 71 = .ok (.isub, 1) := by decide +kernel
theorem dX7_way_72 : decode cX7_way 72 = .ok (.invokestatic 210, 3) := by decide +kernel
theorem dX7_way_75 : decode cX7_way 75 = .ok (.imul, 1) := by decide +kernel
theorem dX7_way_76 : decode cX7_way 76 = .ok (.iadd, 1) := by decide +kernel
theorem dX7_way_77 : decode cX7_way 77 = .ok (.invokevirtual 216, 3) := by decide +kernel
theorem dX7_way_80 : decode cX7_way 80 = .ok (.istore 7, 2) := by decide +kernel
theorem dX7_way_82 : decode cX7_way 82 = .ok (.iload 7, 2) := by decide +kernel
theorem dX7_way_84 : decode cX7_way 84 = .ok (.iload 4, 2) := by decide +kernel
theorem dX7_way_86 : decode cX7_way 86 = .ok (.if_icmp .ge 11, 3) := by decide +kernel
theorem dX7_way_89 : decode cX7_way 89 = .ok (.iload 7, 2) := by decide +kernel
theorem dX7_way_91 : decode cX7_way 91 = .ok (.istore 4, 2) := by decide +kernel
theorem dX7_way_93 : decode cX7_way 93 = .ok (.iload 6, 2) := by decide +kernel
theorem dX7_way_95 : decode cX7_way 95 = .ok (.istore 5, 2) := by decide +kernel
theorem dX7_way_97 : decode cX7_way 97 = .ok (.iinc 6 1, 3) := by decide +kernel
theorem dX7_way_100 : decode cX7_way 100 = .ok (.goto (-65), 3) := by decide +kernel
theorem dX7_way_103 : decode cX7_way 103 = .ok (.iload 5, 2) := by decide +kernel
theorem dX7_way_105 : decode cX7_way 105 = .ok (.iconst (-1), 1) := by decide +kernel
theorem dX7_way_106 : decode cX7_way 106 = .ok (.if_icmp .ne 5, 3) := by decide +kernel
theorem dX7_way_109 : decode cX7_way 109 = .ok (.iconst (-1), 1) := by decide +kernel
theorem dX7_way_110 : decode cX7_way 110 = .ok (.ireturn, 1) := by decide +kernel
theorem dX7_way_111 : decode cX7_way 111 = .ok (.iload_n 2, 1) := by decide +kernel
theorem dX7_way_112 : decode cX7_way 112 = .ok (.ifCond .ne 8, 3) := by decide +kernel
theorem dX7_way_115 : decode cX7_way 115 = .ok (.iload 4, 2) := by decide +kernel
theorem dX7_way_117 : decode cX7_way 117 = .ok (.goto 5, 3) := by decide +kernel
theorem dX7_way_120 : decode cX7_way 120 = .ok (.iload 5, 2) := by decide +kernel
theorem dX7_way_122 : decode cX7_way 122 = .ok (.ireturn, 1) := by decide +kernel
theorem dX7_fourth_0 : decode cX7_fourth 0 = .ok (.iload_n 1, 1) := by decide +kernel
theorem dX7_fourth_1 : decode cX7_fourth 1 = .ok (.invokestatic 104, 3) := by decide +kernel
theorem dX7_fourth_4 : decode cX7_fourth 4 = .ok (.ifCond .ne 6, 3) := by decide +kernel
theorem dX7_fourth_7 : decode cX7_fourth 7 = .ok (.bipush (-2), 2) := by decide +kernel
theorem dX7_fourth_9 : decode cX7_fourth 9 = .ok (.ireturn, 1) := by decide +kernel
theorem dX7_fourth_10 : decode cX7_fourth 10 = .ok (.iconst 0, 1) := by decide +kernel
theorem dX7_fourth_11 : decode cX7_fourth 11 = .ok (.istore_n 2, 1) := by decide +kernel
theorem dX7_fourth_12 : decode cX7_fourth 12 = .ok (.iconst 4, 1) := by decide +kernel
theorem dX7_fourth_13 : decode cX7_fourth 13 = .ok (.istore_n 3, 1) := by decide +kernel
theorem dX7_fourth_14 : decode cX7_fourth 14 = .ok (.iload_n 3, 1) := by decide +kernel
theorem dX7_fourth_15 : decode cX7_fourth 15 = .ok (.bipush 8, 2) := by decide +kernel
theorem dX7_fourth_17 : decode cX7_fourth 17 = .ok (.if_icmp .ge 77, 3) := by decide +kernel
theorem dX7_fourth_20 : decode cX7_fourth 20 = .ok (.aload_n 0, 1) := by decide +kernel
theorem dX7_fourth_21 : decode cX7_fourth 21 = .ok (.getfield 12, 3) := by decide +kernel
theorem dX7_fourth_24 : decode cX7_fourth 24 = .ok (.iload_n 3, 1) := by decide +kernel
theorem dX7_fourth_25 : decode cX7_fourth 25 = .ok (.invokevirtual 219, 3) := by decide +kernel
theorem dX7_fourth_28 : decode cX7_fourth 28 = .ok (.ifCond .eq 60, 3) := by decide +kernel
theorem dX7_fourth_31 : decode cX7_fourth 31 = .ok (.aload_n 0, 1) := by decide +kernel
theorem dX7_fourth_32 : decode cX7_fourth 32 = .ok (.getfield 12, 3) := by decide +kernel
theorem dX7_fourth_35 : decode cX7_fourth 35 = .ok (.getfield 116, 3) := by decide +kernel
theorem dX7_fourth_38 : decode cX7_fourth 38 = .ok (.iload_n 3, 1) := by decide +kernel
theorem dX7_fourth_39 : decode cX7_fourth 39 = .ok (.iaload, 1) := by decide +kernel
theorem dX7_fourth_40 : decode cX7_fourth 40 = .ok (.iload_n 1, 1) := by decide +kernel
theorem dX7_fourth_41 : decode cX7_fourth 41 = .ok (.if_icmp .ne 47, 3) := by decide +kernel
theorem dX7_fourth_44 : decode cX7_fourth 44 = .ok (.iload_n 2, 1) := by decide +kernel
theorem dX7_fourth_45 : decode cX7_fourth 45 = .ok (.aload_n 0, 1) := by decide +kernel
theorem dX7_fourth_46 : decode cX7_fourth 46 = .ok (.getfield 58, 3) := by decide +kernel
theorem dX7_fourth_49 : decode cX7_fourth 49 = .ok (.iload_n 3, 1) := by decide +kernel
theorem dX7_fourth_50 : decode cX7_fourth 50 = .ok (.aload_n 0, 1) := by decide +kernel
theorem dX7_fourth_51 : decode cX7_fourth 51 = .ok (.getfield 12, 3) := by decide +kernel
theorem dX7_fourth_54 : decode cX7_fourth 54 = .ok (.iload_n 3, 1) := by decide +kernel
theorem dX7_fourth_55 : decode cX7_fourth 55 = .ok (.aload_n 0, 1) := by decide +kernel
theorem dX7_fourth_56 : decode cX7_fourth 56 = .ok (.getfield 12, 3) := by decide +kernel
theorem dX7_fourth_59 : decode cX7_fourth 59 = .ok (.getfield 148, 3) := by decide +kernel
theorem dX7_fourth_62 : decode cX7_fourth 62 = .ok (.invokevirtual 151, 3) := by decide +kernel
theorem dX7_fourth_65 : decode cX7_fourth 65 = .ok (.invokevirtual 155, 3) := by decide +kernel
theorem dX7_fourth_68 : decode cX7_fourth 68 = .ok (.aload_n 0, 1) := by decide +kernel
theorem dX7_fourth_69 : decode cX7_fourth 69 = .ok (.getfield 58, 3) := by decide +kernel
theorem dX7_fourth_72 : decode cX7_fourth 72 = .ok (.iload_n 3, 1) := by decide +kernel
theorem dX7_fourth_73 : decode cX7_fourth 73 = .ok (.aload_n 0, 1) := by decide +kernel
theorem dX7_fourth_74 : decode cX7_fourth 74 = .ok (.getfield 12, 3) := by decide +kernel
theorem dX7_fourth_77 : decode cX7_fourth 77 = .ok (.getfield 119, 3) := by decide +kernel
theorem dX7_fourth_80 : decode cX7_fourth 80 = .ok (.iload_n 3, 1) := by decide +kernel
theorem dX7_fourth_81 : decode cX7_fourth 81 = .ok (.iaload, 1) := by decide +kernel
theorem dX7_fourth_82 : decode cX7_fourth 82 = .ok (.invokevirtual 155, 3) := by decide +kernel
theorem dX7_fourth_85 : decode cX7_fourth 85 = .ok (.isub, 1) := by decide +kernel
theorem dX7_fourth_86 : decode cX7_fourth 86 = .ok (.iadd, 1) := by decide +kernel
theorem dX7_fourth_87 : decode cX7_fourth 87 = .ok (.istore_n 2, 1) := by decide +kernel
theorem dX7_fourth_88 : decode cX7_fourth 88 = .ok (.iinc 3 1, 3) := by decide +kernel
theorem dX7_fourth_91 : decode cX7_fourth 91 = .ok (.goto (-77), 3) := by decide +kernel
theorem dX7_fourth_94 : decode cX7_fourth 94 = .ok (.iload_n 2, 1) := by decide +kernel
theorem dX7_fourth_95 : decode cX7_fourth 95 = .ok (.ireturn, 1) := by decide +kernel
theorem dX7_late_0 : decode cX7_late 0 = .ok (.iload_n 1, 1) := by decide +kernel
theorem dX7_late_1 : decode cX7_late 1 = .ok (.ifCond .lt 9, 3) := by decide +kernel
theorem dX7_late_4 : decode cX7_late 4 = .ok (.iload_n 1, 1) := by decide +kernel
theorem dX7_late_5 : decode cX7_late 5 = .ok (.bipush 24, 2) := by decide +kernel
theorem dX7_late_7 : decode cX7_late 7 = .ok (.if_icmp .le 6, 3) := by decide +kernel
theorem dX7_late_10 : decode cX7_late 10 = .ok (.bipush (-2), 2) := by decide +kernel
theorem dX7_late_12 : decode cX7_late 12 = .ok (.ireturn, 1) := by decide +kernel
theorem dX7_late_13 : decode cX7_late 13 = .ok (.iconst 0, 1) := by decide +kernel
theorem dX7_late_14 : decode cX7_late 14 = .ok (.istore_n 2, 1) := by decide +kernel
theorem dX7_late_15 : decode cX7_late 15 = .ok (.iconst 0, 1) := by decide +kernel
theorem dX7_late_16 : decode cX7_late 16 = .ok (.istore_n 3, 1) := by decide +kernel
theorem dX7_late_17 : decode cX7_late 17 = .ok (.iload_n 3, 1) := by decide +kernel
theorem dX7_late_18 : decode cX7_late 18 = .ok (.bipush 8, 2) := by decide +kernel
theorem dX7_late_20 : decode cX7_late 20 = .ok (.if_icmp .ge 55, 3) := by decide +kernel
theorem dX7_late_23 : decode cX7_late 23 = .ok (.aload_n 0, 1) := by decide +kernel
theorem dX7_late_24 : decode cX7_late 24 = .ok (.getfield 12, 3) := by decide +kernel
theorem dX7_late_27 : decode cX7_late 27 = .ok (.iload_n 3, 1) := by decide +kernel
theorem dX7_late_28 : decode cX7_late 28 = .ok (.invokevirtual 219, 3) := by decide +kernel
theorem dX7_late_31 : decode cX7_late 31 = .ok (.ifCond .eq 38, 3) := by decide +kernel
theorem dX7_late_34 : decode cX7_late 34 = .ok (.aload_n 0, 1) := by decide +kernel
theorem dX7_late_35 : decode cX7_late 35 = .ok (.getfield 12, 3) := by decide +kernel
theorem dX7_late_38 : decode cX7_late 38 = .ok (.iload_n 3, 1) := by decide +kernel
theorem dX7_late_39 : decode cX7_late 39 = .ok (.aload_n 0, 1) := by decide +kernel
theorem dX7_late_40 : decode cX7_late 40 = .ok (.getfield 12, 3) := by decide +kernel
theorem dX7_late_43 : decode cX7_late 43 = .ok (.getfield 148, 3) := by decide +kernel
theorem dX7_late_46 : decode cX7_late 46 = .ok (.invokevirtual 151, 3) := by decide +kernel
theorem dX7_late_49 : decode cX7_late 49 = .ok (.aload_n 0, 1) := by decide +kernel
theorem dX7_late_50 : decode cX7_late 50 = .ok (.getfield 12, 3) := by decide +kernel
theorem dX7_late_53 : decode cX7_late 53 = .ok (.getfield 119, 3) := by decide +kernel
theorem dX7_late_56 : decode cX7_late 56 = .ok (.iload_n 3, 1) := by decide +kernel
theorem dX7_late_57 : decode cX7_late 57 = .ok (.iaload, 1) := by decide +kernel
theorem dX7_late_58 : decode cX7_late 58 = .ok (.isub, 1) := by decide +kernel
theorem dX7_late_59 : decode cX7_late 59 = .ok (.iload_n 1, 1) := by decide +kernel
theorem dX7_late_60 : decode cX7_late 60 = .ok (.if_icmp .le 9, 3) := by decide +kernel
theorem dX7_late_63 : decode cX7_late 63 = .ok (.iload_n 2, 1) := by decide +kernel
theorem dX7_late_64 : decode cX7_late 64 = .ok (.iconst 1, 1) := by decide +kernel
theorem dX7_late_65 : decode cX7_late 65 = .ok (.iload_n 3, 1) := by decide +kernel
theorem dX7_late_66 : decode cX7_late 66 = .ok (.ishl, 1) := by decide +kernel
theorem dX7_late_67 : decode cX7_late 67 = .ok (.ior, 1) := by decide +kernel
theorem dX7_late_68 : decode cX7_late 68 = .ok (.istore_n 2, 1) := by decide +kernel
theorem dX7_late_69 : decode cX7_late 69 = .ok (.iinc 3 1, 3) := by decide +kernel
theorem dX7_late_72 : decode cX7_late 72 = .ok (.goto (-55), 3) := by decide +kernel
theorem dX7_late_75 : decode cX7_late 75 = .ok (.iload_n 2, 1) := by decide +kernel
theorem dX7_late_76 : decode cX7_late 76 = .ok (.ireturn, 1) := by decide +kernel
theorem dX7_blame_0 : decode cX7_blame 0 = .ok (.iload_n 1, 1) := by decide +kernel
theorem dX7_blame_1 : decode cX7_blame 1 = .ok (.ifCond .lt 8, 3) := by decide +kernel
theorem dX7_blame_4 : decode cX7_blame 4 = .ok (.iload_n 1, 1) := by decide +kernel
theorem dX7_blame_5 : decode cX7_blame 5 = .ok (.iconst 2, 1) := by decide +kernel
theorem dX7_blame_6 : decode cX7_blame 6 = .ok (.if_icmp .le 6, 3) := by decide +kernel
theorem dX7_blame_9 : decode cX7_blame 9 = .ok (.bipush (-2), 2) := by decide +kernel
theorem dX7_blame_11 : decode cX7_blame 11 = .ok (.ireturn, 1) := by decide +kernel
theorem dX7_blame_12 : decode cX7_blame 12 = .ok (.aload_n 0, 1) := by decide +kernel
theorem dX7_blame_13 : decode cX7_blame 13 = .ok (.getfield 58, 3) := by decide +kernel
theorem dX7_blame_16 : decode cX7_blame 16 = .ok (.aload_n 0, 1) := by decide +kernel
theorem dX7_blame_17 : decode cX7_blame 17 = .ok (.getfield 12, 3) := by decide +kernel
theorem dX7_blame_20 : decode cX7_blame 20 = .ok (.getfield 148, 3) := by decide +kernel
theorem dX7_blame_23 : decode cX7_blame 23 = .ok (.invokevirtual 171, 3) := by decide +kernel
theorem dX7_blame_26 : decode cX7_blame 26 = .ok (.istore_n 2, 1) := by decide +kernel
theorem dX7_blame_27 : decode cX7_blame 27 = .ok (.iconst (-1), 1) := by decide +kernel
theorem dX7_blame_28 : decode cX7_blame 28 = .ok (.istore_n 3, 1) := by decide +kernel
theorem dX7_blame_29 : decode cX7_blame 29 = .ok (.iconst (-1), 1) := by decide +kernel
theorem dX7_blame_30 : decode cX7_blame 30 = .ok (.istore 4, 2) := by decide +kernel
theorem dX7_blame_32 : decode cX7_blame 32 = .ok (.aload_n 0, 1) := by decide +kernel
theorem dX7_blame_33 : decode cX7_blame 33 = .ok (.getfield 12, 3) := by decide +kernel
theorem dX7_blame_36 : decode cX7_blame 36 = .ok (.getfield 148, 3) := by decide +kernel
theorem dX7_blame_39 : decode cX7_blame 39 = .ok (.iconst 0, 1) := by decide +kernel
theorem dX7_blame_40 : decode cX7_blame 40 = .ok (.aload_n 0, 1) := by decide +kernel
theorem dX7_blame_41 : decode cX7_blame 41 = .ok (.getfield 80, 3) := by decide +kernel
theorem dX7_blame_44 : decode cX7_blame 44 = .ok (.iconst 0, 1) := by decide +kernel
theorem dX7_blame_45 : decode cX7_blame 45 = .ok (.bipush 24, 2) := by decide +kernel
theorem dX7_blame_47 : decode cX7_blame 47 = .ok (.invokestatic 194, 3) := by decide +kernel
theorem dX7_blame_50 : decode cX7_blame 50 = .ok (.iconst 0, 1) := by decide +kernel
theorem dX7_blame_51 : decode cX7_blame 51 = .ok (.istore 5, 2) := by decide +kernel
theorem dX7_blame_53 : decode cX7_blame 53 = .ok (.iload 5, 2) := by decide +kernel
theorem dX7_blame_55 : decode cX7_blame 55 = .ok (.bipush 24, 2) := by decide +kernel
theorem dX7_blame_57 : decode cX7_blame 57 = .ok (.if_icmp .ge 91, 3) := by decide +kernel
theorem dX7_blame_60 : decode cX7_blame 60 = .ok (.aload_n 0, 1) := by decide +kernel
theorem dX7_blame_61 : decode cX7_blame 61 = .ok (.getfield 80, 3) := by decide +kernel
theorem dX7_blame_64 : decode cX7_blame 64 = .ok (.iload 5, 2) := by decide +kernel
theorem dX7_blame_66 : decode cX7_blame 66 = .ok (.iaload, 1) := by decide +kernel
theorem dX7_blame_67 : decode cX7_blame 67 = .ok (.istore 6, 2) := by decide +kernel
theorem dX7_blame_69 : decode cX7_blame 69 = .ok (.iconst 0, 1) := by decide +kernel
theorem dX7_blame_70 : decode cX7_blame 70 = .ok (.istore 7, 2) := by decide +kernel
theorem dX7_blame_72 : decode cX7_blame 72 = .ok (.iload 7, 2) := by decide +kernel
theorem dX7_blame_74 : decode cX7_blame 74 = .ok (.iconst 3, 1) := by decide +kernel
theorem dX7_blame_75 : decode cX7_blame 75 = .ok (.if_icmp .ge 58, 3) := by decide +kernel
theorem dX7_blame_78 : decode cX7_blame 78 = .ok (.aload_n 0, 1) := by decide +kernel
theorem dX7_blame_79 : decode cX7_blame 79 = .ok (.getfield 80, 3) := by decide +kernel
theorem dX7_blame_82 : decode cX7_blame 82 = .ok (.iload 5, 2) := by decide +kernel
theorem dX7_blame_84 : decode cX7_blame 84 = .ok (.iload 7, 2) := by decide +kernel
theorem dX7_blame_86 : decode cX7_blame 86 = .ok (.iastore, 1) := by decide +kernel
theorem dX7_blame_87 : decode cX7_blame 87 = .ok (.iload 7, 2) := by decide +kernel
theorem dX7_blame_89 : decode cX7_blame 89 = .ok (.iload 6, 2) := by decide +kernel
theorem dX7_blame_91 : decode cX7_blame 91 = .ok (.if_icmp .ne 7, 3) := by decide +kernel
theorem dX7_blame_94 : decode cX7_blame 94 = .ok (.iload_n 2, 1) := by decide +kernel
theorem dX7_blame_95 : decode cX7_blame 95 = .ok (.goto 14, 3) := by decide +kernel
theorem dX7_blame_98 : decode cX7_blame 98 = .ok (.aload_n 0, 1) := by decide +kernel
theorem dX7_blame_99 : decode cX7_blame 99 = .ok (.getfield 58, 3) := by decide +kernel
theorem dX7_blame_102 : decode cX7_blame 102 = .ok (.aload_n 0, 1) := by decide +kernel
theorem dX7_blame_103 : decode cX7_blame 103 = .ok (.getfield 80, 3) := by decide +kernel
theorem dX7_blame_106 : decode cX7_blame 106 = .ok (.invokevirtual 171, 3) := by decide +kernel
theorem dX7_blame_109 : decode cX7_blame 109 = .ok (.istore 8, 2) := by decide +kernel
theorem dX7_blame_111 : decode cX7_blame 111 = .ok (.iload 8, 2) := by decide +kernel
theorem dX7_blame_113 : decode cX7_blame 113 = .ok (.iload_n 2, 1) := by decide +kernel
theorem dX7_blame_114 : decode cX7_blame 114 = .ok (.if_icmp .ge 13, 3) := by decide +kernel
theorem dX7_blame_117 : decode cX7_blame 117 = .ok (.iload 8, 2) := by decide +kernel
theorem dX7_blame_119 : decode cX7_blame 119 = .ok (.istore_n 2, 1) := by decide +kernel
theorem dX7_blame_120 : decode cX7_blame 120 = .ok (.iload 5, 2) := by decide +kernel
theorem dX7_blame_122 : decode cX7_blame 122 = .ok (.istore_n 3, 1) := by decide +kernel
theorem dX7_blame_123 : decode cX7_blame 123 = .ok (.iload 7, 2) := by decide +kernel
theorem dX7_blame_125 : decode cX7_blame 125 = .ok (.istore 4, 2) := by decide +kernel
theorem dX7_blame_127 : decode cX7_blame 127 = .ok (.iinc 7 1, 3) := by decide +kernel
theorem dX7_blame_130 : decode cX7_blame 130 = .ok (.goto (-58), 3) := by decide +kernel
theorem dX7_blame_133 : decode cX7_blame 133 = .ok (.aload_n 0, 1) := by decide +kernel
theorem dX7_blame_134 : decode cX7_blame 134 = .ok (.getfield 80, 3) := by decide +kernel
theorem dX7_blame_137 : decode cX7_blame 137 = .ok (.iload 5, 2) := by decide +kernel
theorem dX7_blame_139 : decode cX7_blame 139 = .ok (.iload 6, 2) := by decide +kernel
theorem dX7_blame_141 : decode cX7_blame 141 = .ok (.iastore, 1) := by decide +kernel
theorem dX7_blame_142 : decode cX7_blame 142 = .ok (.iinc 5 1, 3) := by decide +kernel
theorem dX7_blame_145 : decode cX7_blame 145 = .ok (.goto (-92), 3) := by decide +kernel
theorem dX7_blame_148 : decode cX7_blame 148 = .ok (.iload_n 3, 1) := by decide +kernel
theorem dX7_blame_149 : decode cX7_blame 149 = .ok (.iconst (-1), 1) := by decide +kernel
theorem dX7_blame_150 : decode cX7_blame 150 = .ok (.if_icmp .ne 5, 3) := by decide +kernel
theorem dX7_blame_153 : decode cX7_blame 153 = .ok (.iconst (-1), 1) := by decide +kernel
theorem dX7_blame_154 : decode cX7_blame 154 = .ok (.ireturn, 1) := by decide +kernel
theorem dX7_blame_155 : decode cX7_blame 155 = .ok (.iload_n 1, 1) := by decide +kernel
theorem dX7_blame_156 : decode cX7_blame 156 = .ok (.ifCond .ne 7, 3) := by decide +kernel
theorem dX7_blame_159 : decode cX7_blame 159 = .ok (.iload_n 3, 1) := by decide +kernel
theorem dX7_blame_160 : decode cX7_blame 160 = .ok (.goto 14, 3) := by decide +kernel
theorem dX7_blame_163 : decode cX7_blame 163 = .ok (.iload_n 1, 1) := by decide +kernel
theorem dX7_blame_164 : decode cX7_blame 164 = .ok (.iconst 1, 1) := by decide +kernel
theorem dX7_blame_165 : decode cX7_blame 165 = .ok (.if_icmp .ne 8, 3) := by decide +kernel
theorem dX7_blame_168 : decode cX7_blame 168 = .ok (.iload 4, 2) := by decide +kernel
theorem dX7_blame_170 : decode cX7_blame 170 = .ok (.goto 4, 3) := by decide +kernel
theorem dX7_blame_173 : decode cX7_blame 173 = .ok (.iload_n 2, 1) := by decide +kernel
theorem dX7_blame_174 : decode cX7_blame 174 = .ok (.ireturn, 1) := by decide +kernel
theorem dX7_judge_0 : decode cX7_judge 0 = .ok (.aload_n 0, 1) := by decide +kernel
theorem dX7_judge_1 : decode cX7_judge 1 = .ok (.iload_n 1, 1) := by decide +kernel
theorem dX7_judge_2 : decode cX7_judge 2 = .ok (.invokevirtual 222, 3) := by decide +kernel
theorem dX7_judge_5 : decode cX7_judge 5 = .ok (.istore_n 2, 1) := by decide +kernel
theorem dX7_judge_6 : decode cX7_judge 6 = .ok (.iload_n 2, 1) := by decide +kernel
theorem dX7_judge_7 : decode cX7_judge 7 = .ok (.ifCond .eq 5, 3) := by decide +kernel
theorem dX7_judge_10 : decode cX7_judge 10 = .ok (.iload_n 2, 1) := by decide +kernel
theorem dX7_judge_11 : decode cX7_judge 11 = .ok (.ireturn, 1) := by decide +kernel
theorem dX7_judge_12 : decode cX7_judge 12 = .ok (.aload_n 0, 1) := by decide +kernel
theorem dX7_judge_13 : decode cX7_judge 13 = .ok (.aload_n 0, 1) := by decide +kernel
theorem dX7_judge_14 : decode cX7_judge 14 = .ok (.getfield 49, 3) := by decide +kernel
theorem dX7_judge_17 : decode cX7_judge 17 = .ok (.iload_n 1, 1) := by decide +kernel
theorem dX7_judge_18 : decode cX7_judge 18 = .ok (.aaload, 1) := by decide +kernel
theorem dX7_judge_19 : decode cX7_judge 19 = .ok (.getfield 225, 3) := by decide +kernel
theorem dX7_judge_22 : decode cX7_judge 22 = .ok (.aload_n 0, 1) := by decide +kernel
theorem dX7_judge_23 : decode cX7_judge 23 = .ok (.getfield 49, 3) := by decide +kernel
theorem dX7_judge_26 : decode cX7_judge 26 = .ok (.iload_n 1, 1) := by decide +kernel
theorem dX7_judge_27 : decode cX7_judge 27 = .ok (.aaload, 1) := by decide +kernel
theorem dX7_judge_28 : decode cX7_judge 28 = .ok (.getfield 228, 3) := by decide +kernel
theorem dX7_judge_31 : decode cX7_judge 31 = .ok (.invokevirtual 178, 3) := by decide +kernel
theorem dX7_judge_34 : decode cX7_judge 34 = .ok (.ireturn, 1) := by decide +kernel
theorem dX7_who_0 : decode cX7_who 0 = .ok (.aload_n 0, 1) := by decide +kernel
theorem dX7_who_1 : decode cX7_who 1 = .ok (.iload_n 1, 1) := by decide +kernel
theorem dX7_who_2 : decode cX7_who 2 = .ok (.invokevirtual 222, 3) := by decide +kernel
theorem dX7_who_5 : decode cX7_who 5 = .ok (.istore_n 2, 1) := by decide +kernel
theorem dX7_who_6 : decode cX7_who 6 = .ok (.iload_n 2, 1) := by decide +kernel
theorem dX7_who_7 : decode cX7_who 7 = .ok (.ifCond .eq 5, 3) := by decide +kernel
theorem dX7_who_10 : decode cX7_who 10 = .ok (.iload_n 2, 1) := by decide +kernel
theorem dX7_who_11 : decode cX7_who 11 = .ok (.ireturn, 1) := by decide +kernel
theorem dX7_who_12 : decode cX7_who 12 = .ok (.iconst 0, 1) := by decide +kernel
theorem dX7_who_13 : decode cX7_who 13 = .ok (.istore_n 3, 1) := by decide +kernel
theorem dX7_who_14 : decode cX7_who 14 = .ok (.iconst 0, 1) := by decide +kernel
theorem dX7_who_15 : decode cX7_who 15 = .ok (.istore 4, 2) := by decide +kernel
theorem dX7_who_17 : decode cX7_who 17 = .ok (.iload 4, 2) := by decide +kernel
theorem dX7_who_19 : decode cX7_who 19 = .ok (.aload_n 0, 1) := by decide +kernel
theorem dX7_who_20 : decode cX7_who 20 = .ok (.getfield 12, 3) := by decide +kernel
theorem dX7_who_23 : decode cX7_who 23 = .ok (.getfield 162, 3) := by decide +kernel
theorem dX7_who_26 : decode cX7_who 26 = .ok (.if_icmp .ge 44, 3) := by decide +kernel
theorem dX7_who_29 : decode cX7_who 29 = .ok (.aload_n 0, 1) := by decide +kernel
theorem dX7_who_30 : decode cX7_who 30 = .ok (.getfield 76, 3) := by decide +kernel
theorem dX7_who_33 : decode cX7_who 33 = .ok (.iload 4, 2) := by decide +kernel
theorem dX7_who_35 : decode cX7_who 35 = .ok (.invokevirtual 203, 3) := by decide +kernel
theorem dX7_who_38 : decode cX7_who 38 = .ok (.aload_n 0, 1) := by decide +kernel
theorem dX7_who_39 : decode cX7_who 39 = .ok (.getfield 49, 3) := by decide +kernel
theorem dX7_who_42 : decode cX7_who 42 = .ok (.iload_n 1, 1) := by decide +kernel
theorem dX7_who_43 : decode cX7_who 43 = .ok (.aaload, 1) := by decide +kernel
theorem dX7_who_44 : decode cX7_who 44 = .ok (.aload_n 0, 1) := by decide +kernel
theorem dX7_who_45 : decode cX7_who 45 = .ok (.getfield 76, 3) := by decide +kernel
theorem dX7_who_48 : decode cX7_who 48 = .ok (.getfield 207, 3) := by decide +kernel
theorem dX7_who_51 : decode cX7_who 51 = .ok (.invokevirtual 231, 3) := by decide +kernel
theorem dX7_who_54 : decode cX7_who 54 = .ok (.ifCond .eq 10, 3) := by decide +kernel
theorem dX7_who_57 : decode cX7_who 57 = .ok (.iload_n 3, 1) := by decide +kernel
theorem dX7_who_58 : decode cX7_who 58 = .ok (.iconst 1, 1) := by decide +kernel
theorem dX7_who_59 : decode cX7_who 59 = .ok (.iload 4, 2) := by decide +kernel
theorem dX7_who_61 : decode cX7_who 61 = .ok (.ishl, 1) := by decide +kernel
theorem dX7_who_62 : decode cX7_who 62 = .ok (.ior, 1) := by decide +kernel
theorem dX7_who_63 : decode cX7_who 63 = .ok (.istore_n 3, 1) := by decide +kernel
theorem dX7_who_64 : decode cX7_who 64 = .ok (.iinc 4 1, 3) := by decide +kernel
theorem dX7_who_67 : decode cX7_who 67 = .ok (.goto (-50), 3) := by decide +kernel
theorem dX7_who_70 : decode cX7_who 70 = .ok (.iload_n 3, 1) := by decide +kernel
theorem dX7_who_71 : decode cX7_who 71 = .ok (.ireturn, 1) := by decide +kernel
theorem dX7_drawn_0 : decode cX7_drawn 0 = .ok (.aload_n 0, 1) := by decide +kernel
theorem dX7_drawn_1 : decode cX7_drawn 1 = .ok (.iload_n 1, 1) := by decide +kernel
theorem dX7_drawn_2 : decode cX7_drawn 2 = .ok (.invokevirtual 235, 3) := by decide +kernel
theorem dX7_drawn_5 : decode cX7_drawn 5 = .ok (.aload_n 0, 1) := by decide +kernel
theorem dX7_drawn_6 : decode cX7_drawn 6 = .ok (.getfield 58, 3) := by decide +kernel
theorem dX7_drawn_9 : decode cX7_drawn 9 = .ok (.aload_n 0, 1) := by decide +kernel
theorem dX7_drawn_10 : decode cX7_drawn 10 = .ok (.getfield 80, 3) := by decide +kernel
theorem dX7_drawn_13 : decode cX7_drawn 13 = .ok (.invokevirtual 171, 3) := by decide +kernel
theorem dX7_drawn_16 : decode cX7_drawn 16 = .ok (.ireturn, 1) := by decide +kernel
theorem dX7_chance_0 : decode cX7_chance 0 = .ok (.iload_n 2, 1) := by decide +kernel
theorem dX7_chance_1 : decode cX7_chance 1 = .ok (.iconst 1, 1) := by decide +kernel
theorem dX7_chance_2 : decode cX7_chance 2 = .ok (.if_icmp .lt 18, 3) := by decide +kernel
theorem dX7_chance_5 : decode cX7_chance 5 = .ok (.iload_n 2, 1) := by decide +kernel
theorem dX7_chance_6 : decode cX7_chance 6 = .ok (.bipush 20, 2) := by decide +kernel
theorem dX7_chance_8 : decode cX7_chance 8 = .ok (.if_icmp .gt 12, 3) := by decide +kernel
theorem dX7_chance_11 : decode cX7_chance 11 = .ok (.iload_n 3, 1) := by decide +kernel
theorem dX7_chance_12 : decode cX7_chance 12 = .ok (.ifCond .lt 8, 3) := by decide +kernel
theorem dX7_chance_15 : decode cX7_chance 15 = .ok (.iload_n 3, 1) := by decide +kernel
theorem dX7_chance_16 : decode cX7_chance 16 = .ok (.iconst 1, 1) := by decide +kernel
theorem dX7_chance_17 : decode cX7_chance 17 = .ok (.if_icmp .le 7, 3) := by decide +kernel
theorem dX7_chance_20 : decode cX7_chance 20 = .ok (.ldc2_w 238, 3) := by decide +kernel
theorem dX7_chance_23 : decode cX7_chance 23 = .ok (.lreturn, 1) := by decide +kernel
theorem dX7_chance_24 : decode cX7_chance 24 = .ok (.iconst 0, 1) := by decide +kernel
theorem dX7_chance_25 : decode cX7_chance 25 = .ok (.istore 4, 2) := by decide +kernel
theorem dX7_chance_27 : decode cX7_chance 27 = .ok (.iconst 0, 1) := by decide +kernel
theorem dX7_chance_28 : decode cX7_chance 28 = .ok (.istore 5, 2) := by decide +kernel
theorem dX7_chance_30 : decode cX7_chance 30 = .ok (.iload 5, 2) := by decide +kernel
theorem dX7_chance_32 : decode cX7_chance 32 = .ok (.iload_n 2, 1) := by decide +kernel
theorem dX7_chance_33 : decode cX7_chance 33 = .ok (.if_icmp .ge 41, 3) := by decide +kernel
theorem dX7_chance_36 : decode cX7_chance 36 = .ok (.aload_n 0, 1) := by decide +kernel
theorem dX7_chance_37 : decode cX7_chance 37 = .ok (.iload_n 1, 1) := by decide +kernel
theorem dX7_chance_38 : decode cX7_chance 38 = .ok (.iload 5, 2) := by decide +kernel
theorem dX7_chance_40 : decode cX7_chance 40 = .ok (.iadd, 1) := by decide +kernel
theorem dX7_chance_41 : decode cX7_chance 41 = .ok (.invokevirtual 235, 3) := by decide +kernel
theorem dX7_chance_44 : decode cX7_chance 44 = .ok (.aload_n 0, 1) := by decide +kernel
theorem dX7_chance_45 : decode cX7_chance 45 = .ok (.getfield 12, 3) := by decide +kernel
theorem dX7_chance_48 : decode cX7_chance 48 = .ok (.aload_n 0, 1) := by decide +kernel
theorem dX7_chance_49 : decode cX7_chance 49 = .ok (.getfield 80, 3) := by decide +kernel
theorem dX7_chance_52 : decode cX7_chance 52 = .ok (.invokevirtual 182, 3) := by decide +kernel
theorem dX7_chance_55 : decode cX7_chance 55 = .ok (.aload_n 0, 1) := by decide +kernel
theorem dX7_chance_56 : decode cX7_chance 56 = .ok (.getfield 12, 3) := by decide +kernel
theorem dX7_chance_59 : decode cX7_chance 59 = .ok (.invokevirtual 240, 3) := by decide +kernel
theorem dX7_chance_62 : decode cX7_chance 62 = .ok (.if_icmp .ne 6, 3) := by decide +kernel
theorem dX7_chance_65 : decode cX7_chance 65 = .ok (.iinc 4 1, 3) := by decide +kernel
theorem dX7_chance_68 : decode cX7_chance 68 = .ok (.iinc 5 1, 3) := by decide +kernel
theorem dX7_chance_71 : decode cX7_chance 71 = .ok (.goto (-41), 3) := by decide +kernel
theorem dX7_chance_74 : decode cX7_chance 74 = .ok (.iload 4, 2) := by decide +kernel
theorem dX7_chance_76 : decode cX7_chance 76 = .ok (.iload_n 2, 1) := by decide +kernel
theorem dX7_chance_77 : decode cX7_chance 77 = .ok (.invokestatic 243, 3) := by decide +kernel
theorem dX7_chance_80 : decode cX7_chance 80 = .ok (.istore 5, 2) := by decide +kernel
theorem dX7_chance_82 : decode cX7_chance 82 = .ok (.iload 5, 2) := by decide +kernel
theorem dX7_chance_84 : decode cX7_chance 84 = .ok (.iconst 1, 1) := by decide +kernel
theorem dX7_chance_85 : decode cX7_chance 85 = .ok (.if_icmp .ge 7, 3) := by decide +kernel
theorem dX7_chance_88 : decode cX7_chance 88 = .ok (.ldc2_w 238, 3) := by decide +kernel
theorem dX7_chance_91 : decode cX7_chance 91 = .ok (.lreturn, 1) := by decide +kernel
theorem dX7_chance_92 : decode cX7_chance 92 = .ok (.iload_n 3, 1) := by decide +kernel
theorem dX7_chance_93 : decode cX7_chance 93 = .ok (.ifCond .ne 12, 3) := by decide +kernel
theorem dX7_chance_96 : decode cX7_chance 96 = .ok (.iload 4, 2) := by decide +kernel
theorem dX7_chance_98 : decode cX7_chance 98 = .ok (.iload 5, 2) := by decide +kernel
theorem dX7_chance_100 : decode cX7_chance 100 = .ok (.idiv, 1) := by decide +kernel
theorem dX7_chance_101 : decode cX7_chance 101 = .ok (.i2l, 1) := by decide +kernel
theorem dX7_chance_102 : decode cX7_chance 102 = .ok (.goto 8, 3) := by decide +kernel
theorem dX7_chance_105 : decode cX7_chance 105 = .ok (.iload_n 2, 1) := by decide +kernel
theorem dX7_chance_106 : decode cX7_chance 106 = .ok (.iload 5, 2) := by decide +kernel
theorem dX7_chance_108 : decode cX7_chance 108 = .ok (.idiv, 1) := by decide +kernel
theorem dX7_chance_109 : decode cX7_chance 109 = .ok (.i2l, 1) := by decide +kernel
theorem dX7_chance_110 : decode cX7_chance 110 = .ok (.lreturn, 1) := by decide +kernel
theorem dX7_image_0 : decode cX7_image 0 = .ok (.aload_n 0, 1) := by decide +kernel
theorem dX7_image_1 : decode cX7_image 1 = .ok (.getfield 16, 3) := by decide +kernel
theorem dX7_image_4 : decode cX7_image 4 = .ok (.aload_n 0, 1) := by decide +kernel
theorem dX7_image_5 : decode cX7_image 5 = .ok (.getfield 12, 3) := by decide +kernel
theorem dX7_image_8 : decode cX7_image 8 = .ok (.invokevirtual 246, 3) := by decide +kernel
theorem dX7_image_11 : decode cX7_image 11 = .ok (.aload_n 0, 1) := by decide +kernel
theorem dX7_image_12 : decode cX7_image 12 = .ok (.iconst 1, 1) := by decide +kernel
theorem dX7_image_13 : decode cX7_image 13 = .ok (.putfield 19, 3) := by decide +kernel
theorem dX7_image_16 : decode cX7_image 16 = .ok (.aload_n 0, 1) := by decide +kernel
theorem dX7_image_17 : decode cX7_image 17 = .ok (.getfield 12, 3) := by decide +kernel
theorem dX7_image_20 : decode cX7_image 20 = .ok (.invokevirtual 240, 3) := by decide +kernel
theorem dX7_image_23 : decode cX7_image 23 = .ok (.ireturn, 1) := by decide +kernel
theorem dX7_back_0 : decode cX7_back 0 = .ok (.aload_n 0, 1) := by decide +kernel
theorem dX7_back_1 : decode cX7_back 1 = .ok (.getfield 19, 3) := by decide +kernel
theorem dX7_back_4 : decode cX7_back 4 = .ok (.ifCond .ne 6, 3) := by decide +kernel
theorem dX7_back_7 : decode cX7_back 7 = .ok (.bipush (-3), 2) := by decide +kernel
theorem dX7_back_9 : decode cX7_back 9 = .ok (.ireturn, 1) := by decide +kernel
theorem dX7_back_10 : decode cX7_back 10 = .ok (.aload_n 0, 1) := by decide +kernel
theorem dX7_back_11 : decode cX7_back 11 = .ok (.getfield 12, 3) := by decide +kernel
theorem dX7_back_14 : decode cX7_back 14 = .ok (.aload_n 0, 1) := by decide +kernel
theorem dX7_back_15 : decode cX7_back 15 = .ok (.getfield 16, 3) := by decide +kernel
theorem dX7_back_18 : decode cX7_back 18 = .ok (.invokevirtual 246, 3) := by decide +kernel
theorem dX7_back_21 : decode cX7_back 21 = .ok (.aload_n 0, 1) := by decide +kernel
theorem dX7_back_22 : decode cX7_back 22 = .ok (.invokevirtual 125, 3) := by decide +kernel
theorem dX7_back_25 : decode cX7_back 25 = .ok (.aload_n 0, 1) := by decide +kernel
theorem dX7_back_26 : decode cX7_back 26 = .ok (.getfield 12, 3) := by decide +kernel
theorem dX7_back_29 : decode cX7_back 29 = .ok (.invokevirtual 240, 3) := by decide +kernel
theorem dX7_back_32 : decode cX7_back 32 = .ok (.ireturn, 1) := by decide +kernel
theorem dX7_count_0 : decode cX7_count 0 = .ok (.iload_n 1, 1) := by decide +kernel
theorem dX7_count_1 : decode cX7_count 1 = .ok (.tableswitch 109 0 7 #[47, 57, 67, 75, 83, 91, 96, 101], 47) := by decide +kernel
theorem dX7_count_48 : decode cX7_count 48 = .ok (.aload_n 0, 1) := by decide +kernel
theorem dX7_count_49 : decode cX7_count 49 = .ok (.getfield 12, 3) := by decide +kernel
theorem dX7_count_52 : decode cX7_count 52 = .ok (.getfield 113, 3) := by decide +kernel
theorem dX7_count_55 : decode cX7_count 55 = .ok (.iconst 0, 1) := by decide +kernel
theorem dX7_count_56 : decode cX7_count 56 = .ok (.iaload, 1) := by decide +kernel
theorem dX7_count_57 : decode cX7_count 57 = .ok (.ireturn, 1) := by decide +kernel
theorem dX7_count_58 : decode cX7_count 58 = .ok (.aload_n 0, 1) := by decide +kernel
theorem dX7_count_59 : decode cX7_count 59 = .ok (.getfield 12, 3) := by decide +kernel
theorem dX7_count_62 : decode cX7_count 62 = .ok (.getfield 113, 3) := by decide +kernel
theorem dX7_count_65 : decode cX7_count 65 = .ok (.iconst 1, 1) := by decide +kernel
theorem dX7_count_66 : decode cX7_count 66 = .ok (.iaload, 1) := by decide +kernel
theorem dX7_count_67 : decode cX7_count 67 = .ok (.ireturn, 1) := by decide +kernel
theorem dX7_count_68 : decode cX7_count 68 = .ok (.aload_n 0, 1) := by decide +kernel
theorem dX7_count_69 : decode cX7_count 69 = .ok (.getfield 12, 3) := by decide +kernel
theorem dX7_count_72 : decode cX7_count 72 = .ok (.getfield 162, 3) := by decide +kernel
theorem dX7_count_75 : decode cX7_count 75 = .ok (.ireturn, 1) := by decide +kernel
theorem dX7_count_76 : decode cX7_count 76 = .ok (.aload_n 0, 1) := by decide +kernel
theorem dX7_count_77 : decode cX7_count 77 = .ok (.getfield 12, 3) := by decide +kernel
theorem dX7_count_80 : decode cX7_count 80 = .ok (.getfield 136, 3) := by decide +kernel
theorem dX7_count_83 : decode cX7_count 83 = .ok (.ireturn, 1) := by decide +kernel
theorem dX7_count_84 : decode cX7_count 84 = .ok (.aload_n 0, 1) := by decide +kernel
theorem dX7_count_85 : decode cX7_count 85 = .ok (.getfield 12, 3) := by decide +kernel
theorem dX7_count_88 : decode cX7_count 88 = .ok (.getfield 139, 3) := by decide +kernel
theorem dX7_count_91 : decode cX7_count 91 = .ok (.ireturn, 1) := by decide +kernel
theorem dX7_count_92 : decode cX7_count 92 = .ok (.aload_n 0, 1) := by decide +kernel
theorem dX7_count_93 : decode cX7_count 93 = .ok (.getfield 37, 3) := by decide +kernel
theorem dX7_count_96 : decode cX7_count 96 = .ok (.ireturn, 1) := by decide +kernel
theorem dX7_count_97 : decode cX7_count 97 = .ok (.aload_n 0, 1) := by decide +kernel
theorem dX7_count_98 : decode cX7_count 98 = .ok (.getfield 27, 3) := by decide +kernel
theorem dX7_count_101 : decode cX7_count 101 = .ok (.ireturn, 1) := by decide +kernel
theorem dX7_count_102 : decode cX7_count 102 = .ok (.aload_n 0, 1) := by decide +kernel
theorem dX7_count_103 : decode cX7_count 103 = .ok (.getfield 12, 3) := by decide +kernel
theorem dX7_count_106 : decode cX7_count 106 = .ok (.getfield 168, 3) := by decide +kernel
theorem dX7_count_109 : decode cX7_count 109 = .ok (.ireturn, 1) := by decide +kernel
theorem dX7_count_110 : decode cX7_count 110 = .ok (.bipush (-2), 2) := by decide +kernel
theorem dX7_count_112 : decode cX7_count 112 = .ok (.ireturn, 1) := by decide +kernel
theorem dX7_sheet_0 : decode cX7_sheet 0 = .ok (.iload_n 1, 1) := by decide +kernel
theorem dX7_sheet_1 : decode cX7_sheet 1 = .ok (.invokestatic 249, 3) := by decide +kernel
theorem dX7_sheet_4 : decode cX7_sheet 4 = .ok (.ifCond .eq 15, 3) := by decide +kernel
theorem dX7_sheet_7 : decode cX7_sheet 7 = .ok (.iload_n 2, 1) := by decide +kernel
theorem dX7_sheet_8 : decode cX7_sheet 8 = .ok (.iconst (-1), 1) := by decide +kernel
theorem dX7_sheet_9 : decode cX7_sheet 9 = .ok (.if_icmp .eq 13, 3) := by decide +kernel
theorem dX7_sheet_12 : decode cX7_sheet 12 = .ok (.iload_n 2, 1) := by decide +kernel
theorem dX7_sheet_13 : decode cX7_sheet 13 = .ok (.invokestatic 252, 3) := by decide +kernel
theorem dX7_sheet_16 : decode cX7_sheet 16 = .ok (.ifCond .ne 6, 3) := by decide +kernel
theorem dX7_sheet_19 : decode cX7_sheet 19 = .ok (.bipush (-2), 2) := by decide +kernel
theorem dX7_sheet_21 : decode cX7_sheet 21 = .ok (.ireturn, 1) := by decide +kernel
theorem dX7_sheet_22 : decode cX7_sheet 22 = .ok (.iload_n 2, 1) := by decide +kernel
theorem dX7_sheet_23 : decode cX7_sheet 23 = .ok (.iconst (-1), 1) := by decide +kernel
theorem dX7_sheet_24 : decode cX7_sheet 24 = .ok (.if_icmp .eq 12, 3) := by decide +kernel
theorem dX7_sheet_27 : decode cX7_sheet 27 = .ok (.iload_n 3, 1) := by decide +kernel
theorem dX7_sheet_28 : decode cX7_sheet 28 = .ok (.bipush 40, 2) := by decide +kernel
theorem dX7_sheet_30 : decode cX7_sheet 30 = .ok (.if_icmp .le 6, 3) := by decide +kernel
theorem dX7_sheet_33 : decode cX7_sheet 33 = .ok (.bipush (-2), 2) := by decide +kernel
theorem dX7_sheet_35 : decode cX7_sheet 35 = .ok (.ireturn, 1) := by decide +kernel
theorem dX7_sheet_36 : decode cX7_sheet 36 = .ok (.iload_n 2, 1) := by decide +kernel
theorem dX7_sheet_37 : decode cX7_sheet 37 = .ok (.iconst (-1), 1) := by decide +kernel
theorem dX7_sheet_38 : decode cX7_sheet 38 = .ok (.if_icmp .eq 10, 3) := by decide +kernel
theorem dX7_sheet_41 : decode cX7_sheet 41 = .ok (.iload_n 3, 1) := by decide +kernel
theorem dX7_sheet_42 : decode cX7_sheet 42 = .ok (.ifCond .ge 6, 3) := by decide +kernel
theorem dX7_sheet_45 : decode cX7_sheet 45 = .ok (.bipush (-14), 2) := by decide +kernel
theorem dX7_sheet_47 : decode cX7_sheet 47 = .ok (.ireturn, 1) := by decide +kernel
theorem dX7_sheet_48 : decode cX7_sheet 48 = .ok (.aload_n 0, 1) := by decide +kernel
theorem dX7_sheet_49 : decode cX7_sheet 49 = .ok (.getfield 49, 3) := by decide +kernel
theorem dX7_sheet_52 : decode cX7_sheet 52 = .ok (.iload_n 1, 1) := by decide +kernel
theorem dX7_sheet_53 : decode cX7_sheet 53 = .ok (.aaload, 1) := by decide +kernel
theorem dX7_sheet_54 : decode cX7_sheet 54 = .ok (.iload_n 2, 1) := by decide +kernel
theorem dX7_sheet_55 : decode cX7_sheet 55 = .ok (.iload_n 2, 1) := by decide +kernel
theorem dX7_sheet_56 : decode cX7_sheet 56 = .ok (.iconst (-1), 1) := by decide +kernel
theorem dX7_sheet_57 : decode cX7_sheet 57 = .ok (.if_icmp .ne 7, 3) := by decide +kernel
theorem dX7_sheet_60 : decode cX7_sheet 60 = .ok (.iconst 0, 1) := by decide +kernel
theorem dX7_sheet_61 : decode cX7_sheet 61 = .ok (.goto 4, 3) := by decide +kernel
theorem dX7_sheet_64 : decode cX7_sheet 64 = .ok (.iload_n 3, 1) := by decide +kernel
theorem dX7_sheet_65 : decode cX7_sheet 65 = .ok (.invokevirtual 255, 3) := by decide +kernel
theorem dX7_sheet_68 : decode cX7_sheet 68 = .ok (.iconst 1, 1) := by decide +kernel
theorem dX7_sheet_69 : decode cX7_sheet 69 = .ok (.ireturn, 1) := by decide +kernel
theorem dX7_cell_0 : decode cX7_cell 0 = .ok (.iload_n 1, 1) := by decide +kernel
theorem dX7_cell_1 : decode cX7_cell 1 = .ok (.invokestatic 249, 3) := by decide +kernel
theorem dX7_cell_4 : decode cX7_cell 4 = .ok (.ifCond .ne 6, 3) := by decide +kernel
theorem dX7_cell_7 : decode cX7_cell 7 = .ok (.bipush (-2), 2) := by decide +kernel
theorem dX7_cell_9 : decode cX7_cell 9 = .ok (.ireturn, 1) := by decide +kernel
theorem dX7_cell_10 : decode cX7_cell 10 = .ok (.aload_n 0, 1) := by decide +kernel
theorem dX7_cell_11 : decode cX7_cell 11 = .ok (.getfield 49, 3) := by decide +kernel
theorem dX7_cell_14 : decode cX7_cell 14 = .ok (.iload_n 1, 1) := by decide +kernel
theorem dX7_cell_15 : decode cX7_cell 15 = .ok (.aaload, 1) := by decide +kernel
theorem dX7_cell_16 : decode cX7_cell 16 = .ok (.astore 4, 2) := by decide +kernel
theorem dX7_cell_18 : decode cX7_cell 18 = .ok (.aload 4, 2) := by decide +kernel
theorem dX7_cell_20 : decode cX7_cell 20 = .ok (.getfield 259, 3) := by decide +kernel
theorem dX7_cell_23 : decode cX7_cell 23 = .ok (.iconst (-1), 1) := by decide +kernel
theorem dX7_cell_24 : decode cX7_cell 24 = .ok (.if_icmp .ne 6, 3) := by decide +kernel
theorem dX7_cell_27 : decode cX7_cell 27 = .ok (.bipush (-11), 2) := by decide +kernel
theorem dX7_cell_29 : decode cX7_cell 29 = .ok (.ireturn, 1) := by decide +kernel
theorem dX7_cell_30 : decode cX7_cell 30 = .ok (.aload 4, 2) := by decide +kernel
theorem dX7_cell_32 : decode cX7_cell 32 = .ok (.iload_n 2, 1) := by decide +kernel
theorem dX7_cell_33 : decode cX7_cell 33 = .ok (.iconst 1, 1) := by decide +kernel
theorem dX7_cell_34 : decode cX7_cell 34 = .ok (.invokevirtual 262, 3) := by decide +kernel
theorem dX7_cell_37 : decode cX7_cell 37 = .ok (.ifCond .ne 6, 3) := by decide +kernel
theorem dX7_cell_40 : decode cX7_cell 40 = .ok (.bipush (-12), 2) := by decide +kernel
theorem dX7_cell_42 : decode cX7_cell 42 = .ok (.ireturn, 1) := by decide +kernel
theorem dX7_cell_43 : decode cX7_cell 43 = .ok (.aload 4, 2) := by decide +kernel
theorem dX7_cell_45 : decode cX7_cell 45 = .ok (.getfield 225, 3) := by decide +kernel
theorem dX7_cell_48 : decode cX7_cell 48 = .ok (.iload_n 2, 1) := by decide +kernel
theorem dX7_cell_49 : decode cX7_cell 49 = .ok (.aload 4, 2) := by decide +kernel
theorem dX7_cell_51 : decode cX7_cell 51 = .ok (.getfield 259, 3) := by decide +kernel
theorem dX7_cell_54 : decode cX7_cell 54 = .ok (.ifCond .ne 8, 3) := by decide +kernel
theorem dX7_cell_57 : decode cX7_cell 57 = .ok (.iload_n 3, 1) := by decide +kernel
theorem dX7_cell_58 : decode cX7_cell 58 = .ok (.i2b, 1) := by decide +kernel
theorem dX7_cell_59 : decode cX7_cell 59 = .ok (.goto 18, 3) := by decide +kernel
theorem dX7_cell_62 : decode cX7_cell 62 = .ok (.aload 4, 2) := by decide +kernel
theorem dX7_cell_64 : decode cX7_cell 64 = .ok (.getfield 259, 3) := by decide +kernel
theorem dX7_cell_67 : decode cX7_cell 67 = .ok (.iconst 1, 1) := by decide +kernel
theorem dX7_cell_68 : decode cX7_cell 68 = .ok (.if_icmp .ne 8, 3) := by decide +kernel
theorem dX7_cell_71 : decode cX7_cell 71 = .ok (.iload_n 3, 1) := by decide +kernel
theorem dX7_cell_72 : decode cX7_cell 72 = .ok (.i2s, 1) := by decide +kernel
theorem dX7_cell_73 : decode cX7_cell 73 = .ok (.goto 4, 3) := by decide +kernel
theorem dX7_cell_76 : decode cX7_cell 76 = .ok (.iload_n 3, 1) := by decide +kernel
theorem dX7_cell_77 : decode cX7_cell 77 = .ok (.iastore, 1) := by decide +kernel
theorem dX7_cell_78 : decode cX7_cell 78 = .ok (.iconst 1, 1) := by decide +kernel
theorem dX7_cell_79 : decode cX7_cell 79 = .ok (.ireturn, 1) := by decide +kernel
theorem dX7_copy_0 : decode cX7_copy 0 = .ok (.iload_n 1, 1) := by decide +kernel
theorem dX7_copy_1 : decode cX7_copy 1 = .ok (.invokestatic 249, 3) := by decide +kernel
theorem dX7_copy_4 : decode cX7_copy 4 = .ok (.ifCond .eq 10, 3) := by decide +kernel
theorem dX7_copy_7 : decode cX7_copy 7 = .ok (.iload_n 3, 1) := by decide +kernel
theorem dX7_copy_8 : decode cX7_copy 8 = .ok (.invokestatic 249, 3) := by decide +kernel
theorem dX7_copy_11 : decode cX7_copy 11 = .ok (.ifCond .ne 6, 3) := by decide +kernel
theorem dX7_copy_14 : decode cX7_copy 14 = .ok (.bipush (-2), 2) := by decide +kernel
theorem dX7_copy_16 : decode cX7_copy 16 = .ok (.ireturn, 1) := by decide +kernel
theorem dX7_copy_17 : decode cX7_copy 17 = .ok (.aload_n 0, 1) := by decide +kernel
theorem dX7_copy_18 : decode cX7_copy 18 = .ok (.getfield 49, 3) := by decide +kernel
theorem dX7_copy_21 : decode cX7_copy 21 = .ok (.iload_n 1, 1) := by decide +kernel
theorem dX7_copy_22 : decode cX7_copy 22 = .ok (.aaload, 1) := by decide +kernel
theorem dX7_copy_23 : decode cX7_copy 23 = .ok (.astore 6, 2) := by decide +kernel
theorem dX7_copy_25 : decode cX7_copy 25 = .ok (.aload_n 0, 1) := by decide +kernel
theorem dX7_copy_26 : decode cX7_copy 26 = .ok (.getfield 49, 3) := by decide +kernel
theorem dX7_copy_29 : decode cX7_copy 29 = .ok (.iload_n 3, 1) := by decide +kernel
theorem dX7_copy_30 : decode cX7_copy 30 = .ok (.aaload, 1) := by decide +kernel
theorem dX7_copy_31 : decode cX7_copy 31 = .ok (.astore 7, 2) := by decide +kernel
theorem dX7_copy_33 : decode cX7_copy 33 = .ok (.aload 6, 2) := by decide +kernel
theorem dX7_copy_35 : decode cX7_copy 35 = .ok (.getfield 259, 3) := by decide +kernel
theorem dX7_copy_38 : decode cX7_copy 38 = .ok (.iconst (-1), 1) := by decide +kernel
theorem dX7_copy_39 : decode cX7_copy 39 = .ok (.if_icmp .eq 12, 3) := by decide +kernel
theorem dX7_copy_42 : decode cX7_copy 42 = .ok (.aload 7, 2) := by decide +kernel
theorem dX7_copy_44 : decode cX7_copy 44 = .ok (.getfield 259, 3) := by decide +kernel
theorem dX7_copy_47 : decode cX7_copy 47 = .ok (.iconst (-1), 1) := by decide +kernel
theorem dX7_copy_48 : decode cX7_copy 48 = .ok (.if_icmp .ne 6, 3) := by decide +kernel
theorem dX7_copy_51 : decode cX7_copy 51 = .ok (.bipush (-11), 2) := by decide +kernel
theorem dX7_copy_53 : decode cX7_copy 53 = .ok (.ireturn, 1) := by decide +kernel
theorem dX7_copy_54 : decode cX7_copy 54 = .ok (.aload 6, 2) := by decide +kernel
theorem dX7_copy_56 : decode cX7_copy 56 = .ok (.getfield 259, 3) := by decide +kernel
theorem dX7_copy_59 : decode cX7_copy 59 = .ok (.aload 7, 2) := by decide +kernel
theorem dX7_copy_61 : decode cX7_copy 61 = .ok (.getfield 259, 3) := by decide +kernel
theorem dX7_copy_64 : decode cX7_copy 64 = .ok (.if_icmp .eq 6, 3) := by decide +kernel
theorem dX7_copy_67 : decode cX7_copy 67 = .ok (.bipush (-13), 2) := by decide +kernel
theorem dX7_copy_69 : decode cX7_copy 69 = .ok (.ireturn, 1) := by decide +kernel
theorem dX7_copy_70 : decode cX7_copy 70 = .ok (.aload 6, 2) := by decide +kernel
theorem dX7_copy_72 : decode cX7_copy 72 = .ok (.iload_n 2, 1) := by decide +kernel
theorem dX7_copy_73 : decode cX7_copy 73 = .ok (.iload 5, 2) := by decide +kernel
theorem dX7_copy_75 : decode cX7_copy 75 = .ok (.invokevirtual 262, 3) := by decide +kernel
theorem dX7_copy_78 : decode cX7_copy 78 = .ok (.ifCond .eq 15, 3) := by decide +kernel
theorem dX7_copy_81 : decode cX7_copy 81 = .ok (.aload 7, 2) := by decide +kernel
theorem dX7_copy_83 : decode cX7_copy 83 = .ok (.iload 4, 2) := by decide +kernel
theorem dX7_copy_85 : decode cX7_copy 85 = .ok (.iload 5, 2) := by decide +kernel
theorem dX7_copy_87 : decode cX7_copy 87 = .ok (.invokevirtual 262, 3) := by decide +kernel
theorem dX7_copy_90 : decode cX7_copy 90 = .ok (.ifCond .ne 6, 3) := by decide +kernel
theorem dX7_copy_93 : decode cX7_copy 93 = .ok (.bipush (-12), 2) := by decide +kernel
theorem dX7_copy_95 : decode cX7_copy 95 = .ok (.ireturn, 1) := by decide +kernel
theorem dX7_copy_96 : decode cX7_copy 96 = .ok (.aload 6, 2) := by decide +kernel
theorem dX7_copy_98 : decode cX7_copy 98 = .ok (.getfield 225, 3) := by decide +kernel
theorem dX7_copy_101 : decode cX7_copy 101 = .ok (.iload_n 2, 1) := by decide +kernel
theorem dX7_copy_102 : decode cX7_copy 102 = .ok (.aload 7, 2) := by decide +kernel
theorem dX7_copy_104 : decode cX7_copy 104 = .ok (.getfield 225, 3) := by decide +kernel
theorem dX7_copy_107 : decode cX7_copy 107 = .ok (.iload 4, 2) := by decide +kernel
theorem dX7_copy_109 : decode cX7_copy 109 = .ok (.iload 5, 2) := by decide +kernel
theorem dX7_copy_111 : decode cX7_copy 111 = .ok (.invokestatic 194, 3) := by decide +kernel
theorem dX7_copy_114 : decode cX7_copy 114 = .ok (.iload 5, 2) := by decide +kernel
theorem dX7_copy_116 : decode cX7_copy 116 = .ok (.ireturn, 1) := by decide +kernel
theorem dX7_comes_0 : decode cX7_comes 0 = .ok (.iload_n 1, 1) := by decide +kernel
theorem dX7_comes_1 : decode cX7_comes 1 = .ok (.invokestatic 249, 3) := by decide +kernel
theorem dX7_comes_4 : decode cX7_comes 4 = .ok (.ifCond .eq 22, 3) := by decide +kernel
theorem dX7_comes_7 : decode cX7_comes 7 = .ok (.iload_n 2, 1) := by decide +kernel
theorem dX7_comes_8 : decode cX7_comes 8 = .ok (.invokestatic 252, 3) := by decide +kernel
theorem dX7_comes_11 : decode cX7_comes 11 = .ok (.ifCond .eq 15, 3) := by decide +kernel
theorem dX7_comes_14 : decode cX7_comes 14 = .ok (.iload 4, 2) := by decide +kernel
theorem dX7_comes_16 : decode cX7_comes 16 = .ok (.ifCond .lt 10, 3) := by decide +kernel
theorem dX7_comes_19 : decode cX7_comes 19 = .ok (.iload 4, 2) := by decide +kernel
theorem dX7_comes_21 : decode cX7_comes 21 = .ok (.bipush 8, 2) := by decide +kernel
theorem dX7_comes_23 : decode cX7_comes 23 = .ok (.if_icmp .le 6, 3) := by decide +kernel
theorem dX7_comes_26 : decode cX7_comes 26 = .ok (.bipush (-2), 2) := by decide +kernel
theorem dX7_comes_28 : decode cX7_comes 28 = .ok (.ireturn, 1) := by decide +kernel
theorem dX7_comes_29 : decode cX7_comes 29 = .ok (.aload_n 0, 1) := by decide +kernel
theorem dX7_comes_30 : decode cX7_comes 30 = .ok (.getfield 49, 3) := by decide +kernel
theorem dX7_comes_33 : decode cX7_comes 33 = .ok (.iload_n 1, 1) := by decide +kernel
theorem dX7_comes_34 : decode cX7_comes 34 = .ok (.aaload, 1) := by decide +kernel
theorem dX7_comes_35 : decode cX7_comes 35 = .ok (.astore 5, 2) := by decide +kernel
theorem dX7_comes_37 : decode cX7_comes 37 = .ok (.aload 5, 2) := by decide +kernel
theorem dX7_comes_39 : decode cX7_comes 39 = .ok (.getfield 259, 3) := by decide +kernel
theorem dX7_comes_42 : decode cX7_comes 42 = .ok (.iconst (-1), 1) := by decide +kernel
theorem dX7_comes_43 : decode cX7_comes 43 = .ok (.if_icmp .ne 6, 3) := by decide +kernel
theorem dX7_comes_46 : decode cX7_comes 46 = .ok (.bipush (-11), 2) := by decide +kernel
theorem dX7_comes_48 : decode cX7_comes 48 = .ok (.ireturn, 1) := by decide +kernel
theorem dX7_comes_49 : decode cX7_comes 49 = .ok (.aload 5, 2) := by decide +kernel
theorem dX7_comes_51 : decode cX7_comes 51 = .ok (.getfield 259, 3) := by decide +kernel
theorem dX7_comes_54 : decode cX7_comes 54 = .ok (.iload_n 2, 1) := by decide +kernel
theorem dX7_comes_55 : decode cX7_comes 55 = .ok (.if_icmp .eq 6, 3) := by decide +kernel
theorem dX7_comes_58 : decode cX7_comes 58 = .ok (.bipush (-13), 2) := by decide +kernel
theorem dX7_comes_60 : decode cX7_comes 60 = .ok (.ireturn, 1) := by decide +kernel
theorem dX7_comes_61 : decode cX7_comes 61 = .ok (.iconst 0, 1) := by decide +kernel
theorem dX7_comes_62 : decode cX7_comes 62 = .ok (.istore 6, 2) := by decide +kernel
theorem dX7_comes_64 : decode cX7_comes 64 = .ok (.iconst 0, 1) := by decide +kernel
theorem dX7_comes_65 : decode cX7_comes 65 = .ok (.istore 7, 2) := by decide +kernel
theorem dX7_comes_67 : decode cX7_comes 67 = .ok (.iload 7, 2) := by decide +kernel
theorem dX7_comes_69 : decode cX7_comes 69 = .ok (.iload 4, 2) := by decide +kernel
theorem dX7_comes_71 : decode cX7_comes 71 = .ok (.if_icmp .ge 69, 3) := by decide +kernel
theorem dX7_comes_74 : decode cX7_comes 74 = .ok (.iload_n 3, 1) := by decide +kernel
theorem dX7_comes_75 : decode cX7_comes 75 = .ok (.iconst 3, 1) := by decide +kernel
theorem dX7_comes_76 : decode cX7_comes 76 = .ok (.iload 7, 2) := by decide +kernel
theorem dX7_comes_78 : decode cX7_comes 78 = .ok (.imul, 1) := by decide +kernel
theorem dX7_comes_79 : decode cX7_comes 79 = .ok (.iadd, 1) := by decide +kernel
theorem dX7_comes_80 : decode cX7_comes 80 = .ok (.istore 8, 2) := by decide +kernel
theorem dX7_comes_82 : decode cX7_comes 82 = .ok (.aload 5, 2) := by decide +kernel
theorem dX7_comes_84 : decode cX7_comes 84 = .ok (.iload 8, 2) := by decide +kernel
theorem dX7_comes_86 : decode cX7_comes 86 = .ok (.iconst 3, 1) := by decide +kernel
theorem dX7_comes_87 : decode cX7_comes 87 = .ok (.invokevirtual 262, 3) := by decide +kernel
theorem dX7_comes_90 : decode cX7_comes 90 = .ok (.ifCond .ne 6, 3) := by decide +kernel
theorem dX7_comes_93 : decode cX7_comes 93 = .ok (.bipush (-12), 2) := by decide +kernel
theorem dX7_comes_95 : decode cX7_comes 95 = .ok (.ireturn, 1) := by decide +kernel
theorem dX7_comes_96 : decode cX7_comes 96 = .ok (.aload_n 0, 1) := by decide +kernel
theorem dX7_comes_97 : decode cX7_comes 97 = .ok (.aload 5, 2) := by decide +kernel
theorem dX7_comes_99 : decode cX7_comes 99 = .ok (.getfield 225, 3) := by decide +kernel
theorem dX7_comes_102 : decode cX7_comes 102 = .ok (.iload 8, 2) := by decide +kernel
theorem dX7_comes_104 : decode cX7_comes 104 = .ok (.iaload, 1) := by decide +kernel
theorem dX7_comes_105 : decode cX7_comes 105 = .ok (.aload 5, 2) := by decide +kernel
theorem dX7_comes_107 : decode cX7_comes 107 = .ok (.getfield 225, 3) := by decide +kernel
theorem dX7_comes_110 : decode cX7_comes 110 = .ok (.iload 8, 2) := by decide +kernel
theorem dX7_comes_112 : decode cX7_comes 112 = .ok (.iconst 1, 1) := by decide +kernel
theorem dX7_comes_113 : decode cX7_comes 113 = .ok (.iadd, 1) := by decide +kernel
theorem dX7_comes_114 : decode cX7_comes 114 = .ok (.iaload, 1) := by decide +kernel
theorem dX7_comes_115 : decode cX7_comes 115 = .ok (.aload 5, 2) := by decide +kernel
theorem dX7_comes_117 : decode cX7_comes 117 = .ok (.getfield 225, 3) := by decide +kernel
theorem dX7_comes_120 : decode cX7_comes 120 = .ok (.iload 8, 2) := by decide +kernel
theorem dX7_comes_122 : decode cX7_comes 122 = .ok (.iconst 2, 1) := by decide +kernel
theorem dX7_comes_123 : decode cX7_comes 123 = .ok (.iadd, 1) := by decide +kernel
theorem dX7_comes_124 : decode cX7_comes 124 = .ok (.iaload, 1) := by decide +kernel
theorem dX7_comes_125 : decode cX7_comes 125 = .ok (.invokevirtual 265, 3) := by decide +kernel
theorem dX7_comes_128 : decode cX7_comes 128 = .ok (.ifCond .lt 6, 3) := by decide +kernel
theorem dX7_comes_131 : decode cX7_comes 131 = .ok (.iinc 6 1, 3) := by decide +kernel
theorem dX7_comes_134 : decode cX7_comes 134 = .ok (.iinc 7 1, 3) := by decide +kernel
theorem dX7_comes_137 : decode cX7_comes 137 = .ok (.goto (-70), 3) := by decide +kernel
theorem dX7_comes_140 : decode cX7_comes 140 = .ok (.iload 6, 2) := by decide +kernel
theorem dX7_comes_142 : decode cX7_comes 142 = .ok (.ireturn, 1) := by decide +kernel
theorem dX7_taken_0 : decode cX7_taken 0 = .ok (.iload_n 2, 1) := by decide +kernel
theorem dX7_taken_1 : decode cX7_taken 1 = .ok (.invokestatic 159, 3) := by decide +kernel
theorem dX7_taken_4 : decode cX7_taken 4 = .ok (.ifCond .ne 6, 3) := by decide +kernel
theorem dX7_taken_7 : decode cX7_taken 7 = .ok (.bipush (-2), 2) := by decide +kernel
theorem dX7_taken_9 : decode cX7_taken 9 = .ok (.ireturn, 1) := by decide +kernel
theorem dX7_taken_10 : decode cX7_taken 10 = .ok (.aload_n 0, 1) := by decide +kernel
theorem dX7_taken_11 : decode cX7_taken 11 = .ok (.iload_n 1, 1) := by decide +kernel
theorem dX7_taken_12 : decode cX7_taken 12 = .ok (.invokevirtual 142, 3) := by decide +kernel
theorem dX7_taken_15 : decode cX7_taken 15 = .ok (.ifCond .ne 6, 3) := by decide +kernel
theorem dX7_taken_18 : decode cX7_taken 18 = .ok (.bipush (-11), 2) := by decide +kernel
theorem dX7_taken_20 : decode cX7_taken 20 = .ok (.ireturn, 1) := by decide +kernel
theorem dX7_taken_21 : decode cX7_taken 21 = .ok (.aload_n 0, 1) := by decide +kernel
theorem dX7_taken_22 : decode cX7_taken 22 = .ok (.getfield 12, 3) := by decide +kernel
theorem dX7_taken_25 : decode cX7_taken 25 = .ok (.getfield 165, 3) := by decide +kernel
theorem dX7_taken_28 : decode cX7_taken 28 = .ok (.iload_n 1, 1) := by decide +kernel
theorem dX7_taken_29 : decode cX7_taken 29 = .ok (.iaload, 1) := by decide +kernel
theorem dX7_taken_30 : decode cX7_taken 30 = .ok (.istore_n 3, 1) := by decide +kernel
theorem dX7_taken_31 : decode cX7_taken 31 = .ok (.iconst 0, 1) := by decide +kernel
theorem dX7_taken_32 : decode cX7_taken 32 = .ok (.istore 4, 2) := by decide +kernel
theorem dX7_taken_34 : decode cX7_taken 34 = .ok (.iload 4, 2) := by decide +kernel
theorem dX7_taken_36 : decode cX7_taken 36 = .ok (.getstatic 269, 3) := by decide +kernel
theorem dX7_taken_39 : decode cX7_taken 39 = .ok (.arraylength, 1) := by decide +kernel
theorem dX7_taken_40 : decode cX7_taken 40 = .ok (.if_icmp .ge 37, 3) := by decide +kernel
theorem dX7_taken_43 : decode cX7_taken 43 = .ok (.iload_n 3, 1) := by decide +kernel
theorem dX7_taken_44 : decode cX7_taken 44 = .ok (.invokestatic 159, 3) := by decide +kernel
theorem dX7_taken_47 : decode cX7_taken 47 = .ok (.ifCond .eq 30, 3) := by decide +kernel
theorem dX7_taken_50 : decode cX7_taken 50 = .ok (.iload_n 3, 1) := by decide +kernel
theorem dX7_taken_51 : decode cX7_taken 51 = .ok (.iload_n 2, 1) := by decide +kernel
theorem dX7_taken_52 : decode cX7_taken 52 = .ok (.if_icmp .ne 13, 3) := by decide +kernel
theorem dX7_taken_55 : decode cX7_taken 55 = .ok (.aload_n 0, 1) := by decide +kernel
theorem dX7_taken_56 : decode cX7_taken 56 = .ok (.getfield 12, 3) := by decide +kernel
theorem dX7_taken_59 : decode cX7_taken 59 = .ok (.getfield 145, 3) := by decide +kernel
theorem dX7_taken_62 : decode cX7_taken 62 = .ok (.iload_n 1, 1) := by decide +kernel
theorem dX7_taken_63 : decode cX7_taken 63 = .ok (.iaload, 1) := by decide +kernel
theorem dX7_taken_64 : decode cX7_taken 64 = .ok (.ireturn, 1) := by decide +kernel
theorem dX7_taken_65 : decode cX7_taken 65 = .ok (.getstatic 269, 3) := by decide +kernel
theorem dX7_taken_68 : decode cX7_taken 68 = .ok (.iload_n 3, 1) := by decide +kernel
theorem dX7_taken_69 : decode cX7_taken 69 = .ok (.iaload, 1) := by decide +kernel
theorem dX7_taken_70 : decode cX7_taken 70 = .ok (.istore_n 3, 1) := by decide +kernel
theorem dX7_taken_71 : decode cX7_taken 71 = .ok (.iinc 4 1, 3) := by decide +kernel
theorem dX7_taken_74 : decode cX7_taken 74 = .ok (.goto (-40), 3) := by decide +kernel
theorem dX7_taken_77 : decode cX7_taken 77 = .ok (.bipush (-13), 2) := by decide +kernel
theorem dX7_taken_79 : decode cX7_taken 79 = .ok (.ireturn, 1) := by decide +kernel
theorem dX7_isSort_0 : decode cX7_isSort 0 = .ok (.iload_n 0, 1) := by decide +kernel
theorem dX7_isSort_1 : decode cX7_isSort 1 = .ok (.ifCond .eq 8, 3) := by decide +kernel
theorem dX7_isSort_4 : decode cX7_isSort 4 = .ok (.iload_n 0, 1) := by decide +kernel
theorem dX7_isSort_5 : decode cX7_isSort 5 = .ok (.iconst 1, 1) := by decide +kernel
theorem dX7_isSort_6 : decode cX7_isSort 6 = .ok (.if_icmp .ne 7, 3) := by decide +kernel
theorem dX7_isSort_9 : decode cX7_isSort 9 = .ok (.iconst 1, 1) := by decide +kernel
theorem dX7_isSort_10 : decode cX7_isSort 10 = .ok (.goto 4, 3) := by decide +kernel
theorem dX7_isSort_13 : decode cX7_isSort 13 = .ok (.iconst 0, 1) := by decide +kernel
theorem dX7_isSort_14 : decode cX7_isSort 14 = .ok (.ireturn, 1) := by decide +kernel
theorem dX7_isBridge_0 : decode cX7_isBridge 0 = .ok (.iload_n 0, 1) := by decide +kernel
theorem dX7_isBridge_1 : decode cX7_isBridge 1 = .ok (.ifCond .lt 12, 3) := by decide +kernel
theorem dX7_isBridge_4 : decode cX7_isBridge 4 = .ok (.iload_n 0, 1) := by decide +kernel
theorem dX7_isBridge_5 : decode cX7_isBridge 5 = .ok (.iconst 3, 1) := by decide +kernel
theorem dX7_isBridge_6 : decode cX7_isBridge 6 = .ok (.if_icmp .ge 7, 3) := by decide +kernel
theorem dX7_isBridge_9 : decode cX7_isBridge 9 = .ok (.iconst 1, 1) := by decide +kernel
theorem dX7_isBridge_10 : decode cX7_isBridge 10 = .ok (.goto 4, 3) := by decide +kernel
theorem dX7_isBridge_13 : decode cX7_isBridge 13 = .ok (.iconst 0, 1) := by decide +kernel
theorem dX7_isBridge_14 : decode cX7_isBridge 14 = .ok (.ireturn, 1) := by decide +kernel
theorem dX7_isMinute_0 : decode cX7_isMinute 0 = .ok (.iload_n 0, 1) := by decide +kernel
theorem dX7_isMinute_1 : decode cX7_isMinute 1 = .ok (.ifCond .lt 13, 3) := by decide +kernel
theorem dX7_isMinute_4 : decode cX7_isMinute 4 = .ok (.iload_n 0, 1) := by decide +kernel
theorem dX7_isMinute_5 : decode cX7_isMinute 5 = .ok (.bipush 24, 2) := by decide +kernel
theorem dX7_isMinute_7 : decode cX7_isMinute 7 = .ok (.if_icmp .ge 7, 3) := by decide +kernel
theorem dX7_isMinute_10 : decode cX7_isMinute 10 = .ok (.iconst 1, 1) := by decide +kernel
theorem dX7_isMinute_11 : decode cX7_isMinute 11 = .ok (.goto 4, 3) := by decide +kernel
theorem dX7_isMinute_14 : decode cX7_isMinute 14 = .ok (.iconst 0, 1) := by decide +kernel
theorem dX7_isMinute_15 : decode cX7_isMinute 15 = .ok (.ireturn, 1) := by decide +kernel
theorem dX7_isDigit_0 : decode cX7_isDigit 0 = .ok (.iload_n 0, 1) := by decide +kernel
theorem dX7_isDigit_1 : decode cX7_isDigit 1 = .ok (.ifCond .lt 13, 3) := by decide +kernel
theorem dX7_isDigit_4 : decode cX7_isDigit 4 = .ok (.iload_n 0, 1) := by decide +kernel
theorem dX7_isDigit_5 : decode cX7_isDigit 5 = .ok (.bipush 9, 2) := by decide +kernel
theorem dX7_isDigit_7 : decode cX7_isDigit 7 = .ok (.if_icmp .gt 7, 3) := by decide +kernel
theorem dX7_isDigit_10 : decode cX7_isDigit 10 = .ok (.iconst 1, 1) := by decide +kernel
theorem dX7_isDigit_11 : decode cX7_isDigit 11 = .ok (.goto 4, 3) := by decide +kernel
theorem dX7_isDigit_14 : decode cX7_isDigit 14 = .ok (.iconst 0, 1) := by decide +kernel
theorem dX7_isDigit_15 : decode cX7_isDigit 15 = .ok (.ireturn, 1) := by decide +kernel
theorem dX7_isKind_0 : decode cX7_isKind 0 = .ok (.iload_n 0, 1) := by decide +kernel
theorem dX7_isKind_1 : decode cX7_isKind 1 = .ok (.ifCond .lt 12, 3) := by decide +kernel
theorem dX7_isKind_4 : decode cX7_isKind 4 = .ok (.iload_n 0, 1) := by decide +kernel
theorem dX7_isKind_5 : decode cX7_isKind 5 = .ok (.iconst 5, 1) := by decide +kernel
theorem dX7_isKind_6 : decode cX7_isKind 6 = .ok (.if_icmp .gt 7, 3) := by decide +kernel
theorem dX7_isKind_9 : decode cX7_isKind 9 = .ok (.iconst 1, 1) := by decide +kernel
theorem dX7_isKind_10 : decode cX7_isKind 10 = .ok (.goto 4, 3) := by decide +kernel
theorem dX7_isKind_13 : decode cX7_isKind 13 = .ok (.iconst 0, 1) := by decide +kernel
theorem dX7_isKind_14 : decode cX7_isKind 14 = .ok (.ireturn, 1) := by decide +kernel
theorem dX7_isSheet_0 : decode cX7_isSheet 0 = .ok (.iload_n 0, 1) := by decide +kernel
theorem dX7_isSheet_1 : decode cX7_isSheet 1 = .ok (.ifCond .lt 12, 3) := by decide +kernel
theorem dX7_isSheet_4 : decode cX7_isSheet 4 = .ok (.iload_n 0, 1) := by decide +kernel
theorem dX7_isSheet_5 : decode cX7_isSheet 5 = .ok (.iconst 4, 1) := by decide +kernel
theorem dX7_isSheet_6 : decode cX7_isSheet 6 = .ok (.if_icmp .ge 7, 3) := by decide +kernel
theorem dX7_isSheet_9 : decode cX7_isSheet 9 = .ok (.iconst 1, 1) := by decide +kernel
theorem dX7_isSheet_10 : decode cX7_isSheet 10 = .ok (.goto 4, 3) := by decide +kernel
theorem dX7_isSheet_13 : decode cX7_isSheet 13 = .ok (.iconst 0, 1) := by decide +kernel
theorem dX7_isSheet_14 : decode cX7_isSheet 14 = .ok (.ireturn, 1) := by decide +kernel
theorem dX7_isSheetSort_0 : decode cX7_isSheetSort 0 = .ok (.iload_n 0, 1) := by decide +kernel
theorem dX7_isSheetSort_1 : decode cX7_isSheetSort 1 = .ok (.ifCond .lt 12, 3) := by decide +kernel
theorem dX7_isSheetSort_4 : decode cX7_isSheetSort 4 = .ok (.iload_n 0, 1) := by decide +kernel
theorem dX7_isSheetSort_5 : decode cX7_isSheetSort 5 = .ok (.iconst 2, 1) := by decide +kernel
theorem dX7_isSheetSort_6 : decode cX7_isSheetSort 6 = .ok (.if_icmp .gt 7, 3) := by decide +kernel
theorem dX7_isSheetSort_9 : decode cX7_isSheetSort 9 = .ok (.iconst 1, 1) := by decide +kernel
theorem dX7_isSheetSort_10 : decode cX7_isSheetSort 10 = .ok (.goto 4, 3) := by decide +kernel
theorem dX7_isSheetSort_13 : decode cX7_isSheetSort 13 = .ok (.iconst 0, 1) := by decide +kernel
theorem dX7_isSheetSort_14 : decode cX7_isSheetSort 14 = .ok (.ireturn, 1) := by decide +kernel
theorem dX7_isOne_0 : decode cX7_isOne 0 = .ok (.iload_n 1, 1) := by decide +kernel
theorem dX7_isOne_1 : decode cX7_isOne 1 = .ok (.invokestatic 100, 3) := by decide +kernel
theorem dX7_isOne_4 : decode cX7_isOne 4 = .ok (.ifCond .eq 24, 3) := by decide +kernel
theorem dX7_isOne_7 : decode cX7_isOne 7 = .ok (.iload_n 2, 1) := by decide +kernel
theorem dX7_isOne_8 : decode cX7_isOne 8 = .ok (.ifCond .lt 20, 3) := by decide +kernel
theorem dX7_isOne_11 : decode cX7_isOne 11 = .ok (.iload_n 2, 1) := by decide +kernel
theorem dX7_isOne_12 : decode cX7_isOne 12 = .ok (.aload_n 0, 1) := by decide +kernel
theorem dX7_isOne_13 : decode cX7_isOne 13 = .ok (.getfield 12, 3) := by decide +kernel
theorem dX7_isOne_16 : decode cX7_isOne 16 = .ok (.getfield 113, 3) := by decide +kernel
theorem dX7_isOne_19 : decode cX7_isOne 19 = .ok (.iload_n 1, 1) := by decide +kernel
theorem dX7_isOne_20 : decode cX7_isOne 20 = .ok (.iaload, 1) := by decide +kernel
theorem dX7_isOne_21 : decode cX7_isOne 21 = .ok (.if_icmp .ge 7, 3) := by decide +kernel
theorem dX7_isOne_24 : decode cX7_isOne 24 = .ok (.iconst 1, 1) := by decide +kernel
theorem dX7_isOne_25 : decode cX7_isOne 25 = .ok (.goto 4, 3) := by decide +kernel
theorem dX7_isOne_28 : decode cX7_isOne 28 = .ok (.iconst 0, 1) := by decide +kernel
theorem dX7_isOne_29 : decode cX7_isOne 29 = .ok (.ireturn, 1) := by decide +kernel
theorem dX7_isMaster_0 : decode cX7_isMaster 0 = .ok (.iload_n 1, 1) := by decide +kernel
theorem dX7_isMaster_1 : decode cX7_isMaster 1 = .ok (.ifCond .lt 18, 3) := by decide +kernel
theorem dX7_isMaster_4 : decode cX7_isMaster 4 = .ok (.iload_n 1, 1) := by decide +kernel
theorem dX7_isMaster_5 : decode cX7_isMaster 5 = .ok (.aload_n 0, 1) := by decide +kernel
theorem dX7_isMaster_6 : decode cX7_isMaster 6 = .ok (.getfield 12, 3) := by decide +kernel
theorem dX7_isMaster_9 : decode cX7_isMaster 9 = .ok (.getfield 162, 3) := by decide +kernel
theorem dX7_isMaster_12 : decode cX7_isMaster 12 = .ok (.if_icmp .ge 7, 3) := by decide +kernel
theorem dX7_isMaster_15 : decode cX7_isMaster 15 = .ok (.iconst 1, 1) := by decide +kernel
theorem dX7_isMaster_16 : decode cX7_isMaster 16 = .ok (.goto 4, 3) := by decide +kernel
theorem dX7_isMaster_19 : decode cX7_isMaster 19 = .ok (.iconst 0, 1) := by decide +kernel
theorem dX7_isMaster_20 : decode cX7_isMaster 20 = .ok (.ireturn, 1) := by decide +kernel
theorem dX7_forget_0 : decode cX7_forget 0 = .ok (.aload_n 0, 1) := by decide +kernel
theorem dX7_forget_1 : decode cX7_forget 1 = .ok (.getfield 58, 3) := by decide +kernel
theorem dX7_forget_4 : decode cX7_forget 4 = .ok (.invokevirtual 272, 3) := by decide +kernel
theorem dX7_forget_7 : decode cX7_forget 7 = .ok (.aload_n 0, 1) := by decide +kernel
theorem dX7_forget_8 : decode cX7_forget 8 = .ok (.getfield 67, 3) := by decide +kernel
theorem dX7_forget_11 : decode cX7_forget 11 = .ok (.invokevirtual 273, 3) := by decide +kernel
theorem dX7_forget_14 : decode cX7_forget 14 = .ok (.return_, 1) := by decide +kernel
theorem dX7_changed_0 : decode cX7_changed 0 = .ok (.aload_n 1, 1) := by decide +kernel
theorem dX7_changed_1 : decode cX7_changed 1 = .ok (.iload_n 2, 1) := by decide +kernel
theorem dX7_changed_2 : decode cX7_changed 2 = .ok (.iaload, 1) := by decide +kernel
theorem dX7_changed_3 : decode cX7_changed 3 = .ok (.istore 4, 2) := by decide +kernel
theorem dX7_changed_5 : decode cX7_changed 5 = .ok (.aload_n 1, 1) := by decide +kernel
theorem dX7_changed_6 : decode cX7_changed 6 = .ok (.iload_n 2, 1) := by decide +kernel
theorem dX7_changed_7 : decode cX7_changed 7 = .ok (.iload_n 3, 1) := by decide +kernel
theorem dX7_changed_8 : decode cX7_changed 8 = .ok (.iastore, 1) := by decide +kernel
theorem dX7_changed_9 : decode cX7_changed 9 = .ok (.aload_n 0, 1) := by decide +kernel
theorem dX7_changed_10 : decode cX7_changed 10 = .ok (.invokevirtual 125, 3) := by decide +kernel
theorem dX7_changed_13 : decode cX7_changed 13 = .ok (.iload 4, 2) := by decide +kernel
theorem dX7_changed_15 : decode cX7_changed 15 = .ok (.ireturn, 1) := by decide +kernel
theorem dX7_takeTape_0 : decode cX7_takeTape 0 = .ok (.aload_n 0, 1) := by decide +kernel
theorem dX7_takeTape_1 : decode cX7_takeTape 1 = .ok (.getfield 37, 3) := by decide +kernel
theorem dX7_takeTape_4 : decode cX7_takeTape 4 = .ok (.bipush 6, 2) := by decide +kernel
theorem dX7_takeTape_6 : decode cX7_takeTape 6 = .ok (.if_icmp .lt 6, 3) := by decide +kernel
theorem dX7_takeTape_9 : decode cX7_takeTape 9 = .ok (.bipush (-4), 2) := by decide +kernel
theorem dX7_takeTape_11 : decode cX7_takeTape 11 = .ok (.ireturn, 1) := by decide +kernel
theorem dX7_takeTape_12 : decode cX7_takeTape 12 = .ok (.aload_n 0, 1) := by decide +kernel
theorem dX7_takeTape_13 : decode cX7_takeTape 13 = .ok (.getfield 27, 3) := by decide +kernel
theorem dX7_takeTape_16 : decode cX7_takeTape 16 = .ok (.istore_n 1, 1) := by decide +kernel
theorem dX7_takeTape_17 : decode cX7_takeTape 17 = .ok (.aload_n 0, 1) := by decide +kernel
theorem dX7_takeTape_18 : decode cX7_takeTape 18 = .ok (.iconst 0, 1) := by decide +kernel
theorem dX7_takeTape_19 : decode cX7_takeTape 19 = .ok (.putfield 27, 3) := by decide +kernel
theorem dX7_takeTape_22 : decode cX7_takeTape 22 = .ok (.aload_n 0, 1) := by decide +kernel
theorem dX7_takeTape_23 : decode cX7_takeTape 23 = .ok (.getfield 43, 3) := by decide +kernel
theorem dX7_takeTape_26 : decode cX7_takeTape 26 = .ok (.aload_n 0, 1) := by decide +kernel
theorem dX7_takeTape_27 : decode cX7_takeTape 27 = .ok (.getfield 23, 3) := by decide +kernel
theorem dX7_takeTape_30 : decode cX7_takeTape 30 = .ok (.iload_n 1, 1) := by decide +kernel
theorem dX7_takeTape_31 : decode cX7_takeTape 31 = .ok (.aload_n 0, 1) := by decide +kernel
theorem dX7_takeTape_32 : decode cX7_takeTape 32 = .ok (.getfield 33, 3) := by decide +kernel
theorem dX7_takeTape_35 : decode cX7_takeTape 35 = .ok (.aload_n 0, 1) := by decide +kernel
theorem dX7_takeTape_36 : decode cX7_takeTape 36 = .ok (.getfield 37, 3) := by decide +kernel
theorem dX7_takeTape_39 : decode cX7_takeTape 39 = .ok (.aaload, 1) := by decide +kernel
theorem dX7_takeTape_40 : decode cX7_takeTape 40 = .ok (.invokevirtual 274, 3) := by decide +kernel
theorem dX7_takeTape_43 : decode cX7_takeTape 43 = .ok (.ifCond .ne 14, 3) := by decide +kernel
theorem dX7_takeTape_46 : decode cX7_takeTape 46 = .ok (.bipush (-100), 2) := by decide +kernel
theorem dX7_takeTape_48 : decode cX7_takeTape 48 = .ok (.aload_n 0, 1) := by decide +kernel
theorem dX7_takeTape_49 : decode cX7_takeTape 49 = .ok (.getfield 43, 3) := by decide +kernel
theorem dX7_takeTape_52 : decode cX7_takeTape 52 = .ok (.getfield 278, 3) := by decide +kernel
theorem dX7_takeTape_55 : decode cX7_takeTape 55 = .ok (.isub, 1) := by decide +kernel
theorem dX7_takeTape_56 : decode cX7_takeTape 56 = .ok (.ireturn, 1) := by decide +kernel
theorem dX7_takeTape_57 : decode cX7_takeTape 57 = .ok (.aload_n 0, 1) := by decide +kernel
theorem dX7_takeTape_58 : decode cX7_takeTape 58 = .ok (.dup, 1) := by decide +kernel
theorem dX7_takeTape_59 : decode cX7_takeTape 59 = .ok (.getfield 37, 3) := by decide +kernel
theorem dX7_takeTape_62 : decode cX7_takeTape 62 = .ok (.iconst 1, 1) := by decide +kernel
theorem dX7_takeTape_63 : decode cX7_takeTape 63 = .ok (.iadd, 1) := by decide +kernel
theorem dX7_takeTape_64 : decode cX7_takeTape 64 = .ok (.putfield 37, 3) := by decide +kernel
theorem dX7_takeTape_67 : decode cX7_takeTape 67 = .ok (.aload_n 0, 1) := by decide +kernel
theorem dX7_takeTape_68 : decode cX7_takeTape 68 = .ok (.getfield 37, 3) := by decide +kernel
theorem dX7_takeTape_71 : decode cX7_takeTape 71 = .ok (.iconst 1, 1) := by decide +kernel
theorem dX7_takeTape_72 : decode cX7_takeTape 72 = .ok (.isub, 1) := by decide +kernel
theorem dX7_takeTape_73 : decode cX7_takeTape 73 = .ok (.ireturn, 1) := by decide +kernel
theorem dX7_changes_0 : decode cX7_changes 0 = .ok (.iconst 0, 1) := by decide +kernel
theorem dX7_changes_1 : decode cX7_changes 1 = .ok (.istore_n 1, 1) := by decide +kernel
theorem dX7_changes_2 : decode cX7_changes 2 = .ok (.iconst 1, 1) := by decide +kernel
theorem dX7_changes_3 : decode cX7_changes 3 = .ok (.istore_n 2, 1) := by decide +kernel
theorem dX7_changes_4 : decode cX7_changes 4 = .ok (.iload_n 2, 1) := by decide +kernel
theorem dX7_changes_5 : decode cX7_changes 5 = .ok (.bipush 24, 2) := by decide +kernel
theorem dX7_changes_7 : decode cX7_changes 7 = .ok (.if_icmp .ge 29, 3) := by decide +kernel
theorem dX7_changes_10 : decode cX7_changes 10 = .ok (.iload_n 2, 1) := by decide +kernel
theorem dX7_changes_11 : decode cX7_changes 11 = .ok (.aload_n 0, 1) := by decide +kernel
theorem dX7_changes_12 : decode cX7_changes 12 = .ok (.arraylength, 1) := by decide +kernel
theorem dX7_changes_13 : decode cX7_changes 13 = .ok (.if_icmp .ge 23, 3) := by decide +kernel
theorem dX7_changes_16 : decode cX7_changes 16 = .ok (.aload_n 0, 1) := by decide +kernel
theorem dX7_changes_17 : decode cX7_changes 17 = .ok (.iload_n 2, 1) := by decide +kernel
theorem dX7_changes_18 : decode cX7_changes 18 = .ok (.iaload, 1) := by decide +kernel
theorem dX7_changes_19 : decode cX7_changes 19 = .ok (.aload_n 0, 1) := by decide +kernel
theorem dX7_changes_20 : decode cX7_changes 20 = .ok (.iload_n 2, 1) := by decide +kernel
theorem dX7_changes_21 : decode cX7_changes 21 = .ok (.iconst 1, 1) := by decide +kernel
theorem dX7_changes_22 : decode cX7_changes 22 = .ok (.isub, 1) := by decide +kernel
theorem dX7_changes_23 : decode cX7_changes 23 = .ok (.iaload, 1) := by decide +kernel
theorem dX7_changes_24 : decode cX7_changes 24 = .ok (.if_icmp .eq 6, 3) := by decide +kernel
theorem dX7_changes_27 : decode cX7_changes 27 = .ok (.iinc 1 1, 3) := by decide +kernel
theorem dX7_changes_30 : decode cX7_changes 30 = .ok (.iinc 2 1, 3) := by decide +kernel
theorem dX7_changes_33 : decode cX7_changes 33 = .ok (.goto (-29), 3) := by decide +kernel
theorem dX7_changes_36 : decode cX7_changes 36 = .ok (.iload_n 1, 1) := by decide +kernel
theorem dX7_changes_37 : decode cX7_changes 37 = .ok (.ireturn, 1) := by decide +kernel
theorem dX7_firstUnlawful_0 : decode cX7_firstUnlawful 0 = .ok (.iconst 0, 1) := by decide +kernel
theorem dX7_firstUnlawful_1 : decode cX7_firstUnlawful 1 = .ok (.istore_n 3, 1) := by decide +kernel
theorem dX7_firstUnlawful_2 : decode cX7_firstUnlawful 2 = .ok (.iconst 0, 1) := by decide +kernel
theorem dX7_firstUnlawful_3 : decode cX7_firstUnlawful 3 = .ok (.istore 4, 2) := by decide +kernel
theorem dX7_firstUnlawful_5 : decode cX7_firstUnlawful 5 = .ok (.iload 4, 2) := by decide +kernel
theorem dX7_firstUnlawful_7 : decode cX7_firstUnlawful 7 = .ok (.iload_n 2, 1) := by decide +kernel
theorem dX7_firstUnlawful_8 : decode cX7_firstUnlawful 8 = .ok (.if_icmp .ge 83, 3) := by decide +kernel
theorem dX7_firstUnlawful_11 : decode cX7_firstUnlawful 11 = .ok (.iload 4, 2) := by decide +kernel
theorem dX7_firstUnlawful_13 : decode cX7_firstUnlawful 13 = .ok (.aload_n 1, 1) := by decide +kernel
theorem dX7_firstUnlawful_14 : decode cX7_firstUnlawful 14 = .ok (.arraylength, 1) := by decide +kernel
theorem dX7_firstUnlawful_15 : decode cX7_firstUnlawful 15 = .ok (.if_icmp .ge 76, 3) := by decide +kernel
theorem dX7_firstUnlawful_18 : decode cX7_firstUnlawful 18 = .ok (.iload 4, 2) := by decide +kernel
theorem dX7_firstUnlawful_20 : decode cX7_firstUnlawful 20 = .ok (.ifCond .le 20, 3) := by decide +kernel
theorem dX7_firstUnlawful_23 : decode cX7_firstUnlawful 23 = .ok (.aload_n 1, 1) := by decide +kernel
theorem dX7_firstUnlawful_24 : decode cX7_firstUnlawful 24 = .ok (.iload 4, 2) := by decide +kernel
theorem dX7_firstUnlawful_26 : decode cX7_firstUnlawful 26 = .ok (.iaload, 1) := by decide +kernel
theorem dX7_firstUnlawful_27 : decode cX7_firstUnlawful 27 = .ok (.aload_n 1, 1) := by decide +kernel
theorem dX7_firstUnlawful_28 : decode cX7_firstUnlawful 28 = .ok (.iload 4, 2) := by decide +kernel
theorem dX7_firstUnlawful_30 : decode cX7_firstUnlawful 30 = .ok (.iconst 1, 1) := by decide +kernel
theorem dX7_firstUnlawful_31 : decode cX7_firstUnlawful 31 = .ok (.isub, 1) := by decide +kernel
theorem dX7_firstUnlawful_32 : decode cX7_firstUnlawful 32 = .ok (.iaload, 1) := by decide +kernel
theorem dX7_firstUnlawful_33 : decode cX7_firstUnlawful 33 = .ok (.if_icmp .eq 7, 3) := by decide +kernel
theorem dX7_firstUnlawful_36 : decode cX7_firstUnlawful 36 = .ok (.iconst 1, 1) := by decide +kernel
theorem dX7_firstUnlawful_37 : decode cX7_firstUnlawful 37 = .ok (.goto 4, 3) := by decide +kernel
theorem dX7_firstUnlawful_40 : decode cX7_firstUnlawful 40 = .ok (.iconst 0, 1) := by decide +kernel
theorem dX7_firstUnlawful_41 : decode cX7_firstUnlawful 41 = .ok (.istore 5, 2) := by decide +kernel
theorem dX7_firstUnlawful_43 : decode cX7_firstUnlawful 43 = .ok (.aload_n 1, 1) := by decide +kernel
theorem dX7_firstUnlawful_44 : decode cX7_firstUnlawful 44 = .ok (.iload 4, 2) := by decide +kernel
theorem dX7_firstUnlawful_46 : decode cX7_firstUnlawful 46 = .ok (.iaload, 1) := by decide +kernel
theorem dX7_firstUnlawful_47 : decode cX7_firstUnlawful 47 = .ok (.invokestatic 104, 3) := by decide +kernel
theorem dX7_firstUnlawful_50 : decode cX7_firstUnlawful 50 = .ok (.ifCond .eq 19, 3) := by decide +kernel
theorem dX7_firstUnlawful_53 : decode cX7_firstUnlawful 53 = .ok (.iload 5, 2) := by decide +kernel
theorem dX7_firstUnlawful_55 : decode cX7_firstUnlawful 55 = .ok (.ifCond .eq 17, 3) := by decide +kernel
theorem dX7_firstUnlawful_58 : decode cX7_firstUnlawful 58 = .ok (.iload_n 3, 1) := by decide +kernel
theorem dX7_firstUnlawful_59 : decode cX7_firstUnlawful 59 = .ok (.aload_n 0, 1) := by decide +kernel
theorem dX7_firstUnlawful_60 : decode cX7_firstUnlawful 60 = .ok (.getfield 12, 3) := by decide +kernel
theorem dX7_firstUnlawful_63 : decode cX7_firstUnlawful 63 = .ok (.getfield 136, 3) := by decide +kernel
theorem dX7_firstUnlawful_66 : decode cX7_firstUnlawful 66 = .ok (.if_icmp .ge 6, 3) := by decide +kernel
theorem dX7_firstUnlawful_69 : decode cX7_firstUnlawful 69 = .ok (.iload 4, 2) := by decide +kernel
theorem dX7_firstUnlawful_71 : decode cX7_firstUnlawful 71 = .ok (.ireturn, 1) := by decide +kernel
theorem dX7_firstUnlawful_72 : decode cX7_firstUnlawful 72 = .ok (.iload 5, 2) := by decide +kernel
theorem dX7_firstUnlawful_74 : decode cX7_firstUnlawful 74 = .ok (.ifCond .eq 7, 3) := by decide +kernel
theorem dX7_firstUnlawful_77 : decode cX7_firstUnlawful 77 = .ok (.iconst 1, 1) := by decide +kernel
theorem dX7_firstUnlawful_78 : decode cX7_firstUnlawful 78 = .ok (.goto 6, 3) := by decide +kernel
theorem dX7_firstUnlawful_81 : decode cX7_firstUnlawful 81 = .ok (.iload_n 3, 1) := by decide +kernel
theorem dX7_firstUnlawful_82 : decode cX7_firstUnlawful 82 = .ok (.iconst 1, 1) := by decide +kernel
theorem dX7_firstUnlawful_83 : decode cX7_firstUnlawful 83 = .ok (.iadd, 1) := by decide +kernel
theorem dX7_firstUnlawful_84 : decode cX7_firstUnlawful 84 = .ok (.istore_n 3, 1) := by decide +kernel
theorem dX7_firstUnlawful_85 : decode cX7_firstUnlawful 85 = .ok (.iinc 4 1, 3) := by decide +kernel
theorem dX7_firstUnlawful_88 : decode cX7_firstUnlawful 88 = .ok (.goto (-83), 3) := by decide +kernel
theorem dX7_firstUnlawful_91 : decode cX7_firstUnlawful 91 = .ok (.iconst (-1), 1) := by decide +kernel
theorem dX7_firstUnlawful_92 : decode cX7_firstUnlawful 92 = .ok (.ireturn, 1) := by decide +kernel
theorem dX7_firstDown_0 : decode cX7_firstDown 0 = .ok (.iload_n 2, 1) := by decide +kernel
theorem dX7_firstDown_1 : decode cX7_firstDown 1 = .ok (.iconst 0, 1) := by decide +kernel
theorem dX7_firstDown_2 : decode cX7_firstDown 2 = .ok (.invokestatic 281, 3) := by decide +kernel
theorem dX7_firstDown_5 : decode cX7_firstDown 5 = .ok (.istore_n 3, 1) := by decide +kernel
theorem dX7_firstDown_6 : decode cX7_firstDown 6 = .ok (.iload_n 3, 1) := by decide +kernel
theorem dX7_firstDown_7 : decode cX7_firstDown 7 = .ok (.bipush 24, 2) := by decide +kernel
theorem dX7_firstDown_9 : decode cX7_firstDown 9 = .ok (.if_icmp .ge 24, 3) := by decide +kernel
theorem dX7_firstDown_12 : decode cX7_firstDown 12 = .ok (.aload_n 0, 1) := by decide +kernel
theorem dX7_firstDown_13 : decode cX7_firstDown 13 = .ok (.getfield 12, 3) := by decide +kernel
theorem dX7_firstDown_16 : decode cX7_firstDown 16 = .ok (.getfield 148, 3) := by decide +kernel
theorem dX7_firstDown_19 : decode cX7_firstDown 19 = .ok (.iload_n 3, 1) := by decide +kernel
theorem dX7_firstDown_20 : decode cX7_firstDown 20 = .ok (.iaload, 1) := by decide +kernel
theorem dX7_firstDown_21 : decode cX7_firstDown 21 = .ok (.iload_n 1, 1) := by decide +kernel
theorem dX7_firstDown_22 : decode cX7_firstDown 22 = .ok (.if_icmp .eq 5, 3) := by decide +kernel
theorem dX7_firstDown_25 : decode cX7_firstDown 25 = .ok (.iload_n 3, 1) := by decide +kernel
theorem dX7_firstDown_26 : decode cX7_firstDown 26 = .ok (.ireturn, 1) := by decide +kernel
theorem dX7_firstDown_27 : decode cX7_firstDown 27 = .ok (.iinc 3 1, 3) := by decide +kernel
theorem dX7_firstDown_30 : decode cX7_firstDown 30 = .ok (.goto (-24), 3) := by decide +kernel
theorem dX7_firstDown_33 : decode cX7_firstDown 33 = .ok (.bipush 24, 2) := by decide +kernel
theorem dX7_firstDown_35 : decode cX7_firstDown 35 = .ok (.ireturn, 1) := by decide +kernel
theorem dX7_tellingRefusal_0 : decode cX7_tellingRefusal 0 = .ok (.iload_n 1, 1) := by decide +kernel
theorem dX7_tellingRefusal_1 : decode cX7_tellingRefusal 1 = .ok (.invokestatic 249, 3) := by decide +kernel
theorem dX7_tellingRefusal_4 : decode cX7_tellingRefusal 4 = .ok (.ifCond .ne 6, 3) := by decide +kernel
theorem dX7_tellingRefusal_7 : decode cX7_tellingRefusal 7 = .ok (.bipush (-2), 2) := by decide +kernel
theorem dX7_tellingRefusal_9 : decode cX7_tellingRefusal 9 = .ok (.ireturn, 1) := by decide +kernel
theorem dX7_tellingRefusal_10 : decode cX7_tellingRefusal 10 = .ok (.aload_n 0, 1) := by decide +kernel
theorem dX7_tellingRefusal_11 : decode cX7_tellingRefusal 11 = .ok (.getfield 49, 3) := by decide +kernel
theorem dX7_tellingRefusal_14 : decode cX7_tellingRefusal 14 = .ok (.iload_n 1, 1) := by decide +kernel
theorem dX7_tellingRefusal_15 : decode cX7_tellingRefusal 15 = .ok (.aaload, 1) := by decide +kernel
theorem dX7_tellingRefusal_16 : decode cX7_tellingRefusal 16 = .ok (.getfield 259, 3) := by decide +kernel
theorem dX7_tellingRefusal_19 : decode cX7_tellingRefusal 19 = .ok (.iconst (-1), 1) := by decide +kernel
theorem dX7_tellingRefusal_20 : decode cX7_tellingRefusal 20 = .ok (.if_icmp .ne 6, 3) := by decide +kernel
theorem dX7_tellingRefusal_23 : decode cX7_tellingRefusal 23 = .ok (.bipush (-11), 2) := by decide +kernel
theorem dX7_tellingRefusal_25 : decode cX7_tellingRefusal 25 = .ok (.ireturn, 1) := by decide +kernel
theorem dX7_tellingRefusal_26 : decode cX7_tellingRefusal 26 = .ok (.aload_n 0, 1) := by decide +kernel
theorem dX7_tellingRefusal_27 : decode cX7_tellingRefusal 27 = .ok (.getfield 49, 3) := by decide +kernel
theorem dX7_tellingRefusal_30 : decode cX7_tellingRefusal 30 = .ok (.iload_n 1, 1) := by decide +kernel
theorem dX7_tellingRefusal_31 : decode cX7_tellingRefusal 31 = .ok (.aaload, 1) := by decide +kernel
theorem dX7_tellingRefusal_32 : decode cX7_tellingRefusal 32 = .ok (.getfield 228, 3) := by decide +kernel
theorem dX7_tellingRefusal_35 : decode cX7_tellingRefusal 35 = .ok (.bipush 24, 2) := by decide +kernel
theorem dX7_tellingRefusal_37 : decode cX7_tellingRefusal 37 = .ok (.if_icmp .le 8, 3) := by decide +kernel
theorem dX7_tellingRefusal_40 : decode cX7_tellingRefusal 40 = .ok (.bipush (-2), 2) := by decide +kernel
theorem dX7_tellingRefusal_42 : decode cX7_tellingRefusal 42 = .ok (.goto 4, 3) := by decide +kernel
theorem dX7_tellingRefusal_45 : decode cX7_tellingRefusal 45 = .ok (.iconst 0, 1) := by decide +kernel
theorem dX7_tellingRefusal_46 : decode cX7_tellingRefusal 46 = .ok (.ireturn, 1) := by decide +kernel
theorem dX7_draw_0 : decode cX7_draw 0 = .ok (.iload_n 1, 1) := by decide +kernel
theorem dX7_draw_1 : decode cX7_draw 1 = .ok (.istore_n 2, 1) := by decide +kernel
theorem dX7_draw_2 : decode cX7_draw 2 = .ok (.iconst 0, 1) := by decide +kernel
theorem dX7_draw_3 : decode cX7_draw 3 = .ok (.istore_n 3, 1) := by decide +kernel
theorem dX7_draw_4 : decode cX7_draw 4 = .ok (.iload_n 3, 1) := by decide +kernel
theorem dX7_draw_5 : decode cX7_draw 5 = .ok (.bipush 24, 2) := by decide +kernel
theorem dX7_draw_7 : decode cX7_draw 7 = .ok (.if_icmp .ge 31, 3) := by decide +kernel
theorem dX7_draw_10 : decode cX7_draw 10 = .ok (.iload_n 2, 1) := by decide +kernel
theorem dX7_draw_11 : decode cX7_draw 11 = .ok (.ldc_w 284, 3) := by decide +kernel
theorem dX7_draw_14 : decode cX7_draw 14 = .ok (.imul, 1) := by decide +kernel
theorem dX7_draw_15 : decode cX7_draw 15 = .ok (.sipush 12345, 3) := by decide +kernel
theorem dX7_draw_18 : decode cX7_draw 18 = .ok (.iadd, 1) := by decide +kernel
theorem dX7_draw_19 : decode cX7_draw 19 = .ok (.istore_n 2, 1) := by decide +kernel
theorem dX7_draw_20 : decode cX7_draw 20 = .ok (.aload_n 0, 1) := by decide +kernel
theorem dX7_draw_21 : decode cX7_draw 21 = .ok (.getfield 80, 3) := by decide +kernel
theorem dX7_draw_24 : decode cX7_draw 24 = .ok (.iload_n 3, 1) := by decide +kernel
theorem dX7_draw_25 : decode cX7_draw 25 = .ok (.iload_n 2, 1) := by decide +kernel
theorem dX7_draw_26 : decode cX7_draw 26 = .ok (.bipush 8, 2) := by decide +kernel
theorem dX7_draw_28 : decode cX7_draw 28 = .ok (.iushr, 1) := by decide +kernel
theorem dX7_draw_29 : decode cX7_draw 29 = .ok (.iconst 3, 1) := by decide +kernel
theorem dX7_draw_30 : decode cX7_draw 30 = .ok (.irem, 1) := by decide +kernel
theorem dX7_draw_31 : decode cX7_draw 31 = .ok (.iastore, 1) := by decide +kernel
theorem dX7_draw_32 : decode cX7_draw 32 = .ok (.iinc 3 1, 3) := by decide +kernel
theorem dX7_draw_35 : decode cX7_draw 35 = .ok (.goto (-31), 3) := by decide +kernel
theorem dX7_draw_38 : decode cX7_draw 38 = .ok (.return_, 1) := by decide +kernel
theorem dX7_greatestCommon_0 : decode cX7_greatestCommon 0 = .ok (.iload_n 1, 1) := by decide +kernel
theorem dX7_greatestCommon_1 : decode cX7_greatestCommon 1 = .ok (.iconst 1, 1) := by decide +kernel
theorem dX7_greatestCommon_2 : decode cX7_greatestCommon 2 = .ok (.invokestatic 281, 3) := by decide +kernel
theorem dX7_greatestCommon_5 : decode cX7_greatestCommon 5 = .ok (.istore_n 2, 1) := by decide +kernel
theorem dX7_greatestCommon_6 : decode cX7_greatestCommon 6 = .ok (.iload_n 2, 1) := by decide +kernel
theorem dX7_greatestCommon_7 : decode cX7_greatestCommon 7 = .ok (.iconst 1, 1) := by decide +kernel
theorem dX7_greatestCommon_8 : decode cX7_greatestCommon 8 = .ok (.if_icmp .le 21, 3) := by decide +kernel
theorem dX7_greatestCommon_11 : decode cX7_greatestCommon 11 = .ok (.iload_n 0, 1) := by decide +kernel
theorem dX7_greatestCommon_12 : decode cX7_greatestCommon 12 = .ok (.iload_n 2, 1) := by decide +kernel
theorem dX7_greatestCommon_13 : decode cX7_greatestCommon 13 = .ok (.irem, 1) := by decide +kernel
theorem dX7_greatestCommon_14 : decode cX7_greatestCommon 14 = .ok (.ifCond .ne 9, 3) := by decide +kernel
theorem dX7_greatestCommon_17 : decode cX7_greatestCommon 17 = .ok (.iload_n 1, 1) := by decide +kernel
theorem dX7_greatestCommon_18 : decode cX7_greatestCommon 18 = .ok (.iload_n 2, 1) := by decide +kernel
theorem dX7_greatestCommon_19 : decode cX7_greatestCommon 19 = .ok (.irem, 1) := by decide +kernel
theorem dX7_greatestCommon_20 : decode cX7_greatestCommon 20 = .ok (.ifCond .eq 9, 3) := by decide +kernel
theorem dX7_greatestCommon_23 : decode cX7_greatestCommon 23 = .ok (.iinc 2 (-1), 3) := by decide +kernel
theorem dX7_greatestCommon_26 : decode cX7_greatestCommon 26 = .ok (.goto (-20), 3) := by decide +kernel
theorem dX7_greatestCommon_29 : decode cX7_greatestCommon 29 = .ok (.iload_n 2, 1) := by decide +kernel
theorem dX7_greatestCommon_30 : decode cX7_greatestCommon 30 = .ok (.ireturn, 1) := by decide +kernel
