theorem dX8_either3_40 : decode cX8_either3 40 = .ok (.goto 4, 3) := by decide +kernel
theorem dX8_either3_43 : decode cX8_either3 43 = .ok (.iconst 0, 1) := by decide +kernel
theorem dX8_either3_44 : decode cX8_either3 44 = .ok (.istore_n 1, 1) := by decide +kernel
theorem dX8_either3_45 : decode cX8_either3 45 = .ok (.goto (-40), 3) := by decide +kernel
theorem dX8_either3_48 : decode cX8_either3 48 = .ok (.iload_n 1, 1) := by decide +kernel
theorem dX8_either3_49 : decode cX8_either3 49 = .ok (.ireturn, 1) := by decide +kernel
theorem dX8_atom2_0 : decode cX8_atom2 0 = .ok (.iconst 0, 1) := by decide +kernel
theorem dX8_atom2_1 : decode cX8_atom2 1 = .ok (.istore_n 1, 1) := by decide +kernel
theorem dX8_atom2_2 : decode cX8_atom2 2 = .ok (.aload_n 0, 1) := by decide +kernel
theorem dX8_atom2_3 : decode cX8_atom2 3 = .ok (.bipush 45, 2) := by decide +kernel
theorem dX8_atom2_5 : decode cX8_atom2 5 = .ok (.invokevirtual 200, 3) := by decide +kernel
theorem dX8_atom2_8 : decode cX8_atom2 8 = .ok (.ifCond .eq 29, 3) := by decide +kernel
theorem dX8_atom2_11 : decode cX8_atom2 11 = .ok (.aload_n 0, 1) := by decide +kernel
theorem dX8_atom2_12 : decode cX8_atom2 12 = .ok (.invokevirtual 204, 3) := by decide +kernel
theorem dX8_atom2_15 : decode cX8_atom2 15 = .ok (.ifCond .eq 146, 3) := by decide +kernel
theorem dX8_atom2_18 : decode cX8_atom2 18 = .ok (.aload_n 0, 1) := by decide +kernel
theorem dX8_atom2_19 : decode cX8_atom2 19 = .ok (.invokevirtual 252, 3) := by decide +kernel
theorem dX8_atom2_22 : decode cX8_atom2 22 = .ok (.ineg, 1) := by decide +kernel
theorem dX8_atom2_23 : decode cX8_atom2 23 = .ok (.istore_n 1, 1) := by decide +kernel
theorem dX8_atom2_24 : decode cX8_atom2 24 = .ok (.aload_n 0, 1) := by decide +kernel
theorem dX8_atom2_25 : decode cX8_atom2 25 = .ok (.dup, 1) := by decide +kernel
theorem dX8_atom2_26 : decode cX8_atom2 26 = .ok (.getfield 169, 3) := by decide +kernel
theorem dX8_atom2_29 : decode cX8_atom2 29 = .ok (.iconst 1, 1) := by decide +kernel
theorem dX8_atom2_30 : decode cX8_atom2 30 = .ok (.isub, 1) := by decide +kernel
theorem dX8_atom2_31 : decode cX8_atom2 31 = .ok (.putfield 169, 3) := by decide +kernel
theorem dX8_atom2_34 : decode cX8_atom2 34 = .ok (.goto 127, 3) := by decide +kernel
theorem dX8_atom2_37 : decode cX8_atom2 37 = .ok (.aload_n 0, 1) := by decide +kernel
theorem dX8_atom2_38 : decode cX8_atom2 38 = .ok (.bipush 40, 2) := by decide +kernel
theorem dX8_atom2_40 : decode cX8_atom2 40 = .ok (.invokevirtual 200, 3) := by decide +kernel
theorem dX8_atom2_43 : decode cX8_atom2 43 = .ok (.ifCond .eq 52, 3) := by decide +kernel
theorem dX8_atom2_46 : decode cX8_atom2 46 = .ok (.aload_n 0, 1) := by decide +kernel
theorem dX8_atom2_47 : decode cX8_atom2 47 = .ok (.invokevirtual 204, 3) := by decide +kernel
theorem dX8_atom2_50 : decode cX8_atom2 50 = .ok (.ifCond .eq 111, 3) := by decide +kernel
theorem dX8_atom2_53 : decode cX8_atom2 53 = .ok (.aload_n 0, 1) := by decide +kernel
theorem dX8_atom2_54 : decode cX8_atom2 54 = .ok (.invokevirtual 267, 3) := by decide +kernel
theorem dX8_atom2_57 : decode cX8_atom2 57 = .ok (.istore_n 1, 1) := by decide +kernel
theorem dX8_atom2_58 : decode cX8_atom2 58 = .ok (.aload_n 0, 1) := by decide +kernel
theorem dX8_atom2_59 : decode cX8_atom2 59 = .ok (.bipush 41, 2) := by decide +kernel
theorem dX8_atom2_61 : decode cX8_atom2 61 = .ok (.invokevirtual 200, 3) := by decide +kernel
theorem dX8_atom2_64 : decode cX8_atom2 64 = .ok (.ifCond .ne 7, 3) := by decide +kernel
theorem dX8_atom2_67 : decode cX8_atom2 67 = .ok (.aload_n 0, 1) := by decide +kernel
theorem dX8_atom2_68 : decode cX8_atom2 68 = .ok (.invokevirtual 172, 3) := by decide +kernel
theorem dX8_atom2_71 : decode cX8_atom2 71 = .ok (.aload_n 0, 1) := by decide +kernel
theorem dX8_atom2_72 : decode cX8_atom2 72 = .ok (.dup, 1) := by decide +kernel
theorem dX8_atom2_73 : decode cX8_atom2 73 = .ok (.getfield 169, 3) := by decide +kernel
theorem dX8_atom2_76 : decode cX8_atom2 76 = .ok (.iconst 1, 1) := by decide +kernel
theorem dX8_atom2_77 : decode cX8_atom2 77 = .ok (.isub, 1) := by decide +kernel
theorem dX8_atom2_78 : decode cX8_atom2 78 = .ok (.putfield 169, 3) := by decide +kernel
theorem dX8_atom2_81 : decode cX8_atom2 81 = .ok (.aload_n 0, 1) := by decide +kernel
theorem dX8_atom2_82 : decode cX8_atom2 82 = .ok (.getfield 159, 3) := by decide +kernel
theorem dX8_atom2_85 : decode cX8_atom2 85 = .ok (.ifCond .ne 76, 3) := by decide +kernel
theorem dX8_atom2_88 : decode cX8_atom2 88 = .ok (.aload_n 0, 1) := by decide +kernel
theorem dX8_atom2_89 : decode cX8_atom2 89 = .ok (.invokevirtual 175, 3) := by decide +kernel
theorem dX8_atom2_92 : decode cX8_atom2 92 = .ok (.goto 69, 3) := by decide +kernel
theorem dX8_atom2_95 : decode cX8_atom2 95 = .ok (.aload_n 0, 1) := by decide +kernel
theorem dX8_atom2_96 : decode cX8_atom2 96 = .ok (.getfield 159, 3) := by decide +kernel
theorem dX8_atom2_99 : decode cX8_atom2 99 = .ok (.ifCond .ne 24, 3) := by decide +kernel
theorem dX8_atom2_102 : decode cX8_atom2 102 = .ok (.aload_n 0, 1) := by decide +kernel
theorem dX8_atom2_103 : decode cX8_atom2 103 = .ok (.getfield 142, 3) := by decide +kernel
theorem dX8_atom2_106 : decode cX8_atom2 106 = .ok (.iconst 2, 1) := by decide +kernel
theorem dX8_atom2_107 : decode cX8_atom2 107 = .ok (.if_icmp .ne 16, 3) := by decide +kernel
theorem dX8_atom2_110 : decode cX8_atom2 110 = .ok (.aload_n 0, 1) := by decide +kernel
theorem dX8_atom2_111 : decode cX8_atom2 111 = .ok (.getfield 153, 3) := by decide +kernel
theorem dX8_atom2_114 : decode cX8_atom2 114 = .ok (.l2i, 1) := by decide +kernel
theorem dX8_atom2_115 : decode cX8_atom2 115 = .ok (.istore_n 1, 1) := by decide +kernel
theorem dX8_atom2_116 : decode cX8_atom2 116 = .ok (.aload_n 0, 1) := by decide +kernel
theorem dX8_atom2_117 : decode cX8_atom2 117 = .ok (.invokevirtual 175, 3) := by decide +kernel
theorem dX8_atom2_120 : decode cX8_atom2 120 = .ok (.goto 41, 3) := by decide +kernel
theorem dX8_atom2_123 : decode cX8_atom2 123 = .ok (.aload_n 0, 1) := by decide +kernel
theorem dX8_atom2_124 : decode cX8_atom2 124 = .ok (.getfield 159, 3) := by decide +kernel
theorem dX8_atom2_127 : decode cX8_atom2 127 = .ok (.ifCond .ne 30, 3) := by decide +kernel
theorem dX8_atom2_130 : decode cX8_atom2 130 = .ok (.aload_n 0, 1) := by decide +kernel
theorem dX8_atom2_131 : decode cX8_atom2 131 = .ok (.getfield 142, 3) := by decide +kernel
theorem dX8_atom2_134 : decode cX8_atom2 134 = .ok (.iconst 1, 1) := by decide +kernel
theorem dX8_atom2_135 : decode cX8_atom2 135 = .ok (.if_icmp .ne 22, 3) := by decide +kernel
theorem dX8_atom2_138 : decode cX8_atom2 138 = .ok (.aload_n 0, 1) := by decide +kernel
theorem dX8_atom2_139 : decode cX8_atom2 139 = .ok (.invokevirtual 208, 3) := by decide +kernel
theorem dX8_atom2_142 : decode cX8_atom2 142 = .ok (.istore_n 1, 1) := by decide +kernel
theorem dX8_atom2_143 : decode cX8_atom2 143 = .ok (.aload_n 0, 1) := by decide +kernel
theorem dX8_atom2_144 : decode cX8_atom2 144 = .ok (.getfield 159, 3) := by decide +kernel
theorem dX8_atom2_147 : decode cX8_atom2 147 = .ok (.ifCond .ne 14, 3) := by decide +kernel
theorem dX8_atom2_150 : decode cX8_atom2 150 = .ok (.aload_n 0, 1) := by decide +kernel
theorem dX8_atom2_151 : decode cX8_atom2 151 = .ok (.invokevirtual 175, 3) := by decide +kernel
theorem dX8_atom2_154 : decode cX8_atom2 154 = .ok (.goto 7, 3) := by decide +kernel
theorem dX8_atom2_157 : decode cX8_atom2 157 = .ok (.aload_n 0, 1) := by decide +kernel
theorem dX8_atom2_158 : decode cX8_atom2 158 = .ok (.invokevirtual 172, 3) := by decide +kernel
theorem dX8_atom2_161 : decode cX8_atom2 161 = .ok (.iload_n 1, 1) := by decide +kernel
theorem dX8_atom2_162 : decode cX8_atom2 162 = .ok (.ireturn, 1) := by decide +kernel
theorem dX8_term2_0 : decode cX8_term2 0 = .ok (.aload_n 0, 1) := by decide +kernel
theorem dX8_term2_1 : decode cX8_term2 1 = .ok (.invokevirtual 270, 3) := by decide +kernel
theorem dX8_term2_4 : decode cX8_term2 4 = .ok (.istore_n 1, 1) := by decide +kernel
theorem dX8_term2_5 : decode cX8_term2 5 = .ok (.aload_n 0, 1) := by decide +kernel
theorem dX8_term2_6 : decode cX8_term2 6 = .ok (.bipush 42, 2) := by decide +kernel
theorem dX8_term2_8 : decode cX8_term2 8 = .ok (.invokevirtual 200, 3) := by decide +kernel
theorem dX8_term2_11 : decode cX8_term2 11 = .ok (.ifCond .eq 17, 3) := by decide +kernel
theorem dX8_term2_14 : decode cX8_term2 14 = .ok (.aload_n 0, 1) := by decide +kernel
theorem dX8_term2_15 : decode cX8_term2 15 = .ok (.invokevirtual 175, 3) := by decide +kernel
theorem dX8_term2_18 : decode cX8_term2 18 = .ok (.iload_n 1, 1) := by decide +kernel
theorem dX8_term2_19 : decode cX8_term2 19 = .ok (.aload_n 0, 1) := by decide +kernel
theorem dX8_term2_20 : decode cX8_term2 20 = .ok (.invokevirtual 270, 3) := by decide +kernel
theorem dX8_term2_23 : decode cX8_term2 23 = .ok (.imul, 1) := by decide +kernel
theorem dX8_term2_24 : decode cX8_term2 24 = .ok (.istore_n 1, 1) := by decide +kernel
theorem dX8_term2_25 : decode cX8_term2 25 = .ok (.goto (-20), 3) := by decide +kernel
theorem dX8_term2_28 : decode cX8_term2 28 = .ok (.iload_n 1, 1) := by decide +kernel
theorem dX8_term2_29 : decode cX8_term2 29 = .ok (.ireturn, 1) := by decide +kernel
theorem dX8_added2_0 : decode cX8_added2 0 = .ok (.aload_n 0, 1) := by decide +kernel
theorem dX8_added2_1 : decode cX8_added2 1 = .ok (.invokevirtual 273, 3) := by decide +kernel
theorem dX8_added2_4 : decode cX8_added2 4 = .ok (.istore_n 1, 1) := by decide +kernel
theorem dX8_added2_5 : decode cX8_added2 5 = .ok (.aload_n 0, 1) := by decide +kernel
theorem dX8_added2_6 : decode cX8_added2 6 = .ok (.bipush 43, 2) := by decide +kernel
theorem dX8_added2_8 : decode cX8_added2 8 = .ok (.invokevirtual 200, 3) := by decide +kernel
theorem dX8_added2_11 : decode cX8_added2 11 = .ok (.ifCond .ne 12, 3) := by decide +kernel
theorem dX8_added2_14 : decode cX8_added2 14 = .ok (.aload_n 0, 1) := by decide +kernel
theorem dX8_added2_15 : decode cX8_added2 15 = .ok (.bipush 45, 2) := by decide +kernel
theorem dX8_added2_17 : decode cX8_added2 17 = .ok (.invokevirtual 200, 3) := by decide +kernel
theorem dX8_added2_20 : decode cX8_added2 20 = .ok (.ifCond .eq 46, 3) := by decide +kernel
theorem dX8_added2_23 : decode cX8_added2 23 = .ok (.aload_n 0, 1) := by decide +kernel
theorem dX8_added2_24 : decode cX8_added2 24 = .ok (.getfield 153, 3) := by decide +kernel
theorem dX8_added2_27 : decode cX8_added2 27 = .ok (.ldc2_w 218, 3) := by decide +kernel
theorem dX8_added2_30 : decode cX8_added2 30 = .ok (.lcmp, 1) := by decide +kernel
theorem dX8_added2_31 : decode cX8_added2 31 = .ok (.ifCond .ne 7, 3) := by decide +kernel
theorem dX8_added2_34 : decode cX8_added2 34 = .ok (.iconst 1, 1) := by decide +kernel
theorem dX8_added2_35 : decode cX8_added2 35 = .ok (.goto 4, 3) := by decide +kernel
theorem dX8_added2_38 : decode cX8_added2 38 = .ok (.iconst 0, 1) := by decide +kernel
theorem dX8_added2_39 : decode cX8_added2 39 = .ok (.istore_n 2, 1) := by decide +kernel
theorem dX8_added2_40 : decode cX8_added2 40 = .ok (.aload_n 0, 1) := by decide +kernel
theorem dX8_added2_41 : decode cX8_added2 41 = .ok (.invokevirtual 175, 3) := by decide +kernel
theorem dX8_added2_44 : decode cX8_added2 44 = .ok (.aload_n 0, 1) := by decide +kernel
theorem dX8_added2_45 : decode cX8_added2 45 = .ok (.invokevirtual 273, 3) := by decide +kernel
theorem dX8_added2_48 : decode cX8_added2 48 = .ok (.istore_n 3, 1) := by decide +kernel
theorem dX8_added2_49 : decode cX8_added2 49 = .ok (.iload_n 2, 1) := by decide +kernel
theorem dX8_added2_50 : decode cX8_added2 50 = .ok (.ifCond .eq 9, 3) := by decide +kernel
theorem dX8_added2_53 : decode cX8_added2 53 = .ok (.iload_n 1, 1) := by decide +kernel
theorem dX8_added2_54 : decode cX8_added2 54 = .ok (.iload_n 3, 1) := by decide +kernel
theorem dX8_added2_55 : decode cX8_added2 55 = .ok (.iadd, 1) := by decide +kernel
theorem dX8_added2_56 : decode cX8_added2 56 = .ok (.goto 6, 3) := by decide +kernel
theorem dX8_added2_59 : decode cX8_added2 59 = .ok (.iload_n 1, 1) := by decide +kernel
theorem dX8_added2_60 : decode cX8_added2 60 = .ok (.iload_n 3, 1) := by decide +kernel
theorem dX8_added2_61 : decode cX8_added2 61 = .ok (.isub, 1) := by decide +kernel
theorem dX8_added2_62 : decode cX8_added2 62 = .ok (.istore_n 1, 1) := by decide +kernel
theorem dX8_added2_63 : decode cX8_added2 63 = .ok (.goto (-58), 3) := by decide +kernel
theorem dX8_added2_66 : decode cX8_added2 66 = .ok (.iload_n 1, 1) := by decide +kernel
theorem dX8_added2_67 : decode cX8_added2 67 = .ok (.ireturn, 1) := by decide +kernel
theorem dX8_not2_0 : decode cX8_not2 0 = .ok (.aload_n 0, 1) := by decide +kernel
theorem dX8_not2_1 : decode cX8_not2 1 = .ok (.bipush 110, 2) := by decide +kernel
theorem dX8_not2_3 : decode cX8_not2 3 = .ok (.bipush 111, 2) := by decide +kernel
theorem dX8_not2_5 : decode cX8_not2 5 = .ok (.bipush 116, 2) := by decide +kernel
theorem dX8_not2_7 : decode cX8_not2 7 = .ok (.iconst 0, 1) := by decide +kernel
theorem dX8_not2_8 : decode cX8_not2 8 = .ok (.iconst 0, 1) := by decide +kernel
theorem dX8_not2_9 : decode cX8_not2 9 = .ok (.iconst 0, 1) := by decide +kernel
theorem dX8_not2_10 : decode cX8_not2 10 = .ok (.iconst 0, 1) := by decide +kernel
theorem dX8_not2_11 : decode cX8_not2 11 = .ok (.iconst 0, 1) := by decide +kernel
theorem dX8_not2_12 : decode cX8_not2 12 = .ok (.invokevirtual 178, 3) := by decide +kernel
theorem dX8_not2_15 : decode cX8_not2 15 = .ok (.ifCond .eq 37, 3) := by decide +kernel
theorem dX8_not2_18 : decode cX8_not2 18 = .ok (.aload_n 0, 1) := by decide +kernel
theorem dX8_not2_19 : decode cX8_not2 19 = .ok (.invokevirtual 204, 3) := by decide +kernel
theorem dX8_not2_22 : decode cX8_not2 22 = .ok (.ifCond .ne 5, 3) := by decide +kernel
theorem dX8_not2_25 : decode cX8_not2 25 = .ok (.iconst 0, 1) := by decide +kernel
theorem dX8_not2_26 : decode cX8_not2 26 = .ok (.ireturn, 1) := by decide +kernel
theorem dX8_not2_27 : decode cX8_not2 27 = .ok (.aload_n 0, 1) := by decide +kernel
theorem dX8_not2_28 : decode cX8_not2 28 = .ok (.invokevirtual 261, 3) := by decide +kernel
theorem dX8_not2_31 : decode cX8_not2 31 = .ok (.istore_n 1, 1) := by decide +kernel
theorem dX8_not2_32 : decode cX8_not2 32 = .ok (.aload_n 0, 1) := by decide +kernel
theorem dX8_not2_33 : decode cX8_not2 33 = .ok (.dup, 1) := by decide +kernel
theorem dX8_not2_34 : decode cX8_not2 34 = .ok (.getfield 169, 3) := by decide +kernel
theorem dX8_not2_37 : decode cX8_not2 37 = .ok (.iconst 1, 1) := by decide +kernel
theorem dX8_not2_38 : decode cX8_not2 38 = .ok (.isub, 1) := by decide +kernel
theorem dX8_not2_39 : decode cX8_not2 39 = .ok (.putfield 169, 3) := by decide +kernel
theorem dX8_not2_42 : decode cX8_not2 42 = .ok (.iload_n 1, 1) := by decide +kernel
theorem dX8_not2_43 : decode cX8_not2 43 = .ok (.ifCond .ne 7, 3) := by decide +kernel
theorem dX8_not2_46 : decode cX8_not2 46 = .ok (.iconst 1, 1) := by decide +kernel
theorem dX8_not2_47 : decode cX8_not2 47 = .ok (.goto 4, 3) := by decide +kernel
theorem dX8_not2_50 : decode cX8_not2 50 = .ok (.iconst 0, 1) := by decide +kernel
theorem dX8_not2_51 : decode cX8_not2 51 = .ok (.ireturn, 1) := by decide +kernel
theorem dX8_not2_52 : decode cX8_not2 52 = .ok (.aload_n 0, 1) := by decide +kernel
theorem dX8_not2_53 : decode cX8_not2 53 = .ok (.invokevirtual 276, 3) := by decide +kernel
theorem dX8_not2_56 : decode cX8_not2 56 = .ok (.istore_n 1, 1) := by decide +kernel
theorem dX8_not2_57 : decode cX8_not2 57 = .ok (.aload_n 0, 1) := by decide +kernel
theorem dX8_not2_58 : decode cX8_not2 58 = .ok (.bipush 60, 2) := by decide +kernel
theorem dX8_not2_60 : decode cX8_not2 60 = .ok (.invokevirtual 200, 3) := by decide +kernel
theorem dX8_not2_63 : decode cX8_not2 63 = .ok (.ifCond .ne 14, 3) := by decide +kernel
theorem dX8_not2_66 : decode cX8_not2 66 = .ok (.aload_n 0, 1) := by decide +kernel
theorem dX8_not2_67 : decode cX8_not2 67 = .ok (.bipush 61, 2) := by decide +kernel
theorem dX8_not2_69 : decode cX8_not2 69 = .ok (.invokevirtual 200, 3) := by decide +kernel
theorem dX8_not2_72 : decode cX8_not2 72 = .ok (.ifCond .ne 5, 3) := by decide +kernel
theorem dX8_not2_75 : decode cX8_not2 75 = .ok (.iload_n 1, 1) := by decide +kernel
theorem dX8_not2_76 : decode cX8_not2 76 = .ok (.ireturn, 1) := by decide +kernel
theorem dX8_not2_77 : decode cX8_not2 77 = .ok (.aload_n 0, 1) := by decide +kernel
theorem dX8_not2_78 : decode cX8_not2 78 = .ok (.getfield 153, 3) := by decide +kernel
theorem dX8_not2_81 : decode cX8_not2 81 = .ok (.ldc2_w 223, 3) := by decide +kernel
theorem dX8_not2_84 : decode cX8_not2 84 = .ok (.lcmp, 1) := by decide +kernel
theorem dX8_not2_85 : decode cX8_not2 85 = .ok (.ifCond .ne 7, 3) := by decide +kernel
theorem dX8_not2_88 : decode cX8_not2 88 = .ok (.iconst 1, 1) := by decide +kernel
theorem dX8_not2_89 : decode cX8_not2 89 = .ok (.goto 4, 3) := by decide +kernel
theorem dX8_not2_92 : decode cX8_not2 92 = .ok (.iconst 0, 1) := by decide +kernel
theorem dX8_not2_93 : decode cX8_not2 93 = .ok (.istore_n 2, 1) := by decide +kernel
theorem dX8_not2_94 : decode cX8_not2 94 = .ok (.aload_n 0, 1) := by decide +kernel
theorem dX8_not2_95 : decode cX8_not2 95 = .ok (.invokevirtual 175, 3) := by decide +kernel
theorem dX8_not2_98 : decode cX8_not2 98 = .ok (.aload_n 0, 1) := by decide +kernel
theorem dX8_not2_99 : decode cX8_not2 99 = .ok (.invokevirtual 276, 3) := by decide +kernel
theorem dX8_not2_102 : decode cX8_not2 102 = .ok (.istore_n 3, 1) := by decide +kernel
theorem dX8_not2_103 : decode cX8_not2 103 = .ok (.iload_n 2, 1) := by decide +kernel
theorem dX8_not2_104 : decode cX8_not2 104 = .ok (.ifCond .eq 11, 3) := by decide +kernel
theorem dX8_not2_107 : decode cX8_not2 107 = .ok (.iload_n 1, 1) := by decide +kernel
theorem dX8_not2_108 : decode cX8_not2 108 = .ok (.iload_n 3, 1) := by decide +kernel
theorem dX8_not2_109 : decode cX8_not2 109 = .ok (.if_icmp .ge 15, 3) := by decide +kernel
theorem dX8_not2_112 : decode cX8_not2 112 = .ok (.goto 8, 3) := by decide +kernel
theorem dX8_not2_115 : decode cX8_not2 115 = .ok (.iload_n 1, 1) := by decide +kernel
theorem dX8_not2_116 : decode cX8_not2 116 = .ok (.iload_n 3, 1) := by decide +kernel
theorem dX8_not2_117 : decode cX8_not2 117 = .ok (.if_icmp .ne 7, 3) := by decide +kernel
theorem dX8_not2_120 : decode cX8_not2 120 = .ok (.iconst 1, 1) := by decide +kernel
theorem dX8_not2_121 : decode cX8_not2 121 = .ok (.goto 4, 3) := by decide +kernel
theorem dX8_not2_124 : decode cX8_not2 124 = .ok (.iconst 0, 1) := by decide +kernel
theorem dX8_not2_125 : decode cX8_not2 125 = .ok (.ireturn, 1) := by decide +kernel
theorem dX8_both2_0 : decode cX8_both2 0 = .ok (.aload_n 0, 1) := by decide +kernel
theorem dX8_both2_1 : decode cX8_both2 1 = .ok (.invokevirtual 279, 3) := by decide +kernel
theorem dX8_both2_4 : decode cX8_both2 4 = .ok (.istore_n 1, 1) := by decide +kernel
theorem dX8_both2_5 : decode cX8_both2 5 = .ok (.aload_n 0, 1) := by decide +kernel
theorem dX8_both2_6 : decode cX8_both2 6 = .ok (.bipush 97, 2) := by decide +kernel
theorem dX8_both2_8 : decode cX8_both2 8 = .ok (.bipush 110, 2) := by decide +kernel
theorem dX8_both2_10 : decode cX8_both2 10 = .ok (.bipush 100, 2) := by decide +kernel
theorem dX8_both2_12 : decode cX8_both2 12 = .ok (.iconst 0, 1) := by decide +kernel
theorem dX8_both2_13 : decode cX8_both2 13 = .ok (.iconst 0, 1) := by decide +kernel
theorem dX8_both2_14 : decode cX8_both2 14 = .ok (.iconst 0, 1) := by decide +kernel
theorem dX8_both2_15 : decode cX8_both2 15 = .ok (.iconst 0, 1) := by decide +kernel
theorem dX8_both2_16 : decode cX8_both2 16 = .ok (.iconst 0, 1) := by decide +kernel
theorem dX8_both2_17 : decode cX8_both2 17 = .ok (.invokevirtual 178, 3) := by decide +kernel
theorem dX8_both2_20 : decode cX8_both2 20 = .ok (.ifCond .eq 29, 3) := by decide +kernel
theorem dX8_both2_23 : decode cX8_both2 23 = .ok (.aload_n 0, 1) := by decide +kernel
theorem dX8_both2_24 : decode cX8_both2 24 = .ok (.invokevirtual 175, 3) := by decide +kernel
theorem dX8_both2_27 : decode cX8_both2 27 = .ok (.aload_n 0, 1) := by decide +kernel
theorem dX8_both2_28 : decode cX8_both2 28 = .ok (.invokevirtual 279, 3) := by decide +kernel
theorem dX8_both2_31 : decode cX8_both2 31 = .ok (.istore_n 2, 1) := by decide +kernel
theorem dX8_both2_32 : decode cX8_both2 32 = .ok (.iload_n 1, 1) := by decide +kernel
theorem dX8_both2_33 : decode cX8_both2 33 = .ok (.ifCond .eq 11, 3) := by decide +kernel
theorem dX8_both2_36 : decode cX8_both2 36 = .ok (.iload_n 2, 1) := by decide +kernel
theorem dX8_both2_37 : decode cX8_both2 37 = .ok (.ifCond .eq 7, 3) := by decide +kernel
theorem dX8_both2_40 : decode cX8_both2 40 = .ok (.iconst 1, 1) := by decide +kernel
theorem dX8_both2_41 : decode cX8_both2 41 = .ok (.goto 4, 3) := by decide +kernel
theorem dX8_both2_44 : decode cX8_both2 44 = .ok (.iconst 0, 1) := by decide +kernel
theorem dX8_both2_45 : decode cX8_both2 45 = .ok (.istore_n 1, 1) := by decide +kernel
theorem dX8_both2_46 : decode cX8_both2 46 = .ok (.goto (-41), 3) := by decide +kernel
theorem dX8_both2_49 : decode cX8_both2 49 = .ok (.iload_n 1, 1) := by decide +kernel
theorem dX8_both2_50 : decode cX8_both2 50 = .ok (.ireturn, 1) := by decide +kernel
theorem dX8_either2_0 : decode cX8_either2 0 = .ok (.aload_n 0, 1) := by decide +kernel
theorem dX8_either2_1 : decode cX8_either2 1 = .ok (.invokevirtual 282, 3) := by decide +kernel
theorem dX8_either2_4 : decode cX8_either2 4 = .ok (.istore_n 1, 1) := by decide +kernel
theorem dX8_either2_5 : decode cX8_either2 5 = .ok (.aload_n 0, 1) := by decide +kernel
theorem dX8_either2_6 : decode cX8_either2 6 = .ok (.bipush 111, 2) := by decide +kernel
theorem dX8_either2_8 : decode cX8_either2 8 = .ok (.bipush 114, 2) := by decide +kernel
theorem dX8_either2_10 : decode cX8_either2 10 = .ok (.iconst 0, 1) := by decide +kernel
theorem dX8_either2_11 : decode cX8_either2 11 = .ok (.iconst 0, 1) := by decide +kernel
theorem dX8_either2_12 : decode cX8_either2 12 = .ok (.iconst 0, 1) := by decide +kernel
theorem dX8_either2_13 : decode cX8_either2 13 = .ok (.iconst 0, 1) := by decide +kernel
theorem dX8_either2_14 : decode cX8_either2 14 = .ok (.iconst 0, 1) := by decide +kernel
theorem dX8_either2_15 : decode cX8_either2 15 = .ok (.iconst 0, 1) := by decide +kernel
theorem dX8_either2_16 : decode cX8_either2 16 = .ok (.invokevirtual 178, 3) := by decide +kernel
theorem dX8_either2_19 : decode cX8_either2 19 = .ok (.ifCond .eq 29, 3) := by decide +kernel
theorem dX8_either2_22 : decode cX8_either2 22 = .ok (.aload_n 0, 1) := by decide +kernel
theorem dX8_either2_23 : decode cX8_either2 23 = .ok (.invokevirtual 175, 3) := by decide +kernel
theorem dX8_either2_26 : decode cX8_either2 26 = .ok (.aload_n 0, 1) := by decide +kernel
theorem dX8_either2_27 : decode cX8_either2 27 = .ok (.invokevirtual 282, 3) := by decide +kernel
theorem dX8_either2_30 : decode cX8_either2 30 = .ok (.istore_n 2, 1) := by decide +kernel
theorem dX8_either2_31 : decode cX8_either2 31 = .ok (.iload_n 1, 1) := by decide +kernel
theorem dX8_either2_32 : decode cX8_either2 32 = .ok (.ifCond .ne 7, 3) := by decide +kernel
theorem dX8_either2_35 : decode cX8_either2 35 = .ok (.iload_n 2, 1) := by decide +kernel
theorem dX8_either2_36 : decode cX8_either2 36 = .ok (.ifCond .eq 7, 3) := by decide +kernel
theorem dX8_either2_39 : decode cX8_either2 39 = .ok (.iconst 1, 1) := by decide +kernel
theorem dX8_either2_40 : decode cX8_either2 40 = .ok (.goto 4, 3) := by decide +kernel
theorem dX8_either2_43 : decode cX8_either2 43 = .ok (.iconst 0, 1) := by decide +kernel
theorem dX8_either2_44 : decode cX8_either2 44 = .ok (.istore_n 1, 1) := by decide +kernel
theorem dX8_either2_45 : decode cX8_either2 45 = .ok (.goto (-40), 3) := by decide +kernel
theorem dX8_either2_48 : decode cX8_either2 48 = .ok (.iload_n 1, 1) := by decide +kernel
theorem dX8_either2_49 : decode cX8_either2 49 = .ok (.ireturn, 1) := by decide +kernel
theorem dX8_atom1_0 : decode cX8_atom1 0 = .ok (.iconst 0, 1) := by decide +kernel
theorem dX8_atom1_1 : decode cX8_atom1 1 = .ok (.istore_n 1, 1) := by decide +kernel
theorem dX8_atom1_2 : decode cX8_atom1 2 = .ok (.aload_n 0, 1) := by decide +kernel
theorem dX8_atom1_3 : decode cX8_atom1 3 = .ok (.bipush 45, 2) := by decide +kernel
theorem dX8_atom1_5 : decode cX8_atom1 5 = .ok (.invokevirtual 200, 3) := by decide +kernel
theorem dX8_atom1_8 : decode cX8_atom1 8 = .ok (.ifCond .eq 29, 3) := by decide +kernel
theorem dX8_atom1_11 : decode cX8_atom1 11 = .ok (.aload_n 0, 1) := by decide +kernel
theorem dX8_atom1_12 : decode cX8_atom1 12 = .ok (.invokevirtual 204, 3) := by decide +kernel
theorem dX8_atom1_15 : decode cX8_atom1 15 = .ok (.ifCond .eq 146, 3) := by decide +kernel
theorem dX8_atom1_18 : decode cX8_atom1 18 = .ok (.aload_n 0, 1) := by decide +kernel
theorem dX8_atom1_19 : decode cX8_atom1 19 = .ok (.invokevirtual 270, 3) := by decide +kernel
theorem dX8_atom1_22 : decode cX8_atom1 22 = .ok (.ineg, 1) := by decide +kernel
theorem dX8_atom1_23 : decode cX8_atom1 23 = .ok (.istore_n 1, 1) := by decide +kernel
theorem dX8_atom1_24 : decode cX8_atom1 24 = .ok (.aload_n 0, 1) := by decide +kernel
theorem dX8_atom1_25 : decode cX8_atom1 25 = .ok (.dup, 1) := by decide +kernel
theorem dX8_atom1_26 : decode cX8_atom1 26 = .ok (.getfield 169, 3) := by decide +kernel
theorem dX8_atom1_29 : decode cX8_atom1 29 = .ok (.iconst 1, 1) := by decide +kernel
theorem dX8_atom1_30 : decode cX8_atom1 30 = .ok (.isub, 1) := by decide +kernel
theorem dX8_atom1_31 : decode cX8_atom1 31 = .ok (.putfield 169, 3) := by decide +kernel
theorem dX8_atom1_34 : decode cX8_atom1 34 = .ok (.goto 127, 3) := by decide +kernel
theorem dX8_atom1_37 : decode cX8_atom1 37 = .ok (.aload_n 0, 1) := by decide +kernel
theorem dX8_atom1_38 : decode cX8_atom1 38 = .ok (.bipush 40, 2) := by decide +kernel
theorem dX8_atom1_40 : decode cX8_atom1 40 = .ok (.invokevirtual 200, 3) := by decide +kernel
theorem dX8_atom1_43 : decode cX8_atom1 43 = .ok (.ifCond .eq 52, 3) := by decide +kernel
theorem dX8_atom1_46 : decode cX8_atom1 46 = .ok (.aload_n 0, 1) := by decide +kernel
theorem dX8_atom1_47 : decode cX8_atom1 47 = .ok (.invokevirtual 204, 3) := by decide +kernel
theorem dX8_atom1_50 : decode cX8_atom1 50 = .ok (.ifCond .eq 111, 3) := by decide +kernel
theorem dX8_atom1_53 : decode cX8_atom1 53 = .ok (.aload_n 0, 1) := by decide +kernel
theorem dX8_atom1_54 : decode cX8_atom1 54 = .ok (.invokevirtual 285, 3) := by decide +kernel
theorem dX8_atom1_57 : decode cX8_atom1 57 = .ok (.istore_n 1, 1) := by decide +kernel
theorem dX8_atom1_58 : decode cX8_atom1 58 = .ok (.aload_n 0, 1) := by decide +kernel
theorem dX8_atom1_59 : decode cX8_atom1 59 = .ok (.bipush 41, 2) := by decide +kernel
theorem dX8_atom1_61 : decode cX8_atom1 61 = .ok (.invokevirtual 200, 3) := by decide +kernel
theorem dX8_atom1_64 : decode cX8_atom1 64 = .ok (.ifCond .ne 7, 3) := by decide +kernel
theorem dX8_atom1_67 : decode cX8_atom1 67 = .ok (.aload_n 0, 1) := by decide +kernel
theorem dX8_atom1_68 : decode cX8_atom1 68 = .ok (.invokevirtual 172, 3) := by decide +kernel
theorem dX8_atom1_71 : decode cX8_atom1 71 = .ok (.aload_n 0, 1) := by decide +kernel
theorem dX8_atom1_72 : decode cX8_atom1 72 = .ok (.dup, 1) := by decide +kernel
theorem dX8_atom1_73 : decode cX8_atom1 73 = .ok (.getfield 169, 3) := by decide +kernel
theorem dX8_atom1_76 : decode cX8_atom1 76 = .ok (.iconst 1, 1) := by decide +kernel
theorem dX8_atom1_77 : decode cX8_atom1 77 = .ok (.isub, 1) := by decide +kernel
theorem dX8_atom1_78 : decode cX8_atom1 78 = .ok (.putfield 169, 3) := by decide +kernel
theorem dX8_atom1_81 : decode cX8_atom1 81 = .ok (.aload_n 0, 1) := by decide +kernel
theorem dX8_atom1_82 : decode cX8_atom1 82 = .ok (.getfield 159, 3) := by decide +kernel
theorem dX8_atom1_85 : decode cX8_atom1 85 = .ok (.ifCond .ne 76, 3) := by decide +kernel
theorem dX8_atom1_88 : decode cX8_atom1 88 = .ok (.aload_n 0, 1) := by decide +kernel
theorem dX8_atom1_89 : decode cX8_atom1 89 = .ok (.invokevirtual 175, 3) := by decide +kernel
theorem dX8_atom1_92 : decode cX8_atom1 92 = .ok (.goto 69, 3) := by decide +kernel
theorem dX8_atom1_95 : decode cX8_atom1 95 = .ok (.aload_n 0, 1) := by decide +kernel
theorem dX8_atom1_96 : decode cX8_atom1 96 = .ok (.getfield 159, 3) := by decide +kernel
theorem dX8_atom1_99 : decode cX8_atom1 99 = .ok (.ifCond .ne 24, 3) := by decide +kernel
theorem dX8_atom1_102 : decode cX8_atom1 102 = .ok (.aload_n 0, 1) := by decide +kernel
theorem dX8_atom1_103 : decode cX8_atom1 103 = .ok (.getfield 142, 3) := by decide +kernel
theorem dX8_atom1_106 : decode cX8_atom1 106 = .ok (.iconst 2, 1) := by decide +kernel
theorem dX8_atom1_107 : decode cX8_atom1 107 = .ok (.if_icmp .ne 16, 3) := by decide +kernel
theorem dX8_atom1_110 : decode cX8_atom1 110 = .ok (.aload_n 0, 1) := by decide +kernel
theorem dX8_atom1_111 : decode cX8_atom1 111 = .ok (.getfield 153, 3) := by decide +kernel
theorem dX8_atom1_114 : decode cX8_atom1 114 = .ok (.l2i, 1) := by decide +kernel
theorem dX8_atom1_115 : decode cX8_atom1 115 = .ok (.istore_n 1, 1) := by decide +kernel
theorem dX8_atom1_116 : decode cX8_atom1 116 = .ok (.aload_n 0, 1) := by decide +kernel
theorem dX8_atom1_117 : decode cX8_atom1 117 = .ok (.invokevirtual 175, 3) := by decide +kernel
theorem dX8_atom1_120 : decode cX8_atom1 120 = .ok (.goto 41, 3) := by decide +kernel
theorem dX8_atom1_123 : decode cX8_atom1 123 = .ok (.aload_n 0, 1) := by decide +kernel
theorem dX8_atom1_124 : decode cX8_atom1 124 = .ok (.getfield 159, 3) := by decide +kernel
theorem dX8_atom1_127 : decode cX8_atom1 127 = .ok (.ifCond .ne 30, 3) := by decide +kernel
theorem dX8_atom1_130 : decode cX8_atom1 130 = .ok (.aload_n 0, 1) := by decide +kernel
theorem dX8_atom1_131 : decode cX8_atom1 131 = .ok (.getfield 142, 3) := by decide +kernel
theorem dX8_atom1_134 : decode cX8_atom1 134 = .ok (.iconst 1, 1) := by decide +kernel
theorem dX8_atom1_135 : decode cX8_atom1 135 = .ok (.if_icmp .ne 22, 3) := by decide +kernel
theorem dX8_atom1_138 : decode cX8_atom1 138 = .ok (.aload_n 0, 1) := by decide +kernel
theorem dX8_atom1_139 : decode cX8_atom1 139 = .ok (.invokevirtual 208, 3) := by decide +kernel
theorem dX8_atom1_142 : decode cX8_atom1 142 = .ok (.istore_n 1, 1) := by decide +kernel
theorem dX8_atom1_143 : decode cX8_atom1 143 = .ok (.aload_n 0, 1) := by decide +kernel
theorem dX8_atom1_144 : decode cX8_atom1 144 = .ok (.getfield 159, 3) := by decide +kernel
theorem dX8_atom1_147 : decode cX8_atom1 147 = .ok (.ifCond .ne 14, 3) := by decide +kernel
theorem dX8_atom1_150 : decode cX8_atom1 150 = .ok (.aload_n 0, 1) := by decide +kernel
theorem dX8_atom1_151 : decode cX8_atom1 151 = .ok (.invokevirtual 175, 3) := by decide +kernel
theorem dX8_atom1_154 : decode cX8_atom1 154 = .ok (.goto 7, 3) := by decide +kernel
theorem dX8_atom1_157 : decode cX8_atom1 157 = .ok (.aload_n 0, 1) := by decide +kernel
theorem dX8_atom1_158 : decode cX8_atom1 158 = .ok (.invokevirtual 172, 3) := by decide +kernel
theorem dX8_atom1_161 : decode cX8_atom1 161 = .ok (.iload_n 1, 1) := by decide +kernel
theorem dX8_atom1_162 : decode cX8_atom1 162 = .ok (.ireturn, 1) := by decide +kernel
theorem dX8_term1_0 : decode cX8_term1 0 = .ok (.aload_n 0, 1) := by decide +kernel
theorem dX8_term1_1 : decode cX8_term1 1 = .ok (.invokevirtual 288, 3) := by decide +kernel
theorem dX8_term1_4 : decode cX8_term1 4 = .ok (.istore_n 1, 1) := by decide +kernel
theorem dX8_term1_5 : decode cX8_term1 5 = .ok (.aload_n 0, 1) := by decide +kernel
theorem dX8_term1_6 : decode cX8_term1 6 = .ok (.bipush 42, 2) := by decide +kernel
theorem dX8_term1_8 : decode cX8_term1 8 = .ok (.invokevirtual 200, 3) := by decide +kernel
theorem dX8_term1_11 : decode cX8_term1 11 = .ok (.ifCond .eq 17, 3) := by decide +kernel
theorem dX8_term1_14 : decode cX8_term1 14 = .ok (.aload_n 0, 1) := by decide +kernel
theorem dX8_term1_15 : decode cX8_term1 15 = .ok (.invokevirtual 175, 3) := by decide +kernel
theorem dX8_term1_18 : decode cX8_term1 18 = .ok (.iload_n 1, 1) := by decide +kernel
theorem dX8_term1_19 : decode cX8_term1 19 = .ok (.aload_n 0, 1) := by decide +kernel
theorem dX8_term1_20 : decode cX8_term1 20 = .ok (.invokevirtual 288, 3) := by decide +kernel
theorem dX8_term1_23 : decode cX8_term1 23 = .ok (.imul, 1) := by decide +kernel
theorem dX8_term1_24 : decode cX8_term1 24 = .ok (.istore_n 1, 1) := by decide +kernel
theorem dX8_term1_25 : decode cX8_term1 25 = .ok (.goto (-20), 3) := by decide +kernel
theorem dX8_term1_28 : decode cX8_term1 28 = .ok (.iload_n 1, 1) := by decide +kernel
theorem dX8_term1_29 : decode cX8_term1 29 = .ok (.ireturn, 1) := by decide +kernel
theorem dX8_added1_0 : decode cX8_added1 0 = .ok (.aload_n 0, 1) := by decide +kernel
theorem dX8_added1_1 : decode cX8_added1 1 = .ok (.invokevirtual 291, 3) := by decide +kernel
theorem dX8_added1_4 : decode cX8_added1 4 = .ok (.istore_n 1, 1) := by decide +kernel
theorem dX8_added1_5 : decode cX8_added1 5 = .ok (.aload_n 0, 1) := by decide +kernel
theorem dX8_added1_6 : decode cX8_added1 6 = .ok (.bipush 43, 2) := by decide +kernel
theorem dX8_added1_8 : decode cX8_added1 8 = .ok (.invokevirtual 200, 3) := by decide +kernel
theorem dX8_added1_11 : decode cX8_added1 11 = .ok (.ifCond .ne 12, 3) := by decide +kernel
theorem dX8_added1_14 : decode cX8_added1 14 = .ok (.aload_n 0, 1) := by decide +kernel
theorem dX8_added1_15 : decode cX8_added1 15 = .ok (.bipush 45, 2) := by decide +kernel
theorem dX8_added1_17 : decode cX8_added1 17 = .ok (.invokevirtual 200, 3) := by decide +kernel
theorem dX8_added1_20 : decode cX8_added1 20 = .ok (.ifCond .eq 46, 3) := by decide +kernel
theorem dX8_added1_23 : decode cX8_added1 23 = .ok (.aload_n 0, 1) := by decide +kernel
theorem dX8_added1_24 : decode cX8_added1 24 = .ok (.getfield 153, 3) := by decide +kernel
theorem dX8_added1_27 : decode cX8_added1 27 = .ok (.ldc2_w 218, 3) := by decide +kernel
theorem dX8_added1_30 : decode cX8_added1 30 = .ok (.lcmp, 1) := by decide +kernel
theorem dX8_added1_31 : decode cX8_added1 31 = .ok (.ifCond .ne 7, 3) := by decide +kernel
theorem dX8_added1_34 : decode cX8_added1 34 = .ok (.iconst 1, 1) := by decide +kernel
theorem dX8_added1_35 : decode cX8_added1 35 = .ok (.goto 4, 3) := by decide +kernel
theorem dX8_added1_38 : decode cX8_added1 38 = .ok (.iconst 0, 1) := by decide +kernel
theorem dX8_added1_39 : decode cX8_added1 39 = .ok (.istore_n 2, 1) := by decide +kernel
theorem dX8_added1_40 : decode cX8_added1 40 = .ok (.aload_n 0, 1) := by decide +kernel
theorem dX8_added1_41 : decode cX8_added1 41 = .ok (.invokevirtual 175, 3) := by decide +kernel
theorem dX8_added1_44 : decode cX8_added1 44 = .ok (.aload_n 0, 1) := by decide +kernel
theorem dX8_added1_45 : decode cX8_added1 45 = .ok (.invokevirtual 291, 3) := by decide +kernel
theorem dX8_added1_48 : decode cX8_added1 48 = .ok (.istore_n 3, 1) := by decide +kernel
theorem dX8_added1_49 : decode cX8_added1 49 = .ok (.iload_n 2, 1) := by decide +kernel
theorem dX8_added1_50 : decode cX8_added1 50 = .ok (.ifCond .eq 9, 3) := by decide +kernel
theorem dX8_added1_53 : decode cX8_added1 53 = .ok (.iload_n 1, 1) := by decide +kernel
theorem dX8_added1_54 : decode cX8_added1 54 = .ok (.iload_n 3, 1) := by decide +kernel
theorem dX8_added1_55 : decode cX8_added1 55 = .ok (.iadd, 1) := by decide +kernel
theorem dX8_added1_56 : decode cX8_added1 56 = .ok (.goto 6, 3) := by decide +kernel
theorem dX8_added1_59 : decode cX8_added1 59 = .ok (.iload_n 1, 1) := by decide +kernel
theorem dX8_added1_60 : decode cX8_added1 60 = .ok (.iload_n 3, 1) := by decide +kernel
theorem dX8_added1_61 : decode cX8_added1 61 = .ok (.isub, 1) := by decide +kernel
theorem dX8_added1_62 : decode cX8_added1 62 = .ok (.istore_n 1, 1) := by decide +kernel
theorem dX8_added1_63 : decode cX8_added1 63 = .ok (.goto (-58), 3) := by decide +kernel
theorem dX8_added1_66 : decode cX8_added1 66 = .ok (.iload_n 1, 1) := by decide +kernel
theorem dX8_added1_67 : decode cX8_added1 67 = .ok (.ireturn, 1) := by decide +kernel
theorem dX8_not1_0 : decode cX8_not1 0 = .ok (.aload_n 0, 1) := by decide +kernel
theorem dX8_not1_1 : decode cX8_not1 1 = .ok (.bipush 110, 2) := by decide +kernel
theorem dX8_not1_3 : decode cX8_not1 3 = .ok (.bipush 111, 2) := by decide +kernel
theorem dX8_not1_5 : decode cX8_not1 5 = .ok (.bipush 116, 2) := by decide +kernel
theorem dX8_not1_7 : decode cX8_not1 7 = .ok (.iconst 0, 1) := by decide +kernel
theorem dX8_not1_8 : decode cX8_not1 8 = .ok (.iconst 0, 1) := by decide +kernel
theorem dX8_not1_9 : decode cX8_not1 9 = .ok (.iconst 0, 1) := by decide +kernel
theorem dX8_not1_10 : decode cX8_not1 10 = .ok (.iconst 0, 1) := by decide +kernel
theorem dX8_not1_11 : decode cX8_not1 11 = .ok (.iconst 0, 1) := by decide +kernel
theorem dX8_not1_12 : decode cX8_not1 12 = .ok (.invokevirtual 178, 3) := by decide +kernel
theorem dX8_not1_15 : decode cX8_not1 15 = .ok (.ifCond .eq 37, 3) := by decide +kernel
theorem dX8_not1_18 : decode cX8_not1 18 = .ok (.aload_n 0, 1) := by decide +kernel
theorem dX8_not1_19 : decode cX8_not1 19 = .ok (.invokevirtual 204, 3) := by decide +kernel
theorem dX8_not1_22 : decode cX8_not1 22 = .ok (.ifCond .ne 5, 3) := by decide +kernel
theorem dX8_not1_25 : decode cX8_not1 25 = .ok (.iconst 0, 1) := by decide +kernel
theorem dX8_not1_26 : decode cX8_not1 26 = .ok (.ireturn, 1) := by decide +kernel
theorem dX8_not1_27 : decode cX8_not1 27 = .ok (.aload_n 0, 1) := by decide +kernel
theorem dX8_not1_28 : decode cX8_not1 28 = .ok (.invokevirtual 279, 3) := by decide +kernel
theorem dX8_not1_31 : decode cX8_not1 31 = .ok (.istore_n 1, 1) := by decide +kernel
theorem dX8_not1_32 : decode cX8_not1 32 = .ok (.aload_n 0, 1) := by decide +kernel
theorem dX8_not1_33 : decode cX8_not1 33 = .ok (.dup, 1) := by decide +kernel
theorem dX8_not1_34 : decode cX8_not1 34 = .ok (.getfield 169, 3) := by decide +kernel
theorem dX8_not1_37 : decode cX8_not1 37 = .ok (.iconst 1, 1) := by decide +kernel
theorem dX8_not1_38 : decode cX8_not1 38 = .ok (.isub, 1) := by decide +kernel
theorem dX8_not1_39 : decode cX8_not1 39 = .ok (.putfield 169, 3) := by decide +kernel
theorem dX8_not1_42 : decode cX8_not1 42 = .ok (.iload_n 1, 1) := by decide +kernel
theorem dX8_not1_43 : decode cX8_not1 43 = .ok (.ifCond .ne 7, 3) := by decide +kernel
theorem dX8_not1_46 : decode cX8_not1 46 = .ok (.iconst 1, 1) := by decide +kernel
theorem dX8_not1_47 : decode cX8_not1 47 = .ok (.goto 4, 3) := by decide +kernel
theorem dX8_not1_50 : decode cX8_not1 50 = .ok (.iconst 0, 1) := by decide +kernel
theorem dX8_not1_51 : decode cX8_not1 51 = .ok (.ireturn, 1) := by decide +kernel
theorem dX8_not1_52 : decode cX8_not1 52 = .ok (.aload_n 0, 1) := by decide +kernel
theorem dX8_not1_53 : decode cX8_not1 53 = .ok (.invokevirtual 294, 3) := by decide +kernel
theorem dX8_not1_56 : decode cX8_not1 56 = .ok (.istore_n 1, 1) := by decide +kernel
theorem dX8_not1_57 : decode cX8_not1 57 = .ok (.aload_n 0, 1) := by decide +kernel
theorem dX8_not1_58 : decode cX8_not1 58 = .ok (.bipush 60, 2) := by decide +kernel
theorem dX8_not1_60 : decode cX8_not1 60 = .ok (.invokevirtual 200, 3) := by decide +kernel
theorem dX8_not1_63 : decode cX8_not1 63 = .ok (.ifCond .ne 14, 3) := by decide +kernel
theorem dX8_not1_66 : decode cX8_not1 66 = .ok (.aload_n 0, 1) := by decide +kernel
theorem dX8_not1_67 : decode cX8_not1 67 = .ok (.bipush 61, 2) := by decide +kernel
theorem dX8_not1_69 : decode cX8_not1 69 = .ok (.invokevirtual 200, 3) := by decide +kernel
theorem dX8_not1_72 : decode cX8_not1 72 = .ok (.ifCond .ne 5, 3) := by decide +kernel
theorem dX8_not1_75 : decode cX8_not1 75 = .ok (.iload_n 1, 1) := by decide +kernel
theorem dX8_not1_76 : decode cX8_not1 76 = .ok (.ireturn, 1) := by decide +kernel
theorem dX8_not1_77 : decode cX8_not1 77 = .ok (.aload_n 0, 1) := by decide +kernel
theorem dX8_not1_78 : decode cX8_not1 78 = .ok (.getfield 153, 3) := by decide +kernel
theorem dX8_not1_81 : decode cX8_not1 81 = .ok (.ldc2_w 223, 3) := by decide +kernel
theorem dX8_not1_84 : decode cX8_not1 84 = .ok (.lcmp, 1) := by decide +kernel
theorem dX8_not1_85 : decode cX8_not1 85 = .ok (.ifCond .ne 7, 3) := by decide +kernel
theorem dX8_not1_88 : decode cX8_not1 88 = .ok (.iconst 1, 1) := by decide +kernel
theorem dX8_not1_89 : decode cX8_not1 89 = .ok (.goto 4, 3) := by decide +kernel
theorem dX8_not1_92 : decode cX8_not1 92 = .ok (.iconst 0, 1) := by decide +kernel
theorem dX8_not1_93 : decode cX8_not1 93 = .ok (.istore_n 2, 1) := by decide +kernel
theorem dX8_not1_94 : decode cX8_not1 94 = .ok (.aload_n 0, 1) := by decide +kernel
theorem dX8_not1_95 : decode cX8_not1 95 = .ok (.invokevirtual 175, 3) := by decide +kernel
theorem dX8_not1_98 : decode cX8_not1 98 = .ok (.aload_n 0, 1) := by decide +kernel
theorem dX8_not1_99 : decode cX8_not1 99 = .ok (.invokevirtual 294, 3) := by decide +kernel
theorem dX8_not1_102 : decode cX8_not1 102 = .ok (.istore_n 3, 1) := by decide +kernel
theorem dX8_not1_103 : decode cX8_not1 103 = .ok (.iload_n 2, 1) := by decide +kernel
theorem dX8_not1_104 : decode cX8_not1 104 = .ok (.ifCond .eq 11, 3) := by decide +kernel
theorem dX8_not1_107 : decode cX8_not1 107 = .ok (.iload_n 1, 1) := by decide +kernel
theorem dX8_not1_108 : decode cX8_not1 108 = .ok (.iload_n 3, 1) := by decide +kernel
theorem dX8_not1_109 : decode cX8_not1 109 = .ok (.if_icmp .ge 15, 3) := by decide +kernel
theorem dX8_not1_112 : decode cX8_not1 112 = .ok (.goto 8, 3) := by decide +kernel
theorem dX8_not1_115 : decode cX8_not1 115 = .ok (.iload_n 1, 1) := by decide +kernel
theorem dX8_not1_116 : decode cX8_not1 116 = .ok (.iload_n 3, 1) := by decide +kernel
theorem dX8_not1_117 : decode cX8_not1 117 = .ok (.if_icmp .ne 7, 3) := by decide +kernel
theorem dX8_not1_120 : decode cX8_not1 120 = .ok (.iconst 1, 1) := by decide +kernel
theorem dX8_not1_121 : decode cX8_not1 121 = .ok (.goto 4, 3) := by decide +kernel
theorem dX8_not1_124 : decode cX8_not1 124 = .ok (.iconst 0, 1) := by decide +kernel
theorem dX8_not1_125 : decode cX8_not1 125 = .ok (.ireturn, 1) := by decide +kernel
theorem dX8_both1_0 : decode cX8_both1 0 = .ok (.aload_n 0, 1) := by decide +kernel
theorem dX8_both1_1 : decode cX8_both1 1 = .ok (.invokevirtual 297, 3) := by decide +kernel
theorem dX8_both1_4 : decode cX8_both1 4 = .ok (.istore_n 1, 1) := by decide +kernel
theorem dX8_both1_5 : decode cX8_both1 5 = .ok (.aload_n 0, 1) := by decide +kernel
theorem dX8_both1_6 : decode cX8_both1 6 = .ok (.bipush 97, 2) := by decide +kernel
theorem dX8_both1_8 : decode cX8_both1 8 = .ok (.bipush 110, 2) := by decide +kernel
theorem dX8_both1_10 : decode cX8_both1 10 = .ok (.bipush 100, 2) := by decide +kernel
theorem dX8_both1_12 : decode cX8_both1 12 = .ok (.iconst 0, 1) := by decide +kernel
theorem dX8_both1_13 : decode cX8_both1 13 = .ok (.iconst 0, 1) := by decide +kernel
theorem dX8_both1_14 : decode cX8_both1 14 = .ok (.iconst 0, 1) := by decide +kernel
theorem dX8_both1_15 : decode cX8_both1 15 = .ok (.iconst 0, 1) := by decide +kernel
theorem dX8_both1_16 : decode cX8_both1 16 = .ok (.iconst 0, 1) := by decide +kernel
theorem dX8_both1_17 : decode cX8_both1 17 = .ok (.invokevirtual 178, 3) := by decide +kernel
theorem dX8_both1_20 : decode cX8_both1 20 = .ok (.ifCond .eq 29, 3) := by decide +kernel
theorem dX8_both1_23 : decode cX8_both1 23 = .ok (.aload_n 0, 1) := by decide +kernel
theorem dX8_both1_24 : decode cX8_both1 24 = .ok (.invokevirtual 175, 3) := by decide +kernel
theorem dX8_both1_27 : decode cX8_both1 27 = .ok (.aload_n 0, 1) := by decide +kernel
theorem dX8_both1_28 : decode cX8_both1 28 = .ok (.invokevirtual 297, 3) := by decide +kernel
theorem dX8_both1_31 : decode cX8_both1 31 = .ok (.istore_n 2, 1) := by decide +kernel
theorem dX8_both1_32 : decode cX8_both1 32 = .ok (.iload_n 1, 1) := by decide +kernel
theorem dX8_both1_33 : decode cX8_both1 33 = .ok (.ifCond .eq 11, 3) := by decide +kernel
theorem dX8_both1_36 : decode cX8_both1 36 = .ok (.iload_n 2, 1) := by decide +kernel
theorem dX8_both1_37 : decode cX8_both1 37 = .ok (.ifCond .eq 7, 3) := by decide +kernel
theorem dX8_both1_40 : decode cX8_both1 40 = .ok (.iconst 1, 1) := by decide +kernel
theorem dX8_both1_41 : decode cX8_both1 41 = .ok (.goto 4, 3) := by decide +kernel
theorem dX8_both1_44 : decode cX8_both1 44 = .ok (.iconst 0, 1) := by decide +kernel
theorem dX8_both1_45 : decode cX8_both1 45 = .ok (.istore_n 1, 1) := by decide +kernel
theorem dX8_both1_46 : decode cX8_both1 46 = .ok (.goto (-41), 3) := by decide +kernel
theorem dX8_both1_49 : decode cX8_both1 49 = .ok (.iload_n 1, 1) := by decide +kernel
theorem dX8_both1_50 : decode cX8_both1 50 = .ok (.ireturn, 1) := by decide +kernel
theorem dX8_either1_0 : decode cX8_either1 0 = .ok (.aload_n 0, 1) := by decide +kernel
theorem dX8_either1_1 : decode cX8_either1 1 = .ok (.invokevirtual 300, 3) := by decide +kernel
theorem dX8_either1_4 : decode cX8_either1 4 = .ok (.istore_n 1, 1) := by decide +kernel
theorem dX8_either1_5 : decode cX8_either1 5 = .ok (.aload_n 0, 1) := by decide +kernel
theorem dX8_either1_6 : decode cX8_either1 6 = .ok (.bipush 111, 2) := by decide +kernel
theorem dX8_either1_8 : decode cX8_either1 8 = .ok (.bipush 114, 2) := by decide +kernel
theorem dX8_either1_10 : decode cX8_either1 10 = .ok (.iconst 0, 1) := by decide +kernel
theorem dX8_either1_11 : decode cX8_either1 11 = .ok (.iconst 0, 1) := by decide +kernel
theorem dX8_either1_12 : decode cX8_either1 12 = .ok (.iconst 0, 1) := by decide +kernel
theorem dX8_either1_13 : decode cX8_either1 13 = .ok (.iconst 0, 1) := by decide +kernel
theorem dX8_either1_14 : decode cX8_either1 14 = .ok (.iconst 0, 1) := by decide +kernel
theorem dX8_either1_15 : decode cX8_either1 15 = .ok (.iconst 0, 1) := by decide +kernel
theorem dX8_either1_16 : decode cX8_either1 16 = .ok (.invokevirtual 178, 3) := by decide +kernel
theorem dX8_either1_19 : decode cX8_either1 19 = .ok (.ifCond .eq 29, 3) := by decide +kernel
theorem dX8_either1_22 : decode cX8_either1 22 = .ok (.aload_n 0, 1) := by decide +kernel
theorem dX8_either1_23 : decode cX8_either1 23 = .ok (.invokevirtual 175, 3) := by decide +kernel
theorem dX8_either1_26 : decode cX8_either1 26 = .ok (.aload_n 0, 1) := by decide +kernel
theorem dX8_either1_27 : decode cX8_either1 27 = .ok (.invokevirtual 300, 3) := by decide +kernel
theorem dX8_either1_30 : decode cX8_either1 30 = .ok (.istore_n 2, 1) := by decide +kernel
theorem dX8_either1_31 : decode cX8_either1 31 = .ok (.iload_n 1, 1) := by decide +kernel
theorem dX8_either1_32 : decode cX8_either1 32 = .ok (.ifCond .ne 7, 3) := by decide +kernel
theorem dX8_either1_35 : decode cX8_either1 35 = .ok (.iload_n 2, 1) := by decide +kernel
theorem dX8_either1_36 : decode cX8_either1 36 = .ok (.ifCond .eq 7, 3) := by decide +kernel
theorem dX8_either1_39 : decode cX8_either1 39 = .ok (.iconst 1, 1) := by decide +kernel
theorem dX8_either1_40 : decode cX8_either1 40 = .ok (.goto 4, 3) := by decide +kernel
theorem dX8_either1_43 : decode cX8_either1 43 = .ok (.iconst 0, 1) := by decide +kernel
theorem dX8_either1_44 : decode cX8_either1 44 = .ok (.istore_n 1, 1) := by decide +kernel
theorem dX8_either1_45 : decode cX8_either1 45 = .ok (.goto (-40), 3) := by decide +kernel
theorem dX8_either1_48 : decode cX8_either1 48 = .ok (.iload_n 1, 1) := by decide +kernel
theorem dX8_either1_49 : decode cX8_either1 49 = .ok (.ireturn, 1) := by decide +kernel
theorem dX8_atom0_0 : decode cX8_atom0 0 = .ok (.iconst 0, 1) := by decide +kernel
theorem dX8_atom0_1 : decode cX8_atom0 1 = .ok (.istore_n 1, 1) := by decide +kernel
theorem dX8_atom0_2 : decode cX8_atom0 2 = .ok (.aload_n 0, 1) := by decide +kernel
theorem dX8_atom0_3 : decode cX8_atom0 3 = .ok (.bipush 45, 2) := by decide +kernel
theorem dX8_atom0_5 : decode cX8_atom0 5 = .ok (.invokevirtual 200, 3) := by decide +kernel
theorem dX8_atom0_8 : decode cX8_atom0 8 = .ok (.ifCond .eq 29, 3) := by decide +kernel
theorem dX8_atom0_11 : decode cX8_atom0 11 = .ok (.aload_n 0, 1) := by decide +kernel
theorem dX8_atom0_12 : decode cX8_atom0 12 = .ok (.invokevirtual 204, 3) := by decide +kernel
theorem dX8_atom0_15 : decode cX8_atom0 15 = .ok (.ifCond .eq 146, 3) := by decide +kernel
theorem dX8_atom0_18 : decode cX8_atom0 18 = .ok (.aload_n 0, 1) := by decide +kernel
theorem dX8_atom0_19 : decode cX8_atom0 19 = .ok (.invokevirtual 288, 3) := by decide +kernel
theorem dX8_atom0_22 : decode cX8_atom0 22 = .ok (.ineg, 1) := by decide +kernel
theorem dX8_atom0_23 : decode cX8_atom0 23 = .ok (.istore_n 1, 1) := by decide +kernel
theorem dX8_atom0_24 : decode cX8_atom0 24 = .ok (.aload_n 0, 1) := by decide +kernel
theorem dX8_atom0_25 : decode cX8_atom0 25 = .ok (.dup, 1) := by decide +kernel
theorem dX8_atom0_26 : decode cX8_atom0 26 = .ok (.getfield 169, 3) := by decide +kernel
theorem dX8_atom0_29 : decode cX8_atom0 29 = .ok (.iconst 1, 1) := by decide +kernel
theorem dX8_atom0_30 : decode cX8_atom0 30 = .ok (.isub, 1) := by decide +kernel
theorem dX8_atom0_31 : decode cX8_atom0 31 = .ok (.putfield 169, 3) := by decide +kernel
theorem dX8_atom0_34 : decode cX8_atom0 34 = .ok (.goto 127, 3) := by decide +kernel
theorem dX8_atom0_37 : decode cX8_atom0 37 = .ok (.aload_n 0, 1) := by decide +kernel
theorem dX8_atom0_38 : decode cX8_atom0 38 = .ok (.bipush 40, 2) := by decide +kernel
theorem dX8_atom0_40 : decode cX8_atom0 40 = .ok (.invokevirtual 200, 3) := by decide +kernel
theorem dX8_atom0_43 : decode cX8_atom0 43 = .ok (.ifCond .eq 52, 3) := by decide +kernel
theorem dX8_atom0_46 : decode cX8_atom0 46 = .ok (.aload_n 0, 1) := by decide +kernel
theorem dX8_atom0_47 : decode cX8_atom0 47 = .ok (.invokevirtual 204, 3) := by decide +kernel
theorem dX8_atom0_50 : decode cX8_atom0 50 = .ok (.ifCond .eq 111, 3) := by decide +kernel
theorem dX8_atom0_53 : decode cX8_atom0 53 = .ok (.aload_n 0, 1) := by decide +kernel
theorem dX8_atom0_54 : decode cX8_atom0 54 = .ok (.invokevirtual 303, 3) := by decide +kernel
theorem dX8_atom0_57 : decode cX8_atom0 57 = .ok (.istore_n 1, 1) := by decide +kernel
theorem dX8_atom0_58 : decode cX8_atom0 58 = .ok (.aload_n 0, 1) := by decide +kernel
theorem dX8_atom0_59 : decode cX8_atom0 59 = .ok (.bipush 41, 2) := by decide +kernel
theorem dX8_atom0_61 : decode cX8_atom0 61 = .ok (.invokevirtual 200, 3) := by decide +kernel
theorem dX8_atom0_64 : decode cX8_atom0 64 = .ok (.ifCond .ne 7, 3) := by decide +kernel
theorem dX8_atom0_67 : decode cX8_atom0 67 = .ok (.aload_n 0, 1) := by decide +kernel
theorem dX8_atom0_68 : decode cX8_atom0 68 = .ok (.invokevirtual 172, 3) := by decide +kernel
theorem dX8_atom0_71 : decode cX8_atom0 71 = .ok (.aload_n 0, 1) := by decide +kernel
theorem dX8_atom0_72 : decode cX8_atom0 72 = .ok (.dup, 1) := by decide +kernel
theorem dX8_atom0_73 : decode cX8_atom0 73 = .ok (.getfield 169, 3) := by decide +kernel
theorem dX8_atom0_76 : decode cX8_atom0 76 = .ok (.iconst 1, 1) := by decide +kernel
theorem dX8_atom0_77 : decode cX8_atom0 77 = .ok (.isub, 1) := by decide +kernel
theorem dX8_atom0_78 : decode cX8_atom0 78 = .ok (.putfield 169, 3) := by decide +kernel
theorem dX8_atom0_81 : decode cX8_atom0 81 = .ok (.aload_n 0, 1) := by decide +kernel
theorem dX8_atom0_82 : decode cX8_atom0 82 = .ok (.getfield 159, 3) := by decide +kernel
theorem dX8_atom0_85 : decode cX8_atom0 85 = .ok (.ifCond .ne 76, 3) := by decide +kernel
theorem dX8_atom0_88 : decode cX8_atom0 88 = .ok (.aload_n 0, 1) := by decide +kernel
theorem dX8_atom0_89 : decode cX8_atom0 89 = .ok (.invokevirtual 175, 3) := by decide +kernel
theorem dX8_atom0_92 : decode cX8_atom0 92 = .ok (.goto 69, 3) := by decide +kernel
theorem dX8_atom0_95 : decode cX8_atom0 95 = .ok (.aload_n 0, 1) := by decide +kernel
theorem dX8_atom0_96 : decode cX8_atom0 96 = .ok (.getfield 159, 3) := by decide +kernel
theorem dX8_atom0_99 : decode cX8_atom0 99 = .ok (.ifCond .ne 24, 3) := by decide +kernel
theorem dX8_atom0_102 : decode cX8_atom0 102 = .ok (.aload_n 0, 1) := by decide +kernel
theorem dX8_atom0_103 : decode cX8_atom0 103 = .ok (.getfield 142, 3) := by decide +kernel
theorem dX8_atom0_106 : decode cX8_atom0 106 = .ok (.iconst 2, 1) := by decide +kernel
theorem dX8_atom0_107 : decode cX8_atom0 107 = .ok (.if_icmp .ne 16, 3) := by decide +kernel
theorem dX8_atom0_110 : decode cX8_atom0 110 = .ok (.aload_n 0, 1) := by decide +kernel
theorem dX8_atom0_111 : decode cX8_atom0 111 = .ok (.getfield 153, 3) := by decide +kernel
theorem dX8_atom0_114 : decode cX8_atom0 114 = .ok (.l2i, 1) := by decide +kernel
theorem dX8_atom0_115 : decode cX8_atom0 115 = .ok (.istore_n 1, 1) := by decide +kernel
theorem dX8_atom0_116 : decode cX8_atom0 116 = .ok (.aload_n 0, 1) := by decide +kernel
theorem dX8_atom0_117 : decode cX8_atom0 117 = .ok (.invokevirtual 175, 3) := by decide +kernel
theorem dX8_atom0_120 : decode cX8_atom0 120 = .ok (.goto 41, 3) := by decide +kernel
theorem dX8_atom0_123 : decode cX8_atom0 123 = .ok (.aload_n 0, 1) := by decide +kernel
theorem dX8_atom0_124 : decode cX8_atom0 124 = .ok (.getfield 159, 3) := by decide +kernel
theorem dX8_atom0_127 : decode cX8_atom0 127 = .ok (.ifCond .ne 30, 3) := by decide +kernel
theorem dX8_atom0_130 : decode cX8_atom0 130 = .ok (.aload_n 0, 1) := by decide +kernel
theorem dX8_atom0_131 : decode cX8_atom0 131 = .ok (.getfield 142, 3) := by decide +kernel
theorem dX8_atom0_134 : decode cX8_atom0 134 = .ok (.iconst 1, 1) := by decide +kernel
theorem dX8_atom0_135 : decode cX8_atom0 135 = .ok (.if_icmp .ne 22, 3) := by decide +kernel
theorem dX8_atom0_138 : decode cX8_atom0 138 = .ok (.aload_n 0, 1) := by decide +kernel
theorem dX8_atom0_139 : decode cX8_atom0 139 = .ok (.invokevirtual 208, 3) := by decide +kernel
theorem dX8_atom0_142 : decode cX8_atom0 142 = .ok (.istore_n 1, 1) := by decide +kernel
theorem dX8_atom0_143 : decode cX8_atom0 143 = .ok (.aload_n 0, 1) := by decide +kernel
theorem dX8_atom0_144 : decode cX8_atom0 144 = .ok (.getfield 159, 3) := by decide +kernel
theorem dX8_atom0_147 : decode cX8_atom0 147 = .ok (.ifCond .ne 14, 3) := by decide +kernel
theorem dX8_atom0_150 : decode cX8_atom0 150 = .ok (.aload_n 0, 1) := by decide +kernel
theorem dX8_atom0_151 : decode cX8_atom0 151 = .ok (.invokevirtual 175, 3) := by decide +kernel
theorem dX8_atom0_154 : decode cX8_atom0 154 = .ok (.goto 7, 3) := by decide +kernel
theorem dX8_atom0_157 : decode cX8_atom0 157 = .ok (.aload_n 0, 1) := by decide +kernel
theorem dX8_atom0_158 : decode cX8_atom0 158 = .ok (.invokevirtual 172, 3) := by decide +kernel
theorem dX8_atom0_161 : decode cX8_atom0 161 = .ok (.iload_n 1, 1) := by decide +kernel
theorem dX8_atom0_162 : decode cX8_atom0 162 = .ok (.ireturn, 1) := by decide +kernel
theorem dX8_term0_0 : decode cX8_term0 0 = .ok (.aload_n 0, 1) := by decide +kernel
theorem dX8_term0_1 : decode cX8_term0 1 = .ok (.invokevirtual 306, 3) := by decide +kernel
theorem dX8_term0_4 : decode cX8_term0 4 = .ok (.istore_n 1, 1) := by decide +kernel
theorem dX8_term0_5 : decode cX8_term0 5 = .ok (.aload_n 0, 1) := by decide +kernel
theorem dX8_term0_6 : decode cX8_term0 6 = .ok (.bipush 42, 2) := by decide +kernel
theorem dX8_term0_8 : decode cX8_term0 8 = .ok (.invokevirtual 200, 3) := by decide +kernel
theorem dX8_term0_11 : decode cX8_term0 11 = .ok (.ifCond .eq 17, 3) := by decide +kernel
theorem dX8_term0_14 : decode cX8_term0 14 = .ok (.aload_n 0, 1) := by decide +kernel
theorem dX8_term0_15 : decode cX8_term0 15 = .ok (.invokevirtual 175, 3) := by decide +kernel
theorem dX8_term0_18 : decode cX8_term0 18 = .ok (.iload_n 1, 1) := by decide +kernel
theorem dX8_term0_19 : decode cX8_term0 19 = .ok (.aload_n 0, 1) := by decide +kernel
theorem dX8_term0_20 : decode cX8_term0 20 = .ok (.invokevirtual 306, 3) := by decide +kernel
theorem dX8_term0_23 : decode cX8_term0 23 = .ok (.imul, 1) := by decide +kernel
theorem dX8_term0_24 : decode cX8_term0 24 = .ok (.istore_n 1, 1) := by decide +kernel
theorem dX8_term0_25 : decode cX8_term0 25 = .ok (.goto (-20), 3) := by decide +kernel
theorem dX8_term0_28 : decode cX8_term0 28 = .ok (.iload_n 1, 1) := by decide +kernel
theorem dX8_term0_29 : decode cX8_term0 29 = .ok (.ireturn, 1) := by decide +kernel
theorem dX8_added0_0 : decode cX8_added0 0 = .ok (.aload_n 0, 1) := by decide +kernel
theorem dX8_added0_1 : decode cX8_added0 1 = .ok (.invokevirtual 309, 3) := by decide +kernel
theorem dX8_added0_4 : decode cX8_added0 4 = .ok (.istore_n 1, 1) := by decide +kernel
theorem dX8_added0_5 : decode cX8_added0 5 = .ok (.aload_n 0, 1) := by decide +kernel
theorem dX8_added0_6 : decode cX8_added0 6 = .ok (.bipush 43, 2) := by decide +kernel
theorem dX8_added0_8 : decode cX8_added0 8 = .ok (.invokevirtual 200, 3) := by decide +kernel
theorem dX8_added0_11 : decode cX8_added0 11 = .ok (.ifCond .ne 12, 3) := by decide +kernel
theorem dX8_added0_14 : decode cX8_added0 14 = .ok (.aload_n 0, 1) := by decide +kernel
theorem dX8_added0_15 : decode cX8_added0 15 = .ok (.bipush 45, 2) := by decide +kernel
theorem dX8_added0_17 : decode cX8_added0 17 = .ok (.invokevirtual 200, 3) := by decide +kernel
theorem dX8_added0_20 : decode cX8_added0 20 = .ok (.ifCond .eq 46, 3) := by decide +kernel
theorem dX8_added0_23 : decode cX8_added0 23 = .ok (.aload_n 0, 1) := by decide +kernel
theorem dX8_added0_24 : decode cX8_added0 24 = .ok (.getfield 153, 3) := by decide +kernel
theorem dX8_added0_27 : decode cX8_added0 27 = .ok (.ldc2_w 218, 3) := by decide +kernel
theorem dX8_added0_30 : decode cX8_added0 30 = .ok (.lcmp, 1) := by decide +kernel
theorem dX8_added0_31 : decode cX8_added0 31 = .ok (.ifCond .ne 7, 3) := by decide +kernel
theorem dX8_added0_34 : decode cX8_added0 34 = .ok (.iconst 1, 1) := by decide +kernel
theorem dX8_added0_35 : decode cX8_added0 35 = .ok (.goto 4, 3) := by decide +kernel
theorem dX8_added0_38 : decode cX8_added0 38 = .ok (.iconst 0, 1) := by decide +kernel
theorem dX8_added0_39 : decode cX8_added0 39 = .ok (.istore_n 2, 1) := by decide +kernel
theorem dX8_added0_40 : decode cX8_added0 40 = .ok (.aload_n 0, 1) := by decide +kernel
theorem dX8_added0_41 : decode cX8_added0 41 = .ok (.invokevirtual 175, 3) := by decide +kernel
theorem dX8_added0_44 : decode cX8_added0 44 = .ok (.aload_n 0, 1) := by decide +kernel
theorem dX8_added0_45 : decode cX8_added0 45 = .ok (.invokevirtual 309, 3) := by decide +kernel
theorem dX8_added0_48 : decode cX8_added0 48 = .ok (.istore_n 3, 1) := by decide +kernel
theorem dX8_added0_49 : decode cX8_added0 49 = .ok (.iload_n 2, 1) := by decide +kernel
theorem dX8_added0_50 : decode cX8_added0 50 = .ok (.ifCond .eq 9, 3) := by decide +kernel
theorem dX8_added0_53 : decode cX8_added0 53 = .ok (.iload_n 1, 1) := by decide +kernel
theorem dX8_added0_54 : decode cX8_added0 54 = .ok (.iload_n 3, 1) := by decide +kernel
theorem dX8_added0_55 : decode cX8_added0 55 = .ok (.iadd, 1) := by decide +kernel
theorem dX8_added0_56 : decode cX8_added0 56 = .ok (.goto 6, 3) := by decide +kernel
theorem dX8_added0_59 : decode cX8_added0 59 = .ok (.iload_n 1, 1) := by decide +kernel
theorem dX8_added0_60 : decode cX8_added0 60 = .ok (.iload_n 3, 1) := by decide +kernel
theorem dX8_added0_61 : decode cX8_added0 61 = .ok (.isub, 1) := by decide +kernel
theorem dX8_added0_62 : decode cX8_added0 62 = .ok (.istore_n 1, 1) := by decide +kernel
theorem dX8_added0_63 : decode cX8_added0 63 = .ok (.goto (-58), 3) := by decide +kernel
theorem dX8_added0_66 : decode cX8_added0 66 = .ok (.iload_n 1, 1) := by decide +kernel
theorem dX8_added0_67 : decode cX8_added0 67 = .ok (.ireturn, 1) := by decide +kernel
theorem dX8_not0_0 : decode cX8_not0 0 = .ok (.aload_n 0, 1) := by decide +kernel
theorem dX8_not0_1 : decode cX8_not0 1 = .ok (.bipush 110, 2) := by decide +kernel
theorem dX8_not0_3 : decode cX8_not0 3 = .ok (.bipush 111, 2) := by decide +kernel
theorem dX8_not0_5 : decode cX8_not0 5 = .ok (.bipush 116, 2) := by decide +kernel
theorem dX8_not0_7 : decode cX8_not0 7 = .ok (.iconst 0, 1) := by decide +kernel
theorem dX8_not0_8 : decode cX8_not0 8 = .ok (.iconst 0, 1) := by decide +kernel
theorem dX8_not0_9 : decode cX8_not0 9 = .ok (.iconst 0, 1) := by decide +kernel
theorem dX8_not0_10 : decode cX8_not0 10 = .ok (.iconst 0, 1) := by decide +kernel
theorem dX8_not0_11 : decode cX8_not0 11 = .ok (.iconst 0, 1) := by decide +kernel
theorem dX8_not0_12 : decode cX8_not0 12 = .ok (.invokevirtual 178, 3) := by decide +kernel
theorem dX8_not0_15 : decode cX8_not0 15 = .ok (.ifCond .eq 37, 3) := by decide +kernel
theorem dX8_not0_18 : decode cX8_not0 18 = .ok (.aload_n 0, 1) := by decide +kernel
theorem dX8_not0_19 : decode cX8_not0 19 = .ok (.invokevirtual 204, 3) := by decide +kernel
theorem dX8_not0_22 : decode cX8_not0 22 = .ok (.ifCond .ne 5, 3) := by decide +kernel
theorem dX8_not0_25 : decode cX8_not0 25 = .ok (.iconst 0, 1) := by decide +kernel
theorem dX8_not0_26 : decode cX8_not0 26 = .ok (.ireturn, 1) := by decide +kernel
theorem dX8_not0_27 : decode cX8_not0 27 = .ok (.aload_n 0, 1) := by decide +kernel
theorem dX8_not0_28 : decode cX8_not0 28 = .ok (.invokevirtual 297, 3) := by decide +kernel
theorem dX8_not0_31 : decode cX8_not0 31 = .ok (.istore_n 1, 1) := by decide +kernel
theorem dX8_not0_32 : decode cX8_not0 32 = .ok (.aload_n 0, 1) := by decide +kernel
theorem dX8_not0_33 : decode cX8_not0 33 = .ok (.dup, 1) := by decide +kernel
theorem dX8_not0_34 : decode cX8_not0 34 = .ok (.getfield 169, 3) := by decide +kernel
theorem dX8_not0_37 : decode cX8_not0 37 = .ok (.iconst 1, 1) := by decide +kernel
theorem dX8_not0_38 : decode cX8_not0 38 = .ok (.isub, 1) := by decide +kernel
theorem dX8_not0_39 : decode cX8_not0 39 = .ok (.putfield 169, 3) := by decide +kernel
theorem dX8_not0_42 : decode cX8_not0 42 = .ok (.iload_n 1, 1) := by decide +kernel
theorem dX8_not0_43 : decode cX8_not0 43 = .ok (.ifCond .ne 7, 3) := by decide +kernel
theorem dX8_not0_46 : decode cX8_not0 46 = .ok (.iconst 1, 1) := by decide +kernel
theorem dX8_not0_47 : decode cX8_not0 47 = .ok (.goto 4, 3) := by decide +kernel
theorem dX8_not0_50 : decode cX8_not0 50 = .ok (.iconst 0, 1) := by decide +kernel
theorem dX8_not0_51 : decode cX8_not0 51 = .ok (.ireturn, 1) := by decide +kernel
theorem dX8_not0_52 : decode cX8_not0 52 = .ok (.aload_n 0, 1) := by decide +kernel
theorem dX8_not0_53 : decode cX8_not0 53 = .ok (.invokevirtual 312, 3) := by decide +kernel
theorem dX8_not0_56 : decode cX8_not0 56 = .ok (.istore_n 1, 1) := by decide +kernel
theorem dX8_not0_57 : decode cX8_not0 57 = .ok (.aload_n 0, 1) := by decide +kernel
theorem dX8_not0_58 : decode cX8_not0 58 = .ok (.bipush 60, 2) := by decide +kernel
theorem dX8_not0_60 : decode cX8_not0 60 = .ok (.invokevirtual 200, 3) := by decide +kernel
theorem dX8_not0_63 : decode cX8_not0 63 = .ok (.ifCond .ne 14, 3) := by decide +kernel
theorem dX8_not0_66 : decode cX8_not0 66 = .ok (.aload_n 0, 1) := by decide +kernel
theorem dX8_not0_67 : decode cX8_not0 67 = .ok (.bipush 61, 2) := by decide +kernel
theorem dX8_not0_69 : decode cX8_not0 69 = .ok (.invokevirtual 200, 3) := by decide +kernel
theorem dX8_not0_72 : decode cX8_not0 72 = .ok (.ifCond .ne 5, 3) := by decide +kernel
theorem dX8_not0_75 : decode cX8_not0 75 = .ok (.iload_n 1, 1) := by decide +kernel
theorem dX8_not0_76 : decode cX8_not0 76 = .ok (.ireturn, 1) := by decide +kernel
theorem dX8_not0_77 : decode cX8_not0 77 = .ok (.aload_n 0, 1) := by decide +kernel
theorem dX8_not0_78 : decode cX8_not0 78 = .ok (.getfield 153, 3) := by decide +kernel
theorem dX8_not0_81 : decode cX8_not0 81 = .ok (.ldc2_w 223, 3) := by decide +kernel
theorem dX8_not0_84 : decode cX8_not0 84 = .ok (.lcmp, 1) := by decide +kernel
theorem dX8_not0_85 : decode cX8_not0 85 = .ok (.ifCond .ne 7, 3) := by decide +kernel
theorem dX8_not0_88 : decode cX8_not0 88 = .ok (.iconst 1, 1) := by decide +kernel
theorem dX8_not0_89 : decode cX8_not0 89 = .ok (.goto 4, 3) := by decide +kernel
theorem dX8_not0_92 : decode cX8_not0 92 = .ok (.iconst 0, 1) := by decide +kernel
theorem dX8_not0_93 : decode cX8_not0 93 = .ok (.istore_n 2, 1) := by decide +kernel
theorem dX8_not0_94 : decode cX8_not0 94 = .ok (.aload_n 0, 1) := by decide +kernel
theorem dX8_not0_95 : decode cX8_not0 95 = .ok (.invokevirtual 175, 3) := by decide +kernel
theorem dX8_not0_98 : decode cX8_not0 98 = .ok (.aload_n 0, 1) := by decide +kernel
theorem dX8_not0_99 : decode cX8_not0 99 = .ok (.invokevirtual 312, 3) := by decide +kernel
theorem dX8_not0_102 : decode cX8_not0 102 = .ok (.istore_n 3, 1) := by decide +kernel
theorem dX8_not0_103 : decode cX8_not0 103 = .ok (.iload_n 2, 1) := by decide +kernel
theorem dX8_not0_104 : decode cX8_not0 104 = .ok (.ifCond .eq 11, 3) := by decide +kernel
theorem dX8_not0_107 : decode cX8_not0 107 = .ok (.iload_n 1, 1) := by decide +kernel
theorem dX8_not0_108 : decode cX8_not0 108 = .ok (.iload_n 3, 1) := by decide +kernel
theorem dX8_not0_109 : decode cX8_not0 109 = .ok (.if_icmp .ge 15, 3) := by decide +kernel
theorem dX8_not0_112 : decode cX8_not0 112 = .ok (.goto 8, 3) := by decide +kernel
theorem dX8_not0_115 : decode cX8_not0 115 = .ok (.iload_n 1, 1) := by decide +kernel
theorem dX8_not0_116 : decode cX8_not0 116 = .ok (.iload_n 3, 1) := by decide +kernel
theorem dX8_not0_117 : decode cX8_not0 117 = .ok (.if_icmp .ne 7, 3) := by decide +kernel
theorem dX8_not0_120 : decode cX8_not0 120 = .ok (.iconst 1, 1) := by decide +kernel
theorem dX8_not0_121 : decode cX8_not0 121 = .ok (.goto 4, 3) := by decide +kernel
theorem dX8_not0_124 : decode cX8_not0 124 = .ok (.iconst 0, 1) := by decide +kernel
theorem dX8_not0_125 : decode cX8_not0 125 = .ok (.ireturn, 1) := by decide +kernel
theorem dX8_both0_0 : decode cX8_both0 0 = .ok (.aload_n 0, 1) := by decide +kernel
theorem dX8_both0_1 : decode cX8_both0 1 = .ok (.invokevirtual 315, 3) := by decide +kernel
theorem dX8_both0_4 : decode cX8_both0 4 = .ok (.istore_n 1, 1) := by decide +kernel
theorem dX8_both0_5 : decode cX8_both0 5 = .ok (.aload_n 0, 1) := by decide +kernel
theorem dX8_both0_6 : decode cX8_both0 6 = .ok (.bipush 97, 2) := by decide +kernel
theorem dX8_both0_8 : decode cX8_both0 8 = .ok (.bipush 110, 2) := by decide +kernel
theorem dX8_both0_10 : decode cX8_both0 10 = .ok (.bipush 100, 2) := by decide +kernel
theorem dX8_both0_12 : decode cX8_both0 12 = .ok (.iconst 0, 1) := by decide +kernel
theorem dX8_both0_13 : decode cX8_both0 13 = .ok (.iconst 0, 1) := by decide +kernel
theorem dX8_both0_14 : decode cX8_both0 14 = .ok (.iconst 0, 1) := by decide +kernel
theorem dX8_both0_15 : decode cX8_both0 15 = .ok (.iconst 0, 1) := by decide +kernel
theorem dX8_both0_16 : decode cX8_both0 16 = .ok (.iconst 0, 1) := by decide +kernel
theorem dX8_both0_17 : decode cX8_both0 17 = .ok (.invokevirtual 178, 3) := by decide +kernel
theorem dX8_both0_20 : decode cX8_both0 20 = .ok (.ifCond .eq 29, 3) := by decide +kernel
theorem dX8_both0_23 : decode cX8_both0 23 = .ok (.aload_n 0, 1) := by decide +kernel
theorem dX8_both0_24 : decode cX8_both0 24 = .ok (.invokevirtual 175, 3) := by decide +kernel
theorem dX8_both0_27 : decode cX8_both0 27 = .ok (.aload_n 0, 1) := by decide +kernel
theorem dX8_both0_28 : decode cX8_both0 28 = .ok (.invokevirtual 315, 3) := by decide +kernel
theorem dX8_both0_31 : decode cX8_both0 31 = .ok (.istore_n 2, 1) := by decide +kernel
theorem dX8_both0_32 : decode cX8_both0 32 = .ok (.iload_n 1, 1) := by decide +kernel
theorem dX8_both0_33 : decode cX8_both0 33 = .ok (.ifCond .eq 11, 3) := by decide +kernel
theorem dX8_both0_36 : decode cX8_both0 36 = .ok (.iload_n 2, 1) := by decide +kernel
theorem dX8_both0_37 : decode cX8_both0 37 = .ok (.ifCond .eq 7, 3) := by decide +kernel
theorem dX8_both0_40 : decode cX8_both0 40 = .ok (.iconst 1, 1) := by decide +kernel
theorem dX8_both0_41 : decode cX8_both0 41 = .ok (.goto 4, 3) := by decide +kernel
theorem dX8_both0_44 : decode cX8_both0 44 = .ok (.iconst 0, 1) := by decide +kernel
theorem dX8_both0_45 : decode cX8_both0 45 = .ok (.istore_n 1, 1) := by decide +kernel
theorem dX8_both0_46 : decode cX8_both0 46 = .ok (.goto (-41), 3) := by decide +kernel
theorem dX8_both0_49 : decode cX8_both0 49 = .ok (.iload_n 1, 1) := by decide +kernel
theorem dX8_both0_50 : decode cX8_both0 50 = .ok (.ireturn, 1) := by decide +kernel
theorem dX8_either0_0 : decode cX8_either0 0 = .ok (.aload_n 0, 1) := by decide +kernel
theorem dX8_either0_1 : decode cX8_either0 1 = .ok (.invokevirtual 318, 3) := by decide +kernel
theorem dX8_either0_4 : decode cX8_either0 4 = .ok (.istore_n 1, 1) := by decide +kernel
theorem dX8_either0_5 : decode cX8_either0 5 = .ok (.aload_n 0, 1) := by decide +kernel
theorem dX8_either0_6 : decode cX8_either0 6 = .ok (.bipush 111, 2) := by decide +kernel
theorem dX8_either0_8 : decode cX8_either0 8 = .ok (.bipush 114, 2) := by decide +kernel
theorem dX8_either0_10 : decode cX8_either0 10 = .ok (.iconst 0, 1) := by decide +kernel
theorem dX8_either0_11 : decode cX8_either0 11 = .ok (.iconst 0, 1) := by decide +kernel
theorem dX8_either0_12 : decode cX8_either0 12 = .ok (.iconst 0, 1) := by decide +kernel
theorem dX8_either0_13 : decode cX8_either0 13 = .ok (.iconst 0, 1) := by decide +kernel
theorem dX8_either0_14 : decode cX8_either0 14 = .ok (.iconst 0, 1) := by decide +kernel
theorem dX8_either0_15 : decode cX8_either0 15 = .ok (.iconst 0, 1) := by decide +kernel
theorem dX8_either0_16 : decode cX8_either0 16 = .ok (.invokevirtual 178, 3) := by decide +kernel
theorem dX8_either0_19 : decode cX8_either0 19 = .ok (.ifCond .eq 29, 3) := by decide +kernel
theorem dX8_either0_22 : decode cX8_either0 22 = .ok (.aload_n 0, 1) := by decide +kernel
theorem dX8_either0_23 : decode cX8_either0 23 = .ok (.invokevirtual 175, 3) := by decide +kernel
theorem dX8_either0_26 : decode cX8_either0 26 = .ok (.aload_n 0, 1) := by decide +kernel
theorem dX8_either0_27 : decode cX8_either0 27 = .ok (.invokevirtual 318, 3) := by decide +kernel
theorem dX8_either0_30 : decode cX8_either0 30 = .ok (.istore_n 2, 1) := by decide +kernel
theorem dX8_either0_31 : decode cX8_either0 31 = .ok (.iload_n 1, 1) := by decide +kernel
theorem dX8_either0_32 : decode cX8_either0 32 = .ok (.ifCond .ne 7, 3) := by decide +kernel
theorem dX8_either0_35 : decode cX8_either0 35 = .ok (.iload_n 2, 1) := by decide +kernel
theorem dX8_either0_36 : decode cX8_either0 36 = .ok (.ifCond .eq 7, 3) := by decide +kernel
theorem dX8_either0_39 : decode cX8_either0 39 = .ok (.iconst 1, 1) := by decide +kernel
theorem dX8_either0_40 : decode cX8_either0 40 = .ok (.goto 4, 3) := by decide +kernel
theorem dX8_either0_43 : decode cX8_either0 43 = .ok (.iconst 0, 1) := by decide +kernel
theorem dX8_either0_44 : decode cX8_either0 44 = .ok (.istore_n 1, 1) := by decide +kernel
theorem dX8_either0_45 : decode cX8_either0 45 = .ok (.goto (-40), 3) := by decide +kernel
theorem dX8_either0_48 : decode cX8_either0 48 = .ok (.iload_n 1, 1) := by decide +kernel
theorem dX8_either0_49 : decode cX8_either0 49 = .ok (.ireturn, 1) := by decide +kernel
theorem dX8_part_0 : decode cX8_part 0 = .ok (.iload_n 1, 1) := by decide +kernel
theorem dX8_part_1 : decode cX8_part 1 = .ok (.ifCond .ne 7, 3) := by decide +kernel
theorem dX8_part_4 : decode cX8_part 4 = .ok (.aload_n 0, 1) := by decide +kernel
theorem dX8_part_5 : decode cX8_part 5 = .ok (.invokevirtual 172, 3) := by decide +kernel
theorem dX8_part_8 : decode cX8_part 8 = .ok (.aload_n 0, 1) := by decide +kernel
theorem dX8_part_9 : decode cX8_part 9 = .ok (.getfield 159, 3) := by decide +kernel
theorem dX8_part_12 : decode cX8_part 12 = .ok (.ifCond .ne 7, 3) := by decide +kernel
theorem dX8_part_15 : decode cX8_part 15 = .ok (.aload_n 0, 1) := by decide +kernel
theorem dX8_part_16 : decode cX8_part 16 = .ok (.invokevirtual 175, 3) := by decide +kernel
theorem dX8_part_19 : decode cX8_part 19 = .ok (.aload_n 0, 1) := by decide +kernel
theorem dX8_part_20 : decode cX8_part 20 = .ok (.getfield 159, 3) := by decide +kernel
theorem dX8_part_23 : decode cX8_part 23 = .ok (.ifCond .eq 7, 3) := by decide +kernel
theorem dX8_part_26 : decode cX8_part 26 = .ok (.iconst 0, 1) := by decide +kernel
theorem dX8_part_27 : decode cX8_part 27 = .ok (.goto 7, 3) := by decide +kernel
theorem dX8_part_30 : decode cX8_part 30 = .ok (.aload_n 0, 1) := by decide +kernel
theorem dX8_part_31 : decode cX8_part 31 = .ok (.invokevirtual 321, 3) := by decide +kernel
theorem dX8_part_34 : decode cX8_part 34 = .ok (.istore_n 2, 1) := by decide +kernel
theorem dX8_part_35 : decode cX8_part 35 = .ok (.aload_n 0, 1) := by decide +kernel
theorem dX8_part_36 : decode cX8_part 36 = .ok (.bipush 59, 2) := by decide +kernel
theorem dX8_part_38 : decode cX8_part 38 = .ok (.invokevirtual 200, 3) := by decide +kernel
theorem dX8_part_41 : decode cX8_part 41 = .ok (.ifCond .ne 7, 3) := by decide +kernel
theorem dX8_part_44 : decode cX8_part 44 = .ok (.aload_n 0, 1) := by decide +kernel
theorem dX8_part_45 : decode cX8_part 45 = .ok (.invokevirtual 172, 3) := by decide +kernel
theorem dX8_part_48 : decode cX8_part 48 = .ok (.aload_n 0, 1) := by decide +kernel
theorem dX8_part_49 : decode cX8_part 49 = .ok (.getfield 159, 3) := by decide +kernel
theorem dX8_part_52 : decode cX8_part 52 = .ok (.ifCond .ne 7, 3) := by decide +kernel
theorem dX8_part_55 : decode cX8_part 55 = .ok (.aload_n 0, 1) := by decide +kernel
theorem dX8_part_56 : decode cX8_part 56 = .ok (.invokevirtual 175, 3) := by decide +kernel
theorem dX8_part_59 : decode cX8_part 59 = .ok (.iload_n 2, 1) := by decide +kernel
theorem dX8_part_60 : decode cX8_part 60 = .ok (.ireturn, 1) := by decide +kernel
theorem dX8_read_0 : decode cX8_read 0 = .ok (.aload_n 0, 1) := by decide +kernel
theorem dX8_read_1 : decode cX8_read 1 = .ok (.sipush 160, 3) := by decide +kernel
theorem dX8_read_4 : decode cX8_read 4 = .ok (.iload_n 1, 1) := by decide +kernel
theorem dX8_read_5 : decode cX8_read 5 = .ok (.imul, 1) := by decide +kernel
theorem dX8_read_6 : decode cX8_read 6 = .ok (.putfield 129, 3) := by decide +kernel
theorem dX8_read_9 : decode cX8_read 9 = .ok (.aload_n 0, 1) := by decide +kernel
theorem dX8_read_10 : decode cX8_read 10 = .ok (.aload_n 0, 1) := by decide +kernel
theorem dX8_read_11 : decode cX8_read 11 = .ok (.getfield 17, 3) := by decide +kernel
theorem dX8_read_14 : decode cX8_read 14 = .ok (.iload_n 1, 1) := by decide +kernel
theorem dX8_read_15 : decode cX8_read 15 = .ok (.iaload, 1) := by decide +kernel
theorem dX8_read_16 : decode cX8_read 16 = .ok (.putfield 126, 3) := by decide +kernel
theorem dX8_read_19 : decode cX8_read 19 = .ok (.aload_n 0, 1) := by decide +kernel
theorem dX8_read_20 : decode cX8_read 20 = .ok (.iconst 0, 1) := by decide +kernel
theorem dX8_read_21 : decode cX8_read 21 = .ok (.putfield 132, 3) := by decide +kernel
theorem dX8_read_24 : decode cX8_read 24 = .ok (.aload_n 0, 1) := by decide +kernel
theorem dX8_read_25 : decode cX8_read 25 = .ok (.iconst 0, 1) := by decide +kernel
theorem dX8_read_26 : decode cX8_read 26 = .ok (.putfield 169, 3) := by decide +kernel
theorem dX8_read_29 : decode cX8_read 29 = .ok (.aload_n 0, 1) := by decide +kernel
theorem dX8_read_30 : decode cX8_read 30 = .ok (.iconst 0, 1) := by decide +kernel
theorem dX8_read_31 : decode cX8_read 31 = .ok (.putfield 159, 3) := by decide +kernel
theorem dX8_read_34 : decode cX8_read 34 = .ok (.aload_n 0, 1) := by decide +kernel
theorem dX8_read_35 : decode cX8_read 35 = .ok (.invokevirtual 175, 3) := by decide +kernel
theorem dX8_read_38 : decode cX8_read 38 = .ok (.aload_n 0, 1) := by decide +kernel
theorem dX8_read_39 : decode cX8_read 39 = .ok (.aload_n 0, 1) := by decide +kernel
theorem dX8_read_40 : decode cX8_read 40 = .ok (.bipush 115, 2) := by decide +kernel
theorem dX8_read_42 : decode cX8_read 42 = .ok (.bipush 104, 2) := by decide +kernel
theorem dX8_read_44 : decode cX8_read 44 = .ok (.bipush 105, 2) := by decide +kernel
theorem dX8_read_46 : decode cX8_read 46 = .ok (.bipush 112, 2) := by decide +kernel
theorem dX8_read_48 : decode cX8_read 48 = .ok (.iconst 0, 1) := by decide +kernel
theorem dX8_read_49 : decode cX8_read 49 = .ok (.iconst 0, 1) := by decide +kernel
theorem dX8_read_50 : decode cX8_read 50 = .ok (.iconst 0, 1) := by decide +kernel
theorem dX8_read_51 : decode cX8_read 51 = .ok (.iconst 0, 1) := by decide +kernel
theorem dX8_read_52 : decode cX8_read 52 = .ok (.invokevirtual 178, 3) := by decide +kernel
theorem dX8_read_55 : decode cX8_read 55 = .ok (.invokevirtual 324, 3) := by decide +kernel
theorem dX8_read_58 : decode cX8_read 58 = .ok (.istore_n 3, 1) := by decide +kernel
theorem dX8_read_59 : decode cX8_read 59 = .ok (.aload_n 0, 1) := by decide +kernel
theorem dX8_read_60 : decode cX8_read 60 = .ok (.getfield 159, 3) := by decide +kernel
theorem dX8_read_63 : decode cX8_read 63 = .ok (.ifCond .eq 7, 3) := by decide +kernel
theorem dX8_read_66 : decode cX8_read 66 = .ok (.iconst 0, 1) := by decide +kernel
theorem dX8_read_67 : decode cX8_read 67 = .ok (.goto 23, 3) := by decide +kernel
theorem dX8_read_70 : decode cX8_read 70 = .ok (.aload_n 0, 1) := by decide +kernel
theorem dX8_read_71 : decode cX8_read 71 = .ok (.aload_n 0, 1) := by decide +kernel
theorem dX8_read_72 : decode cX8_read 72 = .ok (.bipush 99, 2) := by decide +kernel
theorem dX8_read_74 : decode cX8_read 74 = .ok (.bipush 97, 2) := by decide +kernel
theorem dX8_read_76 : decode cX8_read 76 = .ok (.bipush 114, 2) := by decide +kernel
theorem dX8_read_78 : decode cX8_read 78 = .ok (.bipush 116, 2) := by decide +kernel
theorem dX8_read_80 : decode cX8_read 80 = .ok (.iconst 0, 1) := by decide +kernel
theorem dX8_read_81 : decode cX8_read 81 = .ok (.iconst 0, 1) := by decide +kernel
theorem dX8_read_82 : decode cX8_read 82 = .ok (.iconst 0, 1) := by decide +kernel
theorem dX8_read_83 : decode cX8_read 83 = .ok (.iconst 0, 1) := by decide +kernel
theorem dX8_read_84 : decode cX8_read 84 = .ok (.invokevirtual 178, 3) := by decide +kernel
theorem dX8_read_87 : decode cX8_read 87 = .ok (.invokevirtual 324, 3) := by decide +kernel
theorem dX8_read_90 : decode cX8_read 90 = .ok (.istore 4, 2) := by decide +kernel
theorem dX8_read_92 : decode cX8_read 92 = .ok (.aload_n 0, 1) := by decide +kernel
theorem dX8_read_93 : decode cX8_read 93 = .ok (.getfield 159, 3) := by decide +kernel
theorem dX8_read_96 : decode cX8_read 96 = .ok (.ifCond .eq 7, 3) := by decide +kernel
theorem dX8_read_99 : decode cX8_read 99 = .ok (.iconst 0, 1) := by decide +kernel
theorem dX8_read_100 : decode cX8_read 100 = .ok (.goto 25, 3) := by decide +kernel
theorem dX8_read_103 : decode cX8_read 103 = .ok (.aload_n 0, 1) := by decide +kernel
theorem dX8_read_104 : decode cX8_read 104 = .ok (.aload_n 0, 1) := by decide +kernel
theorem dX8_read_105 : decode cX8_read 105 = .ok (.bipush 99, 2) := by decide +kernel
theorem dX8_read_107 : decode cX8_read 107 = .ok (.bipush 104, 2) := by decide +kernel
theorem dX8_read_109 : decode cX8_read 109 = .ok (.bipush 97, 2) := by decide +kernel
theorem dX8_read_111 : decode cX8_read 111 = .ok (.bipush 110, 2) := by decide +kernel
theorem dX8_read_113 : decode cX8_read 113 = .ok (.bipush 103, 2) := by decide +kernel
theorem dX8_read_115 : decode cX8_read 115 = .ok (.bipush 101, 2) := by decide +kernel
theorem dX8_read_117 : decode cX8_read 117 = .ok (.iconst 0, 1) := by decide +kernel
theorem dX8_read_118 : decode cX8_read 118 = .ok (.iconst 0, 1) := by decide +kernel
theorem dX8_read_119 : decode cX8_read 119 = .ok (.invokevirtual 178, 3) := by decide +kernel
theorem dX8_read_122 : decode cX8_read 122 = .ok (.invokevirtual 324, 3) := by decide +kernel
theorem dX8_read_125 : decode cX8_read 125 = .ok (.istore 5, 2) := by decide +kernel
theorem dX8_read_127 : decode cX8_read 127 = .ok (.aload_n 0, 1) := by decide +kernel
theorem dX8_read_128 : decode cX8_read 128 = .ok (.getfield 159, 3) := by decide +kernel
theorem dX8_read_131 : decode cX8_read 131 = .ok (.ifCond .ne 14, 3) := by decide +kernel
theorem dX8_read_134 : decode cX8_read 134 = .ok (.aload_n 0, 1) := by decide +kernel
theorem dX8_read_135 : decode cX8_read 135 = .ok (.getfield 142, 3) := by decide +kernel
theorem dX8_read_138 : decode cX8_read 138 = .ok (.ifCond .eq 7, 3) := by decide +kernel
theorem dX8_read_141 : decode cX8_read 141 = .ok (.aload_n 0, 1) := by decide +kernel
theorem dX8_read_142 : decode cX8_read 142 = .ok (.invokevirtual 172, 3) := by decide +kernel
theorem dX8_read_145 : decode cX8_read 145 = .ok (.iload_n 2, 1) := by decide +kernel
theorem dX8_read_146 : decode cX8_read 146 = .ok (.ifCond .ne 7, 3) := by decide +kernel
theorem dX8_read_149 : decode cX8_read 149 = .ok (.iload_n 3, 1) := by decide +kernel
theorem dX8_read_150 : decode cX8_read 150 = .ok (.goto 15, 3) := by decide +kernel
theorem dX8_read_153 : decode cX8_read 153 = .ok (.iload_n 2, 1) := by decide +kernel
theorem dX8_read_154 : decode cX8_read 154 = .ok (.iconst 1, 1) := by decide +kernel
theorem dX8_read_155 : decode cX8_read 155 = .ok (.if_icmp .ne 8, 3) := by decide +kernel
theorem dX8_read_158 : decode cX8_read 158 = .ok (.iload 4, 2) := by decide +kernel
theorem dX8_read_160 : decode cX8_read 160 = .ok (.goto 5, 3) := by decide +kernel
theorem dX8_read_163 : decode cX8_read 163 = .ok (.iload 5, 2) := by decide +kernel
theorem dX8_read_165 : decode cX8_read 165 = .ok (.ireturn, 1) := by decide +kernel
theorem dX8_text_0 : decode cX8_text 0 = .ok (.aload_n 0, 1) := by decide +kernel
theorem dX8_text_1 : decode cX8_text 1 = .ok (.getfield 89, 3) := by decide +kernel
theorem dX8_text_4 : decode cX8_text 4 = .ok (.bipush 6, 2) := by decide +kernel
theorem dX8_text_6 : decode cX8_text 6 = .ok (.if_icmp .ne 6, 3) := by decide +kernel
theorem dX8_text_9 : decode cX8_text 9 = .ok (.bipush (-4), 2) := by decide +kernel
theorem dX8_text_11 : decode cX8_text 11 = .ok (.ireturn, 1) := by decide +kernel
theorem dX8_text_12 : decode cX8_text 12 = .ok (.iconst 0, 1) := by decide +kernel
theorem dX8_text_13 : decode cX8_text 13 = .ok (.istore_n 1, 1) := by decide +kernel
theorem dX8_text_14 : decode cX8_text 14 = .ok (.iload_n 1, 1) := by decide +kernel
theorem dX8_text_15 : decode cX8_text 15 = .ok (.aload_n 0, 1) := by decide +kernel
theorem dX8_text_16 : decode cX8_text 16 = .ok (.getfield 123, 3) := by decide +kernel
theorem dX8_text_19 : decode cX8_text 19 = .ok (.if_icmp .ge 30, 3) := by decide +kernel
theorem dX8_text_22 : decode cX8_text 22 = .ok (.aload_n 0, 1) := by decide +kernel
theorem dX8_text_23 : decode cX8_text 23 = .ok (.getfield 13, 3) := by decide +kernel
theorem dX8_text_26 : decode cX8_text 26 = .ok (.sipush 160, 3) := by decide +kernel
theorem dX8_text_29 : decode cX8_text 29 = .ok (.aload_n 0, 1) := by decide +kernel
theorem dX8_text_30 : decode cX8_text 30 = .ok (.getfield 89, 3) := by decide +kernel
theorem dX8_text_33 : decode cX8_text 33 = .ok (.imul, 1) := by decide +kernel
theorem dX8_text_34 : decode cX8_text 34 = .ok (.iload_n 1, 1) := by decide +kernel
theorem dX8_text_35 : decode cX8_text 35 = .ok (.iadd, 1) := by decide +kernel
theorem dX8_text_36 : decode cX8_text 36 = .ok (.aload_n 0, 1) := by decide +kernel
theorem dX8_text_37 : decode cX8_text 37 = .ok (.getfield 20, 3) := by decide +kernel
theorem dX8_text_40 : decode cX8_text 40 = .ok (.iload_n 1, 1) := by decide +kernel
theorem dX8_text_41 : decode cX8_text 41 = .ok (.iaload, 1) := by decide +kernel
theorem dX8_text_42 : decode cX8_text 42 = .ok (.iastore, 1) := by decide +kernel
theorem dX8_text_43 : decode cX8_text 43 = .ok (.iinc 1 1, 3) := by decide +kernel
theorem dX8_text_46 : decode cX8_text 46 = .ok (.goto (-32), 3) := by decide +kernel
theorem dX8_text_49 : decode cX8_text 49 = .ok (.aload_n 0, 1) := by decide +kernel
theorem dX8_text_50 : decode cX8_text 50 = .ok (.getfield 17, 3) := by decide +kernel
theorem dX8_text_53 : decode cX8_text 53 = .ok (.aload_n 0, 1) := by decide +kernel
theorem dX8_text_54 : decode cX8_text 54 = .ok (.getfield 89, 3) := by decide +kernel
theorem dX8_text_57 : decode cX8_text 57 = .ok (.aload_n 0, 1) := by decide +kernel
theorem dX8_text_58 : decode cX8_text 58 = .ok (.getfield 123, 3) := by decide +kernel
theorem dX8_text_61 : decode cX8_text 61 = .ok (.iastore, 1) := by decide +kernel
theorem dX8_text_62 : decode cX8_text 62 = .ok (.aload_n 0, 1) := by decide +kernel
theorem dX8_text_63 : decode cX8_text 63 = .ok (.iconst 0, 1) := by decide +kernel
theorem dX8_text_64 : decode cX8_text 64 = .ok (.putfield 123, 3) := by decide +kernel
theorem dX8_text_67 : decode cX8_text 67 = .ok (.aload_n 0, 1) := by decide +kernel
theorem dX8_text_68 : decode cX8_text 68 = .ok (.aload_n 0, 1) := by decide +kernel
theorem dX8_text_69 : decode cX8_text 69 = .ok (.getfield 89, 3) := by decide +kernel
theorem dX8_text_72 : decode cX8_text 72 = .ok (.iconst 0, 1) := by decide +kernel
theorem dX8_text_73 : decode cX8_text 73 = .ok (.invokevirtual 328, 3) := by decide +kernel
theorem dX8_text_76 : decode cX8_text 76 = .ok (.istore_n 1, 1) := by decide +kernel
theorem dX8_text_77 : decode cX8_text 77 = .ok (.aload_n 0, 1) := by decide +kernel
theorem dX8_text_78 : decode cX8_text 78 = .ok (.getfield 159, 3) := by decide +kernel
theorem dX8_text_81 : decode cX8_text 81 = .ok (.ifCond .eq 11, 3) := by decide +kernel
theorem dX8_text_84 : decode cX8_text 84 = .ok (.bipush (-100), 2) := by decide +kernel
theorem dX8_text_86 : decode cX8_text 86 = .ok (.aload_n 0, 1) := by decide +kernel
theorem dX8_text_87 : decode cX8_text 87 = .ok (.getfield 163, 3) := by decide +kernel
theorem dX8_text_90 : decode cX8_text 90 = .ok (.isub, 1) := by decide +kernel
theorem dX8_text_91 : decode cX8_text 91 = .ok (.ireturn, 1) := by decide +kernel
theorem dX8_text_92 : decode cX8_text 92 = .ok (.aload_n 0, 1) := by decide +kernel
theorem dX8_text_93 : decode cX8_text 93 = .ok (.dup, 1) := by decide +kernel
theorem dX8_text_94 : decode cX8_text 94 = .ok (.getfield 89, 3) := by decide +kernel
theorem dX8_text_97 : decode cX8_text 97 = .ok (.iconst 1, 1) := by decide +kernel
theorem dX8_text_98 : decode cX8_text 98 = .ok (.iadd, 1) := by decide +kernel
theorem dX8_text_99 : decode cX8_text 99 = .ok (.putfield 89, 3) := by decide +kernel
theorem dX8_text_102 : decode cX8_text 102 = .ok (.aload_n 0, 1) := by decide +kernel
theorem dX8_text_103 : decode cX8_text 103 = .ok (.getfield 89, 3) := by decide +kernel
theorem dX8_text_106 : decode cX8_text 106 = .ok (.iconst 1, 1) := by decide +kernel
theorem dX8_text_107 : decode cX8_text 107 = .ok (.isub, 1) := by decide +kernel
theorem dX8_text_108 : decode cX8_text 108 = .ok (.ireturn, 1) := by decide +kernel
theorem dX8_force_0 : decode cX8_force 0 = .ok (.iload_n 1, 1) := by decide +kernel
theorem dX8_force_1 : decode cX8_force 1 = .ok (.i2l, 1) := by decide +kernel
theorem dX8_force_2 : decode cX8_force 2 = .ok (.lconst 0, 1) := by decide +kernel
theorem dX8_force_3 : decode cX8_force 3 = .ok (.aload_n 0, 1) := by decide +kernel
theorem dX8_force_4 : decode cX8_force 4 = .ok (.getfield 89, 3) := by decide +kernel
theorem dX8_force_7 : decode cX8_force 7 = .ok (.iconst 1, 1) := by decide +kernel
theorem dX8_force_8 : decode cX8_force 8 = .ok (.isub, 1) := by decide +kernel
theorem dX8_force_9 : decode cX8_force 9 = .ok (.i2l, 1) := by decide +kernel
theorem dX8_force_10 : decode cX8_force 10 = .ok (.invokestatic 92, 3) := by decide +kernel
theorem dX8_force_13 : decode cX8_force 13 = .ok (.ifCond .ne 6, 3) := by decide +kernel
theorem dX8_force_16 : decode cX8_force 16 = .ok (.bipush (-2), 2) := by decide +kernel
theorem dX8_force_18 : decode cX8_force 18 = .ok (.ireturn, 1) := by decide +kernel
theorem dX8_force_19 : decode cX8_force 19 = .ok (.aload_n 0, 1) := by decide +kernel
theorem dX8_force_20 : decode cX8_force 20 = .ok (.getfield 332, 3) := by decide +kernel
theorem dX8_force_23 : decode cX8_force 23 = .ok (.istore_n 2, 1) := by decide +kernel
theorem dX8_force_24 : decode cX8_force 24 = .ok (.aload_n 0, 1) := by decide +kernel
theorem dX8_force_25 : decode cX8_force 25 = .ok (.iload_n 1, 1) := by decide +kernel
theorem dX8_force_26 : decode cX8_force 26 = .ok (.putfield 332, 3) := by decide +kernel
theorem dX8_force_29 : decode cX8_force 29 = .ok (.iload_n 2, 1) := by decide +kernel
theorem dX8_force_30 : decode cX8_force 30 = .ok (.ireturn, 1) := by decide +kernel
theorem dX8_costOf_0 : decode cX8_costOf 0 = .ok (.aload_n 0, 1) := by decide +kernel
theorem dX8_costOf_1 : decode cX8_costOf 1 = .ok (.iload_n 2, 1) := by decide +kernel
theorem dX8_costOf_2 : decode cX8_costOf 2 = .ok (.aload_n 0, 1) := by decide +kernel
theorem dX8_costOf_3 : decode cX8_costOf 3 = .ok (.getfield 26, 3) := by decide +kernel
theorem dX8_costOf_6 : decode cX8_costOf 6 = .ok (.iload_n 1, 1) := by decide +kernel
theorem dX8_costOf_7 : decode cX8_costOf 7 = .ok (.iaload, 1) := by decide +kernel
theorem dX8_costOf_8 : decode cX8_costOf 8 = .ok (.isub, 1) := by decide +kernel
theorem dX8_costOf_9 : decode cX8_costOf 9 = .ok (.putfield 182, 3) := by decide +kernel
theorem dX8_costOf_12 : decode cX8_costOf 12 = .ok (.aload_n 0, 1) := by decide +kernel
theorem dX8_costOf_13 : decode cX8_costOf 13 = .ok (.aload_n 0, 1) := by decide +kernel
theorem dX8_costOf_14 : decode cX8_costOf 14 = .ok (.getfield 29, 3) := by decide +kernel
theorem dX8_costOf_17 : decode cX8_costOf 17 = .ok (.iload_n 1, 1) := by decide +kernel
theorem dX8_costOf_18 : decode cX8_costOf 18 = .ok (.iaload, 1) := by decide +kernel
theorem dX8_costOf_19 : decode cX8_costOf 19 = .ok (.putfield 185, 3) := by decide +kernel
theorem dX8_costOf_22 : decode cX8_costOf 22 = .ok (.aload_n 0, 1) := by decide +kernel
theorem dX8_costOf_23 : decode cX8_costOf 23 = .ok (.iload_n 2, 1) := by decide +kernel
theorem dX8_costOf_24 : decode cX8_costOf 24 = .ok (.putfield 188, 3) := by decide +kernel
theorem dX8_costOf_27 : decode cX8_costOf 27 = .ok (.aload_n 0, 1) := by decide +kernel
theorem dX8_costOf_28 : decode cX8_costOf 28 = .ok (.aload_n 0, 1) := by decide +kernel
theorem dX8_costOf_29 : decode cX8_costOf 29 = .ok (.getfield 23, 3) := by decide +kernel
theorem dX8_costOf_32 : decode cX8_costOf 32 = .ok (.iload_n 1, 1) := by decide +kernel
theorem dX8_costOf_33 : decode cX8_costOf 33 = .ok (.iaload, 1) := by decide +kernel
theorem dX8_costOf_34 : decode cX8_costOf 34 = .ok (.putfield 191, 3) := by decide +kernel
theorem dX8_costOf_37 : decode cX8_costOf 37 = .ok (.aload_n 0, 1) := by decide +kernel
theorem dX8_costOf_38 : decode cX8_costOf 38 = .ok (.iconst 0, 1) := by decide +kernel
theorem dX8_costOf_39 : decode cX8_costOf 39 = .ok (.putfield 194, 3) := by decide +kernel
theorem dX8_costOf_42 : decode cX8_costOf 42 = .ok (.aload_n 0, 1) := by decide +kernel
theorem dX8_costOf_43 : decode cX8_costOf 43 = .ok (.aload_n 0, 1) := by decide +kernel
theorem dX8_costOf_44 : decode cX8_costOf 44 = .ok (.getfield 96, 3) := by decide +kernel
theorem dX8_costOf_47 : decode cX8_costOf 47 = .ok (.aload_n 0, 1) := by decide +kernel
theorem dX8_costOf_48 : decode cX8_costOf 48 = .ok (.getfield 99, 3) := by decide +kernel
theorem dX8_costOf_51 : decode cX8_costOf 51 = .ok (.iadd, 1) := by decide +kernel
theorem dX8_costOf_52 : decode cX8_costOf 52 = .ok (.putfield 197, 3) := by decide +kernel
theorem dX8_costOf_55 : decode cX8_costOf 55 = .ok (.aload_n 0, 1) := by decide +kernel
theorem dX8_costOf_56 : decode cX8_costOf 56 = .ok (.aload_n 0, 1) := by decide +kernel
theorem dX8_costOf_57 : decode cX8_costOf 57 = .ok (.getfield 332, 3) := by decide +kernel
theorem dX8_costOf_60 : decode cX8_costOf 60 = .ok (.iload_n 1, 1) := by decide +kernel
theorem dX8_costOf_61 : decode cX8_costOf 61 = .ok (.iconst 4, 1) := by decide +kernel
theorem dX8_costOf_62 : decode cX8_costOf 62 = .ok (.if_icmp .ge 7, 3) := by decide +kernel
theorem dX8_costOf_65 : decode cX8_costOf 65 = .ok (.iconst 0, 1) := by decide +kernel
theorem dX8_costOf_66 : decode cX8_costOf 66 = .ok (.goto 4, 3) := by decide +kernel
theorem dX8_costOf_69 : decode cX8_costOf 69 = .ok (.iconst 1, 1) := by decide +kernel
theorem dX8_costOf_70 : decode cX8_costOf 70 = .ok (.invokevirtual 328, 3) := by decide +kernel
theorem dX8_costOf_73 : decode cX8_costOf 73 = .ok (.iconst 0, 1) := by decide +kernel
theorem dX8_costOf_74 : decode cX8_costOf 74 = .ok (.bipush 99, 2) := by decide +kernel
theorem dX8_costOf_76 : decode cX8_costOf 76 = .ok (.invokestatic 335, 3) := by decide +kernel
theorem dX8_costOf_79 : decode cX8_costOf 79 = .ok (.ireturn, 1) := by decide +kernel
theorem dX8_changeOf_0 : decode cX8_changeOf 0 = .ok (.aload_n 0, 1) := by decide +kernel
theorem dX8_changeOf_1 : decode cX8_changeOf 1 = .ok (.iconst 0, 1) := by decide +kernel
theorem dX8_changeOf_2 : decode cX8_changeOf 2 = .ok (.putfield 182, 3) := by decide +kernel
theorem dX8_changeOf_5 : decode cX8_changeOf 5 = .ok (.aload_n 0, 1) := by decide +kernel
theorem dX8_changeOf_6 : decode cX8_changeOf 6 = .ok (.iconst 0, 1) := by decide +kernel
theorem dX8_changeOf_7 : decode cX8_changeOf 7 = .ok (.putfield 185, 3) := by decide +kernel
theorem dX8_changeOf_10 : decode cX8_changeOf 10 = .ok (.aload_n 0, 1) := by decide +kernel
theorem dX8_changeOf_11 : decode cX8_changeOf 11 = .ok (.iload_n 1, 1) := by decide +kernel
theorem dX8_changeOf_12 : decode cX8_changeOf 12 = .ok (.putfield 188, 3) := by decide +kernel
theorem dX8_changeOf_15 : decode cX8_changeOf 15 = .ok (.aload_n 0, 1) := by decide +kernel
theorem dX8_changeOf_16 : decode cX8_changeOf 16 = .ok (.iload_n 2, 1) := by decide +kernel
theorem dX8_changeOf_17 : decode cX8_changeOf 17 = .ok (.putfield 191, 3) := by decide +kernel
theorem dX8_changeOf_20 : decode cX8_changeOf 20 = .ok (.aload_n 0, 1) := by decide +kernel
theorem dX8_changeOf_21 : decode cX8_changeOf 21 = .ok (.iload_n 3, 1) := by decide +kernel
theorem dX8_changeOf_22 : decode cX8_changeOf 22 = .ok (.putfield 194, 3) := by decide +kernel
theorem dX8_changeOf_25 : decode cX8_changeOf 25 = .ok (.aload_n 0, 1) := by decide +kernel
theorem dX8_changeOf_26 : decode cX8_changeOf 26 = .ok (.aload_n 0, 1) := by decide +kernel
theorem dX8_changeOf_27 : decode cX8_changeOf 27 = .ok (.getfield 96, 3) := by decide +kernel
theorem dX8_changeOf_30 : decode cX8_changeOf 30 = .ok (.aload_n 0, 1) := by decide +kernel
theorem dX8_changeOf_31 : decode cX8_changeOf 31 = .ok (.getfield 99, 3) := by decide +kernel
theorem dX8_changeOf_34 : decode cX8_changeOf 34 = .ok (.iadd, 1) := by decide +kernel
theorem dX8_changeOf_35 : decode cX8_changeOf 35 = .ok (.putfield 197, 3) := by decide +kernel
theorem dX8_changeOf_38 : decode cX8_changeOf 38 = .ok (.aload_n 0, 1) := by decide +kernel
theorem dX8_changeOf_39 : decode cX8_changeOf 39 = .ok (.aload_n 0, 1) := by decide +kernel
theorem dX8_changeOf_40 : decode cX8_changeOf 40 = .ok (.getfield 332, 3) := by decide +kernel
theorem dX8_changeOf_43 : decode cX8_changeOf 43 = .ok (.iconst 2, 1) := by decide +kernel
theorem dX8_changeOf_44 : decode cX8_changeOf 44 = .ok (.invokevirtual 328, 3) := by decide +kernel
theorem dX8_changeOf_47 : decode cX8_changeOf 47 = .ok (.iconst 0, 1) := by decide +kernel
theorem dX8_changeOf_48 : decode cX8_changeOf 48 = .ok (.bipush 99, 2) := by decide +kernel
theorem dX8_changeOf_50 : decode cX8_changeOf 50 = .ok (.invokestatic 335, 3) := by decide +kernel
theorem dX8_changeOf_53 : decode cX8_changeOf 53 = .ok (.ireturn, 1) := by decide +kernel
theorem dX8_takesPlan_0 : decode cX8_takesPlan 0 = .ok (.iconst 0, 1) := by decide +kernel
theorem dX8_takesPlan_1 : decode cX8_takesPlan 1 = .ok (.istore_n 1, 1) := by decide +kernel
theorem dX8_takesPlan_2 : decode cX8_takesPlan 2 = .ok (.iload_n 1, 1) := by decide +kernel
theorem dX8_takesPlan_3 : decode cX8_takesPlan 3 = .ok (.bipush 24, 2) := by decide +kernel
theorem dX8_takesPlan_5 : decode cX8_takesPlan 5 = .ok (.if_icmp .ge 21, 3) := by decide +kernel
theorem dX8_takesPlan_8 : decode cX8_takesPlan 8 = .ok (.aload_n 0, 1) := by decide +kernel
theorem dX8_takesPlan_9 : decode cX8_takesPlan 9 = .ok (.getfield 47, 3) := by decide +kernel
theorem dX8_takesPlan_12 : decode cX8_takesPlan 12 = .ok (.iload_n 1, 1) := by decide +kernel
theorem dX8_takesPlan_13 : decode cX8_takesPlan 13 = .ok (.aload_n 0, 1) := by decide +kernel
theorem dX8_takesPlan_14 : decode cX8_takesPlan 14 = .ok (.getfield 44, 3) := by decide +kernel
theorem dX8_takesPlan_17 : decode cX8_takesPlan 17 = .ok (.iload_n 1, 1) := by decide +kernel
theorem dX8_takesPlan_18 : decode cX8_takesPlan 18 = .ok (.iaload, 1) := by decide +kernel
theorem dX8_takesPlan_19 : decode cX8_takesPlan 19 = .ok (.iastore, 1) := by decide +kernel
theorem dX8_takesPlan_20 : decode cX8_takesPlan 20 = .ok (.iinc 1 1, 3) := by decide +kernel
theorem dX8_takesPlan_23 : decode cX8_takesPlan 23 = .ok (.goto (-21), 3) := by decide +kernel
theorem dX8_takesPlan_26 : decode cX8_takesPlan 26 = .ok (.return_, 1) := by decide +kernel
theorem dX8_goes_0 : decode cX8_goes 0 = .ok (.iload_n 1, 1) := by decide +kernel
theorem dX8_goes_1 : decode cX8_goes 1 = .ok (.iconst 4, 1) := by decide +kernel
theorem dX8_goes_2 : decode cX8_goes 2 = .ok (.if_icmp .ge 7, 3) := by decide +kernel
theorem dX8_goes_5 : decode cX8_goes 5 = .ok (.iconst 1, 1) := by decide +kernel
theorem dX8_goes_6 : decode cX8_goes 6 = .ok (.goto 4, 3) := by decide +kernel
theorem dX8_goes_9 : decode cX8_goes 9 = .ok (.iconst 0, 1) := by decide +kernel
theorem dX8_goes_10 : decode cX8_goes 10 = .ok (.aload_n 0, 1) := by decide +kernel
theorem dX8_goes_11 : decode cX8_goes 11 = .ok (.getfield 23, 3) := by decide +kernel
theorem dX8_goes_14 : decode cX8_goes 14 = .ok (.iload_n 1, 1) := by decide +kernel
theorem dX8_goes_15 : decode cX8_goes 15 = .ok (.iaload, 1) := by decide +kernel
theorem dX8_goes_16 : decode cX8_goes 16 = .ok (.iload_n 2, 1) := by decide +kernel
theorem dX8_goes_17 : decode cX8_goes 17 = .ok (.if_icmp .ne 7, 3) := by decide +kernel
theorem dX8_goes_20 : decode cX8_goes 20 = .ok (.iconst 1, 1) := by decide +kernel
theorem dX8_goes_21 : decode cX8_goes 21 = .ok (.goto 4, 3) := by decide +kernel
theorem dX8_goes_24 : decode cX8_goes 24 = .ok (.iconst 0, 1) := by decide +kernel
theorem dX8_goes_25 : decode cX8_goes 25 = .ok (.if_icmp .ne 7, 3) := by decide +kernel
theorem dX8_goes_28 : decode cX8_goes 28 = .ok (.iconst 1, 1) := by decide +kernel
theorem dX8_goes_29 : decode cX8_goes 29 = .ok (.goto 4, 3) := by decide +kernel
theorem dX8_goes_32 : decode cX8_goes 32 = .ok (.iconst 0, 1) := by decide +kernel
theorem dX8_goes_33 : decode cX8_goes 33 = .ok (.ireturn, 1) := by decide +kernel
theorem dX8_through_0 : decode cX8_through 0 = .ok (.aload_n 0, 1) := by decide +kernel
theorem dX8_through_1 : decode cX8_through 1 = .ok (.getfield 26, 3) := by decide +kernel
theorem dX8_through_4 : decode cX8_through 4 = .ok (.iload_n 1, 1) := by decide +kernel
theorem dX8_through_5 : decode cX8_through 5 = .ok (.iaload, 1) := by decide +kernel
theorem dX8_through_6 : decode cX8_through 6 = .ok (.istore_n 2, 1) := by decide +kernel
theorem dX8_through_7 : decode cX8_through 7 = .ok (.iload_n 2, 1) := by decide +kernel
theorem dX8_through_8 : decode cX8_through 8 = .ok (.bipush 24, 2) := by decide +kernel
theorem dX8_through_10 : decode cX8_through 10 = .ok (.if_icmp .ge 23, 3) := by decide +kernel
theorem dX8_through_13 : decode cX8_through 13 = .ok (.aload_n 0, 1) := by decide +kernel
theorem dX8_through_14 : decode cX8_through 14 = .ok (.iload_n 1, 1) := by decide +kernel
theorem dX8_through_15 : decode cX8_through 15 = .ok (.aload_n 0, 1) := by decide +kernel
theorem dX8_through_16 : decode cX8_through 16 = .ok (.getfield 47, 3) := by decide +kernel
theorem dX8_through_19 : decode cX8_through 19 = .ok (.iload_n 2, 1) := by decide +kernel
theorem dX8_through_20 : decode cX8_through 20 = .ok (.iaload, 1) := by decide +kernel
theorem dX8_through_21 : decode cX8_through 21 = .ok (.invokevirtual 339, 3) := by decide +kernel
theorem dX8_through_24 : decode cX8_through 24 = .ok (.ifCond .ne 9, 3) := by decide +kernel
theorem dX8_through_27 : decode cX8_through 27 = .ok (.iinc 2 1, 3) := by decide +kernel
theorem dX8_through_30 : decode cX8_through 30 = .ok (.goto (-23), 3) := by decide +kernel
theorem dX8_through_33 : decode cX8_through 33 = .ok (.iload_n 2, 1) := by decide +kernel
theorem dX8_through_34 : decode cX8_through 34 = .ok (.ireturn, 1) := by decide +kernel
theorem dX8_rowCost_0 : decode cX8_rowCost 0 = .ok (.iconst 0, 1) := by decide +kernel
theorem dX8_rowCost_1 : decode cX8_rowCost 1 = .ok (.istore_n 1, 1) := by decide +kernel
theorem dX8_rowCost_2 : decode cX8_rowCost 2 = .ok (.iconst 0, 1) := by decide +kernel
theorem dX8_rowCost_3 : decode cX8_rowCost 3 = .ok (.istore_n 2, 1) := by decide +kernel
theorem dX8_rowCost_4 : decode cX8_rowCost 4 = .ok (.iload_n 2, 1) := by decide +kernel
theorem dX8_rowCost_5 : decode cX8_rowCost 5 = .ok (.bipush 8, 2) := by decide +kernel
theorem dX8_rowCost_7 : decode cX8_rowCost 7 = .ok (.if_icmp .ge 34, 3) := by decide +kernel
theorem dX8_rowCost_10 : decode cX8_rowCost 10 = .ok (.iload_n 1, 1) := by decide +kernel
theorem dX8_rowCost_11 : decode cX8_rowCost 11 = .ok (.aload_n 0, 1) := by decide +kernel
theorem dX8_rowCost_12 : decode cX8_rowCost 12 = .ok (.iload_n 2, 1) := by decide +kernel
theorem dX8_rowCost_13 : decode cX8_rowCost 13 = .ok (.invokevirtual 342, 3) := by decide +kernel
theorem dX8_rowCost_16 : decode cX8_rowCost 16 = .ok (.ifCond .eq 16, 3) := by decide +kernel
theorem dX8_rowCost_19 : decode cX8_rowCost 19 = .ok (.aload_n 0, 1) := by decide +kernel
theorem dX8_rowCost_20 : decode cX8_rowCost 20 = .ok (.iload_n 2, 1) := by decide +kernel
theorem dX8_rowCost_21 : decode cX8_rowCost 21 = .ok (.aload_n 0, 1) := by decide +kernel
theorem dX8_rowCost_22 : decode cX8_rowCost 22 = .ok (.iload_n 2, 1) := by decide +kernel
theorem dX8_rowCost_23 : decode cX8_rowCost 23 = .ok (.invokevirtual 345, 3) := by decide +kernel
theorem dX8_rowCost_26 : decode cX8_rowCost 26 = .ok (.invokevirtual 348, 3) := by decide +kernel
theorem dX8_rowCost_29 : decode cX8_rowCost 29 = .ok (.goto 4, 3) := by decide +kernel
theorem dX8_rowCost_32 : decode cX8_rowCost 32 = .ok (.iconst 0, 1) := by decide +kernel
theorem dX8_rowCost_33 : decode cX8_rowCost 33 = .ok (.iadd, 1) := by decide +kernel
theorem dX8_rowCost_34 : decode cX8_rowCost 34 = .ok (.istore_n 1, 1) := by decide +kernel
theorem dX8_rowCost_35 : decode cX8_rowCost 35 = .ok (.iinc 2 1, 3) := by decide +kernel
theorem dX8_rowCost_38 : decode cX8_rowCost 38 = .ok (.goto (-34), 3) := by decide +kernel
theorem dX8_rowCost_41 : decode cX8_rowCost 41 = .ok (.iconst 1, 1) := by decide +kernel
theorem dX8_rowCost_42 : decode cX8_rowCost 42 = .ok (.istore_n 2, 1) := by decide +kernel
theorem dX8_rowCost_43 : decode cX8_rowCost 43 = .ok (.iload_n 2, 1) := by decide +kernel
theorem dX8_rowCost_44 : decode cX8_rowCost 44 = .ok (.bipush 24, 2) := by decide +kernel
theorem dX8_rowCost_46 : decode cX8_rowCost 46 = .ok (.if_icmp .ge 52, 3) := by decide +kernel
theorem dX8_rowCost_49 : decode cX8_rowCost 49 = .ok (.iload_n 1, 1) := by decide +kernel
theorem dX8_rowCost_50 : decode cX8_rowCost 50 = .ok (.aload_n 0, 1) := by decide +kernel
theorem dX8_rowCost_51 : decode cX8_rowCost 51 = .ok (.getfield 47, 3) := by decide +kernel
theorem dX8_rowCost_54 : decode cX8_rowCost 54 = .ok (.iload_n 2, 1) := by decide +kernel
theorem dX8_rowCost_55 : decode cX8_rowCost 55 = .ok (.iaload, 1) := by decide +kernel
theorem dX8_rowCost_56 : decode cX8_rowCost 56 = .ok (.aload_n 0, 1) := by decide +kernel
theorem dX8_rowCost_57 : decode cX8_rowCost 57 = .ok (.getfield 47, 3) := by decide +kernel
theorem dX8_rowCost_60 : decode cX8_rowCost 60 = .ok (.iload_n 2, 1) := by decide +kernel
theorem dX8_rowCost_61 : decode cX8_rowCost 61 = .ok (.iconst 1, 1) := by decide +kernel
theorem dX8_rowCost_62 : decode cX8_rowCost 62 = .ok (.isub, 1) := by decide +kernel
theorem dX8_rowCost_63 : decode cX8_rowCost 63 = .ok (.iaload, 1) := by decide +kernel
theorem dX8_rowCost_64 : decode cX8_rowCost 64 = .ok (.if_icmp .ne 7, 3) := by decide +kernel
theorem dX8_rowCost_67 : decode cX8_rowCost 67 = .ok (.iconst 0, 1) := by decide +kernel
theorem dX8_rowCost_68 : decode cX8_rowCost 68 = .ok (.goto 22, 3) := by decide +kernel
theorem dX8_rowCost_71 : decode cX8_rowCost 71 = .ok (.aload_n 0, 1) := by decide +kernel
theorem dX8_rowCost_72 : decode cX8_rowCost 72 = .ok (.iload_n 2, 1) := by decide +kernel
theorem dX8_rowCost_73 : decode cX8_rowCost 73 = .ok (.aload_n 0, 1) := by decide +kernel
theorem dX8_rowCost_74 : decode cX8_rowCost 74 = .ok (.getfield 47, 3) := by decide +kernel
theorem dX8_rowCost_77 : decode cX8_rowCost 77 = .ok (.iload_n 2, 1) := by decide +kernel
theorem dX8_rowCost_78 : decode cX8_rowCost 78 = .ok (.iaload, 1) := by decide +kernel
theorem dX8_rowCost_79 : decode cX8_rowCost 79 = .ok (.aload_n 0, 1) := by decide +kernel
theorem dX8_rowCost_80 : decode cX8_rowCost 80 = .ok (.getfield 47, 3) := by decide +kernel
theorem dX8_rowCost_83 : decode cX8_rowCost 83 = .ok (.iload_n 2, 1) := by decide +kernel
theorem dX8_rowCost_84 : decode cX8_rowCost 84 = .ok (.iconst 1, 1) := by decide +kernel
theorem dX8_rowCost_85 : decode cX8_rowCost 85 = .ok (.isub, 1) := by decide +kernel
theorem dX8_rowCost_86 : decode cX8_rowCost 86 = .ok (.iaload, 1) := by decide +kernel
theorem dX8_rowCost_87 : decode cX8_rowCost 87 = .ok (.invokevirtual 351, 3) := by decide +kernel
theorem dX8_rowCost_90 : decode cX8_rowCost 90 = .ok (.iadd, 1) := by decide +kernel
theorem dX8_rowCost_91 : decode cX8_rowCost 91 = .ok (.istore_n 1, 1) := by decide +kernel
theorem dX8_rowCost_92 : decode cX8_rowCost 92 = .ok (.iinc 2 1, 3) := by decide +kernel
theorem dX8_rowCost_95 : decode cX8_rowCost 95 = .ok (.goto (-52), 3) := by decide +kernel
theorem dX8_rowCost_98 : decode cX8_rowCost 98 = .ok (.iload_n 1, 1) := by decide +kernel
theorem dX8_rowCost_99 : decode cX8_rowCost 99 = .ok (.ireturn, 1) := by decide +kernel
theorem dX8_rowChanges_0 : decode cX8_rowChanges 0 = .ok (.iconst 0, 1) := by decide +kernel
theorem dX8_rowChanges_1 : decode cX8_rowChanges 1 = .ok (.istore_n 1, 1) := by decide +kernel
theorem dX8_rowChanges_2 : decode cX8_rowChanges 2 = .ok (.iconst 1, 1) := by decide +kernel
theorem dX8_rowChanges_3 : decode cX8_rowChanges 3 = .ok (.istore_n 2, 1) := by decide +kernel
theorem dX8_rowChanges_4 : decode cX8_rowChanges 4 = .ok (.iload_n 2, 1) := by decide +kernel
theorem dX8_rowChanges_5 : decode cX8_rowChanges 5 = .ok (.bipush 24, 2) := by decide +kernel
theorem dX8_rowChanges_7 : decode cX8_rowChanges 7 = .ok (.if_icmp .ge 34, 3) := by decide +kernel
theorem dX8_rowChanges_10 : decode cX8_rowChanges 10 = .ok (.iload_n 1, 1) := by decide +kernel
theorem dX8_rowChanges_11 : decode cX8_rowChanges 11 = .ok (.aload_n 0, 1) := by decide +kernel
theorem dX8_rowChanges_12 : decode cX8_rowChanges 12 = .ok (.getfield 47, 3) := by decide +kernel
theorem dX8_rowChanges_15 : decode cX8_rowChanges 15 = .ok (.iload_n 2, 1) := by decide +kernel
theorem dX8_rowChanges_16 : decode cX8_rowChanges 16 = .ok (.iaload, 1) := by decide +kernel
theorem dX8_rowChanges_17 : decode cX8_rowChanges 17 = .ok (.aload_n 0, 1) := by decide +kernel
theorem dX8_rowChanges_18 : decode cX8_rowChanges 18 = .ok (.getfield 47, 3) := by decide +kernel
theorem dX8_rowChanges_21 : decode cX8_rowChanges 21 = .ok (.iload_n 2, 1) := by decide +kernel
theorem dX8_rowChanges_22 : decode cX8_rowChanges 22 = .ok (.iconst 1, 1) := by decide +kernel
theorem dX8_rowChanges_23 : decode cX8_rowChanges 23 = .ok (.isub, 1) := by decide +kernel
theorem dX8_rowChanges_24 : decode cX8_rowChanges 24 = .ok (.iaload, 1) := by decide +kernel
theorem dX8_rowChanges_25 : decode cX8_rowChanges 25 = .ok (.if_icmp .ne 7, 3) := by decide +kernel
theorem dX8_rowChanges_28 : decode cX8_rowChanges 28 = .ok (.iconst 0, 1) := by decide +kernel
theorem dX8_rowChanges_29 : decode cX8_rowChanges 29 = .ok (.goto 4, 3) := by decide +kernel
theorem dX8_rowChanges_32 : decode cX8_rowChanges 32 = .ok (.iconst 1, 1) := by decide +kernel
theorem dX8_rowChanges_33 : decode cX8_rowChanges 33 = .ok (.iadd, 1) := by decide +kernel
theorem dX8_rowChanges_34 : decode cX8_rowChanges 34 = .ok (.istore_n 1, 1) := by decide +kernel
theorem dX8_rowChanges_35 : decode cX8_rowChanges 35 = .ok (.iinc 2 1, 3) := by decide +kernel
theorem dX8_rowChanges_38 : decode cX8_rowChanges 38 = .ok (.goto (-34), 3) := by decide +kernel
theorem dX8_rowChanges_41 : decode cX8_rowChanges 41 = .ok (.iload_n 1, 1) := by decide +kernel
theorem dX8_rowChanges_42 : decode cX8_rowChanges 42 = .ok (.ireturn, 1) := by decide +kernel
theorem dX8_rowLawful_0 : decode cX8_rowLawful 0 = .ok (.iconst 1, 1) := by decide +kernel
theorem dX8_rowLawful_1 : decode cX8_rowLawful 1 = .ok (.istore_n 1, 1) := by decide +kernel
theorem dX8_rowLawful_2 : decode cX8_rowLawful 2 = .ok (.iconst 1, 1) := by decide +kernel
theorem dX8_rowLawful_3 : decode cX8_rowLawful 3 = .ok (.istore_n 2, 1) := by decide +kernel
theorem dX8_rowLawful_4 : decode cX8_rowLawful 4 = .ok (.iload_n 2, 1) := by decide +kernel
theorem dX8_rowLawful_5 : decode cX8_rowLawful 5 = .ok (.bipush 24, 2) := by decide +kernel
theorem dX8_rowLawful_7 : decode cX8_rowLawful 7 = .ok (.if_icmp .ge 61, 3) := by decide +kernel
theorem dX8_rowLawful_10 : decode cX8_rowLawful 10 = .ok (.aload_n 0, 1) := by decide +kernel
theorem dX8_rowLawful_11 : decode cX8_rowLawful 11 = .ok (.getfield 47, 3) := by decide +kernel
theorem dX8_rowLawful_14 : decode cX8_rowLawful 14 = .ok (.iload_n 2, 1) := by decide +kernel
theorem dX8_rowLawful_15 : decode cX8_rowLawful 15 = .ok (.iaload, 1) := by decide +kernel
theorem dX8_rowLawful_16 : decode cX8_rowLawful 16 = .ok (.aload_n 0, 1) := by decide +kernel
theorem dX8_rowLawful_17 : decode cX8_rowLawful 17 = .ok (.getfield 47, 3) := by decide +kernel
theorem dX8_rowLawful_20 : decode cX8_rowLawful 20 = .ok (.iload_n 2, 1) := by decide +kernel
theorem dX8_rowLawful_21 : decode cX8_rowLawful 21 = .ok (.iconst 1, 1) := by decide +kernel
theorem dX8_rowLawful_22 : decode cX8_rowLawful 22 = .ok (.isub, 1) := by decide +kernel
theorem dX8_rowLawful_23 : decode cX8_rowLawful 23 = .ok (.iaload, 1) := by decide +kernel
theorem dX8_rowLawful_24 : decode cX8_rowLawful 24 = .ok (.if_icmp .eq 13, 3) := by decide +kernel
theorem dX8_rowLawful_27 : decode cX8_rowLawful 27 = .ok (.iload_n 1, 1) := by decide +kernel
theorem dX8_rowLawful_28 : decode cX8_rowLawful 28 = .ok (.aload_n 0, 1) := by decide +kernel
theorem dX8_rowLawful_29 : decode cX8_rowLawful 29 = .ok (.getfield 32, 3) := by decide +kernel
theorem dX8_rowLawful_32 : decode cX8_rowLawful 32 = .ok (.if_icmp .ge 5, 3) := by decide +kernel
theorem dX8_rowLawful_35 : decode cX8_rowLawful 35 = .ok (.iconst 0, 1) := by decide +kernel
theorem dX8_rowLawful_36 : decode cX8_rowLawful 36 = .ok (.ireturn, 1) := by decide +kernel
theorem dX8_rowLawful_37 : decode cX8_rowLawful 37 = .ok (.aload_n 0, 1) := by decide +kernel
theorem dX8_rowLawful_38 : decode cX8_rowLawful 38 = .ok (.getfield 47, 3) := by decide +kernel
theorem dX8_rowLawful_41 : decode cX8_rowLawful 41 = .ok (.iload_n 2, 1) := by decide +kernel
theorem dX8_rowLawful_42 : decode cX8_rowLawful 42 = .ok (.iaload, 1) := by decide +kernel
theorem dX8_rowLawful_43 : decode cX8_rowLawful 43 = .ok (.aload_n 0, 1) := by decide +kernel
theorem dX8_rowLawful_44 : decode cX8_rowLawful 44 = .ok (.getfield 47, 3) := by decide +kernel
theorem dX8_rowLawful_47 : decode cX8_rowLawful 47 = .ok (.iload_n 2, 1) := by decide +kernel
theorem dX8_rowLawful_48 : decode cX8_rowLawful 48 = .ok (.iconst 1, 1) := by decide +kernel
theorem dX8_rowLawful_49 : decode cX8_rowLawful 49 = .ok (.isub, 1) := by decide +kernel
theorem dX8_rowLawful_50 : decode cX8_rowLawful 50 = .ok (.iaload, 1) := by decide +kernel
theorem dX8_rowLawful_51 : decode cX8_rowLawful 51 = .ok (.if_icmp .ne 9, 3) := by decide +kernel
theorem dX8_rowLawful_54 : decode cX8_rowLawful 54 = .ok (.iload_n 1, 1) := by decide +kernel
theorem dX8_rowLawful_55 : decode cX8_rowLawful 55 = .ok (.iconst 1, 1) := by decide +kernel
theorem dX8_rowLawful_56 : decode cX8_rowLawful 56 = .ok (.iadd, 1) := by decide +kernel
theorem dX8_rowLawful_57 : decode cX8_rowLawful 57 = .ok (.goto 4, 3) := by decide +kernel
theorem dX8_rowLawful_60 : decode cX8_rowLawful 60 = .ok (.iconst 1, 1) := by decide +kernel
theorem dX8_rowLawful_61 : decode cX8_rowLawful 61 = .ok (.istore_n 1, 1) := by decide +kernel
theorem dX8_rowLawful_62 : decode cX8_rowLawful 62 = .ok (.iinc 2 1, 3) := by decide +kernel
theorem dX8_rowLawful_65 : decode cX8_rowLawful 65 = .ok (.goto (-61), 3) := by decide +kernel
theorem dX8_rowLawful_68 : decode cX8_rowLawful 68 = .ok (.iconst 1, 1) := by decide +kernel
theorem dX8_rowLawful_69 : decode cX8_rowLawful 69 = .ok (.ireturn, 1) := by decide +kernel
theorem dX8_rowThrough_0 : decode cX8_rowThrough 0 = .ok (.iconst 0, 1) := by decide +kernel
theorem dX8_rowThrough_1 : decode cX8_rowThrough 1 = .ok (.istore_n 1, 1) := by decide +kernel
theorem dX8_rowThrough_2 : decode cX8_rowThrough 2 = .ok (.iconst 0, 1) := by decide +kernel
theorem dX8_rowThrough_3 : decode cX8_rowThrough 3 = .ok (.istore_n 2, 1) := by decide +kernel
theorem dX8_rowThrough_4 : decode cX8_rowThrough 4 = .ok (.iload_n 2, 1) := by decide +kernel
theorem dX8_rowThrough_5 : decode cX8_rowThrough 5 = .ok (.bipush 8, 2) := by decide +kernel
theorem dX8_rowThrough_7 : decode cX8_rowThrough 7 = .ok (.if_icmp .ge 35, 3) := by decide +kernel
theorem dX8_rowThrough_10 : decode cX8_rowThrough 10 = .ok (.iload_n 1, 1) := by decide +kernel
theorem dX8_rowThrough_11 : decode cX8_rowThrough 11 = .ok (.aload_n 0, 1) := by decide +kernel
theorem dX8_rowThrough_12 : decode cX8_rowThrough 12 = .ok (.iload_n 2, 1) := by decide +kernel
theorem dX8_rowThrough_13 : decode cX8_rowThrough 13 = .ok (.invokevirtual 342, 3) := by decide +kernel
theorem dX8_rowThrough_16 : decode cX8_rowThrough 16 = .ok (.ifCond .eq 17, 3) := by decide +kernel
theorem dX8_rowThrough_19 : decode cX8_rowThrough 19 = .ok (.aload_n 0, 1) := by decide +kernel
theorem dX8_rowThrough_20 : decode cX8_rowThrough 20 = .ok (.iload_n 2, 1) := by decide +kernel
theorem dX8_rowThrough_21 : decode cX8_rowThrough 21 = .ok (.invokevirtual 345, 3) := by decide +kernel
theorem dX8_rowThrough_24 : decode cX8_rowThrough 24 = .ok (.bipush 24, 2) := by decide +kernel
theorem dX8_rowThrough_26 : decode cX8_rowThrough 26 = .ok (.if_icmp .ge 7, 3) := by decide +kernel
theorem dX8_rowThrough_29 : decode cX8_rowThrough 29 = .ok (.iconst 1, 1) := by decide +kernel
theorem dX8_rowThrough_30 : decode cX8_rowThrough 30 = .ok (.goto 4, 3) := by decide +kernel
theorem dX8_rowThrough_33 : decode cX8_rowThrough 33 = .ok (.iconst 0, 1) := by decide +kernel
theorem dX8_rowThrough_34 : decode cX8_rowThrough 34 = .ok (.iadd, 1) := by decide +kernel
theorem dX8_rowThrough_35 : decode cX8_rowThrough 35 = .ok (.istore_n 1, 1) := by decide +kernel
theorem dX8_rowThrough_36 : decode cX8_rowThrough 36 = .ok (.iinc 2 1, 3) := by decide +kernel
theorem dX8_rowThrough_39 : decode cX8_rowThrough 39 = .ok (.goto (-35), 3) := by decide +kernel
theorem dX8_rowThrough_42 : decode cX8_rowThrough 42 = .ok (.iload_n 1, 1) := by decide +kernel
theorem dX8_rowThrough_43 : decode cX8_rowThrough 43 = .ok (.ireturn, 1) := by decide +kernel
theorem dX8_told_0 : decode cX8_told 0 = .ok (.aload_n 0, 1) := by decide +kernel
theorem dX8_told_1 : decode cX8_told 1 = .ok (.iload_n 1, 1) := by decide +kernel
theorem dX8_told_2 : decode cX8_told 2 = .ok (.iload_n 2, 1) := by decide +kernel
theorem dX8_told_3 : decode cX8_told 3 = .ok (.invokevirtual 108, 3) := by decide +kernel
theorem dX8_told_6 : decode cX8_told 6 = .ok (.ifCond .eq 15, 3) := by decide +kernel
theorem dX8_told_9 : decode cX8_told 9 = .ok (.iload_n 3, 1) := by decide +kernel
theorem dX8_told_10 : decode cX8_told 10 = .ok (.i2l, 1) := by decide +kernel
theorem dX8_told_11 : decode cX8_told 11 = .ok (.lconst 0, 1) := by decide +kernel
theorem dX8_told_12 : decode cX8_told 12 = .ok (.ldc2_w 119, 3) := by decide +kernel
theorem dX8_told_15 : decode cX8_told 15 = .ok (.invokestatic 92, 3) := by decide +kernel
theorem dX8_told_18 : decode cX8_told 18 = .ok (.ifCond .ne 6, 3) := by decide +kernel
theorem dX8_told_21 : decode cX8_told 21 = .ok (.bipush (-2), 2) := by decide +kernel
theorem dX8_told_23 : decode cX8_told 23 = .ok (.ireturn, 1) := by decide +kernel
theorem dX8_told_24 : decode cX8_told 24 = .ok (.iconst 4, 1) := by decide +kernel
theorem dX8_told_25 : decode cX8_told 25 = .ok (.iload_n 1, 1) := by decide +kernel
theorem dX8_told_26 : decode cX8_told 26 = .ok (.imul, 1) := by decide +kernel
theorem dX8_told_27 : decode cX8_told 27 = .ok (.iload_n 2, 1) := by decide +kernel
theorem dX8_told_28 : decode cX8_told 28 = .ok (.iadd, 1) := by decide +kernel
theorem dX8_told_29 : decode cX8_told 29 = .ok (.istore 4, 2) := by decide +kernel
theorem dX8_told_31 : decode cX8_told 31 = .ok (.iload_n 3, 1) := by decide +kernel
theorem dX8_told_32 : decode cX8_told 32 = .ok (.iconst 3, 1) := by decide +kernel
theorem dX8_told_33 : decode cX8_told 33 = .ok (.if_icmp .ge 40, 3) := by decide +kernel
theorem dX8_told_36 : decode cX8_told 36 = .ok (.iload_n 3, 1) := by decide +kernel
theorem dX8_told_37 : decode cX8_told 37 = .ok (.ifCond .ne 13, 3) := by decide +kernel
theorem dX8_told_40 : decode cX8_told 40 = .ok (.aload_n 0, 1) := by decide +kernel
theorem dX8_told_41 : decode cX8_told 41 = .ok (.getfield 23, 3) := by decide +kernel
theorem dX8_told_44 : decode cX8_told 44 = .ok (.iload 4, 2) := by decide +kernel
theorem dX8_told_46 : decode cX8_told 46 = .ok (.iaload, 1) := by decide +kernel
theorem dX8_told_47 : decode cX8_told 47 = .ok (.goto 25, 3) := by decide +kernel
theorem dX8_told_50 : decode cX8_told 50 = .ok (.iload_n 3, 1) := by decide +kernel
theorem dX8_told_51 : decode cX8_told 51 = .ok (.iconst 1, 1) := by decide +kernel
theorem dX8_told_52 : decode cX8_told 52 = .ok (.if_icmp .ne 13, 3) := by decide +kernel
theorem dX8_told_55 : decode cX8_told 55 = .ok (.aload_n 0, 1) := by decide +kernel
theorem dX8_told_56 : decode cX8_told 56 = .ok (.getfield 26, 3) := by decide +kernel
theorem dX8_told_59 : decode cX8_told 59 = .ok (.iload 4, 2) := by decide +kernel
theorem dX8_told_61 : decode cX8_told 61 = .ok (.iaload, 1) := by decide +kernel
theorem dX8_told_62 : decode cX8_told 62 = .ok (.goto 10, 3) := by decide +kernel
theorem dX8_told_65 : decode cX8_told 65 = .ok (.aload_n 0, 1) := by decide +kernel
theorem dX8_told_66 : decode cX8_told 66 = .ok (.getfield 29, 3) := by decide +kernel
theorem dX8_told_69 : decode cX8_told 69 = .ok (.iload 4, 2) := by decide +kernel
theorem dX8_told_71 : decode cX8_told 71 = .ok (.iaload, 1) := by decide +kernel
theorem dX8_told_72 : decode cX8_told 72 = .ok (.ireturn, 1) := by decide +kernel
theorem dX8_told_73 : decode cX8_told 73 = .ok (.aload_n 0, 1) := by decide +kernel
theorem dX8_told_74 : decode cX8_told 74 = .ok (.invokevirtual 354, 3) := by decide +kernel
theorem dX8_told_77 : decode cX8_told 77 = .ok (.aload_n 0, 1) := by decide +kernel
theorem dX8_told_78 : decode cX8_told 78 = .ok (.iload 4, 2) := by decide +kernel
theorem dX8_told_80 : decode cX8_told 80 = .ok (.invokevirtual 345, 3) := by decide +kernel
theorem dX8_told_83 : decode cX8_told 83 = .ok (.istore 5, 2) := by decide +kernel
theorem dX8_told_85 : decode cX8_told 85 = .ok (.iload_n 3, 1) := by decide +kernel
theorem dX8_told_86 : decode cX8_told 86 = .ok (.iconst 3, 1) := by decide +kernel
theorem dX8_told_87 : decode cX8_told 87 = .ok (.if_icmp .ne 19, 3) := by decide +kernel
theorem dX8_told_90 : decode cX8_told 90 = .ok (.iload 5, 2) := by decide +kernel
theorem dX8_told_92 : decode cX8_told 92 = .ok (.bipush 24, 2) := by decide +kernel
theorem dX8_told_94 : decode cX8_told 94 = .ok (.if_icmp .ge 8, 3) := by decide +kernel
theorem dX8_told_97 : decode cX8_told 97 = .ok (.iload 5, 2) := by decide +kernel
theorem dX8_told_99 : decode cX8_told 99 = .ok (.goto 33, 3) := by decide +kernel
theorem dX8_told_102 : decode cX8_told 102 = .ok (.iconst (-1), 1) := by decide +kernel
theorem dX8_told_103 : decode cX8_told 103 = .ok (.goto 29, 3) := by decide +kernel
theorem dX8_told_106 : decode cX8_told 106 = .ok (.iload_n 3, 1) := by decide +kernel
theorem dX8_told_107 : decode cX8_told 107 = .ok (.iconst 4, 1) := by decide +kernel
theorem dX8_told_108 : decode cX8_told 108 = .ok (.if_icmp .ne 16, 3) := by decide +kernel
theorem dX8_told_111 : decode cX8_told 111 = .ok (.iload 5, 2) := by decide +kernel
theorem dX8_told_113 : decode cX8_told 113 = .ok (.aload_n 0, 1) := by decide +kernel
theorem dX8_told_114 : decode cX8_told 114 = .ok (.getfield 26, 3) := by decide +kernel
theorem dX8_told_117 : decode cX8_told 117 = .ok (.iload 4, 2) := by decide +kernel
theorem dX8_told_119 : decode cX8_told 119 = .ok (.iaload, 1) := by decide +kernel
theorem dX8_told_120 : decode cX8_told 120 = .ok (.isub, 1) := by decide +kernel
theorem dX8_told_121 : decode cX8_told 121 = .ok (.goto 11, 3) := by decide +kernel
theorem dX8_told_124 : decode cX8_told 124 = .ok (.aload_n 0, 1) := by decide +kernel
theorem dX8_told_125 : decode cX8_told 125 = .ok (.iload 4, 2) := by decide +kernel
theorem dX8_told_127 : decode cX8_told 127 = .ok (.iload 5, 2) := by decide +kernel
theorem dX8_told_129 : decode cX8_told 129 = .ok (.invokevirtual 348, 3) := by decide +kernel
theorem dX8_told_132 : decode cX8_told 132 = .ok (.ireturn, 1) := by decide +kernel
theorem dX8_up_0 : decode cX8_up 0 = .ok (.iload_n 1, 1) := by decide +kernel
theorem dX8_up_1 : decode cX8_up 1 = .ok (.i2l, 1) := by decide +kernel
theorem dX8_up_2 : decode cX8_up 2 = .ok (.lconst 0, 1) := by decide +kernel
theorem dX8_up_3 : decode cX8_up 3 = .ok (.ldc2_w 112, 3) := by decide +kernel
theorem dX8_up_6 : decode cX8_up 6 = .ok (.invokestatic 92, 3) := by decide +kernel
theorem dX8_up_9 : decode cX8_up 9 = .ok (.ifCond .eq 15, 3) := by decide +kernel
theorem dX8_up_12 : decode cX8_up 12 = .ok (.iload_n 2, 1) := by decide +kernel
theorem dX8_up_13 : decode cX8_up 13 = .ok (.i2l, 1) := by decide +kernel
theorem dX8_up_14 : decode cX8_up 14 = .ok (.lconst 0, 1) := by decide +kernel
theorem dX8_up_15 : decode cX8_up 15 = .ok (.ldc2_w 104, 3) := by decide +kernel
theorem dX8_up_18 : decode cX8_up 18 = .ok (.invokestatic 92, 3) := by decide +kernel
theorem dX8_up_21 : decode cX8_up 21 = .ok (.ifCond .ne 6, 3) := by decide +kernel
theorem dX8_up_24 : decode cX8_up 24 = .ok (.bipush (-2), 2) := by decide +kernel
theorem dX8_up_26 : decode cX8_up 26 = .ok (.ireturn, 1) := by decide +kernel
theorem dX8_up_27 : decode cX8_up 27 = .ok (.aload_n 0, 1) := by decide +kernel
theorem dX8_up_28 : decode cX8_up 28 = .ok (.getfield 44, 3) := by decide +kernel
theorem dX8_up_31 : decode cX8_up 31 = .ok (.iload_n 1, 1) := by decide +kernel
theorem dX8_up_32 : decode cX8_up 32 = .ok (.iaload, 1) := by decide +kernel
theorem dX8_up_33 : decode cX8_up 33 = .ok (.istore_n 3, 1) := by decide +kernel
theorem dX8_up_34 : decode cX8_up 34 = .ok (.aload_n 0, 1) := by decide +kernel
theorem dX8_up_35 : decode cX8_up 35 = .ok (.getfield 44, 3) := by decide +kernel
theorem dX8_up_38 : decode cX8_up 38 = .ok (.iload_n 1, 1) := by decide +kernel
theorem dX8_up_39 : decode cX8_up 39 = .ok (.iload_n 2, 1) := by decide +kernel
theorem dX8_up_40 : decode cX8_up 40 = .ok (.iastore, 1) := by decide +kernel
theorem dX8_up_41 : decode cX8_up 41 = .ok (.iload_n 3, 1) := by decide +kernel
theorem dX8_up_42 : decode cX8_up 42 = .ok (.ireturn, 1) := by decide +kernel
theorem dX8_at_0 : decode cX8_at 0 = .ok (.iload_n 1, 1) := by decide +kernel
theorem dX8_at_1 : decode cX8_at 1 = .ok (.i2l, 1) := by decide +kernel
theorem dX8_at_2 : decode cX8_at 2 = .ok (.lconst 0, 1) := by decide +kernel
theorem dX8_at_3 : decode cX8_at 3 = .ok (.ldc2_w 112, 3) := by decide +kernel
theorem dX8_at_6 : decode cX8_at 6 = .ok (.invokestatic 92, 3) := by decide +kernel
theorem dX8_at_9 : decode cX8_at 9 = .ok (.ifCond .eq 12, 3) := by decide +kernel
theorem dX8_at_12 : decode cX8_at 12 = .ok (.aload_n 0, 1) := by decide +kernel
theorem dX8_at_13 : decode cX8_at 13 = .ok (.getfield 44, 3) := by decide +kernel
theorem dX8_at_16 : decode cX8_at 16 = .ok (.iload_n 1, 1) := by decide +kernel
theorem dX8_at_17 : decode cX8_at 17 = .ok (.iaload, 1) := by decide +kernel
theorem dX8_at_18 : decode cX8_at 18 = .ok (.goto 5, 3) := by decide +kernel
theorem dX8_at_21 : decode cX8_at 21 = .ok (.bipush (-2), 2) := by decide +kernel
theorem dX8_at_23 : decode cX8_at 23 = .ok (.ireturn, 1) := by decide +kernel
theorem dX8_plan_0 : decode cX8_plan 0 = .ok (.iload_n 1, 1) := by decide +kernel
theorem dX8_plan_1 : decode cX8_plan 1 = .ok (.i2l, 1) := by decide +kernel
theorem dX8_plan_2 : decode cX8_plan 2 = .ok (.lconst 0, 1) := by decide +kernel
theorem dX8_plan_3 : decode cX8_plan 3 = .ok (.ldc2_w 357, 3) := by decide +kernel
theorem dX8_plan_6 : decode cX8_plan 6 = .ok (.invokestatic 92, 3) := by decide +kernel
theorem dX8_plan_9 : decode cX8_plan 9 = .ok (.ifCond .ne 6, 3) := by decide +kernel
theorem dX8_plan_12 : decode cX8_plan 12 = .ok (.bipush (-2), 2) := by decide +kernel
theorem dX8_plan_14 : decode cX8_plan 14 = .ok (.ireturn, 1) := by decide +kernel
theorem dX8_plan_15 : decode cX8_plan 15 = .ok (.aload_n 0, 1) := by decide +kernel
theorem dX8_plan_16 : decode cX8_plan 16 = .ok (.invokevirtual 354, 3) := by decide +kernel
theorem dX8_plan_19 : decode cX8_plan 19 = .ok (.iload_n 1, 1) := by decide +kernel
theorem dX8_plan_20 : decode cX8_plan 20 = .ok (.iconst 2, 1) := by decide +kernel
theorem dX8_plan_21 : decode cX8_plan 21 = .ok (.if_icmp .ge 19, 3) := by decide +kernel
theorem dX8_plan_24 : decode cX8_plan 24 = .ok (.iload_n 1, 1) := by decide +kernel
theorem dX8_plan_25 : decode cX8_plan 25 = .ok (.ifCond .ne 10, 3) := by decide +kernel
theorem dX8_plan_28 : decode cX8_plan 28 = .ok (.aload_n 0, 1) := by decide +kernel
theorem dX8_plan_29 : decode cX8_plan 29 = .ok (.invokevirtual 359, 3) := by decide +kernel
theorem dX8_plan_32 : decode cX8_plan 32 = .ok (.goto 7, 3) := by decide +kernel
theorem dX8_plan_35 : decode cX8_plan 35 = .ok (.aload_n 0, 1) := by decide +kernel
theorem dX8_plan_36 : decode cX8_plan 36 = .ok (.invokevirtual 362, 3) := by decide +kernel
theorem dX8_plan_39 : decode cX8_plan 39 = .ok (.ireturn, 1) := by decide +kernel
theorem dX8_plan_40 : decode cX8_plan 40 = .ok (.iload_n 1, 1) := by decide +kernel
theorem dX8_plan_41 : decode cX8_plan 41 = .ok (.iconst 3, 1) := by decide +kernel
theorem dX8_plan_42 : decode cX8_plan 42 = .ok (.if_icmp .ne 10, 3) := by decide +kernel
theorem dX8_plan_45 : decode cX8_plan 45 = .ok (.aload_n 0, 1) := by decide +kernel
theorem dX8_plan_46 : decode cX8_plan 46 = .ok (.invokevirtual 365, 3) := by decide +kernel
theorem dX8_plan_49 : decode cX8_plan 49 = .ok (.goto 15, 3) := by decide +kernel
theorem dX8_plan_52 : decode cX8_plan 52 = .ok (.aload_n 0, 1) := by decide +kernel
theorem dX8_plan_53 : decode cX8_plan 53 = .ok (.invokevirtual 368, 3) := by decide +kernel
theorem dX8_plan_56 : decode cX8_plan 56 = .ok (.ifCond .eq 7, 3) := by decide +kernel
theorem dX8_plan_59 : decode cX8_plan 59 = .ok (.iconst 1, 1) := by decide +kernel
theorem dX8_plan_60 : decode cX8_plan 60 = .ok (.goto 4, 3) := by decide +kernel
theorem dX8_plan_63 : decode cX8_plan 63 = .ok (.iconst 0, 1) := by decide +kernel
theorem dX8_plan_64 : decode cX8_plan 64 = .ok (.ireturn, 1) := by decide +kernel
theorem dX8_state_0 : decode cX8_state 0 = .ok (.bipush 12, 2) := by decide +kernel
theorem dX8_state_2 : decode cX8_state 2 = .ok (.iload_n 0, 1) := by decide +kernel
theorem dX8_state_3 : decode cX8_state 3 = .ok (.imul, 1) := by decide +kernel
theorem dX8_state_4 : decode cX8_state 4 = .ok (.iconst 4, 1) := by decide +kernel
theorem dX8_state_5 : decode cX8_state 5 = .ok (.iload_n 1, 1) := by decide +kernel
theorem dX8_state_6 : decode cX8_state 6 = .ok (.imul, 1) := by decide +kernel
theorem dX8_state_7 : decode cX8_state 7 = .ok (.iadd, 1) := by decide +kernel
theorem dX8_state_8 : decode cX8_state 8 = .ok (.iload_n 2, 1) := by decide +kernel
theorem dX8_state_9 : decode cX8_state 9 = .ok (.iadd, 1) := by decide +kernel
theorem dX8_state_10 : decode cX8_state 10 = .ok (.iconst 1, 1) := by decide +kernel
theorem dX8_state_11 : decode cX8_state 11 = .ok (.isub, 1) := by decide +kernel
theorem dX8_state_12 : decode cX8_state 12 = .ok (.ireturn, 1) := by decide +kernel
theorem dX8_goesBy_0 : decode cX8_goesBy 0 = .ok (.iload_n 3, 1) := by decide +kernel
theorem dX8_goesBy_1 : decode cX8_goesBy 1 = .ok (.istore 4, 2) := by decide +kernel
theorem dX8_goesBy_3 : decode cX8_goesBy 3 = .ok (.iconst 0, 1) := by decide +kernel
theorem dX8_goesBy_4 : decode cX8_goesBy 4 = .ok (.istore 5, 2) := by decide +kernel
theorem dX8_goesBy_6 : decode cX8_goesBy 6 = .ok (.iload 5, 2) := by decide +kernel
theorem dX8_goesBy_8 : decode cX8_goesBy 8 = .ok (.bipush 8, 2) := by decide +kernel
theorem dX8_goesBy_10 : decode cX8_goesBy 10 = .ok (.if_icmp .ge 48, 3) := by decide +kernel
theorem dX8_goesBy_13 : decode cX8_goesBy 13 = .ok (.aload_n 0, 1) := by decide +kernel
theorem dX8_goesBy_14 : decode cX8_goesBy 14 = .ok (.iload 5, 2) := by decide +kernel
theorem dX8_goesBy_16 : decode cX8_goesBy 16 = .ok (.invokevirtual 342, 3) := by decide +kernel
theorem dX8_goesBy_19 : decode cX8_goesBy 19 = .ok (.ifCond .eq 33, 3) := by decide +kernel
theorem dX8_goesBy_22 : decode cX8_goesBy 22 = .ok (.aload_n 0, 1) := by decide +kernel
theorem dX8_goesBy_23 : decode cX8_goesBy 23 = .ok (.getfield 26, 3) := by decide +kernel
theorem dX8_goesBy_26 : decode cX8_goesBy 26 = .ok (.iload 5, 2) := by decide +kernel
theorem dX8_goesBy_28 : decode cX8_goesBy 28 = .ok (.iaload, 1) := by decide +kernel
theorem dX8_goesBy_29 : decode cX8_goesBy 29 = .ok (.iload_n 1, 1) := by decide +kernel
theorem dX8_goesBy_30 : decode cX8_goesBy 30 = .ok (.if_icmp .gt 22, 3) := by decide +kernel
theorem dX8_goesBy_33 : decode cX8_goesBy 33 = .ok (.aload_n 0, 1) := by decide +kernel
theorem dX8_goesBy_34 : decode cX8_goesBy 34 = .ok (.iload 5, 2) := by decide +kernel
theorem dX8_goesBy_36 : decode cX8_goesBy 36 = .ok (.iload_n 2, 1) := by decide +kernel
theorem dX8_goesBy_37 : decode cX8_goesBy 37 = .ok (.invokevirtual 339, 3) := by decide +kernel
theorem dX8_goesBy_40 : decode cX8_goesBy 40 = .ok (.ifCond .eq 12, 3) := by decide +kernel
theorem dX8_goesBy_43 : decode cX8_goesBy 43 = .ok (.iload 4, 2) := by decide +kernel
theorem dX8_goesBy_45 : decode cX8_goesBy 45 = .ok (.iconst 1, 1) := by decide +kernel
theorem dX8_goesBy_46 : decode cX8_goesBy 46 = .ok (.iload 5, 2) := by decide +kernel
theorem dX8_goesBy_48 : decode cX8_goesBy 48 = .ok (.ishl, 1) := by decide +kernel
theorem dX8_goesBy_49 : decode cX8_goesBy 49 = .ok (.ior, 1) := by decide +kernel
theorem dX8_goesBy_50 : decode cX8_goesBy 50 = .ok (.istore 4, 2) := by decide +kernel
theorem dX8_goesBy_52 : decode cX8_goesBy 52 = .ok (.iinc 5 1, 3) := by decide +kernel
theorem dX8_goesBy_55 : decode cX8_goesBy 55 = .ok (.goto (-49), 3) := by decide +kernel
theorem dX8_goesBy_58 : decode cX8_goesBy 58 = .ok (.iload 4, 2) := by decide +kernel
theorem dX8_goesBy_60 : decode cX8_goesBy 60 = .ok (.ireturn, 1) := by decide +kernel
theorem dX8_costBy_0 : decode cX8_costBy 0 = .ok (.iconst 0, 1) := by decide +kernel
theorem dX8_costBy_1 : decode cX8_costBy 1 = .ok (.istore 4, 2) := by decide +kernel
theorem dX8_costBy_3 : decode cX8_costBy 3 = .ok (.iconst 0, 1) := by decide +kernel
theorem dX8_costBy_4 : decode cX8_costBy 4 = .ok (.istore 5, 2) := by decide +kernel
theorem dX8_costBy_6 : decode cX8_costBy 6 = .ok (.iload 5, 2) := by decide +kernel
theorem dX8_costBy_8 : decode cX8_costBy 8 = .ok (.bipush 8, 2) := by decide +kernel
theorem dX8_costBy_10 : decode cX8_costBy 10 = .ok (.if_icmp .ge 44, 3) := by decide +kernel
theorem dX8_costBy_13 : decode cX8_costBy 13 = .ok (.iload 4, 2) := by decide +kernel
theorem dX8_costBy_15 : decode cX8_costBy 15 = .ok (.iload_n 3, 1) := by decide +kernel
theorem dX8_costBy_16 : decode cX8_costBy 16 = .ok (.iload_n 2, 1) := by decide +kernel
theorem dX8_costBy_17 : decode cX8_costBy 17 = .ok (.iconst (-1), 1) := by decide +kernel
theorem dX8_costBy_18 : decode cX8_costBy 18 = .ok (.ixor, 1) := by decide +kernel
theorem dX8_costBy_19 : decode cX8_costBy 19 = .ok (.iand, 1) := by decide +kernel
theorem dX8_costBy_20 : decode cX8_costBy 20 = .ok (.iload 5, 2) := by decide +kernel
theorem dX8_costBy_22 : decode cX8_costBy 22 = .ok (.ishr, 1) := by decide +kernel
theorem dX8_costBy_23 : decode cX8_costBy 23 = .ok (.iconst 1, 1) := by decide +kernel
theorem dX8_costBy_24 : decode cX8_costBy 24 = .ok (.iand, 1) := by decide +kernel
theorem dX8_costBy_25 : decode cX8_costBy 25 = .ok (.iconst 1, 1) := by decide +kernel
theorem dX8_costBy_26 : decode cX8_costBy 26 = .ok (.if_icmp .ne 18, 3) := by decide +kernel
theorem dX8_costBy_29 : decode cX8_costBy 29 = .ok (.aload_n 0, 1) := by decide +kernel
theorem dX8_costBy_30 : decode cX8_costBy 30 = .ok (.getfield 54, 3) := by decide +kernel
theorem dX8_costBy_33 : decode cX8_costBy 33 = .ok (.bipush 25, 2) := by decide +kernel
theorem dX8_costBy_35 : decode cX8_costBy 35 = .ok (.iload 5, 2) := by decide +kernel
theorem dX8_costBy_37 : decode cX8_costBy 37 = .ok (.imul, 1) := by decide +kernel
theorem dX8_costBy_38 : decode cX8_costBy 38 = .ok (.iload_n 1, 1) := by decide +kernel
theorem dX8_costBy_39 : decode cX8_costBy 39 = .ok (.iadd, 1) := by decide +kernel
theorem dX8_costBy_40 : decode cX8_costBy 40 = .ok (.iaload, 1) := by decide +kernel
theorem dX8_costBy_41 : decode cX8_costBy 41 = .ok (.goto 4, 3) := by decide +kernel
theorem dX8_costBy_44 : decode cX8_costBy 44 = .ok (.iconst 0, 1) := by decide +kernel
theorem dX8_costBy_45 : decode cX8_costBy 45 = .ok (.iadd, 1) := by decide +kernel
theorem dX8_costBy_46 : decode cX8_costBy 46 = .ok (.istore 4, 2) := by decide +kernel
theorem dX8_costBy_48 : decode cX8_costBy 48 = .ok (.iinc 5 1, 3) := by decide +kernel
theorem dX8_costBy_51 : decode cX8_costBy 51 = .ok (.goto (-45), 3) := by decide +kernel
theorem dX8_costBy_54 : decode cX8_costBy 54 = .ok (.iload 4, 2) := by decide +kernel
theorem dX8_costBy_56 : decode cX8_costBy 56 = .ok (.ireturn, 1) := by decide +kernel
theorem dX8_allSet_0 : decode cX8_allSet 0 = .ok (.iconst 0, 1) := by decide +kernel
theorem dX8_allSet_1 : decode cX8_allSet 1 = .ok (.istore_n 1, 1) := by decide +kernel
theorem dX8_allSet_2 : decode cX8_allSet 2 = .ok (.iconst 0, 1) := by decide +kernel
theorem dX8_allSet_3 : decode cX8_allSet 3 = .ok (.istore_n 2, 1) := by decide +kernel
theorem dX8_allSet_4 : decode cX8_allSet 4 = .ok (.iload_n 2, 1) := by decide +kernel
theorem dX8_allSet_5 : decode cX8_allSet 5 = .ok (.bipush 8, 2) := by decide +kernel
theorem dX8_allSet_7 : decode cX8_allSet 7 = .ok (.if_icmp .ge 27, 3) := by decide +kernel
theorem dX8_allSet_10 : decode cX8_allSet 10 = .ok (.iload_n 1, 1) := by decide +kernel
theorem dX8_allSet_11 : decode cX8_allSet 11 = .ok (.aload_n 0, 1) := by decide +kernel
theorem dX8_allSet_12 : decode cX8_allSet 12 = .ok (.iload_n 2, 1) := by decide +kernel
theorem dX8_allSet_13 : decode cX8_allSet 13 = .ok (.invokevirtual 342, 3) := by decide +kernel
theorem dX8_allSet_16 : decode cX8_allSet 16 = .ok (.ifCond .eq 7, 3) := by decide +kernel
theorem dX8_allSet_19 : decode cX8_allSet 19 = .ok (.iconst 1, 1) := by decide +kernel
theorem dX8_allSet_20 : decode cX8_allSet 20 = .ok (.goto 4, 3) := by decide +kernel
theorem dX8_allSet_23 : decode cX8_allSet 23 = .ok (.iconst 0, 1) := by decide +kernel
theorem dX8_allSet_24 : decode cX8_allSet 24 = .ok (.iload_n 2, 1) := by decide +kernel
theorem dX8_allSet_25 : decode cX8_allSet 25 = .ok (.ishl, 1) := by decide +kernel
theorem dX8_allSet_26 : decode cX8_allSet 26 = .ok (.ior, 1) := by decide +kernel
theorem dX8_allSet_27 : decode cX8_allSet 27 = .ok (.istore_n 1, 1) := by decide +kernel
theorem dX8_allSet_28 : decode cX8_allSet 28 = .ok (.iinc 2 1, 3) := by decide +kernel
theorem dX8_allSet_31 : decode cX8_allSet 31 = .ok (.goto (-27), 3) := by decide +kernel
theorem dX8_allSet_34 : decode cX8_allSet 34 = .ok (.iload_n 1, 1) := by decide +kernel
theorem dX8_allSet_35 : decode cX8_allSet 35 = .ok (.ireturn, 1) := by decide +kernel
theorem dX8_leastFrom_0 : decode cX8_leastFrom 0 = .ok (.aload_n 0, 1) := by decide +kernel
theorem dX8_leastFrom_1 : decode cX8_leastFrom 1 = .ok (.iload_n 1, 1) := by decide +kernel
theorem dX8_leastFrom_2 : decode cX8_leastFrom 2 = .ok (.iload_n 3, 1) := by decide +kernel
theorem dX8_leastFrom_3 : decode cX8_leastFrom 3 = .ok (.iload_n 2, 1) := by decide +kernel
theorem dX8_leastFrom_4 : decode cX8_leastFrom 4 = .ok (.invokevirtual 371, 3) := by decide +kernel
theorem dX8_leastFrom_7 : decode cX8_leastFrom 7 = .ok (.istore 6, 2) := by decide +kernel
theorem dX8_leastFrom_9 : decode cX8_leastFrom 9 = .ok (.aload_n 0, 1) := by decide +kernel
theorem dX8_leastFrom_10 : decode cX8_leastFrom 10 = .ok (.getfield 51, 3) := by decide +kernel
theorem dX8_leastFrom_13 : decode cX8_leastFrom 13 = .ok (.sipush 3072, 3) := by decide +kernel
theorem dX8_leastFrom_16 : decode cX8_leastFrom 16 = .ok (.iload_n 1, 1) := by decide +kernel
theorem dX8_leastFrom_17 : decode cX8_leastFrom 17 = .ok (.iconst 1, 1) := by decide +kernel
theorem dX8_leastFrom_18 : decode cX8_leastFrom 18 = .ok (.iadd, 1) := by decide +kernel
theorem dX8_leastFrom_19 : decode cX8_leastFrom 19 = .ok (.imul, 1) := by decide +kernel
theorem dX8_leastFrom_20 : decode cX8_leastFrom 20 = .ok (.iload 6, 2) := by decide +kernel
theorem dX8_leastFrom_22 : decode cX8_leastFrom 22 = .ok (.iload_n 3, 1) := by decide +kernel
theorem dX8_leastFrom_23 : decode cX8_leastFrom 23 = .ok (.iload 4, 2) := by decide +kernel
theorem dX8_leastFrom_25 : decode cX8_leastFrom 25 = .ok (.invokestatic 374, 3) := by decide +kernel
theorem dX8_leastFrom_28 : decode cX8_leastFrom 28 = .ok (.iadd, 1) := by decide +kernel
theorem dX8_leastFrom_29 : decode cX8_leastFrom 29 = .ok (.iaload, 1) := by decide +kernel
theorem dX8_leastFrom_30 : decode cX8_leastFrom 30 = .ok (.istore 7, 2) := by decide +kernel
theorem dX8_leastFrom_32 : decode cX8_leastFrom 32 = .ok (.iload 7, 2) := by decide +kernel
theorem dX8_leastFrom_34 : decode cX8_leastFrom 34 = .ok (.ldc_w 377, 3) := by decide +kernel
theorem dX8_leastFrom_37 : decode cX8_leastFrom 37 = .ok (.if_icmp .lt 9, 3) := by decide +kernel
theorem dX8_leastFrom_40 : decode cX8_leastFrom 40 = .ok (.ldc_w 377, 3) := by decide +kernel
theorem dX8_leastFrom_43 : decode cX8_leastFrom 43 = .ok (.goto 23, 3) := by decide +kernel
theorem dX8_leastFrom_46 : decode cX8_leastFrom 46 = .ok (.iload 7, 2) := by decide +kernel
theorem dX8_leastFrom_48 : decode cX8_leastFrom 48 = .ok (.iload 5, 2) := by decide +kernel
theorem dX8_leastFrom_50 : decode cX8_leastFrom 50 = .ok (.ifCond .eq 14, 3) := by decide +kernel
theorem dX8_leastFrom_53 : decode cX8_leastFrom 53 = .ok (.aload_n 0, 1) := by decide +kernel
theorem dX8_leastFrom_54 : decode cX8_leastFrom 54 = .ok (.iload_n 1, 1) := by decide +kernel
theorem dX8_leastFrom_55 : decode cX8_leastFrom 55 = .ok (.iload_n 2, 1) := by decide +kernel
theorem dX8_leastFrom_56 : decode cX8_leastFrom 56 = .ok (.iload 6, 2) := by decide +kernel
theorem dX8_leastFrom_58 : decode cX8_leastFrom 58 = .ok (.invokevirtual 378, 3) := by decide +kernel
theorem dX8_leastFrom_61 : decode cX8_leastFrom 61 = .ok (.goto 4, 3) := by decide +kernel
theorem dX8_leastFrom_64 : decode cX8_leastFrom 64 = .ok (.iconst 0, 1) := by decide +kernel
theorem dX8_leastFrom_65 : decode cX8_leastFrom 65 = .ok (.iadd, 1) := by decide +kernel
theorem dX8_leastFrom_66 : decode cX8_leastFrom 66 = .ok (.ireturn, 1) := by decide +kernel
theorem dX8_step_0 : decode cX8_step 0 = .ok (.iload 5, 2) := by decide +kernel
theorem dX8_step_2 : decode cX8_step 2 = .ok (.iload_n 3, 1) := by decide +kernel
theorem dX8_step_3 : decode cX8_step 3 = .ok (.if_icmp .ne 34, 3) := by decide +kernel
theorem dX8_step_6 : decode cX8_step 6 = .ok (.aload_n 0, 1) := by decide +kernel
theorem dX8_step_7 : decode cX8_step 7 = .ok (.iload_n 1, 1) := by decide +kernel
theorem dX8_step_8 : decode cX8_step 8 = .ok (.iload_n 2, 1) := by decide +kernel
theorem dX8_step_9 : decode cX8_step 9 = .ok (.iload 5, 2) := by decide +kernel
theorem dX8_step_11 : decode cX8_step 11 = .ok (.iload 4, 2) := by decide +kernel
theorem dX8_step_13 : decode cX8_step 13 = .ok (.aload_n 0, 1) := by decide +kernel
theorem dX8_step_14 : decode cX8_step 14 = .ok (.getfield 32, 3) := by decide +kernel
theorem dX8_step_17 : decode cX8_step 17 = .ok (.if_icmp .ge 10, 3) := by decide +kernel
theorem dX8_step_20 : decode cX8_step 20 = .ok (.iload 4, 2) := by decide +kernel
theorem dX8_step_22 : decode cX8_step 22 = .ok (.iconst 1, 1) := by decide +kernel
theorem dX8_step_23 : decode cX8_step 23 = .ok (.iadd, 1) := by decide +kernel
theorem dX8_step_24 : decode cX8_step 24 = .ok (.goto 7, 3) := by decide +kernel
theorem dX8_step_27 : decode cX8_step 27 = .ok (.aload_n 0, 1) := by decide +kernel
theorem dX8_step_28 : decode cX8_step 28 = .ok (.getfield 32, 3) := by decide +kernel
theorem dX8_step_31 : decode cX8_step 31 = .ok (.iload 6, 2) := by decide +kernel
theorem dX8_step_33 : decode cX8_step 33 = .ok (.invokevirtual 381, 3) := by decide +kernel
theorem dX8_step_36 : decode cX8_step 36 = .ok (.ireturn, 1) := by decide +kernel
theorem dX8_step_37 : decode cX8_step 37 = .ok (.iload 4, 2) := by decide +kernel
theorem dX8_step_39 : decode cX8_step 39 = .ok (.aload_n 0, 1) := by decide +kernel
theorem dX8_step_40 : decode cX8_step 40 = .ok (.getfield 32, 3) := by decide +kernel
theorem dX8_step_43 : decode cX8_step 43 = .ok (.if_icmp .ge 7, 3) := by decide +kernel
theorem dX8_step_46 : decode cX8_step 46 = .ok (.ldc_w 377, 3) := by decide +kernel
theorem dX8_step_49 : decode cX8_step 49 = .ok (.ireturn, 1) := by decide +kernel
theorem dX8_step_50 : decode cX8_step 50 = .ok (.aload_n 0, 1) := by decide +kernel
theorem dX8_step_51 : decode cX8_step 51 = .ok (.iload_n 1, 1) := by decide +kernel
theorem dX8_step_52 : decode cX8_step 52 = .ok (.iload_n 2, 1) := by decide +kernel
theorem dX8_step_53 : decode cX8_step 53 = .ok (.iload 5, 2) := by decide +kernel
theorem dX8_step_55 : decode cX8_step 55 = .ok (.iconst 1, 1) := by decide +kernel
theorem dX8_step_56 : decode cX8_step 56 = .ok (.iload 6, 2) := by decide +kernel
theorem dX8_step_58 : decode cX8_step 58 = .ok (.invokevirtual 381, 3) := by decide +kernel
theorem dX8_step_61 : decode cX8_step 61 = .ok (.istore 7, 2) := by decide +kernel
theorem dX8_step_63 : decode cX8_step 63 = .ok (.iload 7, 2) := by decide +kernel
theorem dX8_step_65 : decode cX8_step 65 = .ok (.ldc_w 377, 3) := by decide +kernel
theorem dX8_step_68 : decode cX8_step 68 = .ok (.if_icmp .lt 9, 3) := by decide +kernel
theorem dX8_step_71 : decode cX8_step 71 = .ok (.ldc_w 377, 3) := by decide +kernel
theorem dX8_step_74 : decode cX8_step 74 = .ok (.goto 31, 3) := by decide +kernel
theorem dX8_step_77 : decode cX8_step 77 = .ok (.iload 7, 2) := by decide +kernel
theorem dX8_step_79 : decode cX8_step 79 = .ok (.iload 6, 2) := by decide +kernel
theorem dX8_step_81 : decode cX8_step 81 = .ok (.ifCond .eq 22, 3) := by decide +kernel
theorem dX8_step_84 : decode cX8_step 84 = .ok (.aload_n 0, 1) := by decide +kernel
theorem dX8_step_85 : decode cX8_step 85 = .ok (.getfield 57, 3) := by decide +kernel
theorem dX8_step_88 : decode cX8_step 88 = .ok (.bipush 9, 2) := by decide +kernel
theorem dX8_step_90 : decode cX8_step 90 = .ok (.iload_n 1, 1) := by decide +kernel
theorem dX8_step_91 : decode cX8_step 91 = .ok (.imul, 1) := by decide +kernel
theorem dX8_step_92 : decode cX8_step 92 = .ok (.iconst 3, 1) := by decide +kernel
theorem dX8_step_93 : decode cX8_step 93 = .ok (.iload 5, 2) := by decide +kernel
theorem dX8_step_95 : decode cX8_step 95 = .ok (.imul, 1) := by decide +kernel
theorem dX8_step_96 : decode cX8_step 96 = .ok (.iadd, 1) := by decide +kernel
theorem dX8_step_97 : decode cX8_step 97 = .ok (.iload_n 3, 1) := by decide +kernel
theorem dX8_step_98 : decode cX8_step 98 = .ok (.iadd, 1) := by decide +kernel
theorem dX8_step_99 : decode cX8_step 99 = .ok (.iaload, 1) := by decide +kernel
theorem dX8_step_100 : decode cX8_step 100 = .ok (.goto 4, 3) := by decide +kernel
theorem dX8_step_103 : decode cX8_step 103 = .ok (.iconst 1, 1) := by decide +kernel
theorem dX8_step_104 : decode cX8_step 104 = .ok (.iadd, 1) := by decide +kernel
theorem dX8_step_105 : decode cX8_step 105 = .ok (.ireturn, 1) := by decide +kernel
theorem dX8_fills_0 : decode cX8_fills 0 = .ok (.aload_n 0, 1) := by decide +kernel
theorem dX8_fills_1 : decode cX8_fills 1 = .ok (.invokevirtual 385, 3) := by decide +kernel
theorem dX8_fills_4 : decode cX8_fills 4 = .ok (.istore_n 2, 1) := by decide +kernel
theorem dX8_fills_5 : decode cX8_fills 5 = .ok (.iconst 0, 1) := by decide +kernel
theorem dX8_fills_6 : decode cX8_fills 6 = .ok (.istore_n 3, 1) := by decide +kernel
theorem dX8_fills_7 : decode cX8_fills 7 = .ok (.iload_n 3, 1) := by decide +kernel
theorem dX8_fills_8 : decode cX8_fills 8 = .ok (.bipush 8, 2) := by decide +kernel
theorem dX8_fills_10 : decode cX8_fills 10 = .ok (.if_icmp .ge 67, 3) := by decide +kernel
theorem dX8_fills_13 : decode cX8_fills 13 = .ok (.iconst 0, 1) := by decide +kernel
theorem dX8_fills_14 : decode cX8_fills 14 = .ok (.istore 4, 2) := by decide +kernel
theorem dX8_fills_16 : decode cX8_fills 16 = .ok (.iload 4, 2) := by decide +kernel
theorem dX8_fills_18 : decode cX8_fills 18 = .ok (.bipush 24, 2) := by decide +kernel
theorem dX8_fills_20 : decode cX8_fills 20 = .ok (.if_icmp .gt 51, 3) := by decide +kernel
theorem dX8_fills_23 : decode cX8_fills 23 = .ok (.aload_n 0, 1) := by decide +kernel
theorem dX8_fills_24 : decode cX8_fills 24 = .ok (.getfield 54, 3) := by decide +kernel
theorem dX8_fills_27 : decode cX8_fills 27 = .ok (.bipush 25, 2) := by decide +kernel
theorem dX8_fills_29 : decode cX8_fills 29 = .ok (.iload_n 3, 1) := by decide +kernel
theorem dX8_fills_30 : decode cX8_fills 30 = .ok (.imul, 1) := by decide +kernel
theorem dX8_fills_31 : decode cX8_fills 31 = .ok (.iload 4, 2) := by decide +kernel
theorem dX8_fills_33 : decode cX8_fills 33 = .ok (.iadd, 1) := by decide +kernel
theorem dX8_fills_34 : decode cX8_fills 34 = .ok (.aload_n 0, 1) := by decide +kernel
theorem dX8_fills_35 : decode cX8_fills 35 = .ok (.iload_n 3, 1) := by decide +kernel
theorem dX8_fills_36 : decode cX8_fills 36 = .ok (.invokevirtual 342, 3) := by decide +kernel
theorem dX8_fills_39 : decode cX8_fills 39 = .ok (.ifCond .eq 24, 3) := by decide +kernel
theorem dX8_fills_42 : decode cX8_fills 42 = .ok (.iload 4, 2) := by decide +kernel
theorem dX8_fills_44 : decode cX8_fills 44 = .ok (.aload_n 0, 1) := by decide +kernel
theorem dX8_fills_45 : decode cX8_fills 45 = .ok (.getfield 26, 3) := by decide +kernel
theorem dX8_fills_48 : decode cX8_fills 48 = .ok (.iload_n 3, 1) := by decide +kernel
theorem dX8_fills_49 : decode cX8_fills 49 = .ok (.iaload, 1) := by decide +kernel
theorem dX8_fills_50 : decode cX8_fills 50 = .ok (.if_icmp .lt 13, 3) := by decide +kernel
theorem dX8_fills_53 : decode cX8_fills 53 = .ok (.aload_n 0, 1) := by decide +kernel
theorem dX8_fills_54 : decode cX8_fills 54 = .ok (.iload_n 3, 1) := by decide +kernel
theorem dX8_fills_55 : decode cX8_fills 55 = .ok (.iload 4, 2) := by decide +kernel
theorem dX8_fills_57 : decode cX8_fills 57 = .ok (.invokevirtual 348, 3) := by decide +kernel
theorem dX8_fills_60 : decode cX8_fills 60 = .ok (.goto 4, 3) := by decide +kernel
theorem dX8_fills_63 : decode cX8_fills 63 = .ok (.iconst 0, 1) := by decide +kernel
theorem dX8_fills_64 : decode cX8_fills 64 = .ok (.iastore, 1) := by decide +kernel
theorem dX8_fills_65 : decode cX8_fills 65 = .ok (.iinc 4 1, 3) := by decide +kernel
theorem dX8_fills_68 : decode cX8_fills 68 = .ok (.goto (-52), 3) := by decide +kernel
theorem dX8_fills_71 : decode cX8_fills 71 = .ok (.iinc 3 1, 3) := by decide +kernel
theorem dX8_fills_74 : decode cX8_fills 74 = .ok (.goto (-67), 3) := by decide +kernel
theorem dX8_fills_77 : decode cX8_fills 77 = .ok (.iconst 1, 1) := by decide +kernel
theorem dX8_fills_78 : decode cX8_fills 78 = .ok (.istore_n 3, 1) := by decide +kernel
theorem dX8_fills_79 : decode cX8_fills 79 = .ok (.iload_n 3, 1) := by decide +kernel
theorem dX8_fills_80 : decode cX8_fills 80 = .ok (.bipush 24, 2) := by decide +kernel
theorem dX8_fills_82 : decode cX8_fills 82 = .ok (.if_icmp .ge 65, 3) := by decide +kernel
theorem dX8_fills_85 : decode cX8_fills 85 = .ok (.iconst 0, 1) := by decide +kernel
theorem dX8_fills_86 : decode cX8_fills 86 = .ok (.istore 4, 2) := by decide +kernel
theorem dX8_fills_88 : decode cX8_fills 88 = .ok (.iload 4, 2) := by decide +kernel
theorem dX8_fills_90 : decode cX8_fills 90 = .ok (.bipush 9, 2) := by decide +kernel
theorem dX8_fills_92 : decode cX8_fills 92 = .ok (.if_icmp .ge 49, 3) := by decide +kernel
theorem dX8_fills_95 : decode cX8_fills 95 = .ok (.aload_n 0, 1) := by decide +kernel
theorem dX8_fills_96 : decode cX8_fills 96 = .ok (.getfield 57, 3) := by decide +kernel
theorem dX8_fills_99 : decode cX8_fills 99 = .ok (.bipush 9, 2) := by decide +kernel
theorem dX8_fills_101 : decode cX8_fills 101 = .ok (.iload_n 3, 1) := by decide +kernel
theorem dX8_fills_102 : decode cX8_fills 102 = .ok (.imul, 1) := by decide +kernel
theorem dX8_fills_103 : decode cX8_fills 103 = .ok (.iload 4, 2) := by decide +kernel
theorem dX8_fills_105 : decode cX8_fills 105 = .ok (.iadd, 1) := by decide +kernel
theorem dX8_fills_106 : decode cX8_fills 106 = .ok (.iload 4, 2) := by decide +kernel
theorem dX8_fills_108 : decode cX8_fills 108 = .ok (.iconst 3, 1) := by decide +kernel
theorem dX8_fills_109 : decode cX8_fills 109 = .ok (.idiv, 1) := by decide +kernel
theorem dX8_fills_110 : decode cX8_fills 110 = .ok (.iload 4, 2) := by decide +kernel
theorem dX8_fills_112 : decode cX8_fills 112 = .ok (.iconst 3, 1) := by decide +kernel
theorem dX8_fills_113 : decode cX8_fills 113 = .ok (.irem, 1) := by decide +kernel
theorem dX8_fills_114 : decode cX8_fills 114 = .ok (.if_icmp .ne 7, 3) := by decide +kernel
theorem dX8_fills_117 : decode cX8_fills 117 = .ok (.iconst 0, 1) := by decide +kernel
theorem dX8_fills_118 : decode cX8_fills 118 = .ok (.goto 16, 3) := by decide +kernel
theorem dX8_fills_121 : decode cX8_fills 121 = .ok (.aload_n 0, 1) := by decide +kernel
theorem dX8_fills_122 : decode cX8_fills 122 = .ok (.iload_n 3, 1) := by decide +kernel
theorem dX8_fills_123 : decode cX8_fills 123 = .ok (.iload 4, 2) := by decide +kernel
theorem dX8_fills_125 : decode cX8_fills 125 = .ok (.iconst 3, 1) := by decide +kernel
theorem dX8_fills_126 : decode cX8_fills 126 = .ok (.idiv, 1) := by decide +kernel
theorem dX8_fills_127 : decode cX8_fills 127 = .ok (.iload 4, 2) := by decide +kernel
theorem dX8_fills_129 : decode cX8_fills 129 = .ok (.iconst 3, 1) := by decide +kernel
theorem dX8_fills_130 : decode cX8_fills 130 = .ok (.irem, 1) := by decide +kernel
theorem dX8_fills_131 : decode cX8_fills 131 = .ok (.invokevirtual 351, 3) := by decide +kernel
theorem dX8_fills_134 : decode cX8_fills 134 = .ok (.iastore, 1) := by decide +kernel
theorem dX8_fills_135 : decode cX8_fills 135 = .ok (.iinc 4 1, 3) := by decide +kernel
theorem dX8_fills_138 : decode cX8_fills 138 = .ok (.goto (-50), 3) := by decide +kernel
theorem dX8_fills_141 : decode cX8_fills 141 = .ok (.iinc 3 1, 3) := by decide +kernel
theorem dX8_fills_144 : decode cX8_fills 144 = .ok (.goto (-65), 3) := by decide +kernel
theorem dX8_fills_147 : decode cX8_fills 147 = .ok (.iconst 0, 1) := by decide +kernel
theorem dX8_fills_148 : decode cX8_fills 148 = .ok (.istore_n 3, 1) := by decide +kernel
theorem dX8_fills_149 : decode cX8_fills 149 = .ok (.iload_n 3, 1) := by decide +kernel
theorem dX8_fills_150 : decode cX8_fills 150 = .ok (.sipush 256, 3) := by decide +kernel
theorem dX8_fills_153 : decode cX8_fills 153 = .ok (.if_icmp .ge 76, 3) := by decide +kernel
theorem dX8_fills_156 : decode cX8_fills 156 = .ok (.iload_n 1, 1) := by decide +kernel
theorem dX8_fills_157 : decode cX8_fills 157 = .ok (.ifCond .eq 16, 3) := by decide +kernel
theorem dX8_fills_160 : decode cX8_fills 160 = .ok (.aload_n 0, 1) := by decide +kernel
theorem dX8_fills_161 : decode cX8_fills 161 = .ok (.bipush 24, 2) := by decide +kernel
theorem dX8_fills_163 : decode cX8_fills 163 = .ok (.iload_n 3, 1) := by decide +kernel
theorem dX8_fills_164 : decode cX8_fills 164 = .ok (.iload_n 2, 1) := by decide +kernel
theorem dX8_fills_165 : decode cX8_fills 165 = .ok (.iand, 1) := by decide +kernel
theorem dX8_fills_166 : decode cX8_fills 166 = .ok (.iload_n 2, 1) := by decide +kernel
theorem dX8_fills_167 : decode cX8_fills 167 = .ok (.invokevirtual 378, 3) := by decide +kernel
theorem dX8_fills_170 : decode cX8_fills 170 = .ok (.goto 17, 3) := by decide +kernel
theorem dX8_fills_173 : decode cX8_fills 173 = .ok (.iload_n 3, 1) := by decide +kernel
theorem dX8_fills_174 : decode cX8_fills 174 = .ok (.iload_n 2, 1) := by decide +kernel
theorem dX8_fills_175 : decode cX8_fills 175 = .ok (.iand, 1) := by decide +kernel
theorem dX8_fills_176 : decode cX8_fills 176 = .ok (.iload_n 2, 1) := by decide +kernel
theorem dX8_fills_177 : decode cX8_fills 177 = .ok (.if_icmp .ne 7, 3) := by decide +kernel
theorem dX8_fills_180 : decode cX8_fills 180 = .ok (.iconst 0, 1) := by decide +kernel
theorem dX8_fills_181 : decode cX8_fills 181 = .ok (.goto 6, 3) := by decide +kernel
theorem dX8_fills_184 : decode cX8_fills 184 = .ok (.ldc_w 377, 3) := by decide +kernel
theorem dX8_fills_187 : decode cX8_fills 187 = .ok (.istore 4, 2) := by decide +kernel
theorem dX8_fills_189 : decode cX8_fills 189 = .ok (.iconst 0, 1) := by decide +kernel
theorem dX8_fills_190 : decode cX8_fills 190 = .ok (.istore 5, 2) := by decide +kernel
theorem dX8_fills_192 : decode cX8_fills 192 = .ok (.iload 5, 2) := by decide +kernel
theorem dX8_fills_194 : decode cX8_fills 194 = .ok (.bipush 12, 2) := by decide +kernel
theorem dX8_fills_196 : decode cX8_fills 196 = .ok (.if_icmp .ge 27, 3) := by decide +kernel
