theorem dX0_init_0 : decode cX0_init 0 = .ok (.aload_n 0, 1) := by decide +kernel
theorem dX0_init_1 : decode cX0_init 1 = .ok (.invokespecial 3, 3) := by decide +kernel
theorem dX0_init_4 : decode cX0_init 4 = .ok (.aload_n 0, 1) := by decide +kernel
theorem dX0_init_5 : decode cX0_init 5 = .ok (.sipush 416, 3) := by decide +kernel
theorem dX0_init_8 : decode cX0_init 8 = .ok (.newarray .int, 2) := by decide +kernel
theorem dX0_init_10 : decode cX0_init 10 = .ok (.putfield 11, 3) := by decide +kernel
theorem dX0_init_13 : decode cX0_init 13 = .ok (.aload_n 0, 1) := by decide +kernel
theorem dX0_init_14 : decode cX0_init 14 = .ok (.bipush 6, 2) := by decide +kernel
theorem dX0_init_16 : decode cX0_init 16 = .ok (.newarray .int, 2) := by decide +kernel
theorem dX0_init_18 : decode cX0_init 18 = .ok (.putfield 15, 3) := by decide +kernel
theorem dX0_init_21 : decode cX0_init 21 = .ok (.aload_n 0, 1) := by decide +kernel
theorem dX0_init_22 : decode cX0_init 22 = .ok (.sipush 160, 3) := by decide +kernel
theorem dX0_init_25 : decode cX0_init 25 = .ok (.newarray .int, 2) := by decide +kernel
theorem dX0_init_27 : decode cX0_init 27 = .ok (.putfield 18, 3) := by decide +kernel
theorem dX0_init_30 : decode cX0_init 30 = .ok (.aload_n 0, 1) := by decide +kernel
theorem dX0_init_31 : decode cX0_init 31 = .ok (.aload_n 1, 1) := by decide +kernel
theorem dX0_init_32 : decode cX0_init 32 = .ok (.putfield 21, 3) := by decide +kernel
theorem dX0_init_35 : decode cX0_init 35 = .ok (.aload_n 0, 1) := by decide +kernel
theorem dX0_init_36 : decode cX0_init 36 = .ok (.aload_n 2, 1) := by decide +kernel
theorem dX0_init_37 : decode cX0_init 37 = .ok (.putfield 25, 3) := by decide +kernel
theorem dX0_init_40 : decode cX0_init 40 = .ok (.aload_n 0, 1) := by decide +kernel
theorem dX0_init_41 : decode cX0_init 41 = .ok (.getfield 11, 3) := by decide +kernel
theorem dX0_init_44 : decode cX0_init 44 = .ok (.iconst (-1), 1) := by decide +kernel
theorem dX0_init_45 : decode cX0_init 45 = .ok (.invokestatic 29, 3) := by decide +kernel
theorem dX0_init_48 : decode cX0_init 48 = .ok (.return_, 1) := by decide +kernel
theorem dX0_forget_0 : decode cX0_forget 0 = .ok (.aload_n 0, 1) := by decide +kernel
theorem dX0_forget_1 : decode cX0_forget 1 = .ok (.getfield 11, 3) := by decide +kernel
theorem dX0_forget_4 : decode cX0_forget 4 = .ok (.iconst (-1), 1) := by decide +kernel
theorem dX0_forget_5 : decode cX0_forget 5 = .ok (.invokestatic 29, 3) := by decide +kernel
theorem dX0_forget_8 : decode cX0_forget 8 = .ok (.return_, 1) := by decide +kernel
theorem dX0_ofOne_0 : decode cX0_ofOne 0 = .ok (.iload_n 1, 1) := by decide +kernel
theorem dX0_ofOne_1 : decode cX0_ofOne 1 = .ok (.ifCond .lt 19, 3) := by decide +kernel
theorem dX0_ofOne_4 : decode cX0_ofOne 4 = .ok (.iload_n 1, 1) := by decide +kernel
theorem dX0_ofOne_5 : decode cX0_ofOne 5 = .ok (.bipush 8, 2) := by decide +kernel
theorem dX0_ofOne_7 : decode cX0_ofOne 7 = .ok (.if_icmp .ge 13, 3) := by decide +kernel
theorem dX0_ofOne_10 : decode cX0_ofOne 10 = .ok (.iload_n 2, 1) := by decide +kernel
theorem dX0_ofOne_11 : decode cX0_ofOne 11 = .ok (.ifCond .lt 9, 3) := by decide +kernel
theorem dX0_ofOne_14 : decode cX0_ofOne 14 = .ok (.iload_n 2, 1) := by decide +kernel
theorem dX0_ofOne_15 : decode cX0_ofOne 15 = .ok (.bipush 24, 2) := by decide +kernel
theorem dX0_ofOne_17 : decode cX0_ofOne 17 = .ok (.if_icmp .le 5, 3) := by decide +kernel
theorem dX0_ofOne_20 : decode cX0_ofOne 20 = .ok (.iconst 0, 1) := by decide +kernel
theorem dX0_ofOne_21 : decode cX0_ofOne 21 = .ok (.ireturn, 1) := by decide +kernel
theorem dX0_ofOne_22 : decode cX0_ofOne 22 = .ok (.iload_n 1, 1) := by decide +kernel
theorem dX0_ofOne_23 : decode cX0_ofOne 23 = .ok (.bipush 25, 2) := by decide +kernel
theorem dX0_ofOne_25 : decode cX0_ofOne 25 = .ok (.imul, 1) := by decide +kernel
theorem dX0_ofOne_26 : decode cX0_ofOne 26 = .ok (.iload_n 2, 1) := by decide +kernel
theorem dX0_ofOne_27 : decode cX0_ofOne 27 = .ok (.iadd, 1) := by decide +kernel
theorem dX0_ofOne_28 : decode cX0_ofOne 28 = .ok (.istore_n 3, 1) := by decide +kernel
theorem dX0_ofOne_29 : decode cX0_ofOne 29 = .ok (.aload_n 0, 1) := by decide +kernel
theorem dX0_ofOne_30 : decode cX0_ofOne 30 = .ok (.getfield 11, 3) := by decide +kernel
theorem dX0_ofOne_33 : decode cX0_ofOne 33 = .ok (.iload_n 3, 1) := by decide +kernel
theorem dX0_ofOne_34 : decode cX0_ofOne 34 = .ok (.iaload, 1) := by decide +kernel
theorem dX0_ofOne_35 : decode cX0_ofOne 35 = .ok (.iconst (-1), 1) := by decide +kernel
theorem dX0_ofOne_36 : decode cX0_ofOne 36 = .ok (.if_icmp .ne 84, 3) := by decide +kernel
theorem dX0_ofOne_39 : decode cX0_ofOne 39 = .ok (.aload_n 0, 1) := by decide +kernel
theorem dX0_ofOne_40 : decode cX0_ofOne 40 = .ok (.getfield 15, 3) := by decide +kernel
theorem dX0_ofOne_43 : decode cX0_ofOne 43 = .ok (.iconst 0, 1) := by decide +kernel
theorem dX0_ofOne_44 : decode cX0_ofOne 44 = .ok (.iload_n 2, 1) := by decide +kernel
theorem dX0_ofOne_45 : decode cX0_ofOne 45 = .ok (.aload_n 0, 1) := by decide +kernel
theorem dX0_ofOne_46 : decode cX0_ofOne 46 = .ok (.getfield 21, 3) := by decide +kernel
theorem dX0_ofOne_49 : decode cX0_ofOne 49 = .ok (.getfield 35, 3) := by decide +kernel
theorem dX0_ofOne_52 : decode cX0_ofOne 52 = .ok (.iload_n 1, 1) := by decide +kernel
theorem dX0_ofOne_53 : decode cX0_ofOne 53 = .ok (.iaload, 1) := by decide +kernel
theorem dX0_ofOne_54 : decode cX0_ofOne 54 = .ok (.isub, 1) := by decide +kernel
theorem dX0_ofOne_55 : decode cX0_ofOne 55 = .ok (.iastore, 1) := by decide +kernel
theorem dX0_ofOne_56 : decode cX0_ofOne 56 = .ok (.aload_n 0, 1) := by decide +kernel
theorem dX0_ofOne_57 : decode cX0_ofOne 57 = .ok (.getfield 15, 3) := by decide +kernel
theorem dX0_ofOne_60 : decode cX0_ofOne 60 = .ok (.iconst 1, 1) := by decide +kernel
theorem dX0_ofOne_61 : decode cX0_ofOne 61 = .ok (.aload_n 0, 1) := by decide +kernel
theorem dX0_ofOne_62 : decode cX0_ofOne 62 = .ok (.getfield 21, 3) := by decide +kernel
theorem dX0_ofOne_65 : decode cX0_ofOne 65 = .ok (.getfield 40, 3) := by decide +kernel
theorem dX0_ofOne_68 : decode cX0_ofOne 68 = .ok (.iload_n 1, 1) := by decide +kernel
theorem dX0_ofOne_69 : decode cX0_ofOne 69 = .ok (.iaload, 1) := by decide +kernel
theorem dX0_ofOne_70 : decode cX0_ofOne 70 = .ok (.iastore, 1) := by decide +kernel
theorem dX0_ofOne_71 : decode cX0_ofOne 71 = .ok (.aload_n 0, 1) := by decide +kernel
theorem dX0_ofOne_72 : decode cX0_ofOne 72 = .ok (.getfield 15, 3) := by decide +kernel
theorem dX0_ofOne_75 : decode cX0_ofOne 75 = .ok (.iconst 2, 1) := by decide +kernel
theorem dX0_ofOne_76 : decode cX0_ofOne 76 = .ok (.iload_n 2, 1) := by decide +kernel
theorem dX0_ofOne_77 : decode cX0_ofOne 77 = .ok (.iastore, 1) := by decide +kernel
theorem dX0_ofOne_78 : decode cX0_ofOne 78 = .ok (.aload_n 0, 1) := by decide +kernel
theorem dX0_ofOne_79 : decode cX0_ofOne 79 = .ok (.getfield 15, 3) := by decide +kernel
theorem dX0_ofOne_82 : decode cX0_ofOne 82 = .ok (.iconst 3, 1) := by decide +kernel
theorem dX0_ofOne_83 : decode cX0_ofOne 83 = .ok (.aload_n 0, 1) := by decide +kernel
theorem dX0_ofOne_84 : decode cX0_ofOne 84 = .ok (.getfield 21, 3) := by decide +kernel
theorem dX0_ofOne_87 : decode cX0_ofOne 87 = .ok (.getfield 43, 3) := by decide +kernel
theorem dX0_ofOne_90 : decode cX0_ofOne 90 = .ok (.iload_n 1, 1) := by decide +kernel
theorem dX0_ofOne_91 : decode cX0_ofOne 91 = .ok (.iaload, 1) := by decide +kernel
theorem dX0_ofOne_92 : decode cX0_ofOne 92 = .ok (.iastore, 1) := by decide +kernel
theorem dX0_ofOne_93 : decode cX0_ofOne 93 = .ok (.aload_n 0, 1) := by decide +kernel
theorem dX0_ofOne_94 : decode cX0_ofOne 94 = .ok (.getfield 15, 3) := by decide +kernel
theorem dX0_ofOne_97 : decode cX0_ofOne 97 = .ok (.iconst 4, 1) := by decide +kernel
theorem dX0_ofOne_98 : decode cX0_ofOne 98 = .ok (.iconst 0, 1) := by decide +kernel
theorem dX0_ofOne_99 : decode cX0_ofOne 99 = .ok (.iastore, 1) := by decide +kernel
theorem dX0_ofOne_100 : decode cX0_ofOne 100 = .ok (.aload_n 0, 1) := by decide +kernel
theorem dX0_ofOne_101 : decode cX0_ofOne 101 = .ok (.getfield 11, 3) := by decide +kernel
theorem dX0_ofOne_104 : decode cX0_ofOne 104 = .ok (.iload_n 3, 1) := by decide +kernel
theorem dX0_ofOne_105 : decode cX0_ofOne 105 = .ok (.aload_n 0, 1) := by decide +kernel
theorem dX0_ofOne_106 : decode cX0_ofOne 106 = .ok (.iload_n 1, 1) := by decide +kernel
theorem dX0_ofOne_107 : decode cX0_ofOne 107 = .ok (.iconst 4, 1) := by decide +kernel
theorem dX0_ofOne_108 : decode cX0_ofOne 108 = .ok (.if_icmp .ge 7, 3) := by decide +kernel
theorem dX0_ofOne_111 : decode cX0_ofOne 111 = .ok (.iconst 0, 1) := by decide +kernel
theorem dX0_ofOne_112 : decode cX0_ofOne 112 = .ok (.goto 4, 3) := by decide +kernel
theorem dX0_ofOne_115 : decode cX0_ofOne 115 = .ok (.iconst 1, 1) := by decide +kernel
theorem dX0_ofOne_116 : decode cX0_ofOne 116 = .ok (.invokevirtual 46, 3) := by decide +kernel
theorem dX0_ofOne_119 : decode cX0_ofOne 119 = .ok (.iastore, 1) := by decide +kernel
theorem dX0_ofOne_120 : decode cX0_ofOne 120 = .ok (.aload_n 0, 1) := by decide +kernel
theorem dX0_ofOne_121 : decode cX0_ofOne 121 = .ok (.getfield 11, 3) := by decide +kernel
theorem dX0_ofOne_124 : decode cX0_ofOne 124 = .ok (.iload_n 3, 1) := by decide +kernel
theorem dX0_ofOne_125 : decode cX0_ofOne 125 = .ok (.iaload, 1) := by decide +kernel
theorem dX0_ofOne_126 : decode cX0_ofOne 126 = .ok (.ireturn, 1) := by decide +kernel
theorem dX0_ofChange_0 : decode cX0_ofChange 0 = .ok (.iload_n 1, 1) := by decide +kernel
theorem dX0_ofChange_1 : decode cX0_ofChange 1 = .ok (.invokestatic 50, 3) := by decide +kernel
theorem dX0_ofChange_4 : decode cX0_ofChange 4 = .ok (.ifCond .eq 17, 3) := by decide +kernel
theorem dX0_ofChange_7 : decode cX0_ofChange 7 = .ok (.iload_n 2, 1) := by decide +kernel
theorem dX0_ofChange_8 : decode cX0_ofChange 8 = .ok (.invokestatic 54, 3) := by decide +kernel
theorem dX0_ofChange_11 : decode cX0_ofChange 11 = .ok (.ifCond .eq 10, 3) := by decide +kernel
theorem dX0_ofChange_14 : decode cX0_ofChange 14 = .ok (.iload_n 3, 1) := by decide +kernel
theorem dX0_ofChange_15 : decode cX0_ofChange 15 = .ok (.invokestatic 54, 3) := by decide +kernel
theorem dX0_ofChange_18 : decode cX0_ofChange 18 = .ok (.ifCond .ne 5, 3) := by decide +kernel
theorem dX0_ofChange_21 : decode cX0_ofChange 21 = .ok (.iconst 0, 1) := by decide +kernel
theorem dX0_ofChange_22 : decode cX0_ofChange 22 = .ok (.ireturn, 1) := by decide +kernel
theorem dX0_ofChange_23 : decode cX0_ofChange 23 = .ok (.sipush 200, 3) := by decide +kernel
theorem dX0_ofChange_26 : decode cX0_ofChange 26 = .ok (.iload_n 1, 1) := by decide +kernel
theorem dX0_ofChange_27 : decode cX0_ofChange 27 = .ok (.iconst 3, 1) := by decide +kernel
theorem dX0_ofChange_28 : decode cX0_ofChange 28 = .ok (.imul, 1) := by decide +kernel
theorem dX0_ofChange_29 : decode cX0_ofChange 29 = .ok (.iload_n 2, 1) := by decide +kernel
theorem dX0_ofChange_30 : decode cX0_ofChange 30 = .ok (.iadd, 1) := by decide +kernel
theorem dX0_ofChange_31 : decode cX0_ofChange 31 = .ok (.iconst 3, 1) := by decide +kernel
theorem dX0_ofChange_32 : decode cX0_ofChange 32 = .ok (.imul, 1) := by decide +kernel
theorem dX0_ofChange_33 : decode cX0_ofChange 33 = .ok (.iadd, 1) := by decide +kernel
theorem dX0_ofChange_34 : decode cX0_ofChange 34 = .ok (.iload_n 3, 1) := by decide +kernel
theorem dX0_ofChange_35 : decode cX0_ofChange 35 = .ok (.iadd, 1) := by decide +kernel
theorem dX0_ofChange_36 : decode cX0_ofChange 36 = .ok (.istore 4, 2) := by decide +kernel
theorem dX0_ofChange_38 : decode cX0_ofChange 38 = .ok (.aload_n 0, 1) := by decide +kernel
theorem dX0_ofChange_39 : decode cX0_ofChange 39 = .ok (.getfield 11, 3) := by decide +kernel
theorem dX0_ofChange_42 : decode cX0_ofChange 42 = .ok (.iload 4, 2) := by decide +kernel
theorem dX0_ofChange_44 : decode cX0_ofChange 44 = .ok (.iaload, 1) := by decide +kernel
theorem dX0_ofChange_45 : decode cX0_ofChange 45 = .ok (.iconst (-1), 1) := by decide +kernel
theorem dX0_ofChange_46 : decode cX0_ofChange 46 = .ok (.if_icmp .ne 50, 3) := by decide +kernel
theorem dX0_ofChange_49 : decode cX0_ofChange 49 = .ok (.aload_n 0, 1) := by decide +kernel
theorem dX0_ofChange_50 : decode cX0_ofChange 50 = .ok (.getfield 15, 3) := by decide +kernel
theorem dX0_ofChange_53 : decode cX0_ofChange 53 = .ok (.iconst 0, 1) := by decide +kernel
theorem dX0_ofChange_54 : decode cX0_ofChange 54 = .ok (.iconst 0, 1) := by decide +kernel
theorem dX0_ofChange_55 : decode cX0_ofChange 55 = .ok (.iastore, 1) := by decide +kernel
theorem dX0_ofChange_56 : decode cX0_ofChange 56 = .ok (.aload_n 0, 1) := by decide +kernel
theorem dX0_ofChange_57 : decode cX0_ofChange 57 = .ok (.getfield 15, 3) := by decide +kernel
theorem dX0_ofChange_60 : decode cX0_ofChange 60 = .ok (.iconst 1, 1) := by decide +kernel
theorem dX0_ofChange_61 : decode cX0_ofChange 61 = .ok (.iconst 0, 1) := by decide +kernel
theorem dX0_ofChange_62 : decode cX0_ofChange 62 = .ok (.iastore, 1) := by decide +kernel
theorem dX0_ofChange_63 : decode cX0_ofChange 63 = .ok (.aload_n 0, 1) := by decide +kernel
theorem dX0_ofChange_64 : decode cX0_ofChange 64 = .ok (.getfield 15, 3) := by decide +kernel
theorem dX0_ofChange_67 : decode cX0_ofChange 67 = .ok (.iconst 2, 1) := by decide +kernel
theorem dX0_ofChange_68 : decode cX0_ofChange 68 = .ok (.iload_n 1, 1) := by decide +kernel
theorem dX0_ofChange_69 : decode cX0_ofChange 69 = .ok (.iastore, 1) := by decide +kernel
theorem dX0_ofChange_70 : decode cX0_ofChange 70 = .ok (.aload_n 0, 1) := by decide +kernel
theorem dX0_ofChange_71 : decode cX0_ofChange 71 = .ok (.getfield 15, 3) := by decide +kernel
theorem dX0_ofChange_74 : decode cX0_ofChange 74 = .ok (.iconst 3, 1) := by decide +kernel
theorem dX0_ofChange_75 : decode cX0_ofChange 75 = .ok (.iload_n 3, 1) := by decide +kernel
theorem dX0_ofChange_76 : decode cX0_ofChange 76 = .ok (.iastore, 1) := by decide +kernel
theorem dX0_ofChange_77 : decode cX0_ofChange 77 = .ok (.aload_n 0, 1) := by decide +kernel
theorem dX0_ofChange_78 : decode cX0_ofChange 78 = .ok (.getfield 15, 3) := by decide +kernel
theorem dX0_ofChange_81 : decode cX0_ofChange 81 = .ok (.iconst 4, 1) := by decide +kernel
theorem dX0_ofChange_82 : decode cX0_ofChange 82 = .ok (.iload_n 2, 1) := by decide +kernel
theorem dX0_ofChange_83 : decode cX0_ofChange 83 = .ok (.iastore, 1) := by decide +kernel
theorem dX0_ofChange_84 : decode cX0_ofChange 84 = .ok (.aload_n 0, 1) := by decide +kernel
theorem dX0_ofChange_85 : decode cX0_ofChange 85 = .ok (.getfield 11, 3) := by decide +kernel
theorem dX0_ofChange_88 : decode cX0_ofChange 88 = .ok (.iload 4, 2) := by decide +kernel
theorem dX0_ofChange_90 : decode cX0_ofChange 90 = .ok (.aload_n 0, 1) := by decide +kernel
theorem dX0_ofChange_91 : decode cX0_ofChange 91 = .ok (.iconst 2, 1) := by decide +kernel
theorem dX0_ofChange_92 : decode cX0_ofChange 92 = .ok (.invokevirtual 46, 3) := by decide +kernel
theorem dX0_ofChange_95 : decode cX0_ofChange 95 = .ok (.iastore, 1) := by decide +kernel
theorem dX0_ofChange_96 : decode cX0_ofChange 96 = .ok (.aload_n 0, 1) := by decide +kernel
theorem dX0_ofChange_97 : decode cX0_ofChange 97 = .ok (.getfield 11, 3) := by decide +kernel
theorem dX0_ofChange_100 : decode cX0_ofChange 100 = .ok (.iload 4, 2) := by decide +kernel
theorem dX0_ofChange_102 : decode cX0_ofChange 102 = .ok (.iaload, 1) := by decide +kernel
theorem dX0_ofChange_103 : decode cX0_ofChange 103 = .ok (.ireturn, 1) := by decide +kernel
theorem dX0_ofRow_0 : decode cX0_ofRow 0 = .ok (.iconst 0, 1) := by decide +kernel
theorem dX0_ofRow_1 : decode cX0_ofRow 1 = .ok (.istore_n 2, 1) := by decide +kernel
theorem dX0_ofRow_2 : decode cX0_ofRow 2 = .ok (.iconst 0, 1) := by decide +kernel
theorem dX0_ofRow_3 : decode cX0_ofRow 3 = .ok (.istore_n 3, 1) := by decide +kernel
theorem dX0_ofRow_4 : decode cX0_ofRow 4 = .ok (.iload_n 3, 1) := by decide +kernel
theorem dX0_ofRow_5 : decode cX0_ofRow 5 = .ok (.bipush 8, 2) := by decide +kernel
theorem dX0_ofRow_7 : decode cX0_ofRow 7 = .ok (.if_icmp .ge 37, 3) := by decide +kernel
theorem dX0_ofRow_10 : decode cX0_ofRow 10 = .ok (.aload_n 0, 1) := by decide +kernel
theorem dX0_ofRow_11 : decode cX0_ofRow 11 = .ok (.getfield 21, 3) := by decide +kernel
theorem dX0_ofRow_14 : decode cX0_ofRow 14 = .ok (.iload_n 3, 1) := by decide +kernel
theorem dX0_ofRow_15 : decode cX0_ofRow 15 = .ok (.invokevirtual 57, 3) := by decide +kernel
theorem dX0_ofRow_18 : decode cX0_ofRow 18 = .ok (.ifCond .eq 20, 3) := by decide +kernel
theorem dX0_ofRow_21 : decode cX0_ofRow 21 = .ok (.iload_n 2, 1) := by decide +kernel
theorem dX0_ofRow_22 : decode cX0_ofRow 22 = .ok (.aload_n 0, 1) := by decide +kernel
theorem dX0_ofRow_23 : decode cX0_ofRow 23 = .ok (.iload_n 3, 1) := by decide +kernel
theorem dX0_ofRow_24 : decode cX0_ofRow 24 = .ok (.aload_n 0, 1) := by decide +kernel
theorem dX0_ofRow_25 : decode cX0_ofRow 25 = .ok (.getfield 21, 3) := by decide +kernel
theorem dX0_ofRow_28 : decode cX0_ofRow 28 = .ok (.iload_n 3, 1) := by decide +kernel
theorem dX0_ofRow_29 : decode cX0_ofRow 29 = .ok (.aload_n 1, 1) := by decide +kernel
theorem dX0_ofRow_30 : decode cX0_ofRow 30 = .ok (.invokevirtual 60, 3) := by decide +kernel
theorem dX0_ofRow_33 : decode cX0_ofRow 33 = .ok (.invokevirtual 64, 3) := by decide +kernel
theorem dX0_ofRow_36 : decode cX0_ofRow 36 = .ok (.iadd, 1) := by decide +kernel
theorem dX0_ofRow_37 : decode cX0_ofRow 37 = .ok (.istore_n 2, 1) := by decide +kernel
theorem dX0_ofRow_38 : decode cX0_ofRow 38 = .ok (.iinc 3 1, 3) := by decide +kernel
theorem dX0_ofRow_41 : decode cX0_ofRow 41 = .ok (.goto (-37), 3) := by decide +kernel
theorem dX0_ofRow_44 : decode cX0_ofRow 44 = .ok (.iconst 1, 1) := by decide +kernel
theorem dX0_ofRow_45 : decode cX0_ofRow 45 = .ok (.istore_n 3, 1) := by decide +kernel
theorem dX0_ofRow_46 : decode cX0_ofRow 46 = .ok (.iload_n 3, 1) := by decide +kernel
theorem dX0_ofRow_47 : decode cX0_ofRow 47 = .ok (.bipush 24, 2) := by decide +kernel
theorem dX0_ofRow_49 : decode cX0_ofRow 49 = .ok (.if_icmp .ge 42, 3) := by decide +kernel
theorem dX0_ofRow_52 : decode cX0_ofRow 52 = .ok (.iload_n 3, 1) := by decide +kernel
theorem dX0_ofRow_53 : decode cX0_ofRow 53 = .ok (.aload_n 1, 1) := by decide +kernel
theorem dX0_ofRow_54 : decode cX0_ofRow 54 = .ok (.arraylength, 1) := by decide +kernel
theorem dX0_ofRow_55 : decode cX0_ofRow 55 = .ok (.if_icmp .ge 36, 3) := by decide +kernel
theorem dX0_ofRow_58 : decode cX0_ofRow 58 = .ok (.aload_n 1, 1) := by decide +kernel
theorem dX0_ofRow_59 : decode cX0_ofRow 59 = .ok (.iload_n 3, 1) := by decide +kernel
theorem dX0_ofRow_60 : decode cX0_ofRow 60 = .ok (.iaload, 1) := by decide +kernel
theorem dX0_ofRow_61 : decode cX0_ofRow 61 = .ok (.aload_n 1, 1) := by decide +kernel
theorem dX0_ofRow_62 : decode cX0_ofRow 62 = .ok (.iload_n 3, 1) := by decide +kernel
theorem dX0_ofRow_63 : decode cX0_ofRow 63 = .ok (.iconst 1, 1) := by decide +kernel
theorem dX0_ofRow_64 : decode cX0_ofRow 64 = .ok (.isub, 1) := by decide +kernel
theorem dX0_ofRow_65 : decode cX0_ofRow 65 = .ok (.iaload, 1) := by decide +kernel
theorem dX0_ofRow_66 : decode cX0_ofRow 66 = .ok (.if_icmp .eq 19, 3) := by decide +kernel
theorem dX0_ofRow_69 : decode cX0_ofRow 69 = .ok (.iload_n 2, 1) := by decide +kernel
theorem dX0_ofRow_70 : decode cX0_ofRow 70 = .ok (.aload_n 0, 1) := by decide +kernel
theorem dX0_ofRow_71 : decode cX0_ofRow 71 = .ok (.iload_n 3, 1) := by decide +kernel
theorem dX0_ofRow_72 : decode cX0_ofRow 72 = .ok (.aload_n 1, 1) := by decide +kernel
theorem dX0_ofRow_73 : decode cX0_ofRow 73 = .ok (.iload_n 3, 1) := by decide +kernel
theorem dX0_ofRow_74 : decode cX0_ofRow 74 = .ok (.iconst 1, 1) := by decide +kernel
theorem dX0_ofRow_75 : decode cX0_ofRow 75 = .ok (.isub, 1) := by decide +kernel
theorem dX0_ofRow_76 : decode cX0_ofRow 76 = .ok (.iaload, 1) := by decide +kernel
theorem dX0_ofRow_77 : decode cX0_ofRow 77 = .ok (.aload_n 1, 1) := by decide +kernel
theorem dX0_ofRow_78 : decode cX0_ofRow 78 = .ok (.iload_n 3, 1) := by decide +kernel
theorem dX0_ofRow_79 : decode cX0_ofRow 79 = .ok (.iaload, 1) := by decide +kernel
theorem dX0_ofRow_80 : decode cX0_ofRow 80 = .ok (.invokevirtual 68, 3) := by decide +kernel
theorem dX0_ofRow_83 : decode cX0_ofRow 83 = .ok (.iadd, 1) := by decide +kernel
theorem dX0_ofRow_84 : decode cX0_ofRow 84 = .ok (.istore_n 2, 1) := by decide +kernel
theorem dX0_ofRow_85 : decode cX0_ofRow 85 = .ok (.iinc 3 1, 3) := by decide +kernel
theorem dX0_ofRow_88 : decode cX0_ofRow 88 = .ok (.goto (-42), 3) := by decide +kernel
theorem dX0_ofRow_91 : decode cX0_ofRow 91 = .ok (.iload_n 2, 1) := by decide +kernel
theorem dX0_ofRow_92 : decode cX0_ofRow 92 = .ok (.ireturn, 1) := by decide +kernel
theorem dX0_reckon_0 : decode cX0_reckon 0 = .ok (.aload_n 0, 1) := by decide +kernel
theorem dX0_reckon_1 : decode cX0_reckon 1 = .ok (.getfield 15, 3) := by decide +kernel
theorem dX0_reckon_4 : decode cX0_reckon 4 = .ok (.iconst 5, 1) := by decide +kernel
theorem dX0_reckon_5 : decode cX0_reckon 5 = .ok (.aload_n 0, 1) := by decide +kernel
theorem dX0_reckon_6 : decode cX0_reckon 6 = .ok (.getfield 21, 3) := by decide +kernel
theorem dX0_reckon_9 : decode cX0_reckon 9 = .ok (.invokevirtual 72, 3) := by decide +kernel
theorem dX0_reckon_12 : decode cX0_reckon 12 = .ok (.iastore, 1) := by decide +kernel
theorem dX0_reckon_13 : decode cX0_reckon 13 = .ok (.aload_n 0, 1) := by decide +kernel
theorem dX0_reckon_14 : decode cX0_reckon 14 = .ok (.getfield 21, 3) := by decide +kernel
theorem dX0_reckon_17 : decode cX0_reckon 17 = .ok (.getfield 76, 3) := by decide +kernel
theorem dX0_reckon_20 : decode cX0_reckon 20 = .ok (.istore_n 2, 1) := by decide +kernel
theorem dX0_reckon_21 : decode cX0_reckon 21 = .ok (.iload_n 2, 1) := by decide +kernel
theorem dX0_reckon_22 : decode cX0_reckon 22 = .ok (.ifCond .lt 21, 3) := by decide +kernel
theorem dX0_reckon_25 : decode cX0_reckon 25 = .ok (.iload_n 2, 1) := by decide +kernel
theorem dX0_reckon_26 : decode cX0_reckon 26 = .ok (.aload_n 0, 1) := by decide +kernel
theorem dX0_reckon_27 : decode cX0_reckon 27 = .ok (.getfield 25, 3) := by decide +kernel
theorem dX0_reckon_30 : decode cX0_reckon 30 = .ok (.arraylength, 1) := by decide +kernel
theorem dX0_reckon_31 : decode cX0_reckon 31 = .ok (.if_icmp .ge 12, 3) := by decide +kernel
theorem dX0_reckon_34 : decode cX0_reckon 34 = .ok (.aload_n 0, 1) := by decide +kernel
theorem dX0_reckon_35 : decode cX0_reckon 35 = .ok (.getfield 25, 3) := by decide +kernel
theorem dX0_reckon_38 : decode cX0_reckon 38 = .ok (.iload_n 2, 1) := by decide +kernel
theorem dX0_reckon_39 : decode cX0_reckon 39 = .ok (.aaload, 1) := by decide +kernel
theorem dX0_reckon_40 : decode cX0_reckon 40 = .ok (.ifnonnull 5, 3) := by decide +kernel
theorem dX0_reckon_43 : decode cX0_reckon 43 = .ok (.iconst 0, 1) := by decide +kernel
theorem dX0_reckon_44 : decode cX0_reckon 44 = .ok (.ireturn, 1) := by decide +kernel
theorem dX0_reckon_45 : decode cX0_reckon 45 = .ok (.iconst 0, 1) := by decide +kernel
theorem dX0_reckon_46 : decode cX0_reckon 46 = .ok (.bipush 99, 2) := by decide +kernel
theorem dX0_reckon_48 : decode cX0_reckon 48 = .ok (.aload_n 0, 1) := by decide +kernel
theorem dX0_reckon_49 : decode cX0_reckon 49 = .ok (.getfield 25, 3) := by decide +kernel
theorem dX0_reckon_52 : decode cX0_reckon 52 = .ok (.iload_n 2, 1) := by decide +kernel
theorem dX0_reckon_53 : decode cX0_reckon 53 = .ok (.aaload, 1) := by decide +kernel
theorem dX0_reckon_54 : decode cX0_reckon 54 = .ok (.iload_n 1, 1) := by decide +kernel
theorem dX0_reckon_55 : decode cX0_reckon 55 = .ok (.aload_n 0, 1) := by decide +kernel
theorem dX0_reckon_56 : decode cX0_reckon 56 = .ok (.getfield 15, 3) := by decide +kernel
theorem dX0_reckon_59 : decode cX0_reckon 59 = .ok (.aload_n 0, 1) := by decide +kernel
theorem dX0_reckon_60 : decode cX0_reckon 60 = .ok (.getfield 18, 3) := by decide +kernel
theorem dX0_reckon_63 : decode cX0_reckon 63 = .ok (.invokevirtual 80, 3) := by decide +kernel
theorem dX0_reckon_66 : decode cX0_reckon 66 = .ok (.invokestatic 86, 3) := by decide +kernel
theorem dX0_reckon_69 : decode cX0_reckon 69 = .ok (.invokestatic 91, 3) := by decide +kernel
theorem dX0_reckon_72 : decode cX0_reckon 72 = .ok (.ireturn, 1) := by decide +kernel
theorem dX1_init_0 : decode cX1_init 0 = .ok (.aload_n 0, 1) := by decide +kernel
theorem dX1_init_1 : decode cX1_init 1 = .ok (.invokespecial 3, 3) := by decide +kernel
theorem dX1_init_4 : decode cX1_init 4 = .ok (.aload_n 0, 1) := by decide +kernel
theorem dX1_init_5 : decode cX1_init 5 = .ok (.bipush 24, 2) := by decide +kernel
theorem dX1_init_7 : decode cX1_init 7 = .ok (.newarray .int, 2) := by decide +kernel
theorem dX1_init_9 : decode cX1_init 9 = .ok (.putfield 9, 3) := by decide +kernel
theorem dX1_init_12 : decode cX1_init 12 = .ok (.aload_n 0, 1) := by decide +kernel
theorem dX1_init_13 : decode cX1_init 13 = .ok (.iconst 2, 1) := by decide +kernel
theorem dX1_init_14 : decode cX1_init 14 = .ok (.newarray .int, 2) := by decide +kernel
theorem dX1_init_16 : decode cX1_init 16 = .ok (.putfield 15, 3) := by decide +kernel
theorem dX1_init_19 : decode cX1_init 19 = .ok (.aload_n 0, 1) := by decide +kernel
theorem dX1_init_20 : decode cX1_init 20 = .ok (.bipush 8, 2) := by decide +kernel
theorem dX1_init_22 : decode cX1_init 22 = .ok (.newarray .int, 2) := by decide +kernel
theorem dX1_init_24 : decode cX1_init 24 = .ok (.putfield 18, 3) := by decide +kernel
theorem dX1_init_27 : decode cX1_init 27 = .ok (.aload_n 0, 1) := by decide +kernel
theorem dX1_init_28 : decode cX1_init 28 = .ok (.bipush 8, 2) := by decide +kernel
theorem dX1_init_30 : decode cX1_init 30 = .ok (.newarray .int, 2) := by decide +kernel
theorem dX1_init_32 : decode cX1_init 32 = .ok (.putfield 21, 3) := by decide +kernel
theorem dX1_init_35 : decode cX1_init 35 = .ok (.aload_n 0, 1) := by decide +kernel
theorem dX1_init_36 : decode cX1_init 36 = .ok (.bipush 8, 2) := by decide +kernel
theorem dX1_init_38 : decode cX1_init 38 = .ok (.newarray .int, 2) := by decide +kernel
theorem dX1_init_40 : decode cX1_init 40 = .ok (.putfield 24, 3) := by decide +kernel
theorem dX1_init_43 : decode cX1_init 43 = .ok (.aload_n 0, 1) := by decide +kernel
theorem dX1_init_44 : decode cX1_init 44 = .ok (.iconst 4, 1) := by decide +kernel
theorem dX1_init_45 : decode cX1_init 45 = .ok (.newarray .int, 2) := by decide +kernel
theorem dX1_init_47 : decode cX1_init 47 = .ok (.putfield 27, 3) := by decide +kernel
theorem dX1_init_50 : decode cX1_init 50 = .ok (.aload_n 0, 1) := by decide +kernel
theorem dX1_init_51 : decode cX1_init 51 = .ok (.iconst 4, 1) := by decide +kernel
theorem dX1_init_52 : decode cX1_init 52 = .ok (.newarray .int, 2) := by decide +kernel
theorem dX1_init_54 : decode cX1_init 54 = .ok (.putfield 30, 3) := by decide +kernel
theorem dX1_init_57 : decode cX1_init 57 = .ok (.aload_n 0, 1) := by decide +kernel
theorem dX1_init_58 : decode cX1_init 58 = .ok (.iconst 0, 1) := by decide +kernel
theorem dX1_init_59 : decode cX1_init 59 = .ok (.putfield 33, 3) := by decide +kernel
theorem dX1_init_62 : decode cX1_init 62 = .ok (.aload_n 0, 1) := by decide +kernel
theorem dX1_init_63 : decode cX1_init 63 = .ok (.iconst 1, 1) := by decide +kernel
theorem dX1_init_64 : decode cX1_init 64 = .ok (.putfield 37, 3) := by decide +kernel
theorem dX1_init_67 : decode cX1_init 67 = .ok (.aload_n 0, 1) := by decide +kernel
theorem dX1_init_68 : decode cX1_init 68 = .ok (.iconst 3, 1) := by decide +kernel
theorem dX1_init_69 : decode cX1_init 69 = .ok (.putfield 40, 3) := by decide +kernel
theorem dX1_init_72 : decode cX1_init 72 = .ok (.aload_n 0, 1) := by decide +kernel
theorem dX1_init_73 : decode cX1_init 73 = .ok (.iconst 0, 1) := by decide +kernel
theorem dX1_init_74 : decode cX1_init 74 = .ok (.putfield 43, 3) := by decide +kernel
theorem dX1_init_77 : decode cX1_init 77 = .ok (.return_, 1) := by decide +kernel
theorem dX1_take_0 : decode cX1_take 0 = .ok (.aload_n 1, 1) := by decide +kernel
theorem dX1_take_1 : decode cX1_take 1 = .ok (.getfield 9, 3) := by decide +kernel
theorem dX1_take_4 : decode cX1_take 4 = .ok (.iconst 0, 1) := by decide +kernel
theorem dX1_take_5 : decode cX1_take 5 = .ok (.aload_n 0, 1) := by decide +kernel
theorem dX1_take_6 : decode cX1_take 6 = .ok (.getfield 9, 3) := by decide +kernel
theorem dX1_take_9 : decode cX1_take 9 = .ok (.iconst 0, 1) := by decide +kernel
theorem dX1_take_10 : decode cX1_take 10 = .ok (.bipush 24, 2) := by decide +kernel
theorem dX1_take_12 : decode cX1_take 12 = .ok (.invokestatic 46, 3) := by decide +kernel
theorem dX1_take_15 : decode cX1_take 15 = .ok (.aload_n 1, 1) := by decide +kernel
theorem dX1_take_16 : decode cX1_take 16 = .ok (.getfield 15, 3) := by decide +kernel
theorem dX1_take_19 : decode cX1_take 19 = .ok (.iconst 0, 1) := by decide +kernel
theorem dX1_take_20 : decode cX1_take 20 = .ok (.aload_n 0, 1) := by decide +kernel
theorem dX1_take_21 : decode cX1_take 21 = .ok (.getfield 15, 3) := by decide +kernel
theorem dX1_take_24 : decode cX1_take 24 = .ok (.iconst 0, 1) := by decide +kernel
theorem dX1_take_25 : decode cX1_take 25 = .ok (.iconst 2, 1) := by decide +kernel
theorem dX1_take_26 : decode cX1_take 26 = .ok (.invokestatic 46, 3) := by decide +kernel
theorem dX1_take_29 : decode cX1_take 29 = .ok (.aload_n 1, 1) := by decide +kernel
theorem dX1_take_30 : decode cX1_take 30 = .ok (.getfield 18, 3) := by decide +kernel
theorem dX1_take_33 : decode cX1_take 33 = .ok (.iconst 0, 1) := by decide +kernel
theorem dX1_take_34 : decode cX1_take 34 = .ok (.aload_n 0, 1) := by decide +kernel
theorem dX1_take_35 : decode cX1_take 35 = .ok (.getfield 18, 3) := by decide +kernel
theorem dX1_take_38 : decode cX1_take 38 = .ok (.iconst 0, 1) := by decide +kernel
theorem dX1_take_39 : decode cX1_take 39 = .ok (.bipush 8, 2) := by decide +kernel
theorem dX1_take_41 : decode cX1_take 41 = .ok (.invokestatic 46, 3) := by decide +kernel
theorem dX1_take_44 : decode cX1_take 44 = .ok (.aload_n 1, 1) := by decide +kernel
theorem dX1_take_45 : decode cX1_take 45 = .ok (.getfield 21, 3) := by decide +kernel
theorem dX1_take_48 : decode cX1_take 48 = .ok (.iconst 0, 1) := by decide +kernel
theorem dX1_take_49 : decode cX1_take 49 = .ok (.aload_n 0, 1) := by decide +kernel
theorem dX1_take_50 : decode cX1_take 50 = .ok (.getfield 21, 3) := by decide +kernel
theorem dX1_take_53 : decode cX1_take 53 = .ok (.iconst 0, 1) := by decide +kernel
theorem dX1_take_54 : decode cX1_take 54 = .ok (.bipush 8, 2) := by decide +kernel
theorem dX1_take_56 : decode cX1_take 56 = .ok (.invokestatic 46, 3) := by decide +kernel
theorem dX1_take_59 : decode cX1_take 59 = .ok (.aload_n 1, 1) := by decide +kernel
theorem dX1_take_60 : decode cX1_take 60 = .ok (.getfield 24, 3) := by decide +kernel
theorem dX1_take_63 : decode cX1_take 63 = .ok (.iconst 0, 1) := by decide +kernel
theorem dX1_take_64 : decode cX1_take 64 = .ok (.aload_n 0, 1) := by decide +kernel
theorem dX1_take_65 : decode cX1_take 65 = .ok (.getfield 24, 3) := by decide +kernel
theorem dX1_take_68 : decode cX1_take 68 = .ok (.iconst 0, 1) := by decide +kernel
theorem dX1_take_69 : decode cX1_take 69 = .ok (.bipush 8, 2) := by decide +kernel
theorem dX1_take_71 : decode cX1_take 71 = .ok (.invokestatic 46, 3) := by decide +kernel
theorem dX1_take_74 : decode cX1_take 74 = .ok (.aload_n 1, 1) := by decide +kernel
theorem dX1_take_75 : decode cX1_take 75 = .ok (.getfield 27, 3) := by decide +kernel
theorem dX1_take_78 : decode cX1_take 78 = .ok (.iconst 0, 1) := by decide +kernel
theorem dX1_take_79 : decode cX1_take 79 = .ok (.aload_n 0, 1) := by decide +kernel
theorem dX1_take_80 : decode cX1_take 80 = .ok (.getfield 27, 3) := by decide +kernel
theorem dX1_take_83 : decode cX1_take 83 = .ok (.iconst 0, 1) := by decide +kernel
theorem dX1_take_84 : decode cX1_take 84 = .ok (.iconst 4, 1) := by decide +kernel
theorem dX1_take_85 : decode cX1_take 85 = .ok (.invokestatic 46, 3) := by decide +kernel
theorem dX1_take_88 : decode cX1_take 88 = .ok (.aload_n 1, 1) := by decide +kernel
theorem dX1_take_89 : decode cX1_take 89 = .ok (.getfield 30, 3) := by decide +kernel
theorem dX1_take_92 : decode cX1_take 92 = .ok (.iconst 0, 1) := by decide +kernel
theorem dX1_take_93 : decode cX1_take 93 = .ok (.aload_n 0, 1) := by decide +kernel
theorem dX1_take_94 : decode cX1_take 94 = .ok (.getfield 30, 3) := by decide +kernel
theorem dX1_take_97 : decode cX1_take 97 = .ok (.iconst 0, 1) := by decide +kernel
theorem dX1_take_98 : decode cX1_take 98 = .ok (.iconst 4, 1) := by decide +kernel
theorem dX1_take_99 : decode cX1_take 99 = .ok (.invokestatic 46, 3) := by decide +kernel
theorem dX1_take_102 : decode cX1_take 102 = .ok (.aload_n 0, 1) := by decide +kernel
theorem dX1_take_103 : decode cX1_take 103 = .ok (.aload_n 1, 1) := by decide +kernel
theorem dX1_take_104 : decode cX1_take 104 = .ok (.getfield 33, 3) := by decide +kernel
theorem dX1_take_107 : decode cX1_take 107 = .ok (.putfield 33, 3) := by decide +kernel
theorem dX1_take_110 : decode cX1_take 110 = .ok (.aload_n 0, 1) := by decide +kernel
theorem dX1_take_111 : decode cX1_take 111 = .ok (.aload_n 1, 1) := by decide +kernel
theorem dX1_take_112 : decode cX1_take 112 = .ok (.getfield 37, 3) := by decide +kernel
theorem dX1_take_115 : decode cX1_take 115 = .ok (.putfield 37, 3) := by decide +kernel
theorem dX1_take_118 : decode cX1_take 118 = .ok (.aload_n 0, 1) := by decide +kernel
theorem dX1_take_119 : decode cX1_take 119 = .ok (.aload_n 1, 1) := by decide +kernel
theorem dX1_take_120 : decode cX1_take 120 = .ok (.getfield 40, 3) := by decide +kernel
theorem dX1_take_123 : decode cX1_take 123 = .ok (.putfield 40, 3) := by decide +kernel
theorem dX1_take_126 : decode cX1_take 126 = .ok (.aload_n 0, 1) := by decide +kernel
theorem dX1_take_127 : decode cX1_take 127 = .ok (.aload_n 1, 1) := by decide +kernel
theorem dX1_take_128 : decode cX1_take 128 = .ok (.getfield 43, 3) := by decide +kernel
theorem dX1_take_131 : decode cX1_take 131 = .ok (.putfield 43, 3) := by decide +kernel
theorem dX1_take_134 : decode cX1_take 134 = .ok (.return_, 1) := by decide +kernel
theorem dX1_many_0 : decode cX1_many 0 = .ok (.aload_n 0, 1) := by decide +kernel
theorem dX1_many_1 : decode cX1_many 1 = .ok (.getfield 15, 3) := by decide +kernel
theorem dX1_many_4 : decode cX1_many 4 = .ok (.iconst 0, 1) := by decide +kernel
theorem dX1_many_5 : decode cX1_many 5 = .ok (.iaload, 1) := by decide +kernel
theorem dX1_many_6 : decode cX1_many 6 = .ok (.aload_n 0, 1) := by decide +kernel
theorem dX1_many_7 : decode cX1_many 7 = .ok (.getfield 15, 3) := by decide +kernel
theorem dX1_many_10 : decode cX1_many 10 = .ok (.iconst 1, 1) := by decide +kernel
theorem dX1_many_11 : decode cX1_many 11 = .ok (.iaload, 1) := by decide +kernel
theorem dX1_many_12 : decode cX1_many 12 = .ok (.iadd, 1) := by decide +kernel
theorem dX1_many_13 : decode cX1_many 13 = .ok (.ireturn, 1) := by decide +kernel
theorem dX1_isThere_0 : decode cX1_isThere 0 = .ok (.iload_n 1, 1) := by decide +kernel
theorem dX1_isThere_1 : decode cX1_isThere 1 = .ok (.iconst 4, 1) := by decide +kernel
theorem dX1_isThere_2 : decode cX1_isThere 2 = .ok (.if_icmp .ge 25, 3) := by decide +kernel
theorem dX1_isThere_5 : decode cX1_isThere 5 = .ok (.iload_n 1, 1) := by decide +kernel
theorem dX1_isThere_6 : decode cX1_isThere 6 = .ok (.ifCond .lt 17, 3) := by decide +kernel
theorem dX1_isThere_9 : decode cX1_isThere 9 = .ok (.iload_n 1, 1) := by decide +kernel
theorem dX1_isThere_10 : decode cX1_isThere 10 = .ok (.aload_n 0, 1) := by decide +kernel
theorem dX1_isThere_11 : decode cX1_isThere 11 = .ok (.getfield 15, 3) := by decide +kernel
theorem dX1_isThere_14 : decode cX1_isThere 14 = .ok (.iconst 0, 1) := by decide +kernel
theorem dX1_isThere_15 : decode cX1_isThere 15 = .ok (.iaload, 1) := by decide +kernel
theorem dX1_isThere_16 : decode cX1_isThere 16 = .ok (.if_icmp .ge 7, 3) := by decide +kernel
theorem dX1_isThere_19 : decode cX1_isThere 19 = .ok (.iconst 1, 1) := by decide +kernel
theorem dX1_isThere_20 : decode cX1_isThere 20 = .ok (.goto 24, 3) := by decide +kernel
theorem dX1_isThere_23 : decode cX1_isThere 23 = .ok (.iconst 0, 1) := by decide +kernel
theorem dX1_isThere_24 : decode cX1_isThere 24 = .ok (.goto 20, 3) := by decide +kernel
theorem dX1_isThere_27 : decode cX1_isThere 27 = .ok (.iload_n 1, 1) := by decide +kernel
theorem dX1_isThere_28 : decode cX1_isThere 28 = .ok (.iconst 4, 1) := by decide +kernel
theorem dX1_isThere_29 : decode cX1_isThere 29 = .ok (.isub, 1) := by decide +kernel
theorem dX1_isThere_30 : decode cX1_isThere 30 = .ok (.aload_n 0, 1) := by decide +kernel
theorem dX1_isThere_31 : decode cX1_isThere 31 = .ok (.getfield 15, 3) := by decide +kernel
theorem dX1_isThere_34 : decode cX1_isThere 34 = .ok (.iconst 1, 1) := by decide +kernel
theorem dX1_isThere_35 : decode cX1_isThere 35 = .ok (.iaload, 1) := by decide +kernel
theorem dX1_isThere_36 : decode cX1_isThere 36 = .ok (.if_icmp .ge 7, 3) := by decide +kernel
theorem dX1_isThere_39 : decode cX1_isThere 39 = .ok (.iconst 1, 1) := by decide +kernel
theorem dX1_isThere_40 : decode cX1_isThere 40 = .ok (.goto 4, 3) := by decide +kernel
theorem dX1_isThere_43 : decode cX1_isThere 43 = .ok (.iconst 0, 1) := by decide +kernel
theorem dX1_isThere_44 : decode cX1_isThere 44 = .ok (.ireturn, 1) := by decide +kernel
theorem dX1_passes_0 : decode cX1_passes 0 = .ok (.aload_n 0, 1) := by decide +kernel
theorem dX1_passes_1 : decode cX1_passes 1 = .ok (.getfield 18, 3) := by decide +kernel
theorem dX1_passes_4 : decode cX1_passes 4 = .ok (.iload_n 1, 1) := by decide +kernel
theorem dX1_passes_5 : decode cX1_passes 5 = .ok (.iaload, 1) := by decide +kernel
theorem dX1_passes_6 : decode cX1_passes 6 = .ok (.iload_n 2, 1) := by decide +kernel
theorem dX1_passes_7 : decode cX1_passes 7 = .ok (.if_icmp .ne 7, 3) := by decide +kernel
theorem dX1_passes_10 : decode cX1_passes 10 = .ok (.iconst 1, 1) := by decide +kernel
theorem dX1_passes_11 : decode cX1_passes 11 = .ok (.goto 4, 3) := by decide +kernel
theorem dX1_passes_14 : decode cX1_passes 14 = .ok (.iconst 0, 1) := by decide +kernel
theorem dX1_passes_15 : decode cX1_passes 15 = .ok (.iload_n 1, 1) := by decide +kernel
theorem dX1_passes_16 : decode cX1_passes 16 = .ok (.iconst 4, 1) := by decide +kernel
theorem dX1_passes_17 : decode cX1_passes 17 = .ok (.if_icmp .ge 7, 3) := by decide +kernel
theorem dX1_passes_20 : decode cX1_passes 20 = .ok (.iconst 1, 1) := by decide +kernel
theorem dX1_passes_21 : decode cX1_passes 21 = .ok (.goto 4, 3) := by decide +kernel
theorem dX1_passes_24 : decode cX1_passes 24 = .ok (.iconst 0, 1) := by decide +kernel
theorem dX1_passes_25 : decode cX1_passes 25 = .ok (.if_icmp .ne 7, 3) := by decide +kernel
theorem dX1_passes_28 : decode cX1_passes 28 = .ok (.iconst 1, 1) := by decide +kernel
theorem dX1_passes_29 : decode cX1_passes 29 = .ok (.goto 4, 3) := by decide +kernel
theorem dX1_passes_32 : decode cX1_passes 32 = .ok (.iconst 0, 1) := by decide +kernel
theorem dX1_passes_33 : decode cX1_passes 33 = .ok (.ireturn, 1) := by decide +kernel
theorem dX1_through_0 : decode cX1_through 0 = .ok (.aload_n 0, 1) := by decide +kernel
theorem dX1_through_1 : decode cX1_through 1 = .ok (.getfield 21, 3) := by decide +kernel
theorem dX1_through_4 : decode cX1_through 4 = .ok (.iload_n 1, 1) := by decide +kernel
theorem dX1_through_5 : decode cX1_through 5 = .ok (.iaload, 1) := by decide +kernel
theorem dX1_through_6 : decode cX1_through 6 = .ok (.iconst 0, 1) := by decide +kernel
theorem dX1_through_7 : decode cX1_through 7 = .ok (.invokestatic 52, 3) := by decide +kernel
theorem dX1_through_10 : decode cX1_through 10 = .ok (.istore_n 3, 1) := by decide +kernel
theorem dX1_through_11 : decode cX1_through 11 = .ok (.iload_n 3, 1) := by decide +kernel
theorem dX1_through_12 : decode cX1_through 12 = .ok (.bipush 24, 2) := by decide +kernel
theorem dX1_through_14 : decode cX1_through 14 = .ok (.if_icmp .ge 28, 3) := by decide +kernel
theorem dX1_through_17 : decode cX1_through 17 = .ok (.iload_n 3, 1) := by decide +kernel
theorem dX1_through_18 : decode cX1_through 18 = .ok (.aload_n 2, 1) := by decide +kernel
theorem dX1_through_19 : decode cX1_through 19 = .ok (.arraylength, 1) := by decide +kernel
theorem dX1_through_20 : decode cX1_through 20 = .ok (.if_icmp .ge 22, 3) := by decide +kernel
theorem dX1_through_23 : decode cX1_through 23 = .ok (.aload_n 0, 1) := by decide +kernel
theorem dX1_through_24 : decode cX1_through 24 = .ok (.iload_n 1, 1) := by decide +kernel
theorem dX1_through_25 : decode cX1_through 25 = .ok (.aload_n 2, 1) := by decide +kernel
theorem dX1_through_26 : decode cX1_through 26 = .ok (.iload_n 3, 1) := by decide +kernel
theorem dX1_through_27 : decode cX1_through 27 = .ok (.iaload, 1) := by decide +kernel
theorem dX1_through_28 : decode cX1_through 28 = .ok (.invokevirtual 58, 3) := by decide +kernel
theorem dX1_through_31 : decode cX1_through 31 = .ok (.ifCond .eq 5, 3) := by decide +kernel
theorem dX1_through_34 : decode cX1_through 34 = .ok (.iload_n 3, 1) := by decide +kernel
theorem dX1_through_35 : decode cX1_through 35 = .ok (.ireturn, 1) := by decide +kernel
theorem dX1_through_36 : decode cX1_through 36 = .ok (.iinc 3 1, 3) := by decide +kernel
theorem dX1_through_39 : decode cX1_through 39 = .ok (.goto (-28), 3) := by decide +kernel
theorem dX1_through_42 : decode cX1_through 42 = .ok (.bipush 24, 2) := by decide +kernel
theorem dX1_through_44 : decode cX1_through 44 = .ok (.ireturn, 1) := by decide +kernel
theorem dX1_throughCount_0 : decode cX1_throughCount 0 = .ok (.iconst 0, 1) := by decide +kernel
theorem dX1_throughCount_1 : decode cX1_throughCount 1 = .ok (.istore_n 2, 1) := by decide +kernel
theorem dX1_throughCount_2 : decode cX1_throughCount 2 = .ok (.iconst 0, 1) := by decide +kernel
theorem dX1_throughCount_3 : decode cX1_throughCount 3 = .ok (.istore_n 3, 1) := by decide +kernel
theorem dX1_throughCount_4 : decode cX1_throughCount 4 = .ok (.iload_n 3, 1) := by decide +kernel
theorem dX1_throughCount_5 : decode cX1_throughCount 5 = .ok (.bipush 8, 2) := by decide +kernel
theorem dX1_throughCount_7 : decode cX1_throughCount 7 = .ok (.if_icmp .ge 31, 3) := by decide +kernel
theorem dX1_throughCount_10 : decode cX1_throughCount 10 = .ok (.aload_n 0, 1) := by decide +kernel
theorem dX1_throughCount_11 : decode cX1_throughCount 11 = .ok (.iload_n 3, 1) := by decide +kernel
theorem dX1_throughCount_12 : decode cX1_throughCount 12 = .ok (.invokevirtual 62, 3) := by decide +kernel
theorem dX1_throughCount_15 : decode cX1_throughCount 15 = .ok (.ifCond .eq 17, 3) := by decide +kernel
theorem dX1_throughCount_18 : decode cX1_throughCount 18 = .ok (.aload_n 0, 1) := by decide +kernel
theorem dX1_throughCount_19 : decode cX1_throughCount 19 = .ok (.iload_n 3, 1) := by decide +kernel
theorem dX1_throughCount_20 : decode cX1_throughCount 20 = .ok (.aload_n 1, 1) := by decide +kernel
theorem dX1_throughCount_21 : decode cX1_throughCount 21 = .ok (.invokevirtual 66, 3) := by decide +kernel
theorem dX1_throughCount_24 : decode cX1_throughCount 24 = .ok (.bipush 24, 2) := by decide +kernel
theorem dX1_throughCount_26 : decode cX1_throughCount 26 = .ok (.if_icmp .ge 6, 3) := by decide +kernel
theorem dX1_throughCount_29 : decode cX1_throughCount 29 = .ok (.iinc 2 1, 3) := by decide +kernel
theorem dX1_throughCount_32 : decode cX1_throughCount 32 = .ok (.iinc 3 1, 3) := by decide +kernel
theorem dX1_throughCount_35 : decode cX1_throughCount 35 = .ok (.goto (-31), 3) := by decide +kernel
theorem dX1_throughCount_38 : decode cX1_throughCount 38 = .ok (.iload_n 2, 1) := by decide +kernel
theorem dX1_throughCount_39 : decode cX1_throughCount 39 = .ok (.ireturn, 1) := by decide +kernel
theorem dX2_init_0 : decode cX2_init 0 = .ok (.aload_n 0, 1) := by decide +kernel
theorem dX2_init_1 : decode cX2_init 1 = .ok (.invokespecial 3, 3) := by decide +kernel
theorem dX2_init_4 : decode cX2_init 4 = .ok (.aload_n 0, 1) := by decide +kernel
theorem dX2_init_5 : decode cX2_init 5 = .ok (.bipush 24, 2) := by decide +kernel
theorem dX2_init_7 : decode cX2_init 7 = .ok (.newarray .int, 2) := by decide +kernel
theorem dX2_init_9 : decode cX2_init 9 = .ok (.putfield 9, 3) := by decide +kernel
theorem dX2_init_12 : decode cX2_init 12 = .ok (.aload_n 0, 1) := by decide +kernel
theorem dX2_init_13 : decode cX2_init 13 = .ok (.iconst 3, 1) := by decide +kernel
theorem dX2_init_14 : decode cX2_init 14 = .ok (.newarray .int, 2) := by decide +kernel
theorem dX2_init_16 : decode cX2_init 16 = .ok (.putfield 15, 3) := by decide +kernel
theorem dX2_init_19 : decode cX2_init 19 = .ok (.aload_n 0, 1) := by decide +kernel
theorem dX2_init_20 : decode cX2_init 20 = .ok (.iconst 3, 1) := by decide +kernel
theorem dX2_init_21 : decode cX2_init 21 = .ok (.newarray .int, 2) := by decide +kernel
theorem dX2_init_23 : decode cX2_init 23 = .ok (.putfield 18, 3) := by decide +kernel
theorem dX2_init_26 : decode cX2_init 26 = .ok (.aload_n 0, 1) := by decide +kernel
theorem dX2_init_27 : decode cX2_init 27 = .ok (.aload_n 1, 1) := by decide +kernel
theorem dX2_init_28 : decode cX2_init 28 = .ok (.putfield 21, 3) := by decide +kernel
theorem dX2_init_31 : decode cX2_init 31 = .ok (.return_, 1) := by decide +kernel
theorem dX2_steer_0 : decode cX2_steer 0 = .ok (.iload_n 1, 1) := by decide +kernel
theorem dX2_steer_1 : decode cX2_steer 1 = .ok (.ifCond .lt 8, 3) := by decide +kernel
theorem dX2_steer_4 : decode cX2_steer 4 = .ok (.iload_n 1, 1) := by decide +kernel
theorem dX2_steer_5 : decode cX2_steer 5 = .ok (.iconst 4, 1) := by decide +kernel
theorem dX2_steer_6 : decode cX2_steer 6 = .ok (.if_icmp .lt 4, 3) := by decide +kernel
theorem dX2_steer_9 : decode cX2_steer 9 = .ok (.return_, 1) := by decide +kernel
theorem dX2_steer_10 : decode cX2_steer 10 = .ok (.iconst 0, 1) := by decide +kernel
theorem dX2_steer_11 : decode cX2_steer 11 = .ok (.istore_n 2, 1) := by decide +kernel
theorem dX2_steer_12 : decode cX2_steer 12 = .ok (.iconst 0, 1) := by decide +kernel
theorem dX2_steer_13 : decode cX2_steer 13 = .ok (.istore_n 3, 1) := by decide +kernel
theorem dX2_steer_14 : decode cX2_steer 14 = .ok (.iconst 0, 1) := by decide +kernel
theorem dX2_steer_15 : decode cX2_steer 15 = .ok (.istore 4, 2) := by decide +kernel
theorem dX2_steer_17 : decode cX2_steer 17 = .ok (.iload 4, 2) := by decide +kernel
theorem dX2_steer_19 : decode cX2_steer 19 = .ok (.bipush 24, 2) := by decide +kernel
theorem dX2_steer_21 : decode cX2_steer 21 = .ok (.if_icmp .ge 102, 3) := by decide +kernel
theorem dX2_steer_24 : decode cX2_steer 24 = .ok (.iconst 0, 1) := by decide +kernel
theorem dX2_steer_25 : decode cX2_steer 25 = .ok (.istore 5, 2) := by decide +kernel
theorem dX2_steer_27 : decode cX2_steer 27 = .ok (.iload 5, 2) := by decide +kernel
theorem dX2_steer_29 : decode cX2_steer 29 = .ok (.iconst 3, 1) := by decide +kernel
theorem dX2_steer_30 : decode cX2_steer 30 = .ok (.if_icmp .ge 43, 3) := by decide +kernel
theorem dX2_steer_33 : decode cX2_steer 33 = .ok (.aload_n 0, 1) := by decide +kernel
theorem dX2_steer_34 : decode cX2_steer 34 = .ok (.getfield 15, 3) := by decide +kernel
theorem dX2_steer_37 : decode cX2_steer 37 = .ok (.iload 5, 2) := by decide +kernel
theorem dX2_steer_39 : decode cX2_steer 39 = .ok (.aload_n 0, 1) := by decide +kernel
theorem dX2_steer_40 : decode cX2_steer 40 = .ok (.iconst 0, 1) := by decide +kernel
theorem dX2_steer_41 : decode cX2_steer 41 = .ok (.iload 5, 2) := by decide +kernel
theorem dX2_steer_43 : decode cX2_steer 43 = .ok (.iload 4, 2) := by decide +kernel
theorem dX2_steer_45 : decode cX2_steer 45 = .ok (.iload_n 2, 1) := by decide +kernel
theorem dX2_steer_46 : decode cX2_steer 46 = .ok (.invokevirtual 25, 3) := by decide +kernel
theorem dX2_steer_49 : decode cX2_steer 49 = .ok (.iastore, 1) := by decide +kernel
theorem dX2_steer_50 : decode cX2_steer 50 = .ok (.aload_n 0, 1) := by decide +kernel
theorem dX2_steer_51 : decode cX2_steer 51 = .ok (.getfield 18, 3) := by decide +kernel
theorem dX2_steer_54 : decode cX2_steer 54 = .ok (.iload 5, 2) := by decide +kernel
theorem dX2_steer_56 : decode cX2_steer 56 = .ok (.aload_n 0, 1) := by decide +kernel
theorem dX2_steer_57 : decode cX2_steer 57 = .ok (.iconst 4, 1) := by decide +kernel
theorem dX2_steer_58 : decode cX2_steer 58 = .ok (.iload 5, 2) := by decide +kernel
theorem dX2_steer_60 : decode cX2_steer 60 = .ok (.iload 4, 2) := by decide +kernel
theorem dX2_steer_62 : decode cX2_steer 62 = .ok (.iload_n 2, 1) := by decide +kernel
theorem dX2_steer_63 : decode cX2_steer 63 = .ok (.invokevirtual 25, 3) := by decide +kernel
theorem dX2_steer_66 : decode cX2_steer 66 = .ok (.iastore, 1) := by decide +kernel
theorem dX2_steer_67 : decode cX2_steer 67 = .ok (.iinc 5 1, 3) := by decide +kernel
theorem dX2_steer_70 : decode cX2_steer 70 = .ok (.goto (-43), 3) := by decide +kernel
theorem dX2_steer_73 : decode cX2_steer 73 = .ok (.aload_n 0, 1) := by decide +kernel
theorem dX2_steer_74 : decode cX2_steer 74 = .ok (.aload_n 0, 1) := by decide +kernel
theorem dX2_steer_75 : decode cX2_steer 75 = .ok (.getfield 21, 3) := by decide +kernel
theorem dX2_steer_78 : decode cX2_steer 78 = .ok (.getfield 29, 3) := by decide +kernel
theorem dX2_steer_81 : decode cX2_steer 81 = .ok (.iload_n 1, 1) := by decide +kernel
theorem dX2_steer_82 : decode cX2_steer 82 = .ok (.iaload, 1) := by decide +kernel
theorem dX2_steer_83 : decode cX2_steer 83 = .ok (.aload_n 0, 1) := by decide +kernel
theorem dX2_steer_84 : decode cX2_steer 84 = .ok (.getfield 21, 3) := by decide +kernel
theorem dX2_steer_87 : decode cX2_steer 87 = .ok (.getfield 34, 3) := by decide +kernel
theorem dX2_steer_90 : decode cX2_steer 90 = .ok (.iload_n 1, 1) := by decide +kernel
theorem dX2_steer_91 : decode cX2_steer 91 = .ok (.iaload, 1) := by decide +kernel
theorem dX2_steer_92 : decode cX2_steer 92 = .ok (.iload 4, 2) := by decide +kernel
theorem dX2_steer_94 : decode cX2_steer 94 = .ok (.iload_n 3, 1) := by decide +kernel
theorem dX2_steer_95 : decode cX2_steer 95 = .ok (.invokevirtual 37, 3) := by decide +kernel
theorem dX2_steer_98 : decode cX2_steer 98 = .ok (.istore_n 3, 1) := by decide +kernel
theorem dX2_steer_99 : decode cX2_steer 99 = .ok (.aload_n 0, 1) := by decide +kernel
theorem dX2_steer_100 : decode cX2_steer 100 = .ok (.getfield 9, 3) := by decide +kernel
theorem dX2_steer_103 : decode cX2_steer 103 = .ok (.iload 4, 2) := by decide +kernel
theorem dX2_steer_105 : decode cX2_steer 105 = .ok (.iload_n 3, 1) := by decide +kernel
theorem dX2_steer_106 : decode cX2_steer 106 = .ok (.iastore, 1) := by decide +kernel
theorem dX2_steer_107 : decode cX2_steer 107 = .ok (.iload_n 2, 1) := by decide +kernel
theorem dX2_steer_108 : decode cX2_steer 108 = .ok (.aload_n 0, 1) := by decide +kernel
theorem dX2_steer_109 : decode cX2_steer 109 = .ok (.iload 4, 2) := by decide +kernel
theorem dX2_steer_111 : decode cX2_steer 111 = .ok (.iload_n 3, 1) := by decide +kernel
theorem dX2_steer_112 : decode cX2_steer 112 = .ok (.invokevirtual 40, 3) := by decide +kernel
theorem dX2_steer_115 : decode cX2_steer 115 = .ok (.ior, 1) := by decide +kernel
theorem dX2_steer_116 : decode cX2_steer 116 = .ok (.istore_n 2, 1) := by decide +kernel
theorem dX2_steer_117 : decode cX2_steer 117 = .ok (.iinc 4 1, 3) := by decide +kernel
theorem dX2_steer_120 : decode cX2_steer 120 = .ok (.goto (-103), 3) := by decide +kernel
theorem dX2_steer_123 : decode cX2_steer 123 = .ok (.return_, 1) := by decide +kernel
theorem dX2_waiting_0 : decode cX2_waiting 0 = .ok (.iconst 0, 1) := by decide +kernel
theorem dX2_waiting_1 : decode cX2_waiting 1 = .ok (.istore 5, 2) := by decide +kernel
theorem dX2_waiting_3 : decode cX2_waiting 3 = .ok (.iload_n 1, 1) := by decide +kernel
theorem dX2_waiting_4 : decode cX2_waiting 4 = .ok (.istore 6, 2) := by decide +kernel
theorem dX2_waiting_6 : decode cX2_waiting 6 = .ok (.iload 6, 2) := by decide +kernel
theorem dX2_waiting_8 : decode cX2_waiting 8 = .ok (.iload_n 1, 1) := by decide +kernel
theorem dX2_waiting_9 : decode cX2_waiting 9 = .ok (.iconst 4, 1) := by decide +kernel
theorem dX2_waiting_10 : decode cX2_waiting 10 = .ok (.iadd, 1) := by decide +kernel
theorem dX2_waiting_11 : decode cX2_waiting 11 = .ok (.if_icmp .ge 81, 3) := by decide +kernel
theorem dX2_waiting_14 : decode cX2_waiting 14 = .ok (.iload 6, 2) := by decide +kernel
theorem dX2_waiting_16 : decode cX2_waiting 16 = .ok (.bipush 8, 2) := by decide +kernel
theorem dX2_waiting_18 : decode cX2_waiting 18 = .ok (.if_icmp .ge 74, 3) := by decide +kernel
theorem dX2_waiting_21 : decode cX2_waiting 21 = .ok (.aload_n 0, 1) := by decide +kernel
theorem dX2_waiting_22 : decode cX2_waiting 22 = .ok (.getfield 21, 3) := by decide +kernel
theorem dX2_waiting_25 : decode cX2_waiting 25 = .ok (.iload 6, 2) := by decide +kernel
theorem dX2_waiting_27 : decode cX2_waiting 27 = .ok (.invokevirtual 44, 3) := by decide +kernel
theorem dX2_waiting_30 : decode cX2_waiting 30 = .ok (.ifCond .eq 56, 3) := by decide +kernel
theorem dX2_waiting_33 : decode cX2_waiting 33 = .ok (.aload_n 0, 1) := by decide +kernel
theorem dX2_waiting_34 : decode cX2_waiting 34 = .ok (.getfield 21, 3) := by decide +kernel
theorem dX2_waiting_37 : decode cX2_waiting 37 = .ok (.getfield 48, 3) := by decide +kernel
theorem dX2_waiting_40 : decode cX2_waiting 40 = .ok (.iload 6, 2) := by decide +kernel
theorem dX2_waiting_42 : decode cX2_waiting 42 = .ok (.iaload, 1) := by decide +kernel
theorem dX2_waiting_43 : decode cX2_waiting 43 = .ok (.iload_n 2, 1) := by decide +kernel
theorem dX2_waiting_44 : decode cX2_waiting 44 = .ok (.if_icmp .ne 42, 3) := by decide +kernel
theorem dX2_waiting_47 : decode cX2_waiting 47 = .ok (.aload_n 0, 1) := by decide +kernel
theorem dX2_waiting_48 : decode cX2_waiting 48 = .ok (.getfield 21, 3) := by decide +kernel
theorem dX2_waiting_51 : decode cX2_waiting 51 = .ok (.getfield 51, 3) := by decide +kernel
theorem dX2_waiting_54 : decode cX2_waiting 54 = .ok (.iload 6, 2) := by decide +kernel
theorem dX2_waiting_56 : decode cX2_waiting 56 = .ok (.iaload, 1) := by decide +kernel
theorem dX2_waiting_57 : decode cX2_waiting 57 = .ok (.iload_n 3, 1) := by decide +kernel
theorem dX2_waiting_58 : decode cX2_waiting 58 = .ok (.if_icmp .gt 28, 3) := by decide +kernel
theorem dX2_waiting_61 : decode cX2_waiting 61 = .ok (.iload 4, 2) := by decide +kernel
theorem dX2_waiting_63 : decode cX2_waiting 63 = .ok (.iconst 1, 1) := by decide +kernel
theorem dX2_waiting_64 : decode cX2_waiting 64 = .ok (.iload 6, 2) := by decide +kernel
theorem dX2_waiting_66 : decode cX2_waiting 66 = .ok (.ishl, 1) := by decide +kernel
theorem dX2_waiting_67 : decode cX2_waiting 67 = .ok (.iand, 1) := by decide +kernel
theorem dX2_waiting_68 : decode cX2_waiting 68 = .ok (.ifCond .ne 18, 3) := by decide +kernel
theorem dX2_waiting_71 : decode cX2_waiting 71 = .ok (.iload 5, 2) := by decide +kernel
theorem dX2_waiting_73 : decode cX2_waiting 73 = .ok (.aload_n 0, 1) := by decide +kernel
theorem dX2_waiting_74 : decode cX2_waiting 74 = .ok (.getfield 21, 3) := by decide +kernel
theorem dX2_waiting_77 : decode cX2_waiting 77 = .ok (.getfield 54, 3) := by decide +kernel
theorem dX2_waiting_80 : decode cX2_waiting 80 = .ok (.iload 6, 2) := by decide +kernel
theorem dX2_waiting_82 : decode cX2_waiting 82 = .ok (.iaload, 1) := by decide +kernel
theorem dX2_waiting_83 : decode cX2_waiting 83 = .ok (.iadd, 1) := by decide +kernel
theorem dX2_waiting_84 : decode cX2_waiting 84 = .ok (.istore 5, 2) := by decide +kernel
theorem dX2_waiting_86 : decode cX2_waiting 86 = .ok (.iinc 6 1, 3) := by decide +kernel
theorem dX2_waiting_89 : decode cX2_waiting 89 = .ok (.goto (-83), 3) := by decide +kernel
theorem dX2_waiting_92 : decode cX2_waiting 92 = .ok (.iload 5, 2) := by decide +kernel
theorem dX2_waiting_94 : decode cX2_waiting 94 = .ok (.ireturn, 1) := by decide +kernel
theorem dX2_going_0 : decode cX2_going 0 = .ok (.iconst 0, 1) := by decide +kernel
theorem dX2_going_1 : decode cX2_going 1 = .ok (.istore_n 3, 1) := by decide +kernel
theorem dX2_going_2 : decode cX2_going 2 = .ok (.iconst 0, 1) := by decide +kernel
theorem dX2_going_3 : decode cX2_going 3 = .ok (.istore 4, 2) := by decide +kernel
theorem dX2_going_5 : decode cX2_going 5 = .ok (.iload 4, 2) := by decide +kernel
theorem dX2_going_7 : decode cX2_going 7 = .ok (.bipush 8, 2) := by decide +kernel
theorem dX2_going_9 : decode cX2_going 9 = .ok (.if_icmp .ge 55, 3) := by decide +kernel
theorem dX2_going_12 : decode cX2_going 12 = .ok (.aload_n 0, 1) := by decide +kernel
theorem dX2_going_13 : decode cX2_going 13 = .ok (.getfield 21, 3) := by decide +kernel
theorem dX2_going_16 : decode cX2_going 16 = .ok (.iload 4, 2) := by decide +kernel
theorem dX2_going_18 : decode cX2_going 18 = .ok (.invokevirtual 44, 3) := by decide +kernel
theorem dX2_going_21 : decode cX2_going 21 = .ok (.ifCond .eq 37, 3) := by decide +kernel
theorem dX2_going_24 : decode cX2_going 24 = .ok (.aload_n 0, 1) := by decide +kernel
theorem dX2_going_25 : decode cX2_going 25 = .ok (.getfield 21, 3) := by decide +kernel
theorem dX2_going_28 : decode cX2_going 28 = .ok (.getfield 51, 3) := by decide +kernel
theorem dX2_going_31 : decode cX2_going 31 = .ok (.iload 4, 2) := by decide +kernel
theorem dX2_going_33 : decode cX2_going 33 = .ok (.iaload, 1) := by decide +kernel
theorem dX2_going_34 : decode cX2_going 34 = .ok (.iload_n 1, 1) := by decide +kernel
theorem dX2_going_35 : decode cX2_going 35 = .ok (.if_icmp .gt 23, 3) := by decide +kernel
theorem dX2_going_38 : decode cX2_going 38 = .ok (.aload_n 0, 1) := by decide +kernel
theorem dX2_going_39 : decode cX2_going 39 = .ok (.getfield 21, 3) := by decide +kernel
theorem dX2_going_42 : decode cX2_going 42 = .ok (.iload 4, 2) := by decide +kernel
theorem dX2_going_44 : decode cX2_going 44 = .ok (.iload_n 2, 1) := by decide +kernel
theorem dX2_going_45 : decode cX2_going 45 = .ok (.invokevirtual 57, 3) := by decide +kernel
theorem dX2_going_48 : decode cX2_going 48 = .ok (.ifCond .eq 10, 3) := by decide +kernel
theorem dX2_going_51 : decode cX2_going 51 = .ok (.iload_n 3, 1) := by decide +kernel
theorem dX2_going_52 : decode cX2_going 52 = .ok (.iconst 1, 1) := by decide +kernel
theorem dX2_going_53 : decode cX2_going 53 = .ok (.iload 4, 2) := by decide +kernel
theorem dX2_going_55 : decode cX2_going 55 = .ok (.ishl, 1) := by decide +kernel
theorem dX2_going_56 : decode cX2_going 56 = .ok (.ior, 1) := by decide +kernel
theorem dX2_going_57 : decode cX2_going 57 = .ok (.istore_n 3, 1) := by decide +kernel
theorem dX2_going_58 : decode cX2_going 58 = .ok (.iinc 4 1, 3) := by decide +kernel
theorem dX2_going_61 : decode cX2_going 61 = .ok (.goto (-56), 3) := by decide +kernel
theorem dX2_going_64 : decode cX2_going 64 = .ok (.iload_n 3, 1) := by decide +kernel
theorem dX2_going_65 : decode cX2_going 65 = .ok (.ireturn, 1) := by decide +kernel
theorem dX2_next_0 : decode cX2_next 0 = .ok (.iload_n 1, 1) := by decide +kernel
theorem dX2_next_1 : decode cX2_next 1 = .ok (.tableswitch 120 1 5 #[35, 44, 49, 81, 100], 35) := by decide +kernel
theorem dX2_next_36 : decode cX2_next 36 = .ok (.aload_n 0, 1) := by decide +kernel
theorem dX2_next_37 : decode cX2_next 37 = .ok (.iload_n 2, 1) := by decide +kernel
theorem dX2_next_38 : decode cX2_next 38 = .ok (.iload_n 3, 1) := by decide +kernel
theorem dX2_next_39 : decode cX2_next 39 = .ok (.iload 4, 2) := by decide +kernel
theorem dX2_next_41 : decode cX2_next 41 = .ok (.invokevirtual 61, 3) := by decide +kernel
theorem dX2_next_44 : decode cX2_next 44 = .ok (.ireturn, 1) := by decide +kernel
theorem dX2_next_45 : decode cX2_next 45 = .ok (.aload_n 0, 1) := by decide +kernel
theorem dX2_next_46 : decode cX2_next 46 = .ok (.invokevirtual 65, 3) := by decide +kernel
theorem dX2_next_49 : decode cX2_next 49 = .ok (.ireturn, 1) := by decide +kernel
theorem dX2_next_50 : decode cX2_next 50 = .ok (.iload 4, 2) := by decide +kernel
theorem dX2_next_52 : decode cX2_next 52 = .ok (.invokestatic 69, 3) := by decide +kernel
theorem dX2_next_55 : decode cX2_next 55 = .ok (.ifCond .eq 18, 3) := by decide +kernel
theorem dX2_next_58 : decode cX2_next 58 = .ok (.aload_n 0, 1) := by decide +kernel
theorem dX2_next_59 : decode cX2_next 59 = .ok (.getfield 15, 3) := by decide +kernel
theorem dX2_next_62 : decode cX2_next 62 = .ok (.iload 4, 2) := by decide +kernel
theorem dX2_next_64 : decode cX2_next 64 = .ok (.iaload, 1) := by decide +kernel
theorem dX2_next_65 : decode cX2_next 65 = .ok (.ifCond .eq 8, 3) := by decide +kernel
theorem dX2_next_68 : decode cX2_next 68 = .ok (.iload 4, 2) := by decide +kernel
theorem dX2_next_70 : decode cX2_next 70 = .ok (.goto 11, 3) := by decide +kernel
theorem dX2_next_73 : decode cX2_next 73 = .ok (.aload_n 0, 1) := by decide +kernel
theorem dX2_next_74 : decode cX2_next 74 = .ok (.iload_n 2, 1) := by decide +kernel
theorem dX2_next_75 : decode cX2_next 75 = .ok (.iload_n 3, 1) := by decide +kernel
theorem dX2_next_76 : decode cX2_next 76 = .ok (.iload 4, 2) := by decide +kernel
theorem dX2_next_78 : decode cX2_next 78 = .ok (.invokevirtual 61, 3) := by decide +kernel
theorem dX2_next_81 : decode cX2_next 81 = .ok (.ireturn, 1) := by decide +kernel
theorem dX2_next_82 : decode cX2_next 82 = .ok (.iload_n 2, 1) := by decide +kernel
theorem dX2_next_83 : decode cX2_next 83 = .ok (.iconst 2, 1) := by decide +kernel
theorem dX2_next_84 : decode cX2_next 84 = .ok (.irem, 1) := by decide +kernel
theorem dX2_next_85 : decode cX2_next 85 = .ok (.iconst 1, 1) := by decide +kernel
theorem dX2_next_86 : decode cX2_next 86 = .ok (.if_icmp .ne 10, 3) := by decide +kernel
theorem dX2_next_89 : decode cX2_next 89 = .ok (.aload_n 0, 1) := by decide +kernel
theorem dX2_next_90 : decode cX2_next 90 = .ok (.invokevirtual 65, 3) := by decide +kernel
theorem dX2_next_93 : decode cX2_next 93 = .ok (.goto 7, 3) := by decide +kernel
theorem dX2_next_96 : decode cX2_next 96 = .ok (.aload_n 0, 1) := by decide +kernel
theorem dX2_next_97 : decode cX2_next 97 = .ok (.invokevirtual 72, 3) := by decide +kernel
theorem dX2_next_100 : decode cX2_next 100 = .ok (.ireturn, 1) := by decide +kernel
theorem dX2_next_101 : decode cX2_next 101 = .ok (.iload_n 3, 1) := by decide +kernel
theorem dX2_next_102 : decode cX2_next 102 = .ok (.iconst 3, 1) := by decide +kernel
theorem dX2_next_103 : decode cX2_next 103 = .ok (.irem, 1) := by decide +kernel
theorem dX2_next_104 : decode cX2_next 104 = .ok (.ifCond .ne 14, 3) := by decide +kernel
theorem dX2_next_107 : decode cX2_next 107 = .ok (.aload_n 0, 1) := by decide +kernel
theorem dX2_next_108 : decode cX2_next 108 = .ok (.iload_n 2, 1) := by decide +kernel
theorem dX2_next_109 : decode cX2_next 109 = .ok (.iload_n 3, 1) := by decide +kernel
theorem dX2_next_110 : decode cX2_next 110 = .ok (.iload 4, 2) := by decide +kernel
theorem dX2_next_112 : decode cX2_next 112 = .ok (.invokevirtual 61, 3) := by decide +kernel
theorem dX2_next_115 : decode cX2_next 115 = .ok (.goto 5, 3) := by decide +kernel
theorem dX2_next_118 : decode cX2_next 118 = .ok (.iload 4, 2) := by decide +kernel
theorem dX2_next_120 : decode cX2_next 120 = .ok (.ireturn, 1) := by decide +kernel
theorem dX2_next_121 : decode cX2_next 121 = .ok (.iload_n 2, 1) := by decide +kernel
theorem dX2_next_122 : decode cX2_next 122 = .ok (.iload_n 3, 1) := by decide +kernel
theorem dX2_next_123 : decode cX2_next 123 = .ok (.iload 4, 2) := by decide +kernel
theorem dX2_next_125 : decode cX2_next 125 = .ok (.invokestatic 75, 3) := by decide +kernel
theorem dX2_next_128 : decode cX2_next 128 = .ok (.ireturn, 1) := by decide +kernel
theorem dX2_byClock_0 : decode cX2_byClock 0 = .ok (.iload_n 0, 1) := by decide +kernel
theorem dX2_byClock_1 : decode cX2_byClock 1 = .ok (.iconst 1, 1) := by decide +kernel
theorem dX2_byClock_2 : decode cX2_byClock 2 = .ok (.iadd, 1) := by decide +kernel
theorem dX2_byClock_3 : decode cX2_byClock 3 = .ok (.istore_n 3, 1) := by decide +kernel
theorem dX2_byClock_4 : decode cX2_byClock 4 = .ok (.iload_n 3, 1) := by decide +kernel
theorem dX2_byClock_5 : decode cX2_byClock 5 = .ok (.ifCond .le 17, 3) := by decide +kernel
theorem dX2_byClock_8 : decode cX2_byClock 8 = .ok (.iload_n 1, 1) := by decide +kernel
theorem dX2_byClock_9 : decode cX2_byClock 9 = .ok (.iload_n 3, 1) := by decide +kernel
theorem dX2_byClock_10 : decode cX2_byClock 10 = .ok (.irem, 1) := by decide +kernel
theorem dX2_byClock_11 : decode cX2_byClock 11 = .ok (.ifCond .ne 11, 3) := by decide +kernel
theorem dX2_byClock_14 : decode cX2_byClock 14 = .ok (.iload_n 2, 1) := by decide +kernel
theorem dX2_byClock_15 : decode cX2_byClock 15 = .ok (.iconst 1, 1) := by decide +kernel
theorem dX2_byClock_16 : decode cX2_byClock 16 = .ok (.iadd, 1) := by decide +kernel
theorem dX2_byClock_17 : decode cX2_byClock 17 = .ok (.iconst 3, 1) := by decide +kernel
theorem dX2_byClock_18 : decode cX2_byClock 18 = .ok (.irem, 1) := by decide +kernel
theorem dX2_byClock_19 : decode cX2_byClock 19 = .ok (.goto 4, 3) := by decide +kernel
theorem dX2_byClock_22 : decode cX2_byClock 22 = .ok (.iload_n 2, 1) := by decide +kernel
theorem dX2_byClock_23 : decode cX2_byClock 23 = .ok (.ireturn, 1) := by decide +kernel
theorem dX2_byTide_0 : decode cX2_byTide 0 = .ok (.iconst 0, 1) := by decide +kernel
theorem dX2_byTide_1 : decode cX2_byTide 1 = .ok (.istore 4, 2) := by decide +kernel
theorem dX2_byTide_3 : decode cX2_byTide 3 = .ok (.iconst 1, 1) := by decide +kernel
theorem dX2_byTide_4 : decode cX2_byTide 4 = .ok (.istore 5, 2) := by decide +kernel
theorem dX2_byTide_6 : decode cX2_byTide 6 = .ok (.iload 5, 2) := by decide +kernel
theorem dX2_byTide_8 : decode cX2_byTide 8 = .ok (.iconst 3, 1) := by decide +kernel
theorem dX2_byTide_9 : decode cX2_byTide 9 = .ok (.if_icmp .ge 30, 3) := by decide +kernel
theorem dX2_byTide_12 : decode cX2_byTide 12 = .ok (.aload_n 0, 1) := by decide +kernel
theorem dX2_byTide_13 : decode cX2_byTide 13 = .ok (.getfield 15, 3) := by decide +kernel
theorem dX2_byTide_16 : decode cX2_byTide 16 = .ok (.iload 5, 2) := by decide +kernel
theorem dX2_byTide_18 : decode cX2_byTide 18 = .ok (.iaload, 1) := by decide +kernel
theorem dX2_byTide_19 : decode cX2_byTide 19 = .ok (.aload_n 0, 1) := by decide +kernel
theorem dX2_byTide_20 : decode cX2_byTide 20 = .ok (.getfield 15, 3) := by decide +kernel
theorem dX2_byTide_23 : decode cX2_byTide 23 = .ok (.iload 4, 2) := by decide +kernel
theorem dX2_byTide_25 : decode cX2_byTide 25 = .ok (.iaload, 1) := by decide +kernel
theorem dX2_byTide_26 : decode cX2_byTide 26 = .ok (.if_icmp .le 7, 3) := by decide +kernel
theorem dX2_byTide_29 : decode cX2_byTide 29 = .ok (.iload 5, 2) := by decide +kernel
theorem dX2_byTide_31 : decode cX2_byTide 31 = .ok (.istore 4, 2) := by decide +kernel
theorem dX2_byTide_33 : decode cX2_byTide 33 = .ok (.iinc 5 1, 3) := by decide +kernel
theorem dX2_byTide_36 : decode cX2_byTide 36 = .ok (.goto (-30), 3) := by decide +kernel
theorem dX2_byTide_39 : decode cX2_byTide 39 = .ok (.aload_n 0, 1) := by decide +kernel
theorem dX2_byTide_40 : decode cX2_byTide 40 = .ok (.getfield 15, 3) := by decide +kernel
theorem dX2_byTide_43 : decode cX2_byTide 43 = .ok (.iload 4, 2) := by decide +kernel
theorem dX2_byTide_45 : decode cX2_byTide 45 = .ok (.iaload, 1) := by decide +kernel
theorem dX2_byTide_46 : decode cX2_byTide 46 = .ok (.ifCond .le 8, 3) := by decide +kernel
theorem dX2_byTide_49 : decode cX2_byTide 49 = .ok (.iload 4, 2) := by decide +kernel
theorem dX2_byTide_51 : decode cX2_byTide 51 = .ok (.goto 9, 3) := by decide +kernel
theorem dX2_byTide_54 : decode cX2_byTide 54 = .ok (.iload_n 1, 1) := by decide +kernel
theorem dX2_byTide_55 : decode cX2_byTide 55 = .ok (.iload_n 2, 1) := by decide +kernel
theorem dX2_byTide_56 : decode cX2_byTide 56 = .ok (.iload_n 3, 1) := by decide +kernel
theorem dX2_byTide_57 : decode cX2_byTide 57 = .ok (.invokestatic 75, 3) := by decide +kernel
theorem dX2_byTide_60 : decode cX2_byTide 60 = .ok (.ireturn, 1) := by decide +kernel
theorem dX2_byMarket_0 : decode cX2_byMarket 0 = .ok (.iconst 0, 1) := by decide +kernel
theorem dX2_byMarket_1 : decode cX2_byMarket 1 = .ok (.istore_n 1, 1) := by decide +kernel
theorem dX2_byMarket_2 : decode cX2_byMarket 2 = .ok (.iconst 1, 1) := by decide +kernel
theorem dX2_byMarket_3 : decode cX2_byMarket 3 = .ok (.istore_n 2, 1) := by decide +kernel
theorem dX2_byMarket_4 : decode cX2_byMarket 4 = .ok (.iload_n 2, 1) := by decide +kernel
theorem dX2_byMarket_5 : decode cX2_byMarket 5 = .ok (.iconst 3, 1) := by decide +kernel
theorem dX2_byMarket_6 : decode cX2_byMarket 6 = .ok (.if_icmp .ge 26, 3) := by decide +kernel
theorem dX2_byMarket_9 : decode cX2_byMarket 9 = .ok (.aload_n 0, 1) := by decide +kernel
theorem dX2_byMarket_10 : decode cX2_byMarket 10 = .ok (.getfield 18, 3) := by decide +kernel
theorem dX2_byMarket_13 : decode cX2_byMarket 13 = .ok (.iload_n 2, 1) := by decide +kernel
theorem dX2_byMarket_14 : decode cX2_byMarket 14 = .ok (.iaload, 1) := by decide +kernel
theorem dX2_byMarket_15 : decode cX2_byMarket 15 = .ok (.aload_n 0, 1) := by decide +kernel
theorem dX2_byMarket_16 : decode cX2_byMarket 16 = .ok (.getfield 18, 3) := by decide +kernel
theorem dX2_byMarket_19 : decode cX2_byMarket 19 = .ok (.iload_n 1, 1) := by decide +kernel
theorem dX2_byMarket_20 : decode cX2_byMarket 20 = .ok (.iaload, 1) := by decide +kernel
theorem dX2_byMarket_21 : decode cX2_byMarket 21 = .ok (.if_icmp .ge 5, 3) := by decide +kernel
theorem dX2_byMarket_24 : decode cX2_byMarket 24 = .ok (.iload_n 2, 1) := by decide +kernel
theorem dX2_byMarket_25 : decode cX2_byMarket 25 = .ok (.istore_n 1, 1) := by decide +kernel
theorem dX2_byMarket_26 : decode cX2_byMarket 26 = .ok (.iinc 2 1, 3) := by decide +kernel
theorem dX2_byMarket_29 : decode cX2_byMarket 29 = .ok (.goto (-25), 3) := by decide +kernel
theorem dX2_byMarket_32 : decode cX2_byMarket 32 = .ok (.iload_n 1, 1) := by decide +kernel
theorem dX2_byMarket_33 : decode cX2_byMarket 33 = .ok (.ireturn, 1) := by decide +kernel
theorem dX2_byGain_0 : decode cX2_byGain 0 = .ok (.iconst 0, 1) := by decide +kernel
theorem dX2_byGain_1 : decode cX2_byGain 1 = .ok (.istore_n 1, 1) := by decide +kernel
theorem dX2_byGain_2 : decode cX2_byGain 2 = .ok (.iconst 1, 1) := by decide +kernel
theorem dX2_byGain_3 : decode cX2_byGain 3 = .ok (.istore_n 2, 1) := by decide +kernel
theorem dX2_byGain_4 : decode cX2_byGain 4 = .ok (.iload_n 2, 1) := by decide +kernel
theorem dX2_byGain_5 : decode cX2_byGain 5 = .ok (.iconst 3, 1) := by decide +kernel
theorem dX2_byGain_6 : decode cX2_byGain 6 = .ok (.if_icmp .ge 40, 3) := by decide +kernel
theorem dX2_byGain_9 : decode cX2_byGain 9 = .ok (.aload_n 0, 1) := by decide +kernel
theorem dX2_byGain_10 : decode cX2_byGain 10 = .ok (.getfield 15, 3) := by decide +kernel
theorem dX2_byGain_13 : decode cX2_byGain 13 = .ok (.iload_n 2, 1) := by decide +kernel
theorem dX2_byGain_14 : decode cX2_byGain 14 = .ok (.iaload, 1) := by decide +kernel
theorem dX2_byGain_15 : decode cX2_byGain 15 = .ok (.aload_n 0, 1) := by decide +kernel
theorem dX2_byGain_16 : decode cX2_byGain 16 = .ok (.getfield 18, 3) := by decide +kernel
theorem dX2_byGain_19 : decode cX2_byGain 19 = .ok (.iload_n 2, 1) := by decide +kernel
theorem dX2_byGain_20 : decode cX2_byGain 20 = .ok (.iaload, 1) := by decide +kernel
theorem dX2_byGain_21 : decode cX2_byGain 21 = .ok (.isub, 1) := by decide +kernel
theorem dX2_byGain_22 : decode cX2_byGain 22 = .ok (.aload_n 0, 1) := by decide +kernel
theorem dX2_byGain_23 : decode cX2_byGain 23 = .ok (.getfield 15, 3) := by decide +kernel
theorem dX2_byGain_26 : decode cX2_byGain 26 = .ok (.iload_n 1, 1) := by decide +kernel
theorem dX2_byGain_27 : decode cX2_byGain 27 = .ok (.iaload, 1) := by decide +kernel
theorem dX2_byGain_28 : decode cX2_byGain 28 = .ok (.aload_n 0, 1) := by decide +kernel
theorem dX2_byGain_29 : decode cX2_byGain 29 = .ok (.getfield 18, 3) := by decide +kernel
theorem dX2_byGain_32 : decode cX2_byGain 32 = .ok (.iload_n 1, 1) := by decide +kernel
theorem dX2_byGain_33 : decode cX2_byGain 33 = .ok (.iaload, 1) := by decide +kernel
theorem dX2_byGain_34 : decode cX2_byGain 34 = .ok (.isub, 1) := by decide +kernel
theorem dX2_byGain_35 : decode cX2_byGain 35 = .ok (.if_icmp .le 5, 3) := by decide +kernel
theorem dX2_byGain_38 : decode cX2_byGain 38 = .ok (.iload_n 2, 1) := by decide +kernel
theorem dX2_byGain_39 : decode cX2_byGain 39 = .ok (.istore_n 1, 1) := by decide +kernel
theorem dX2_byGain_40 : decode cX2_byGain 40 = .ok (.iinc 2 1, 3) := by decide +kernel
theorem dX2_byGain_43 : decode cX2_byGain 43 = .ok (.goto (-39), 3) := by decide +kernel
theorem dX2_byGain_46 : decode cX2_byGain 46 = .ok (.iload_n 1, 1) := by decide +kernel
theorem dX2_byGain_47 : decode cX2_byGain 47 = .ok (.ireturn, 1) := by decide +kernel
theorem dX3_init_0 : decode cX3_init 0 = .ok (.aload_n 0, 1) := by decide +kernel
theorem dX3_init_1 : decode cX3_init 1 = .ok (.invokespecial 3, 3) := by decide +kernel
theorem dX3_init_4 : decode cX3_init 4 = .ok (.aload_n 0, 1) := by decide +kernel
theorem dX3_init_5 : decode cX3_init 5 = .ok (.sipush 161, 3) := by decide +kernel
theorem dX3_init_8 : decode cX3_init 8 = .ok (.newarray .int, 2) := by decide +kernel
theorem dX3_init_10 : decode cX3_init 10 = .ok (.putfield 9, 3) := by decide +kernel
theorem dX3_init_13 : decode cX3_init 13 = .ok (.aload_n 0, 1) := by decide +kernel
theorem dX3_init_14 : decode cX3_init 14 = .ok (.sipush 161, 3) := by decide +kernel
theorem dX3_init_17 : decode cX3_init 17 = .ok (.newarray .int, 2) := by decide +kernel
theorem dX3_init_19 : decode cX3_init 19 = .ok (.putfield 15, 3) := by decide +kernel
theorem dX3_init_22 : decode cX3_init 22 = .ok (.aload_n 0, 1) := by decide +kernel
theorem dX3_init_23 : decode cX3_init 23 = .ok (.sipush 161, 3) := by decide +kernel
theorem dX3_init_26 : decode cX3_init 26 = .ok (.newarray .int, 2) := by decide +kernel
theorem dX3_init_28 : decode cX3_init 28 = .ok (.putfield 18, 3) := by decide +kernel
theorem dX3_init_31 : decode cX3_init 31 = .ok (.aload_n 0, 1) := by decide +kernel
theorem dX3_init_32 : decode cX3_init 32 = .ok (.iconst 0, 1) := by decide +kernel
theorem dX3_init_33 : decode cX3_init 33 = .ok (.putfield 21, 3) := by decide +kernel
theorem dX3_init_36 : decode cX3_init 36 = .ok (.aload_n 0, 1) := by decide +kernel
theorem dX3_init_37 : decode cX3_init 37 = .ok (.iconst 0, 1) := by decide +kernel
theorem dX3_init_38 : decode cX3_init 38 = .ok (.putfield 25, 3) := by decide +kernel
theorem dX3_init_41 : decode cX3_init 41 = .ok (.aload_n 0, 1) := by decide +kernel
theorem dX3_init_42 : decode cX3_init 42 = .ok (.iconst 0, 1) := by decide +kernel
theorem dX3_init_43 : decode cX3_init 43 = .ok (.putfield 28, 3) := by decide +kernel
theorem dX3_init_46 : decode cX3_init 46 = .ok (.aload_n 0, 1) := by decide +kernel
theorem dX3_init_47 : decode cX3_init 47 = .ok (.iconst 0, 1) := by decide +kernel
theorem dX3_init_48 : decode cX3_init 48 = .ok (.putfield 31, 3) := by decide +kernel
theorem dX3_init_51 : decode cX3_init 51 = .ok (.aload_n 0, 1) := by decide +kernel
theorem dX3_init_52 : decode cX3_init 52 = .ok (.iconst 0, 1) := by decide +kernel
theorem dX3_init_53 : decode cX3_init 53 = .ok (.putfield 34, 3) := by decide +kernel
theorem dX3_init_56 : decode cX3_init 56 = .ok (.aload_n 0, 1) := by decide +kernel
theorem dX3_init_57 : decode cX3_init 57 = .ok (.aconst_null, 1) := by decide +kernel
theorem dX3_init_58 : decode cX3_init 58 = .ok (.putfield 37, 3) := by decide +kernel
theorem dX3_init_61 : decode cX3_init 61 = .ok (.return_, 1) := by decide +kernel
theorem dX3_reads_0 : decode cX3_reads 0 = .ok (.aload_n 1, 1) := by decide +kernel
theorem dX3_reads_1 : decode cX3_reads 1 = .ok (.ifnull 7, 3) := by decide +kernel
theorem dX3_reads_4 : decode cX3_reads 4 = .ok (.aload_n 3, 1) := by decide +kernel
theorem dX3_reads_5 : decode cX3_reads 5 = .ok (.ifnonnull 5, 3) := by decide +kernel
theorem dX3_reads_8 : decode cX3_reads 8 = .ok (.iconst 0, 1) := by decide +kernel
theorem dX3_reads_9 : decode cX3_reads 9 = .ok (.ireturn, 1) := by decide +kernel
theorem dX3_reads_10 : decode cX3_reads 10 = .ok (.aload_n 0, 1) := by decide +kernel
theorem dX3_reads_11 : decode cX3_reads 11 = .ok (.aload_n 1, 1) := by decide +kernel
theorem dX3_reads_12 : decode cX3_reads 12 = .ok (.iconst 0, 1) := by decide +kernel
theorem dX3_reads_13 : decode cX3_reads 13 = .ok (.iload_n 2, 1) := by decide +kernel
theorem dX3_reads_14 : decode cX3_reads 14 = .ok (.sipush 160, 3) := by decide +kernel
theorem dX3_reads_17 : decode cX3_reads 17 = .ok (.invokestatic 41, 3) := by decide +kernel
theorem dX3_reads_20 : decode cX3_reads 20 = .ok (.aload_n 1, 1) := by decide +kernel
theorem dX3_reads_21 : decode cX3_reads 21 = .ok (.arraylength, 1) := by decide +kernel
theorem dX3_reads_22 : decode cX3_reads 22 = .ok (.invokestatic 41, 3) := by decide +kernel
theorem dX3_reads_25 : decode cX3_reads 25 = .ok (.invokestatic 47, 3) := by decide +kernel
theorem dX3_reads_28 : decode cX3_reads 28 = .ok (.invokevirtual 50, 3) := by decide +kernel
theorem dX3_reads_31 : decode cX3_reads 31 = .ok (.aload_n 0, 1) := by decide +kernel
theorem dX3_reads_32 : decode cX3_reads 32 = .ok (.aload_n 3, 1) := by decide +kernel
theorem dX3_reads_33 : decode cX3_reads 33 = .ok (.putfield 37, 3) := by decide +kernel
theorem dX3_reads_36 : decode cX3_reads 36 = .ok (.aload_n 0, 1) := by decide +kernel
theorem dX3_reads_37 : decode cX3_reads 37 = .ok (.getfield 37, 3) := by decide +kernel
theorem dX3_reads_40 : decode cX3_reads 40 = .ok (.invokevirtual 54, 3) := by decide +kernel
theorem dX3_reads_43 : decode cX3_reads 43 = .ok (.aload_n 0, 1) := by decide +kernel
theorem dX3_reads_44 : decode cX3_reads 44 = .ok (.iconst 0, 1) := by decide +kernel
theorem dX3_reads_45 : decode cX3_reads 45 = .ok (.putfield 25, 3) := by decide +kernel
theorem dX3_reads_48 : decode cX3_reads 48 = .ok (.aload_n 0, 1) := by decide +kernel
theorem dX3_reads_49 : decode cX3_reads 49 = .ok (.invokevirtual 59, 3) := by decide +kernel
theorem dX3_reads_52 : decode cX3_reads 52 = .ok (.aload_n 0, 1) := by decide +kernel
theorem dX3_reads_53 : decode cX3_reads 53 = .ok (.iconst 0, 1) := by decide +kernel
theorem dX3_reads_54 : decode cX3_reads 54 = .ok (.iconst 4, 1) := by decide +kernel
theorem dX3_reads_55 : decode cX3_reads 55 = .ok (.invokevirtual 62, 3) := by decide +kernel
theorem dX3_reads_58 : decode cX3_reads 58 = .ok (.ifCond .eq 33, 3) := by decide +kernel
theorem dX3_reads_61 : decode cX3_reads 61 = .ok (.aload_n 0, 1) := by decide +kernel
theorem dX3_reads_62 : decode cX3_reads 62 = .ok (.iconst 1, 1) := by decide +kernel
theorem dX3_reads_63 : decode cX3_reads 63 = .ok (.iconst 5, 1) := by decide +kernel
theorem dX3_reads_64 : decode cX3_reads 64 = .ok (.invokevirtual 62, 3) := by decide +kernel
theorem dX3_reads_67 : decode cX3_reads 67 = .ok (.ifCond .eq 24, 3) := by decide +kernel
theorem dX3_reads_70 : decode cX3_reads 70 = .ok (.aload_n 0, 1) := by decide +kernel
theorem dX3_reads_71 : decode cX3_reads 71 = .ok (.iconst 2, 1) := by decide +kernel
theorem dX3_reads_72 : decode cX3_reads 72 = .ok (.bipush 6, 2) := by decide +kernel
theorem dX3_reads_74 : decode cX3_reads 74 = .ok (.invokevirtual 62, 3) := by decide +kernel
theorem dX3_reads_77 : decode cX3_reads 77 = .ok (.ifCond .eq 14, 3) := by decide +kernel
theorem dX3_reads_80 : decode cX3_reads 80 = .ok (.aload_n 0, 1) := by decide +kernel
theorem dX3_reads_81 : decode cX3_reads 81 = .ok (.getfield 28, 3) := by decide +kernel
theorem dX3_reads_84 : decode cX3_reads 84 = .ok (.ifCond .ne 7, 3) := by decide +kernel
theorem dX3_reads_87 : decode cX3_reads 87 = .ok (.iconst 1, 1) := by decide +kernel
theorem dX3_reads_88 : decode cX3_reads 88 = .ok (.goto 4, 3) := by decide +kernel
theorem dX3_reads_91 : decode cX3_reads 91 = .ok (.iconst 0, 1) := by decide +kernel
theorem dX3_reads_92 : decode cX3_reads 92 = .ok (.ireturn, 1) := by decide +kernel
theorem dX3_scan_0 : decode cX3_scan 0 = .ok (.aload_n 0, 1) := by decide +kernel
theorem dX3_scan_1 : decode cX3_scan 1 = .ok (.iconst 0, 1) := by decide +kernel
theorem dX3_scan_2 : decode cX3_scan 2 = .ok (.putfield 21, 3) := by decide +kernel
theorem dX3_scan_5 : decode cX3_scan 5 = .ok (.iconst 0, 1) := by decide +kernel
theorem dX3_scan_6 : decode cX3_scan 6 = .ok (.istore_n 3, 1) := by decide +kernel
theorem dX3_scan_7 : decode cX3_scan 7 = .ok (.iconst 0, 1) := by decide +kernel
theorem dX3_scan_8 : decode cX3_scan 8 = .ok (.istore 4, 2) := by decide +kernel
theorem dX3_scan_10 : decode cX3_scan 10 = .ok (.iload 4, 2) := by decide +kernel
theorem dX3_scan_12 : decode cX3_scan 12 = .ok (.sipush 160, 3) := by decide +kernel
theorem dX3_scan_15 : decode cX3_scan 15 = .ok (.if_icmp .ge 94, 3) := by decide +kernel
theorem dX3_scan_18 : decode cX3_scan 18 = .ok (.iload_n 3, 1) := by decide +kernel
theorem dX3_scan_19 : decode cX3_scan 19 = .ok (.iload_n 2, 1) := by decide +kernel
theorem dX3_scan_20 : decode cX3_scan 20 = .ok (.if_icmp .ge 89, 3) := by decide +kernel
theorem dX3_scan_23 : decode cX3_scan 23 = .ok (.aload_n 1, 1) := by decide +kernel
theorem dX3_scan_24 : decode cX3_scan 24 = .ok (.iload_n 3, 1) := by decide +kernel
theorem dX3_scan_25 : decode cX3_scan 25 = .ok (.iaload, 1) := by decide +kernel
theorem dX3_scan_26 : decode cX3_scan 26 = .ok (.istore 5, 2) := by decide +kernel
theorem dX3_scan_28 : decode cX3_scan 28 = .ok (.iload 5, 2) := by decide +kernel
theorem dX3_scan_30 : decode cX3_scan 30 = .ok (.invokestatic 66, 3) := by decide +kernel
theorem dX3_scan_33 : decode cX3_scan 33 = .ok (.ifCond .eq 14, 3) := by decide +kernel
theorem dX3_scan_36 : decode cX3_scan 36 = .ok (.aload_n 0, 1) := by decide +kernel
theorem dX3_scan_37 : decode cX3_scan 37 = .ok (.aload_n 1, 1) := by decide +kernel
theorem dX3_scan_38 : decode cX3_scan 38 = .ok (.iload_n 3, 1) := by decide +kernel
theorem dX3_scan_39 : decode cX3_scan 39 = .ok (.iload_n 2, 1) := by decide +kernel
theorem dX3_scan_40 : decode cX3_scan 40 = .ok (.invokevirtual 70, 3) := by decide +kernel
theorem dX3_scan_43 : decode cX3_scan 43 = .ok (.istore_n 3, 1) := by decide +kernel
theorem dX3_scan_44 : decode cX3_scan 44 = .ok (.goto 59, 3) := by decide +kernel
theorem dX3_scan_47 : decode cX3_scan 47 = .ok (.iload 5, 2) := by decide +kernel
theorem dX3_scan_49 : decode cX3_scan 49 = .ok (.invokestatic 74, 3) := by decide +kernel
theorem dX3_scan_52 : decode cX3_scan 52 = .ok (.ifCond .eq 14, 3) := by decide +kernel
theorem dX3_scan_55 : decode cX3_scan 55 = .ok (.aload_n 0, 1) := by decide +kernel
theorem dX3_scan_56 : decode cX3_scan 56 = .ok (.aload_n 1, 1) := by decide +kernel
theorem dX3_scan_57 : decode cX3_scan 57 = .ok (.iload_n 3, 1) := by decide +kernel
theorem dX3_scan_58 : decode cX3_scan 58 = .ok (.iload_n 2, 1) := by decide +kernel
theorem dX3_scan_59 : decode cX3_scan 59 = .ok (.invokevirtual 77, 3) := by decide +kernel
theorem dX3_scan_62 : decode cX3_scan 62 = .ok (.istore_n 3, 1) := by decide +kernel
theorem dX3_scan_63 : decode cX3_scan 63 = .ok (.goto 40, 3) := by decide +kernel
theorem dX3_scan_66 : decode cX3_scan 66 = .ok (.iload 5, 2) := by decide +kernel
theorem dX3_scan_68 : decode cX3_scan 68 = .ok (.bipush 32, 2) := by decide +kernel
theorem dX3_scan_70 : decode cX3_scan 70 = .ok (.if_icmp .eq 30, 3) := by decide +kernel
theorem dX3_scan_73 : decode cX3_scan 73 = .ok (.iload 5, 2) := by decide +kernel
theorem dX3_scan_75 : decode cX3_scan 75 = .ok (.bipush 10, 2) := by decide +kernel
theorem dX3_scan_77 : decode cX3_scan 77 = .ok (.if_icmp .eq 23, 3) := by decide +kernel
theorem dX3_scan_80 : decode cX3_scan 80 = .ok (.aload_n 0, 1) := by decide +kernel
theorem dX3_scan_81 : decode cX3_scan 81 = .ok (.iload 5, 2) := by decide +kernel
theorem dX3_scan_83 : decode cX3_scan 83 = .ok (.invokestatic 80, 3) := by decide +kernel
theorem dX3_scan_86 : decode cX3_scan 86 = .ok (.ifCond .eq 8, 3) := by decide +kernel
theorem dX3_scan_89 : decode cX3_scan 89 = .ok (.iload 5, 2) := by decide +kernel
theorem dX3_scan_91 : decode cX3_scan 91 = .ok (.goto 4, 3) := by decide +kernel
theorem dX3_scan_94 : decode cX3_scan 94 = .ok (.iconst 1, 1) := by decide +kernel
theorem dX3_scan_95 : decode cX3_scan 95 = .ok (.iconst 0, 1) := by decide +kernel
theorem dX3_scan_96 : decode cX3_scan 96 = .ok (.iload_n 3, 1) := by decide +kernel
theorem dX3_scan_97 : decode cX3_scan 97 = .ok (.invokevirtual 83, 3) := by decide +kernel
theorem dX3_scan_100 : decode cX3_scan 100 = .ok (.iinc 3 1, 3) := by decide +kernel
theorem dX3_scan_103 : decode cX3_scan 103 = .ok (.iinc 4 1, 3) := by decide +kernel
theorem dX3_scan_106 : decode cX3_scan 106 = .ok (.goto (-96), 3) := by decide +kernel
theorem dX3_scan_109 : decode cX3_scan 109 = .ok (.aload_n 0, 1) := by decide +kernel
theorem dX3_scan_110 : decode cX3_scan 110 = .ok (.iconst 0, 1) := by decide +kernel
theorem dX3_scan_111 : decode cX3_scan 111 = .ok (.iconst 0, 1) := by decide +kernel
theorem dX3_scan_112 : decode cX3_scan 112 = .ok (.iload_n 2, 1) := by decide +kernel
theorem dX3_scan_113 : decode cX3_scan 113 = .ok (.invokevirtual 83, 3) := by decide +kernel
theorem dX3_scan_116 : decode cX3_scan 116 = .ok (.return_, 1) := by decide +kernel
theorem dX3_keep_0 : decode cX3_keep 0 = .ok (.aload_n 0, 1) := by decide +kernel
theorem dX3_keep_1 : decode cX3_keep 1 = .ok (.getfield 21, 3) := by decide +kernel
theorem dX3_keep_4 : decode cX3_keep 4 = .ok (.aload_n 0, 1) := by decide +kernel
theorem dX3_keep_5 : decode cX3_keep 5 = .ok (.getfield 9, 3) := by decide +kernel
theorem dX3_keep_8 : decode cX3_keep 8 = .ok (.arraylength, 1) := by decide +kernel
theorem dX3_keep_9 : decode cX3_keep 9 = .ok (.if_icmp .ge 43, 3) := by decide +kernel
theorem dX3_keep_12 : decode cX3_keep 12 = .ok (.aload_n 0, 1) := by decide +kernel
theorem dX3_keep_13 : decode cX3_keep 13 = .ok (.getfield 9, 3) := by decide +kernel
theorem dX3_keep_16 : decode cX3_keep 16 = .ok (.aload_n 0, 1) := by decide +kernel
theorem dX3_keep_17 : decode cX3_keep 17 = .ok (.getfield 21, 3) := by decide +kernel
theorem dX3_keep_20 : decode cX3_keep 20 = .ok (.iload_n 1, 1) := by decide +kernel
theorem dX3_keep_21 : decode cX3_keep 21 = .ok (.iastore, 1) := by decide +kernel
theorem dX3_keep_22 : decode cX3_keep 22 = .ok (.aload_n 0, 1) := by decide +kernel
theorem dX3_keep_23 : decode cX3_keep 23 = .ok (.getfield 15, 3) := by decide +kernel
theorem dX3_keep_26 : decode cX3_keep 26 = .ok (.aload_n 0, 1) := by decide +kernel
theorem dX3_keep_27 : decode cX3_keep 27 = .ok (.getfield 21, 3) := by decide +kernel
theorem dX3_keep_30 : decode cX3_keep 30 = .ok (.iload_n 2, 1) := by decide +kernel
theorem dX3_keep_31 : decode cX3_keep 31 = .ok (.iastore, 1) := by decide +kernel
theorem dX3_keep_32 : decode cX3_keep 32 = .ok (.aload_n 0, 1) := by decide +kernel
theorem dX3_keep_33 : decode cX3_keep 33 = .ok (.getfield 18, 3) := by decide +kernel
theorem dX3_keep_36 : decode cX3_keep 36 = .ok (.aload_n 0, 1) := by decide +kernel
theorem dX3_keep_37 : decode cX3_keep 37 = .ok (.getfield 21, 3) := by decide +kernel
theorem dX3_keep_40 : decode cX3_keep 40 = .ok (.iload_n 3, 1) := by decide +kernel
theorem dX3_keep_41 : decode cX3_keep 41 = .ok (.iastore, 1) := by decide +kernel
theorem dX3_keep_42 : decode cX3_keep 42 = .ok (.aload_n 0, 1) := by decide +kernel
theorem dX3_keep_43 : decode cX3_keep 43 = .ok (.dup, 1) := by decide +kernel
theorem dX3_keep_44 : decode cX3_keep 44 = .ok (.getfield 21, 3) := by decide +kernel
theorem dX3_keep_47 : decode cX3_keep 47 = .ok (.iconst 1, 1) := by decide +kernel
theorem dX3_keep_48 : decode cX3_keep 48 = .ok (.iadd, 1) := by decide +kernel
theorem dX3_keep_49 : decode cX3_keep 49 = .ok (.putfield 21, 3) := by decide +kernel
theorem dX3_keep_52 : decode cX3_keep 52 = .ok (.return_, 1) := by decide +kernel
theorem dX3_takeWord_0 : decode cX3_takeWord 0 = .ok (.iload_n 2, 1) := by decide +kernel
theorem dX3_takeWord_1 : decode cX3_takeWord 1 = .ok (.istore 4, 2) := by decide +kernel
theorem dX3_takeWord_3 : decode cX3_takeWord 3 = .ok (.iload 4, 2) := by decide +kernel
theorem dX3_takeWord_5 : decode cX3_takeWord 5 = .ok (.iload_n 3, 1) := by decide +kernel
theorem dX3_takeWord_6 : decode cX3_takeWord 6 = .ok (.if_icmp .ge 19, 3) := by decide +kernel
theorem dX3_takeWord_9 : decode cX3_takeWord 9 = .ok (.aload_n 1, 1) := by decide +kernel
theorem dX3_takeWord_10 : decode cX3_takeWord 10 = .ok (.iload 4, 2) := by decide +kernel
theorem dX3_takeWord_12 : decode cX3_takeWord 12 = .ok (.iaload, 1) := by decide +kernel
theorem dX3_takeWord_13 : decode cX3_takeWord 13 = .ok (.invokestatic 66, 3) := by decide +kernel
theorem dX3_takeWord_16 : decode cX3_takeWord 16 = .ok (.ifCond .eq 9, 3) := by decide +kernel
theorem dX3_takeWord_19 : decode cX3_takeWord 19 = .ok (.iinc 4 1, 3) := by decide +kernel
theorem dX3_takeWord_22 : decode cX3_takeWord 22 = .ok (.goto (-19), 3) := by decide +kernel
theorem dX3_takeWord_25 : decode cX3_takeWord 25 = .ok (.aload_n 1, 1) := by decide +kernel
theorem dX3_takeWord_26 : decode cX3_takeWord 26 = .ok (.iload_n 2, 1) := by decide +kernel
theorem dX3_takeWord_27 : decode cX3_takeWord 27 = .ok (.iload 4, 2) := by decide +kernel
theorem dX3_takeWord_29 : decode cX3_takeWord 29 = .ok (.invokestatic 87, 3) := by decide +kernel
theorem dX3_takeWord_32 : decode cX3_takeWord 32 = .ok (.istore 5, 2) := by decide +kernel
theorem dX3_takeWord_34 : decode cX3_takeWord 34 = .ok (.aload_n 0, 1) := by decide +kernel
theorem dX3_takeWord_35 : decode cX3_takeWord 35 = .ok (.iload 5, 2) := by decide +kernel
theorem dX3_takeWord_37 : decode cX3_takeWord 37 = .ok (.iconst (-1), 1) := by decide +kernel
theorem dX3_takeWord_38 : decode cX3_takeWord 38 = .ok (.if_icmp .ne 13, 3) := by decide +kernel
theorem dX3_takeWord_41 : decode cX3_takeWord 41 = .ok (.aload_n 1, 1) := by decide +kernel
theorem dX3_takeWord_42 : decode cX3_takeWord 42 = .ok (.iload_n 2, 1) := by decide +kernel
theorem dX3_takeWord_43 : decode cX3_takeWord 43 = .ok (.iload 4, 2) := by decide +kernel
theorem dX3_takeWord_45 : decode cX3_takeWord 45 = .ok (.invokestatic 90, 3) := by decide +kernel
theorem dX3_takeWord_48 : decode cX3_takeWord 48 = .ok (.goto 4, 3) := by decide +kernel
theorem dX3_takeWord_51 : decode cX3_takeWord 51 = .ok (.iconst 3, 1) := by decide +kernel
theorem dX3_takeWord_52 : decode cX3_takeWord 52 = .ok (.iload 5, 2) := by decide +kernel
theorem dX3_takeWord_54 : decode cX3_takeWord 54 = .ok (.iload_n 2, 1) := by decide +kernel
theorem dX3_takeWord_55 : decode cX3_takeWord 55 = .ok (.invokevirtual 83, 3) := by decide +kernel
theorem dX3_takeWord_58 : decode cX3_takeWord 58 = .ok (.iload 4, 2) := by decide +kernel
theorem dX3_takeWord_60 : decode cX3_takeWord 60 = .ok (.ireturn, 1) := by decide +kernel
theorem dX3_takeNumber_0 : decode cX3_takeNumber 0 = .ok (.iload_n 2, 1) := by decide +kernel
theorem dX3_takeNumber_1 : decode cX3_takeNumber 1 = .ok (.istore 4, 2) := by decide +kernel
theorem dX3_takeNumber_3 : decode cX3_takeNumber 3 = .ok (.iconst 0, 1) := by decide +kernel
theorem dX3_takeNumber_4 : decode cX3_takeNumber 4 = .ok (.istore 5, 2) := by decide +kernel
theorem dX3_takeNumber_6 : decode cX3_takeNumber 6 = .ok (.iload 4, 2) := by decide +kernel
theorem dX3_takeNumber_8 : decode cX3_takeNumber 8 = .ok (.iload_n 3, 1) := by decide +kernel
theorem dX3_takeNumber_9 : decode cX3_takeNumber 9 = .ok (.if_icmp .ge 34, 3) := by decide +kernel
theorem dX3_takeNumber_12 : decode cX3_takeNumber 12 = .ok (.aload_n 1, 1) := by decide +kernel
theorem dX3_takeNumber_13 : decode cX3_takeNumber 13 = .ok (.iload 4, 2) := by decide +kernel
theorem dX3_takeNumber_15 : decode cX3_takeNumber 15 = .ok (.iaload, 1) := by decide +kernel
theorem dX3_takeNumber_16 : decode cX3_takeNumber 16 = .ok (.invokestatic 74, 3) := by decide +kernel
theorem dX3_takeNumber_19 : decode cX3_takeNumber 19 = .ok (.ifCond .eq 24, 3) := by decide +kernel
theorem dX3_takeNumber_22 : decode cX3_takeNumber 22 = .ok (.iload 5, 2) := by decide +kernel
theorem dX3_takeNumber_24 : decode cX3_takeNumber 24 = .ok (.bipush 10, 2) := by decide +kernel
theorem dX3_takeNumber_26 : decode cX3_takeNumber 26 = .ok (.imul, 1) := by decide +kernel
theorem dX3_takeNumber_27 : decode cX3_takeNumber 27 = .ok (.aload_n 1, 1) := by decide +kernel
theorem dX3_takeNumber_28 : decode cX3_takeNumber 28 = .ok (.iload 4, 2) := by decide +kernel
theorem dX3_takeNumber_30 : decode cX3_takeNumber 30 = .ok (.iaload, 1) := by decide +kernel
theorem dX3_takeNumber_31 : decode cX3_takeNumber 31 = .ok (.iadd, 1) := by decide +kernel
theorem dX3_takeNumber_32 : decode cX3_takeNumber 32 = .ok (.bipush 48, 2) := by decide +kernel
theorem dX3_takeNumber_34 : decode cX3_takeNumber 34 = .ok (.isub, 1) := by decide +kernel
theorem dX3_takeNumber_35 : decode cX3_takeNumber 35 = .ok (.istore 5, 2) := by decide +kernel
theorem dX3_takeNumber_37 : decode cX3_takeNumber 37 = .ok (.iinc 4 1, 3) := by decide +kernel
theorem dX3_takeNumber_40 : decode cX3_takeNumber 40 = .ok (.goto (-34), 3) := by decide +kernel
theorem dX3_takeNumber_43 : decode cX3_takeNumber 43 = .ok (.aload_n 0, 1) := by decide +kernel
theorem dX3_takeNumber_44 : decode cX3_takeNumber 44 = .ok (.iload 4, 2) := by decide +kernel
theorem dX3_takeNumber_46 : decode cX3_takeNumber 46 = .ok (.iload_n 2, 1) := by decide +kernel
theorem dX3_takeNumber_47 : decode cX3_takeNumber 47 = .ok (.isub, 1) := by decide +kernel
theorem dX3_takeNumber_48 : decode cX3_takeNumber 48 = .ok (.iconst 4, 1) := by decide +kernel
theorem dX3_takeNumber_49 : decode cX3_takeNumber 49 = .ok (.if_icmp .le 7, 3) := by decide +kernel
theorem dX3_takeNumber_52 : decode cX3_takeNumber 52 = .ok (.iconst 1, 1) := by decide +kernel
theorem dX3_takeNumber_53 : decode cX3_takeNumber 53 = .ok (.goto 4, 3) := by decide +kernel
theorem dX3_takeNumber_56 : decode cX3_takeNumber 56 = .ok (.iconst 2, 1) := by decide +kernel
theorem dX3_takeNumber_57 : decode cX3_takeNumber 57 = .ok (.iload 5, 2) := by decide +kernel
theorem dX3_takeNumber_59 : decode cX3_takeNumber 59 = .ok (.iload_n 2, 1) := by decide +kernel
theorem dX3_takeNumber_60 : decode cX3_takeNumber 60 = .ok (.invokevirtual 83, 3) := by decide +kernel
theorem dX3_takeNumber_63 : decode cX3_takeNumber 63 = .ok (.iload 4, 2) := by decide +kernel
theorem dX3_takeNumber_65 : decode cX3_takeNumber 65 = .ok (.ireturn, 1) := by decide +kernel
theorem dX3_nameOf_0 : decode cX3_nameOf 0 = .ok (.ldc 93, 2) := by decide +kernel
theorem dX3_nameOf_2 : decode cX3_nameOf 2 = .ok (.aload_n 0, 1) := by decide +kernel
theorem dX3_nameOf_3 : decode cX3_nameOf 3 = .ok (.iload_n 1, 1) := by decide +kernel
theorem dX3_nameOf_4 : decode cX3_nameOf 4 = .ok (.iload_n 2, 1) := by decide +kernel
theorem dX3_nameOf_5 : decode cX3_nameOf 5 = .ok (.invokestatic 95, 3) := by decide +kernel
theorem dX3_nameOf_8 : decode cX3_nameOf 8 = .ok (.ifCond .eq 5, 3) := by decide +kernel
theorem dX3_nameOf_11 : decode cX3_nameOf 11 = .ok (.iconst 0, 1) := by decide +kernel
theorem dX3_nameOf_12 : decode cX3_nameOf 12 = .ok (.ireturn, 1) := by decide +kernel
theorem dX3_nameOf_13 : decode cX3_nameOf 13 = .ok (.ldc 99, 2) := by decide +kernel
theorem dX3_nameOf_15 : decode cX3_nameOf 15 = .ok (.aload_n 0, 1) := by decide +kernel
theorem dX3_nameOf_16 : decode cX3_nameOf 16 = .ok (.iload_n 1, 1) := by decide +kernel
theorem dX3_nameOf_17 : decode cX3_nameOf 17 = .ok (.iload_n 2, 1) := by decide +kernel
theorem dX3_nameOf_18 : decode cX3_nameOf 18 = .ok (.invokestatic 95, 3) := by decide +kernel
theorem dX3_nameOf_21 : decode cX3_nameOf 21 = .ok (.ifCond .eq 5, 3) := by decide +kernel
theorem dX3_nameOf_24 : decode cX3_nameOf 24 = .ok (.iconst 1, 1) := by decide +kernel
theorem dX3_nameOf_25 : decode cX3_nameOf 25 = .ok (.ireturn, 1) := by decide +kernel
theorem dX3_nameOf_26 : decode cX3_nameOf 26 = .ok (.ldc 101, 2) := by decide +kernel
theorem dX3_nameOf_28 : decode cX3_nameOf 28 = .ok (.aload_n 0, 1) := by decide +kernel
theorem dX3_nameOf_29 : decode cX3_nameOf 29 = .ok (.iload_n 1, 1) := by decide +kernel
theorem dX3_nameOf_30 : decode cX3_nameOf 30 = .ok (.iload_n 2, 1) := by decide +kernel
theorem dX3_nameOf_31 : decode cX3_nameOf 31 = .ok (.invokestatic 95, 3) := by decide +kernel
theorem dX3_nameOf_34 : decode cX3_nameOf 34 = .ok (.ifCond .eq 5, 3) := by decide +kernel
theorem dX3_nameOf_37 : decode cX3_nameOf 37 = .ok (.iconst 2, 1) := by decide +kernel
theorem dX3_nameOf_38 : decode cX3_nameOf 38 = .ok (.ireturn, 1) := by decide +kernel
theorem dX3_nameOf_39 : decode cX3_nameOf 39 = .ok (.ldc 103, 2) := by decide +kernel
theorem dX3_nameOf_41 : decode cX3_nameOf 41 = .ok (.aload_n 0, 1) := by decide +kernel
theorem dX3_nameOf_42 : decode cX3_nameOf 42 = .ok (.iload_n 1, 1) := by decide +kernel
theorem dX3_nameOf_43 : decode cX3_nameOf 43 = .ok (.iload_n 2, 1) := by decide +kernel
theorem dX3_nameOf_44 : decode cX3_nameOf 44 = .ok (.invokestatic 95, 3) := by decide +kernel
theorem dX3_nameOf_47 : decode cX3_nameOf 47 = .ok (.ifCond .eq 5, 3) := by decide +kernel
theorem dX3_nameOf_50 : decode cX3_nameOf 50 = .ok (.iconst 3, 1) := by decide +kernel
theorem dX3_nameOf_51 : decode cX3_nameOf 51 = .ok (.ireturn, 1) := by decide +kernel
theorem dX3_nameOf_52 : decode cX3_nameOf 52 = .ok (.ldc 105, 2) := by decide +kernel
theorem dX3_nameOf_54 : decode cX3_nameOf 54 = .ok (.aload_n 0, 1) := by decide +kernel
theorem dX3_nameOf_55 : decode cX3_nameOf 55 = .ok (.iload_n 1, 1) := by decide +kernel
theorem dX3_nameOf_56 : decode cX3_nameOf 56 = .ok (.iload_n 2, 1) := by decide +kernel
theorem dX3_nameOf_57 : decode cX3_nameOf 57 = .ok (.invokestatic 95, 3) := by decide +kernel
theorem dX3_nameOf_60 : decode cX3_nameOf 60 = .ok (.ifCond .eq 5, 3) := by decide +kernel
theorem dX3_nameOf_63 : decode cX3_nameOf 63 = .ok (.iconst 4, 1) := by decide +kernel
theorem dX3_nameOf_64 : decode cX3_nameOf 64 = .ok (.ireturn, 1) := by decide +kernel
theorem dX3_nameOf_65 : decode cX3_nameOf 65 = .ok (.ldc 107, 2) := by decide +kernel
theorem dX3_nameOf_67 : decode cX3_nameOf 67 = .ok (.aload_n 0, 1) := by decide +kernel
theorem dX3_nameOf_68 : decode cX3_nameOf 68 = .ok (.iload_n 1, 1) := by decide +kernel
theorem dX3_nameOf_69 : decode cX3_nameOf 69 = .ok (.iload_n 2, 1) := by decide +kernel
theorem dX3_nameOf_70 : decode cX3_nameOf 70 = .ok (.invokestatic 95, 3) := by decide +kernel
theorem dX3_nameOf_73 : decode cX3_nameOf 73 = .ok (.ifCond .eq 7, 3) := by decide +kernel
theorem dX3_nameOf_76 : decode cX3_nameOf 76 = .ok (.iconst 5, 1) := by decide +kernel
theorem dX3_nameOf_77 : decode cX3_nameOf 77 = .ok (.goto 4, 3) := by decide +kernel
theorem dX3_nameOf_80 : decode cX3_nameOf 80 = .ok (.iconst (-1), 1) := by decide +kernel
theorem dX3_nameOf_81 : decode cX3_nameOf 81 = .ok (.ireturn, 1) := by decide +kernel
theorem dX3_keyOf_0 : decode cX3_keyOf 0 = .ok (.ldc 109, 2) := by decide +kernel
theorem dX3_keyOf_2 : decode cX3_keyOf 2 = .ok (.aload_n 0, 1) := by decide +kernel
theorem dX3_keyOf_3 : decode cX3_keyOf 3 = .ok (.iload_n 1, 1) := by decide +kernel
theorem dX3_keyOf_4 : decode cX3_keyOf 4 = .ok (.iload_n 2, 1) := by decide +kernel
theorem dX3_keyOf_5 : decode cX3_keyOf 5 = .ok (.invokestatic 95, 3) := by decide +kernel
theorem dX3_keyOf_8 : decode cX3_keyOf 8 = .ok (.ifCond .eq 5, 3) := by decide +kernel
theorem dX3_keyOf_11 : decode cX3_keyOf 11 = .ok (.iconst 4, 1) := by decide +kernel
theorem dX3_keyOf_12 : decode cX3_keyOf 12 = .ok (.ireturn, 1) := by decide +kernel
theorem dX3_keyOf_13 : decode cX3_keyOf 13 = .ok (.ldc 111, 2) := by decide +kernel
theorem dX3_keyOf_15 : decode cX3_keyOf 15 = .ok (.aload_n 0, 1) := by decide +kernel
theorem dX3_keyOf_16 : decode cX3_keyOf 16 = .ok (.iload_n 1, 1) := by decide +kernel
theorem dX3_keyOf_17 : decode cX3_keyOf 17 = .ok (.iload_n 2, 1) := by decide +kernel
theorem dX3_keyOf_18 : decode cX3_keyOf 18 = .ok (.invokestatic 95, 3) := by decide +kernel
theorem dX3_keyOf_21 : decode cX3_keyOf 21 = .ok (.ifCond .eq 5, 3) := by decide +kernel
theorem dX3_keyOf_24 : decode cX3_keyOf 24 = .ok (.iconst 5, 1) := by decide +kernel
theorem dX3_keyOf_25 : decode cX3_keyOf 25 = .ok (.ireturn, 1) := by decide +kernel
theorem dX3_keyOf_26 : decode cX3_keyOf 26 = .ok (.ldc 113, 2) := by decide +kernel
theorem dX3_keyOf_28 : decode cX3_keyOf 28 = .ok (.aload_n 0, 1) := by decide +kernel
theorem dX3_keyOf_29 : decode cX3_keyOf 29 = .ok (.iload_n 1, 1) := by decide +kernel
theorem dX3_keyOf_30 : decode cX3_keyOf 30 = .ok (.iload_n 2, 1) := by decide +kernel
theorem dX3_keyOf_31 : decode cX3_keyOf 31 = .ok (.invokestatic 95, 3) := by decide +kernel
theorem dX3_keyOf_34 : decode cX3_keyOf 34 = .ok (.ifCond .eq 6, 3) := by decide +kernel
theorem dX3_keyOf_37 : decode cX3_keyOf 37 = .ok (.bipush 6, 2) := by decide +kernel
theorem dX3_keyOf_39 : decode cX3_keyOf 39 = .ok (.ireturn, 1) := by decide +kernel
theorem dX3_keyOf_40 : decode cX3_keyOf 40 = .ok (.ldc 115, 2) := by decide +kernel
theorem dX3_keyOf_42 : decode cX3_keyOf 42 = .ok (.aload_n 0, 1) := by decide +kernel
theorem dX3_keyOf_43 : decode cX3_keyOf 43 = .ok (.iload_n 1, 1) := by decide +kernel
theorem dX3_keyOf_44 : decode cX3_keyOf 44 = .ok (.iload_n 2, 1) := by decide +kernel
theorem dX3_keyOf_45 : decode cX3_keyOf 45 = .ok (.invokestatic 95, 3) := by decide +kernel
theorem dX3_keyOf_48 : decode cX3_keyOf 48 = .ok (.ifCond .eq 6, 3) := by decide +kernel
theorem dX3_keyOf_51 : decode cX3_keyOf 51 = .ok (.bipush 7, 2) := by decide +kernel
theorem dX3_keyOf_53 : decode cX3_keyOf 53 = .ok (.ireturn, 1) := by decide +kernel
theorem dX3_keyOf_54 : decode cX3_keyOf 54 = .ok (.ldc 117, 2) := by decide +kernel
theorem dX3_keyOf_56 : decode cX3_keyOf 56 = .ok (.aload_n 0, 1) := by decide +kernel
theorem dX3_keyOf_57 : decode cX3_keyOf 57 = .ok (.iload_n 1, 1) := by decide +kernel
theorem dX3_keyOf_58 : decode cX3_keyOf 58 = .ok (.iload_n 2, 1) := by decide +kernel
theorem dX3_keyOf_59 : decode cX3_keyOf 59 = .ok (.invokestatic 95, 3) := by decide +kernel
theorem dX3_keyOf_62 : decode cX3_keyOf 62 = .ok (.ifCond .eq 6, 3) := by decide +kernel
theorem dX3_keyOf_65 : decode cX3_keyOf 65 = .ok (.bipush 8, 2) := by decide +kernel
theorem dX3_keyOf_67 : decode cX3_keyOf 67 = .ok (.ireturn, 1) := by decide +kernel
theorem dX3_keyOf_68 : decode cX3_keyOf 68 = .ok (.ldc 119, 2) := by decide +kernel
theorem dX3_keyOf_70 : decode cX3_keyOf 70 = .ok (.aload_n 0, 1) := by decide +kernel
theorem dX3_keyOf_71 : decode cX3_keyOf 71 = .ok (.iload_n 1, 1) := by decide +kernel
theorem dX3_keyOf_72 : decode cX3_keyOf 72 = .ok (.iload_n 2, 1) := by decide +kernel
theorem dX3_keyOf_73 : decode cX3_keyOf 73 = .ok (.invokestatic 95, 3) := by decide +kernel
theorem dX3_keyOf_76 : decode cX3_keyOf 76 = .ok (.ifCond .eq 8, 3) := by decide +kernel
theorem dX3_keyOf_79 : decode cX3_keyOf 79 = .ok (.bipush 9, 2) := by decide +kernel
theorem dX3_keyOf_81 : decode cX3_keyOf 81 = .ok (.goto 4, 3) := by decide +kernel
theorem dX3_keyOf_84 : decode cX3_keyOf 84 = .ok (.iconst 1, 1) := by decide +kernel
theorem dX3_keyOf_85 : decode cX3_keyOf 85 = .ok (.ireturn, 1) := by decide +kernel
theorem dX3_isWord_0 : decode cX3_isWord 0 = .ok (.aload_n 0, 1) := by decide +kernel
theorem dX3_isWord_1 : decode cX3_isWord 1 = .ok (.invokevirtual 121, 3) := by decide +kernel
theorem dX3_isWord_4 : decode cX3_isWord 4 = .ok (.iload_n 3, 1) := by decide +kernel
theorem dX3_isWord_5 : decode cX3_isWord 5 = .ok (.iload_n 2, 1) := by decide +kernel
theorem dX3_isWord_6 : decode cX3_isWord 6 = .ok (.isub, 1) := by decide +kernel
theorem dX3_isWord_7 : decode cX3_isWord 7 = .ok (.if_icmp .ne 13, 3) := by decide +kernel
theorem dX3_isWord_10 : decode cX3_isWord 10 = .ok (.iload_n 2, 1) := by decide +kernel
theorem dX3_isWord_11 : decode cX3_isWord 11 = .ok (.ifCond .lt 9, 3) := by decide +kernel
theorem dX3_isWord_14 : decode cX3_isWord 14 = .ok (.iload_n 3, 1) := by decide +kernel
theorem dX3_isWord_15 : decode cX3_isWord 15 = .ok (.aload_n 1, 1) := by decide +kernel
theorem dX3_isWord_16 : decode cX3_isWord 16 = .ok (.arraylength, 1) := by decide +kernel
theorem dX3_isWord_17 : decode cX3_isWord 17 = .ok (.if_icmp .le 5, 3) := by decide +kernel
theorem dX3_isWord_20 : decode cX3_isWord 20 = .ok (.iconst 0, 1) := by decide +kernel
theorem dX3_isWord_21 : decode cX3_isWord 21 = .ok (.ireturn, 1) := by decide +kernel
theorem dX3_isWord_22 : decode cX3_isWord 22 = .ok (.iconst 0, 1) := by decide +kernel
theorem dX3_isWord_23 : decode cX3_isWord 23 = .ok (.istore 4, 2) := by decide +kernel
theorem dX3_isWord_25 : decode cX3_isWord 25 = .ok (.iload 4, 2) := by decide +kernel
theorem dX3_isWord_27 : decode cX3_isWord 27 = .ok (.aload_n 0, 1) := by decide +kernel
theorem dX3_isWord_28 : decode cX3_isWord 28 = .ok (.invokevirtual 121, 3) := by decide +kernel
theorem dX3_isWord_31 : decode cX3_isWord 31 = .ok (.if_icmp .ge 26, 3) := by decide +kernel
theorem dX3_isWord_34 : decode cX3_isWord 34 = .ok (.aload_n 1, 1) := by decide +kernel
theorem dX3_isWord_35 : decode cX3_isWord 35 = .ok (.iload_n 2, 1) := by decide +kernel
theorem dX3_isWord_36 : decode cX3_isWord 36 = .ok (.iload 4, 2) := by decide +kernel
theorem dX3_isWord_38 : decode cX3_isWord 38 = .ok (.iadd, 1) := by decide +kernel
theorem dX3_isWord_39 : decode cX3_isWord 39 = .ok (.iaload, 1) := by decide +kernel
theorem dX3_isWord_40 : decode cX3_isWord 40 = .ok (.aload_n 0, 1) := by decide +kernel
theorem dX3_isWord_41 : decode cX3_isWord 41 = .ok (.iload 4, 2) := by decide +kernel
theorem dX3_isWord_43 : decode cX3_isWord 43 = .ok (.invokevirtual 127, 3) := by decide +kernel
theorem dX3_isWord_46 : decode cX3_isWord 46 = .ok (.if_icmp .eq 5, 3) := by decide +kernel
theorem dX3_isWord_49 : decode cX3_isWord 49 = .ok (.iconst 0, 1) := by decide +kernel
theorem dX3_isWord_50 : decode cX3_isWord 50 = .ok (.ireturn, 1) := by decide +kernel
theorem dX3_isWord_51 : decode cX3_isWord 51 = .ok (.iinc 4 1, 3) := by decide +kernel
theorem dX3_isWord_54 : decode cX3_isWord 54 = .ok (.goto (-29), 3) := by decide +kernel
theorem dX3_isWord_57 : decode cX3_isWord 57 = .ok (.iconst 1, 1) := by decide +kernel
theorem dX3_isWord_58 : decode cX3_isWord 58 = .ok (.ireturn, 1) := by decide +kernel
theorem dX3_isLetter_0 : decode cX3_isLetter 0 = .ok (.iload_n 0, 1) := by decide +kernel
theorem dX3_isLetter_1 : decode cX3_isLetter 1 = .ok (.bipush 97, 2) := by decide +kernel
theorem dX3_isLetter_3 : decode cX3_isLetter 3 = .ok (.if_icmp .lt 13, 3) := by decide +kernel
theorem dX3_isLetter_6 : decode cX3_isLetter 6 = .ok (.iload_n 0, 1) := by decide +kernel
theorem dX3_isLetter_7 : decode cX3_isLetter 7 = .ok (.bipush 122, 2) := by decide +kernel
theorem dX3_isLetter_9 : decode cX3_isLetter 9 = .ok (.if_icmp .gt 7, 3) := by decide +kernel
theorem dX3_isLetter_12 : decode cX3_isLetter 12 = .ok (.iconst 1, 1) := by decide +kernel
theorem dX3_isLetter_13 : decode cX3_isLetter 13 = .ok (.goto 4, 3) := by decide +kernel
theorem dX3_isLetter_16 : decode cX3_isLetter 16 = .ok (.iconst 0, 1) := by decide +kernel
theorem dX3_isLetter_17 : decode cX3_isLetter 17 = .ok (.ireturn, 1) := by decide +kernel
theorem dX3_isNumeral_0 : decode cX3_isNumeral 0 = .ok (.iload_n 0, 1) := by decide +kernel
theorem dX3_isNumeral_1 : decode cX3_isNumeral 1 = .ok (.bipush 48, 2) := by decide +kernel
theorem dX3_isNumeral_3 : decode cX3_isNumeral 3 = .ok (.if_icmp .lt 13, 3) := by decide +kernel
theorem dX3_isNumeral_6 : decode cX3_isNumeral 6 = .ok (.iload_n 0, 1) := by decide +kernel
theorem dX3_isNumeral_7 : decode cX3_isNumeral 7 = .ok (.bipush 57, 2) := by decide +kernel
theorem dX3_isNumeral_9 : decode cX3_isNumeral 9 = .ok (.if_icmp .gt 7, 3) := by decide +kernel
theorem dX3_isNumeral_12 : decode cX3_isNumeral 12 = .ok (.iconst 1, 1) := by decide +kernel
theorem dX3_isNumeral_13 : decode cX3_isNumeral 13 = .ok (.goto 4, 3) := by decide +kernel
theorem dX3_isNumeral_16 : decode cX3_isNumeral 16 = .ok (.iconst 0, 1) := by decide +kernel
theorem dX3_isNumeral_17 : decode cX3_isNumeral 17 = .ok (.ireturn, 1) := by decide +kernel
theorem dX3_isSign_0 : decode cX3_isSign 0 = .ok (.iload_n 0, 1) := by decide +kernel
theorem dX3_isSign_1 : decode cX3_isSign 1 = .ok (.bipush 40, 2) := by decide +kernel
theorem dX3_isSign_3 : decode cX3_isSign 3 = .ok (.if_icmp .eq 45, 3) := by decide +kernel
theorem dX3_isSign_6 : decode cX3_isSign 6 = .ok (.iload_n 0, 1) := by decide +kernel
theorem dX3_isSign_7 : decode cX3_isSign 7 = .ok (.bipush 41, 2) := by decide +kernel
theorem dX3_isSign_9 : decode cX3_isSign 9 = .ok (.if_icmp .eq 39, 3) := by decide +kernel
theorem dX3_isSign_12 : decode cX3_isSign 12 = .ok (.iload_n 0, 1) := by decide +kernel
theorem dX3_isSign_13 : decode cX3_isSign 13 = .ok (.bipush 59, 2) := by decide +kernel
theorem dX3_isSign_15 : decode cX3_isSign 15 = .ok (.if_icmp .eq 33, 3) := by decide +kernel
theorem dX3_isSign_18 : decode cX3_isSign 18 = .ok (.iload_n 0, 1) := by decide +kernel
theorem dX3_isSign_19 : decode cX3_isSign 19 = .ok (.bipush 43, 2) := by decide +kernel
theorem dX3_isSign_21 : decode cX3_isSign 21 = .ok (.if_icmp .eq 27, 3) := by decide +kernel
theorem dX3_isSign_24 : decode cX3_isSign 24 = .ok (.iload_n 0, 1) := by decide +kernel
theorem dX3_isSign_25 : decode cX3_isSign 25 = .ok (.bipush 45, 2) := by decide +kernel
theorem dX3_isSign_27 : decode cX3_isSign 27 = .ok (.if_icmp .eq 21, 3) := by decide +kernel
theorem dX3_isSign_30 : decode cX3_isSign 30 = .ok (.iload_n 0, 1) := by decide +kernel
theorem dX3_isSign_31 : decode cX3_isSign 31 = .ok (.bipush 42, 2) := by decide +kernel
theorem dX3_isSign_33 : decode cX3_isSign 33 = .ok (.if_icmp .eq 15, 3) := by decide +kernel
theorem dX3_isSign_36 : decode cX3_isSign 36 = .ok (.iload_n 0, 1) := by decide +kernel
theorem dX3_isSign_37 : decode cX3_isSign 37 = .ok (.bipush 60, 2) := by decide +kernel
theorem dX3_isSign_39 : decode cX3_isSign 39 = .ok (.if_icmp .eq 9, 3) := by decide +kernel
theorem dX3_isSign_42 : decode cX3_isSign 42 = .ok (.iload_n 0, 1) := by decide +kernel
theorem dX3_isSign_43 : decode cX3_isSign 43 = .ok (.bipush 61, 2) := by decide +kernel
theorem dX3_isSign_45 : decode cX3_isSign 45 = .ok (.if_icmp .ne 7, 3) := by decide +kernel
theorem dX3_isSign_48 : decode cX3_isSign 48 = .ok (.iconst 1, 1) := by decide +kernel
theorem dX3_isSign_49 : decode cX3_isSign 49 = .ok (.goto 4, 3) := by decide +kernel
theorem dX3_isSign_52 : decode cX3_isSign 52 = .ok (.iconst 0, 1) := by decide +kernel
theorem dX3_isSign_53 : decode cX3_isSign 53 = .ok (.ireturn, 1) := by decide +kernel
theorem dX3_advance_0 : decode cX3_advance 0 = .ok (.aload_n 0, 1) := by decide +kernel
theorem dX3_advance_1 : decode cX3_advance 1 = .ok (.getfield 25, 3) := by decide +kernel
theorem dX3_advance_4 : decode cX3_advance 4 = .ok (.ifCond .lt 75, 3) := by decide +kernel
theorem dX3_advance_7 : decode cX3_advance 7 = .ok (.aload_n 0, 1) := by decide +kernel
theorem dX3_advance_8 : decode cX3_advance 8 = .ok (.getfield 25, 3) := by decide +kernel
theorem dX3_advance_11 : decode cX3_advance 11 = .ok (.aload_n 0, 1) := by decide +kernel
theorem dX3_advance_12 : decode cX3_advance 12 = .ok (.getfield 21, 3) := by decide +kernel
theorem dX3_advance_15 : decode cX3_advance 15 = .ok (.if_icmp .ge 64, 3) := by decide +kernel
theorem dX3_advance_18 : decode cX3_advance 18 = .ok (.aload_n 0, 1) := by decide +kernel
theorem dX3_advance_19 : decode cX3_advance 19 = .ok (.getfield 25, 3) := by decide +kernel
theorem dX3_advance_22 : decode cX3_advance 22 = .ok (.aload_n 0, 1) := by decide +kernel
theorem dX3_advance_23 : decode cX3_advance 23 = .ok (.getfield 9, 3) := by decide +kernel
theorem dX3_advance_26 : decode cX3_advance 26 = .ok (.arraylength, 1) := by decide +kernel
theorem dX3_advance_27 : decode cX3_advance 27 = .ok (.if_icmp .ge 52, 3) := by decide +kernel
theorem dX3_advance_30 : decode cX3_advance 30 = .ok (.aload_n 0, 1) := by decide +kernel
theorem dX3_advance_31 : decode cX3_advance 31 = .ok (.aload_n 0, 1) := by decide +kernel
theorem dX3_advance_32 : decode cX3_advance 32 = .ok (.getfield 9, 3) := by decide +kernel
theorem dX3_advance_35 : decode cX3_advance 35 = .ok (.aload_n 0, 1) := by decide +kernel
theorem dX3_advance_36 : decode cX3_advance 36 = .ok (.getfield 25, 3) := by decide +kernel
theorem dX3_advance_39 : decode cX3_advance 39 = .ok (.iaload, 1) := by decide +kernel
theorem dX3_advance_40 : decode cX3_advance 40 = .ok (.putfield 28, 3) := by decide +kernel
theorem dX3_advance_43 : decode cX3_advance 43 = .ok (.aload_n 0, 1) := by decide +kernel
theorem dX3_advance_44 : decode cX3_advance 44 = .ok (.aload_n 0, 1) := by decide +kernel
theorem dX3_advance_45 : decode cX3_advance 45 = .ok (.getfield 15, 3) := by decide +kernel
theorem dX3_advance_48 : decode cX3_advance 48 = .ok (.aload_n 0, 1) := by decide +kernel
theorem dX3_advance_49 : decode cX3_advance 49 = .ok (.getfield 25, 3) := by decide +kernel
theorem dX3_advance_52 : decode cX3_advance 52 = .ok (.iaload, 1) := by decide +kernel
theorem dX3_advance_53 : decode cX3_advance 53 = .ok (.putfield 31, 3) := by decide +kernel
theorem dX3_advance_56 : decode cX3_advance 56 = .ok (.aload_n 0, 1) := by decide +kernel
theorem dX3_advance_57 : decode cX3_advance 57 = .ok (.aload_n 0, 1) := by decide +kernel
theorem dX3_advance_58 : decode cX3_advance 58 = .ok (.getfield 18, 3) := by decide +kernel
theorem dX3_advance_61 : decode cX3_advance 61 = .ok (.aload_n 0, 1) := by decide +kernel
theorem dX3_advance_62 : decode cX3_advance 62 = .ok (.getfield 25, 3) := by decide +kernel
theorem dX3_advance_65 : decode cX3_advance 65 = .ok (.iaload, 1) := by decide +kernel
theorem dX3_advance_66 : decode cX3_advance 66 = .ok (.putfield 34, 3) := by decide +kernel
theorem dX3_advance_69 : decode cX3_advance 69 = .ok (.aload_n 0, 1) := by decide +kernel
theorem dX3_advance_70 : decode cX3_advance 70 = .ok (.dup, 1) := by decide +kernel
theorem dX3_advance_71 : decode cX3_advance 71 = .ok (.getfield 25, 3) := by decide +kernel
theorem dX3_advance_74 : decode cX3_advance 74 = .ok (.iconst 1, 1) := by decide +kernel
theorem dX3_advance_75 : decode cX3_advance 75 = .ok (.iadd, 1) := by decide +kernel
theorem dX3_advance_76 : decode cX3_advance 76 = .ok (.putfield 25, 3) := by decide +kernel
theorem dX3_advance_79 : decode cX3_advance 79 = .ok (.return_, 1) := by decide +kernel
theorem dX3_passes_0 : decode cX3_passes 0 = .ok (.aload_n 0, 1) := by decide +kernel
theorem dX3_passes_1 : decode cX3_passes 1 = .ok (.getfield 28, 3) := by decide +kernel
theorem dX3_passes_4 : decode cX3_passes 4 = .ok (.iload_n 1, 1) := by decide +kernel
theorem dX3_passes_5 : decode cX3_passes 5 = .ok (.if_icmp .eq 5, 3) := by decide +kernel
theorem dX3_passes_8 : decode cX3_passes 8 = .ok (.iconst 0, 1) := by decide +kernel
theorem dX3_passes_9 : decode cX3_passes 9 = .ok (.ireturn, 1) := by decide +kernel
theorem dX3_passes_10 : decode cX3_passes 10 = .ok (.aload_n 0, 1) := by decide +kernel
theorem dX3_passes_11 : decode cX3_passes 11 = .ok (.invokevirtual 59, 3) := by decide +kernel
theorem dX3_passes_14 : decode cX3_passes 14 = .ok (.iconst 1, 1) := by decide +kernel
theorem dX3_passes_15 : decode cX3_passes 15 = .ok (.ireturn, 1) := by decide +kernel
theorem dX3_part_0 : decode cX3_part 0 = .ok (.aload_n 0, 1) := by decide +kernel
theorem dX3_part_1 : decode cX3_part 1 = .ok (.iload_n 2, 1) := by decide +kernel
theorem dX3_part_2 : decode cX3_part 2 = .ok (.invokevirtual 131, 3) := by decide +kernel
theorem dX3_part_5 : decode cX3_part 5 = .ok (.ifCond .eq 20, 3) := by decide +kernel
theorem dX3_part_8 : decode cX3_part 8 = .ok (.aload_n 0, 1) := by decide +kernel
theorem dX3_part_9 : decode cX3_part 9 = .ok (.iconst 0, 1) := by decide +kernel
theorem dX3_part_10 : decode cX3_part 10 = .ok (.invokevirtual 134, 3) := by decide +kernel
theorem dX3_part_13 : decode cX3_part 13 = .ok (.ifCond .eq 12, 3) := by decide +kernel
theorem dX3_part_16 : decode cX3_part 16 = .ok (.aload_n 0, 1) := by decide +kernel
theorem dX3_part_17 : decode cX3_part 17 = .ok (.bipush 59, 2) := by decide +kernel
theorem dX3_part_19 : decode cX3_part 19 = .ok (.invokevirtual 131, 3) := by decide +kernel
theorem dX3_part_22 : decode cX3_part 22 = .ok (.ifCond .ne 5, 3) := by decide +kernel
theorem dX3_part_25 : decode cX3_part 25 = .ok (.iconst 0, 1) := by decide +kernel
theorem dX3_part_26 : decode cX3_part 26 = .ok (.ireturn, 1) := by decide +kernel
theorem dX3_part_27 : decode cX3_part 27 = .ok (.aload_n 0, 1) := by decide +kernel
theorem dX3_part_28 : decode cX3_part 28 = .ok (.getfield 37, 3) := by decide +kernel
theorem dX3_part_31 : decode cX3_part 31 = .ok (.iload_n 1, 1) := by decide +kernel
theorem dX3_part_32 : decode cX3_part 32 = .ok (.invokevirtual 137, 3) := by decide +kernel
theorem dX3_part_35 : decode cX3_part 35 = .ok (.iconst 1, 1) := by decide +kernel
theorem dX3_part_36 : decode cX3_part 36 = .ok (.ireturn, 1) := by decide +kernel
theorem dX3_either_0 : decode cX3_either 0 = .ok (.aload_n 0, 1) := by decide +kernel
theorem dX3_either_1 : decode cX3_either 1 = .ok (.iload_n 1, 1) := by decide +kernel
theorem dX3_either_2 : decode cX3_either 2 = .ok (.invokevirtual 141, 3) := by decide +kernel
theorem dX3_either_5 : decode cX3_either 5 = .ok (.ifCond .ne 5, 3) := by decide +kernel
theorem dX3_either_8 : decode cX3_either 8 = .ok (.iconst 0, 1) := by decide +kernel
theorem dX3_either_9 : decode cX3_either 9 = .ok (.ireturn, 1) := by decide +kernel
theorem dX3_either_10 : decode cX3_either 10 = .ok (.iconst 0, 1) := by decide +kernel
theorem dX3_either_11 : decode cX3_either 11 = .ok (.istore_n 2, 1) := by decide +kernel
theorem dX3_either_12 : decode cX3_either 12 = .ok (.iload_n 2, 1) := by decide +kernel
theorem dX3_either_13 : decode cX3_either 13 = .ok (.sipush 160, 3) := by decide +kernel
theorem dX3_either_16 : decode cX3_either 16 = .ok (.if_icmp .ge 41, 3) := by decide +kernel
theorem dX3_either_19 : decode cX3_either 19 = .ok (.aload_n 0, 1) := by decide +kernel
theorem dX3_either_20 : decode cX3_either 20 = .ok (.getfield 28, 3) := by decide +kernel
theorem dX3_either_23 : decode cX3_either 23 = .ok (.bipush 7, 2) := by decide +kernel
theorem dX3_either_25 : decode cX3_either 25 = .ok (.if_icmp .ne 32, 3) := by decide +kernel
theorem dX3_either_28 : decode cX3_either 28 = .ok (.aload_n 0, 1) := by decide +kernel
theorem dX3_either_29 : decode cX3_either 29 = .ok (.invokevirtual 59, 3) := by decide +kernel
theorem dX3_either_32 : decode cX3_either 32 = .ok (.aload_n 0, 1) := by decide +kernel
theorem dX3_either_33 : decode cX3_either 33 = .ok (.iload_n 1, 1) := by decide +kernel
theorem dX3_either_34 : decode cX3_either 34 = .ok (.invokevirtual 141, 3) := by decide +kernel
theorem dX3_either_37 : decode cX3_either 37 = .ok (.ifCond .ne 5, 3) := by decide +kernel
theorem dX3_either_40 : decode cX3_either 40 = .ok (.iconst 0, 1) := by decide +kernel
theorem dX3_either_41 : decode cX3_either 41 = .ok (.ireturn, 1) := by decide +kernel
theorem dX3_either_42 : decode cX3_either 42 = .ok (.aload_n 0, 1) := by decide +kernel
theorem dX3_either_43 : decode cX3_either 43 = .ok (.getfield 37, 3) := by decide +kernel
theorem dX3_either_46 : decode cX3_either 46 = .ok (.bipush (-15), 2) := by decide +kernel
theorem dX3_either_48 : decode cX3_either 48 = .ok (.invokevirtual 144, 3) := by decide +kernel
theorem dX3_either_51 : decode cX3_either 51 = .ok (.iinc 2 1, 3) := by decide +kernel
theorem dX3_either_54 : decode cX3_either 54 = .ok (.goto (-42), 3) := by decide +kernel
theorem dX3_either_57 : decode cX3_either 57 = .ok (.iconst 1, 1) := by decide +kernel
theorem dX3_either_58 : decode cX3_either 58 = .ok (.ireturn, 1) := by decide +kernel
theorem dX3_both_0 : decode cX3_both 0 = .ok (.aload_n 0, 1) := by decide +kernel
theorem dX3_both_1 : decode cX3_both 1 = .ok (.iload_n 1, 1) := by decide +kernel
theorem dX3_both_2 : decode cX3_both 2 = .ok (.invokevirtual 147, 3) := by decide +kernel
theorem dX3_both_5 : decode cX3_both 5 = .ok (.ifCond .ne 5, 3) := by decide +kernel
theorem dX3_both_8 : decode cX3_both 8 = .ok (.iconst 0, 1) := by decide +kernel
theorem dX3_both_9 : decode cX3_both 9 = .ok (.ireturn, 1) := by decide +kernel
theorem dX3_both_10 : decode cX3_both 10 = .ok (.iconst 0, 1) := by decide +kernel
theorem dX3_both_11 : decode cX3_both 11 = .ok (.istore_n 2, 1) := by decide +kernel
theorem dX3_both_12 : decode cX3_both 12 = .ok (.iload_n 2, 1) := by decide +kernel
theorem dX3_both_13 : decode cX3_both 13 = .ok (.sipush 160, 3) := by decide +kernel
theorem dX3_both_16 : decode cX3_both 16 = .ok (.if_icmp .ge 41, 3) := by decide +kernel
theorem dX3_both_19 : decode cX3_both 19 = .ok (.aload_n 0, 1) := by decide +kernel
theorem dX3_both_20 : decode cX3_both 20 = .ok (.getfield 28, 3) := by decide +kernel
theorem dX3_both_23 : decode cX3_both 23 = .ok (.bipush 8, 2) := by decide +kernel
theorem dX3_both_25 : decode cX3_both 25 = .ok (.if_icmp .ne 32, 3) := by decide +kernel
theorem dX3_both_28 : decode cX3_both 28 = .ok (.aload_n 0, 1) := by decide +kernel
theorem dX3_both_29 : decode cX3_both 29 = .ok (.invokevirtual 59, 3) := by decide +kernel
theorem dX3_both_32 : decode cX3_both 32 = .ok (.aload_n 0, 1) := by decide +kernel
theorem dX3_both_33 : decode cX3_both 33 = .ok (.iload_n 1, 1) := by decide +kernel
theorem dX3_both_34 : decode cX3_both 34 = .ok (.invokevirtual 147, 3) := by decide +kernel
theorem dX3_both_37 : decode cX3_both 37 = .ok (.ifCond .ne 5, 3) := by decide +kernel
theorem dX3_both_40 : decode cX3_both 40 = .ok (.iconst 0, 1) := by decide +kernel
theorem dX3_both_41 : decode cX3_both 41 = .ok (.ireturn, 1) := by decide +kernel
theorem dX3_both_42 : decode cX3_both 42 = .ok (.aload_n 0, 1) := by decide +kernel
theorem dX3_both_43 : decode cX3_both 43 = .ok (.getfield 37, 3) := by decide +kernel
theorem dX3_both_46 : decode cX3_both 46 = .ok (.bipush (-14), 2) := by decide +kernel
theorem dX3_both_48 : decode cX3_both 48 = .ok (.invokevirtual 144, 3) := by decide +kernel
theorem dX3_both_51 : decode cX3_both 51 = .ok (.iinc 2 1, 3) := by decide +kernel
theorem dX3_both_54 : decode cX3_both 54 = .ok (.goto (-42), 3) := by decide +kernel
theorem dX3_both_57 : decode cX3_both 57 = .ok (.iconst 1, 1) := by decide +kernel
theorem dX3_both_58 : decode cX3_both 58 = .ok (.ireturn, 1) := by decide +kernel
theorem dX3_maybeNot_0 : decode cX3_maybeNot 0 = .ok (.aload_n 0, 1) := by decide +kernel
theorem dX3_maybeNot_1 : decode cX3_maybeNot 1 = .ok (.getfield 28, 3) := by decide +kernel
theorem dX3_maybeNot_4 : decode cX3_maybeNot 4 = .ok (.bipush 9, 2) := by decide +kernel
theorem dX3_maybeNot_6 : decode cX3_maybeNot 6 = .ok (.if_icmp .eq 9, 3) := by decide +kernel
theorem dX3_maybeNot_9 : decode cX3_maybeNot 9 = .ok (.aload_n 0, 1) := by decide +kernel
theorem dX3_maybeNot_10 : decode cX3_maybeNot 10 = .ok (.iload_n 1, 1) := by decide +kernel
theorem dX3_maybeNot_11 : decode cX3_maybeNot 11 = .ok (.invokevirtual 150, 3) := by decide +kernel
theorem dX3_maybeNot_14 : decode cX3_maybeNot 14 = .ok (.ireturn, 1) := by decide +kernel
theorem dX3_maybeNot_15 : decode cX3_maybeNot 15 = .ok (.iload_n 1, 1) := by decide +kernel
theorem dX3_maybeNot_16 : decode cX3_maybeNot 16 = .ok (.iconst 5, 1) := by decide +kernel
theorem dX3_maybeNot_17 : decode cX3_maybeNot 17 = .ok (.if_icmp .lt 5, 3) := by decide +kernel
theorem dX3_maybeNot_20 : decode cX3_maybeNot 20 = .ok (.iconst 0, 1) := by decide +kernel
theorem dX3_maybeNot_21 : decode cX3_maybeNot 21 = .ok (.ireturn, 1) := by decide +kernel
theorem dX3_maybeNot_22 : decode cX3_maybeNot 22 = .ok (.aload_n 0, 1) := by decide +kernel
theorem dX3_maybeNot_23 : decode cX3_maybeNot 23 = .ok (.invokevirtual 59, 3) := by decide +kernel
theorem dX3_maybeNot_26 : decode cX3_maybeNot 26 = .ok (.aload_n 0, 1) := by decide +kernel
theorem dX3_maybeNot_27 : decode cX3_maybeNot 27 = .ok (.iload_n 1, 1) := by decide +kernel
theorem dX3_maybeNot_28 : decode cX3_maybeNot 28 = .ok (.iconst 1, 1) := by decide +kernel
theorem dX3_maybeNot_29 : decode cX3_maybeNot 29 = .ok (.iadd, 1) := by decide +kernel
theorem dX3_maybeNot_30 : decode cX3_maybeNot 30 = .ok (.invokevirtual 147, 3) := by decide +kernel
theorem dX3_maybeNot_33 : decode cX3_maybeNot 33 = .ok (.ifCond .ne 5, 3) := by decide +kernel
theorem dX3_maybeNot_36 : decode cX3_maybeNot 36 = .ok (.iconst 0, 1) := by decide +kernel
theorem dX3_maybeNot_37 : decode cX3_maybeNot 37 = .ok (.ireturn, 1) := by decide +kernel
theorem dX3_maybeNot_38 : decode cX3_maybeNot 38 = .ok (.aload_n 0, 1) := by decide +kernel
theorem dX3_maybeNot_39 : decode cX3_maybeNot 39 = .ok (.getfield 37, 3) := by decide +kernel
theorem dX3_maybeNot_42 : decode cX3_maybeNot 42 = .ok (.bipush (-8), 2) := by decide +kernel
theorem dX3_maybeNot_44 : decode cX3_maybeNot 44 = .ok (.invokevirtual 144, 3) := by decide +kernel
theorem dX3_maybeNot_47 : decode cX3_maybeNot 47 = .ok (.iconst 1, 1) := by decide +kernel
theorem dX3_maybeNot_48 : decode cX3_maybeNot 48 = .ok (.ireturn, 1) := by decide +kernel
theorem dX3_comparison_0 : decode cX3_comparison 0 = .ok (.aload_n 0, 1) := by decide +kernel
theorem dX3_comparison_1 : decode cX3_comparison 1 = .ok (.iload_n 1, 1) := by decide +kernel
theorem dX3_comparison_2 : decode cX3_comparison 2 = .ok (.invokevirtual 153, 3) := by decide +kernel
theorem dX3_comparison_5 : decode cX3_comparison 5 = .ok (.ifCond .ne 5, 3) := by decide +kernel
theorem dX3_comparison_8 : decode cX3_comparison 8 = .ok (.iconst 0, 1) := by decide +kernel
theorem dX3_comparison_9 : decode cX3_comparison 9 = .ok (.ireturn, 1) := by decide +kernel
theorem dX3_comparison_10 : decode cX3_comparison 10 = .ok (.aload_n 0, 1) := by decide +kernel
theorem dX3_comparison_11 : decode cX3_comparison 11 = .ok (.getfield 28, 3) := by decide +kernel
theorem dX3_comparison_14 : decode cX3_comparison 14 = .ok (.bipush 60, 2) := by decide +kernel
theorem dX3_comparison_16 : decode cX3_comparison 16 = .ok (.if_icmp .eq 14, 3) := by decide +kernel
theorem dX3_comparison_19 : decode cX3_comparison 19 = .ok (.aload_n 0, 1) := by decide +kernel
theorem dX3_comparison_20 : decode cX3_comparison 20 = .ok (.getfield 28, 3) := by decide +kernel
theorem dX3_comparison_23 : decode cX3_comparison 23 = .ok (.bipush 61, 2) := by decide +kernel
theorem dX3_comparison_25 : decode cX3_comparison 25 = .ok (.if_icmp .eq 5, 3) := by decide +kernel
theorem dX3_comparison_28 : decode cX3_comparison 28 = .ok (.iconst 1, 1) := by decide +kernel
theorem dX3_comparison_29 : decode cX3_comparison 29 = .ok (.ireturn, 1) := by decide +kernel
theorem dX3_comparison_30 : decode cX3_comparison 30 = .ok (.aload_n 0, 1) := by decide +kernel
theorem dX3_comparison_31 : decode cX3_comparison 31 = .ok (.getfield 28, 3) := by decide +kernel
theorem dX3_comparison_34 : decode cX3_comparison 34 = .ok (.bipush 60, 2) := by decide +kernel
theorem dX3_comparison_36 : decode cX3_comparison 36 = .ok (.if_icmp .ne 8, 3) := by decide +kernel
theorem dX3_comparison_39 : decode cX3_comparison 39 = .ok (.bipush (-12), 2) := by decide +kernel
theorem dX3_comparison_41 : decode cX3_comparison 41 = .ok (.goto 5, 3) := by decide +kernel
theorem dX3_comparison_44 : decode cX3_comparison 44 = .ok (.bipush (-13), 2) := by decide +kernel
theorem dX3_comparison_46 : decode cX3_comparison 46 = .ok (.istore_n 2, 1) := by decide +kernel
theorem dX3_comparison_47 : decode cX3_comparison 47 = .ok (.aload_n 0, 1) := by decide +kernel
theorem dX3_comparison_48 : decode cX3_comparison 48 = .ok (.invokevirtual 59, 3) := by decide +kernel
theorem dX3_comparison_51 : decode cX3_comparison 51 = .ok (.aload_n 0, 1) := by decide +kernel
theorem dX3_comparison_52 : decode cX3_comparison 52 = .ok (.iload_n 1, 1) := by decide +kernel
theorem dX3_comparison_53 : decode cX3_comparison 53 = .ok (.invokevirtual 153, 3) := by decide +kernel
theorem dX3_comparison_56 : decode cX3_comparison 56 = .ok (.ifCond .ne 5, 3) := by decide +kernel
theorem dX3_comparison_59 : decode cX3_comparison 59 = .ok (.iconst 0, 1) := by decide +kernel
theorem dX3_comparison_60 : decode cX3_comparison 60 = .ok (.ireturn, 1) := by decide +kernel
theorem dX3_comparison_61 : decode cX3_comparison 61 = .ok (.aload_n 0, 1) := by decide +kernel
theorem dX3_comparison_62 : decode cX3_comparison 62 = .ok (.getfield 37, 3) := by decide +kernel
theorem dX3_comparison_65 : decode cX3_comparison 65 = .ok (.iload_n 2, 1) := by decide +kernel
theorem dX3_comparison_66 : decode cX3_comparison 66 = .ok (.invokevirtual 144, 3) := by decide +kernel
theorem dX3_comparison_69 : decode cX3_comparison 69 = .ok (.iconst 1, 1) := by decide +kernel
theorem dX3_comparison_70 : decode cX3_comparison 70 = .ok (.ireturn, 1) := by decide +kernel
theorem dX3_sum_0 : decode cX3_sum 0 = .ok (.aload_n 0, 1) := by decide +kernel
theorem dX3_sum_1 : decode cX3_sum 1 = .ok (.iload_n 1, 1) := by decide +kernel
theorem dX3_sum_2 : decode cX3_sum 2 = .ok (.invokevirtual 156, 3) := by decide +kernel
theorem dX3_sum_5 : decode cX3_sum 5 = .ok (.ifCond .ne 5, 3) := by decide +kernel
theorem dX3_sum_8 : decode cX3_sum 8 = .ok (.iconst 0, 1) := by decide +kernel
theorem dX3_sum_9 : decode cX3_sum 9 = .ok (.ireturn, 1) := by decide +kernel
theorem dX3_sum_10 : decode cX3_sum 10 = .ok (.iconst 0, 1) := by decide +kernel
theorem dX3_sum_11 : decode cX3_sum 11 = .ok (.istore_n 2, 1) := by decide +kernel
theorem dX3_sum_12 : decode cX3_sum 12 = .ok (.iload_n 2, 1) := by decide +kernel
theorem dX3_sum_13 : decode cX3_sum 13 = .ok (.sipush 160, 3) := by decide +kernel
theorem dX3_sum_16 : decode cX3_sum 16 = .ok (.if_icmp .ge 66, 3) := by decide +kernel
theorem dX3_sum_19 : decode cX3_sum 19 = .ok (.aload_n 0, 1) := by decide +kernel
theorem dX3_sum_20 : decode cX3_sum 20 = .ok (.getfield 28, 3) := by decide +kernel
theorem dX3_sum_23 : decode cX3_sum 23 = .ok (.bipush 43, 2) := by decide +kernel
theorem dX3_sum_25 : decode cX3_sum 25 = .ok (.if_icmp .eq 12, 3) := by decide +kernel
theorem dX3_sum_28 : decode cX3_sum 28 = .ok (.aload_n 0, 1) := by decide +kernel
theorem dX3_sum_29 : decode cX3_sum 29 = .ok (.getfield 28, 3) := by decide +kernel
theorem dX3_sum_32 : decode cX3_sum 32 = .ok (.bipush 45, 2) := by decide +kernel
theorem dX3_sum_34 : decode cX3_sum 34 = .ok (.if_icmp .ne 48, 3) := by decide +kernel
theorem dX3_sum_37 : decode cX3_sum 37 = .ok (.aload_n 0, 1) := by decide +kernel
theorem dX3_sum_38 : decode cX3_sum 38 = .ok (.getfield 28, 3) := by decide +kernel
theorem dX3_sum_41 : decode cX3_sum 41 = .ok (.bipush 43, 2) := by decide +kernel
theorem dX3_sum_43 : decode cX3_sum 43 = .ok (.if_icmp .ne 8, 3) := by decide +kernel
theorem dX3_sum_46 : decode cX3_sum 46 = .ok (.bipush (-9), 2) := by decide +kernel
theorem dX3_sum_48 : decode cX3_sum 48 = .ok (.goto 5, 3) := by decide +kernel
theorem dX3_sum_51 : decode cX3_sum 51 = .ok (.bipush (-10), 2) := by decide +kernel
theorem dX3_sum_53 : decode cX3_sum 53 = .ok (.istore_n 3, 1) := by decide +kernel
theorem dX3_sum_54 : decode cX3_sum 54 = .ok (.aload_n 0, 1) := by decide +kernel
theorem dX3_sum_55 : decode cX3_sum 55 = .ok (.invokevirtual 59, 3) := by decide +kernel
theorem dX3_sum_58 : decode cX3_sum 58 = .ok (.aload_n 0, 1) := by decide +kernel
theorem dX3_sum_59 : decode cX3_sum 59 = .ok (.iload_n 1, 1) := by decide +kernel
theorem dX3_sum_60 : decode cX3_sum 60 = .ok (.invokevirtual 156, 3) := by decide +kernel
theorem dX3_sum_63 : decode cX3_sum 63 = .ok (.ifCond .ne 5, 3) := by decide +kernel
theorem dX3_sum_66 : decode cX3_sum 66 = .ok (.iconst 0, 1) := by decide +kernel
theorem dX3_sum_67 : decode cX3_sum 67 = .ok (.ireturn, 1) := by decide +kernel
theorem dX3_sum_68 : decode cX3_sum 68 = .ok (.aload_n 0, 1) := by decide +kernel
theorem dX3_sum_69 : decode cX3_sum 69 = .ok (.getfield 37, 3) := by decide +kernel
theorem dX3_sum_72 : decode cX3_sum 72 = .ok (.iload_n 3, 1) := by decide +kernel
theorem dX3_sum_73 : decode cX3_sum 73 = .ok (.invokevirtual 144, 3) := by decide +kernel
theorem dX3_sum_76 : decode cX3_sum 76 = .ok (.iinc 2 1, 3) := by decide +kernel
theorem dX3_sum_79 : decode cX3_sum 79 = .ok (.goto (-67), 3) := by decide +kernel
theorem dX3_sum_82 : decode cX3_sum 82 = .ok (.iconst 1, 1) := by decide +kernel
theorem dX3_sum_83 : decode cX3_sum 83 = .ok (.ireturn, 1) := by decide +kernel
theorem dX3_term_0 : decode cX3_term 0 = .ok (.aload_n 0, 1) := by decide +kernel
theorem dX3_term_1 : decode cX3_term 1 = .ok (.iload_n 1, 1) := by decide +kernel
theorem dX3_term_2 : decode cX3_term 2 = .ok (.invokevirtual 159, 3) := by decide +kernel
theorem dX3_term_5 : decode cX3_term 5 = .ok (.ifCond .ne 5, 3) := by decide +kernel
theorem dX3_term_8 : decode cX3_term 8 = .ok (.iconst 0, 1) := by decide +kernel
theorem dX3_term_9 : decode cX3_term 9 = .ok (.ireturn, 1) := by decide +kernel
theorem dX3_term_10 : decode cX3_term 10 = .ok (.iconst 0, 1) := by decide +kernel
theorem dX3_term_11 : decode cX3_term 11 = .ok (.istore_n 2, 1) := by decide +kernel
theorem dX3_term_12 : decode cX3_term 12 = .ok (.iload_n 2, 1) := by decide +kernel
theorem dX3_term_13 : decode cX3_term 13 = .ok (.sipush 160, 3) := by decide +kernel
theorem dX3_term_16 : decode cX3_term 16 = .ok (.if_icmp .ge 41, 3) := by decide +kernel
theorem dX3_term_19 : decode cX3_term 19 = .ok (.aload_n 0, 1) := by decide +kernel
theorem dX3_term_20 : decode cX3_term 20 = .ok (.getfield 28, 3) := by decide +kernel
theorem dX3_term_23 : decode cX3_term 23 = .ok (.bipush 42, 2) := by decide +kernel
theorem dX3_term_25 : decode cX3_term 25 = .ok (.if_icmp .ne 32, 3) := by decide +kernel
theorem dX3_term_28 : decode cX3_term 28 = .ok (.aload_n 0, 1) := by decide +kernel
theorem dX3_term_29 : decode cX3_term 29 = .ok (.invokevirtual 59, 3) := by decide +kernel
theorem dX3_term_32 : decode cX3_term 32 = .ok (.aload_n 0, 1) := by decide +kernel
theorem dX3_term_33 : decode cX3_term 33 = .ok (.iload_n 1, 1) := by decide +kernel
theorem dX3_term_34 : decode cX3_term 34 = .ok (.invokevirtual 159, 3) := by decide +kernel
theorem dX3_term_37 : decode cX3_term 37 = .ok (.ifCond .ne 5, 3) := by decide +kernel
theorem dX3_term_40 : decode cX3_term 40 = .ok (.iconst 0, 1) := by decide +kernel
theorem dX3_term_41 : decode cX3_term 41 = .ok (.ireturn, 1) := by decide +kernel
theorem dX3_term_42 : decode cX3_term 42 = .ok (.aload_n 0, 1) := by decide +kernel
theorem dX3_term_43 : decode cX3_term 43 = .ok (.getfield 37, 3) := by decide +kernel
theorem dX3_term_46 : decode cX3_term 46 = .ok (.bipush (-11), 2) := by decide +kernel
theorem dX3_term_48 : decode cX3_term 48 = .ok (.invokevirtual 144, 3) := by decide +kernel
theorem dX3_term_51 : decode cX3_term 51 = .ok (.iinc 2 1, 3) := by decide +kernel
theorem dX3_term_54 : decode cX3_term 54 = .ok (.goto (-42), 3) := by decide +kernel
theorem dX3_term_57 : decode cX3_term 57 = .ok (.iconst 1, 1) := by decide +kernel
theorem dX3_term_58 : decode cX3_term 58 = .ok (.ireturn, 1) := by decide +kernel
theorem dX3_one_0 : decode cX3_one 0 = .ok (.aload_n 0, 1) := by decide +kernel
theorem dX3_one_1 : decode cX3_one 1 = .ok (.getfield 28, 3) := by decide +kernel
theorem dX3_one_4 : decode cX3_one 4 = .ok (.iconst 2, 1) := by decide +kernel
theorem dX3_one_5 : decode cX3_one 5 = .ok (.if_icmp .eq 11, 3) := by decide +kernel
theorem dX3_one_8 : decode cX3_one 8 = .ok (.aload_n 0, 1) := by decide +kernel
theorem dX3_one_9 : decode cX3_one 9 = .ok (.getfield 28, 3) := by decide +kernel
theorem dX3_one_12 : decode cX3_one 12 = .ok (.iconst 3, 1) := by decide +kernel
theorem dX3_one_13 : decode cX3_one 13 = .ok (.if_icmp .ne 37, 3) := by decide +kernel
theorem dX3_one_16 : decode cX3_one 16 = .ok (.aload_n 0, 1) := by decide +kernel
theorem dX3_one_17 : decode cX3_one 17 = .ok (.getfield 37, 3) := by decide +kernel
theorem dX3_one_20 : decode cX3_one 20 = .ok (.aload_n 0, 1) := by decide +kernel
theorem dX3_one_21 : decode cX3_one 21 = .ok (.getfield 28, 3) := by decide +kernel
theorem dX3_one_24 : decode cX3_one 24 = .ok (.iconst 2, 1) := by decide +kernel
theorem dX3_one_25 : decode cX3_one 25 = .ok (.if_icmp .ne 10, 3) := by decide +kernel
theorem dX3_one_28 : decode cX3_one 28 = .ok (.aload_n 0, 1) := by decide +kernel
theorem dX3_one_29 : decode cX3_one 29 = .ok (.getfield 31, 3) := by decide +kernel
theorem dX3_one_32 : decode cX3_one 32 = .ok (.goto 9, 3) := by decide +kernel
theorem dX3_one_35 : decode cX3_one 35 = .ok (.iconst (-1), 1) := by decide +kernel
theorem dX3_one_36 : decode cX3_one 36 = .ok (.aload_n 0, 1) := by decide +kernel
theorem dX3_one_37 : decode cX3_one 37 = .ok (.getfield 31, 3) := by decide +kernel
theorem dX3_one_40 : decode cX3_one 40 = .ok (.isub, 1) := by decide +kernel
theorem dX3_one_41 : decode cX3_one 41 = .ok (.invokevirtual 144, 3) := by decide +kernel
theorem dX3_one_44 : decode cX3_one 44 = .ok (.aload_n 0, 1) := by decide +kernel
theorem dX3_one_45 : decode cX3_one 45 = .ok (.invokevirtual 59, 3) := by decide +kernel
theorem dX3_one_48 : decode cX3_one 48 = .ok (.iconst 1, 1) := by decide +kernel
theorem dX3_one_49 : decode cX3_one 49 = .ok (.ireturn, 1) := by decide +kernel
theorem dX3_one_50 : decode cX3_one 50 = .ok (.aload_n 0, 1) := by decide +kernel
theorem dX3_one_51 : decode cX3_one 51 = .ok (.getfield 28, 3) := by decide +kernel
theorem dX3_one_54 : decode cX3_one 54 = .ok (.bipush 40, 2) := by decide +kernel
theorem dX3_one_56 : decode cX3_one 56 = .ok (.if_icmp .eq 12, 3) := by decide +kernel
theorem dX3_one_59 : decode cX3_one 59 = .ok (.aload_n 0, 1) := by decide +kernel
theorem dX3_one_60 : decode cX3_one 60 = .ok (.getfield 28, 3) := by decide +kernel
theorem dX3_one_63 : decode cX3_one 63 = .ok (.bipush 45, 2) := by decide +kernel
theorem dX3_one_65 : decode cX3_one 65 = .ok (.if_icmp .ne 8, 3) := by decide +kernel
theorem dX3_one_68 : decode cX3_one 68 = .ok (.iload_n 1, 1) := by decide +kernel
theorem dX3_one_69 : decode cX3_one 69 = .ok (.iconst 5, 1) := by decide +kernel
theorem dX3_one_70 : decode cX3_one 70 = .ok (.if_icmp .lt 5, 3) := by decide +kernel
theorem dX3_one_73 : decode cX3_one 73 = .ok (.iconst 0, 1) := by decide +kernel
theorem dX3_one_74 : decode cX3_one 74 = .ok (.ireturn, 1) := by decide +kernel
theorem dX3_one_75 : decode cX3_one 75 = .ok (.aload_n 0, 1) := by decide +kernel
theorem dX3_one_76 : decode cX3_one 76 = .ok (.bipush 40, 2) := by decide +kernel
theorem dX3_one_78 : decode cX3_one 78 = .ok (.invokevirtual 131, 3) := by decide +kernel
theorem dX3_one_81 : decode cX3_one 81 = .ok (.ifCond .eq 28, 3) := by decide +kernel
theorem dX3_one_84 : decode cX3_one 84 = .ok (.aload_n 0, 1) := by decide +kernel
theorem dX3_one_85 : decode cX3_one 85 = .ok (.iload_n 1, 1) := by decide +kernel
theorem dX3_one_86 : decode cX3_one 86 = .ok (.iconst 1, 1) := by decide +kernel
theorem dX3_one_87 : decode cX3_one 87 = .ok (.iadd, 1) := by decide +kernel
theorem dX3_one_88 : decode cX3_one 88 = .ok (.invokevirtual 134, 3) := by decide +kernel
theorem dX3_one_91 : decode cX3_one 91 = .ok (.ifCond .eq 16, 3) := by decide +kernel
theorem dX3_one_94 : decode cX3_one 94 = .ok (.aload_n 0, 1) := by decide +kernel
theorem dX3_one_95 : decode cX3_one 95 = .ok (.bipush 41, 2) := by decide +kernel
theorem dX3_one_97 : decode cX3_one 97 = .ok (.invokevirtual 131, 3) := by decide +kernel
theorem dX3_one_100 : decode cX3_one 100 = .ok (.ifCond .eq 7, 3) := by decide +kernel
theorem dX3_one_103 : decode cX3_one 103 = .ok (.iconst 1, 1) := by decide +kernel
theorem dX3_one_104 : decode cX3_one 104 = .ok (.goto 4, 3) := by decide +kernel
theorem dX3_one_107 : decode cX3_one 107 = .ok (.iconst 0, 1) := by decide +kernel
theorem dX3_one_108 : decode cX3_one 108 = .ok (.ireturn, 1) := by decide +kernel
theorem dX3_one_109 : decode cX3_one 109 = .ok (.aload_n 0, 1) := by decide +kernel
theorem dX3_one_110 : decode cX3_one 110 = .ok (.invokevirtual 59, 3) := by decide +kernel
theorem dX3_one_113 : decode cX3_one 113 = .ok (.aload_n 0, 1) := by decide +kernel
theorem dX3_one_114 : decode cX3_one 114 = .ok (.iload_n 1, 1) := by decide +kernel
theorem dX3_one_115 : decode cX3_one 115 = .ok (.iconst 1, 1) := by decide +kernel
theorem dX3_one_116 : decode cX3_one 116 = .ok (.iadd, 1) := by decide +kernel
theorem dX3_one_117 : decode cX3_one 117 = .ok (.invokevirtual 159, 3) := by decide +kernel
theorem dX3_one_120 : decode cX3_one 120 = .ok (.ifCond .ne 5, 3) := by decide +kernel
theorem dX3_one_123 : decode cX3_one 123 = .ok (.iconst 0, 1) := by decide +kernel
theorem dX3_one_124 : decode cX3_one 124 = .ok (.ireturn, 1) := by decide +kernel
theorem dX3_one_125 : decode cX3_one 125 = .ok (.aload_n 0, 1) := by decide +kernel
theorem dX3_one_126 : decode cX3_one 126 = .ok (.getfield 37, 3) := by decide +kernel
theorem dX3_one_129 : decode cX3_one 129 = .ok (.bipush (-7), 2) := by decide +kernel
theorem dX3_one_131 : decode cX3_one 131 = .ok (.invokevirtual 144, 3) := by decide +kernel
theorem dX3_one_134 : decode cX3_one 134 = .ok (.iconst 1, 1) := by decide +kernel
theorem dX3_one_135 : decode cX3_one 135 = .ok (.ireturn, 1) := by decide +kernel
theorem dX4_init_0 : decode cX4_init 0 = .ok (.aload_n 0, 1) := by decide +kernel
theorem dX4_init_1 : decode cX4_init 1 = .ok (.invokespecial 5, 3) := by decide +kernel
theorem dX4_init_4 : decode cX4_init 4 = .ok (.aload_n 0, 1) := by decide +kernel
theorem dX4_init_5 : decode cX4_init 5 = .ok (.sipush 200, 3) := by decide +kernel
theorem dX4_init_8 : decode cX4_init 8 = .ok (.newarray .int, 2) := by decide +kernel
theorem dX4_init_10 : decode cX4_init 10 = .ok (.putfield 11, 3) := by decide +kernel
theorem dX4_init_13 : decode cX4_init 13 = .ok (.aload_n 0, 1) := by decide +kernel
theorem dX4_init_14 : decode cX4_init 14 = .ok (.sipush 216, 3) := by decide +kernel
theorem dX4_init_17 : decode cX4_init 17 = .ok (.newarray .int, 2) := by decide +kernel
theorem dX4_init_19 : decode cX4_init 19 = .ok (.putfield 15, 3) := by decide +kernel
theorem dX4_init_22 : decode cX4_init 22 = .ok (.aload_n 0, 1) := by decide +kernel
theorem dX4_init_23 : decode cX4_init 23 = .ok (.sipush 1200, 3) := by decide +kernel
theorem dX4_init_26 : decode cX4_init 26 = .ok (.newarray .int, 2) := by decide +kernel
theorem dX4_init_28 : decode cX4_init 28 = .ok (.putfield 18, 3) := by decide +kernel
theorem dX4_init_31 : decode cX4_init 31 = .ok (.aload_n 0, 1) := by decide +kernel
theorem dX4_init_32 : decode cX4_init 32 = .ok (.sipush 1200, 3) := by decide +kernel
theorem dX4_init_35 : decode cX4_init 35 = .ok (.newarray .int, 2) := by decide +kernel
theorem dX4_init_37 : decode cX4_init 37 = .ok (.putfield 21, 3) := by decide +kernel
theorem dX4_init_40 : decode cX4_init 40 = .ok (.aload_n 0, 1) := by decide +kernel
theorem dX4_init_41 : decode cX4_init 41 = .ok (.sipush 1200, 3) := by decide +kernel
theorem dX4_init_44 : decode cX4_init 44 = .ok (.newarray .int, 2) := by decide +kernel
theorem dX4_init_46 : decode cX4_init 46 = .ok (.putfield 24, 3) := by decide +kernel
theorem dX4_init_49 : decode cX4_init 49 = .ok (.aload_n 0, 1) := by decide +kernel
theorem dX4_init_50 : decode cX4_init 50 = .ok (.bipush 75, 2) := by decide +kernel
theorem dX4_init_52 : decode cX4_init 52 = .ok (.newarray .int, 2) := by decide +kernel
theorem dX4_init_54 : decode cX4_init 54 = .ok (.putfield 27, 3) := by decide +kernel
theorem dX4_init_57 : decode cX4_init 57 = .ok (.aload_n 0, 1) := by decide +kernel
theorem dX4_init_58 : decode cX4_init 58 = .ok (.bipush 75, 2) := by decide +kernel
theorem dX4_init_60 : decode cX4_init 60 = .ok (.newarray .int, 2) := by decide +kernel
theorem dX4_init_62 : decode cX4_init 62 = .ok (.putfield 30, 3) := by decide +kernel
theorem dX4_init_65 : decode cX4_init 65 = .ok (.aload_n 0, 1) := by decide +kernel
theorem dX4_init_66 : decode cX4_init 66 = .ok (.iconst 3, 1) := by decide +kernel
theorem dX4_init_67 : decode cX4_init 67 = .ok (.newarray .int, 2) := by decide +kernel
theorem dX4_init_69 : decode cX4_init 69 = .ok (.putfield 33, 3) := by decide +kernel
theorem dX4_init_72 : decode cX4_init 72 = .ok (.aload_n 0, 1) := by decide +kernel
theorem dX4_init_73 : decode cX4_init 73 = .ok (.bipush 24, 2) := by decide +kernel
theorem dX4_init_75 : decode cX4_init 75 = .ok (.newarray .int, 2) := by decide +kernel
theorem dX4_init_77 : decode cX4_init 77 = .ok (.putfield 36, 3) := by decide +kernel
theorem dX4_init_80 : decode cX4_init 80 = .ok (.aload_n 0, 1) := by decide +kernel
theorem dX4_init_81 : decode cX4_init 81 = .ok (.bipush (-2), 2) := by decide +kernel
theorem dX4_init_83 : decode cX4_init 83 = .ok (.putfield 39, 3) := by decide +kernel
theorem dX4_init_86 : decode cX4_init 86 = .ok (.aload_n 0, 1) := by decide +kernel
theorem dX4_init_87 : decode cX4_init 87 = .ok (.bipush (-2), 2) := by decide +kernel
theorem dX4_init_89 : decode cX4_init 89 = .ok (.putfield 43, 3) := by decide +kernel
theorem dX4_init_92 : decode cX4_init 92 = .ok (.aload_n 0, 1) := by decide +kernel
theorem dX4_init_93 : decode cX4_init 93 = .ok (.aload_n 1, 1) := by decide +kernel
theorem dX4_init_94 : decode cX4_init 94 = .ok (.putfield 46, 3) := by decide +kernel
theorem dX4_init_97 : decode cX4_init 97 = .ok (.aload_n 0, 1) := by decide +kernel
theorem dX4_init_98 : decode cX4_init 98 = .ok (.aload_n 2, 1) := by decide +kernel
theorem dX4_init_99 : decode cX4_init 99 = .ok (.putfield 50, 3) := by decide +kernel
theorem dX4_init_102 : decode cX4_init 102 = .ok (.return_, 1) := by decide +kernel
theorem dX4_forget_0 : decode cX4_forget 0 = .ok (.aload_n 0, 1) := by decide +kernel
theorem dX4_forget_1 : decode cX4_forget 1 = .ok (.bipush (-2), 2) := by decide +kernel
theorem dX4_forget_3 : decode cX4_forget 3 = .ok (.putfield 39, 3) := by decide +kernel
theorem dX4_forget_6 : decode cX4_forget 6 = .ok (.aload_n 0, 1) := by decide +kernel
theorem dX4_forget_7 : decode cX4_forget 7 = .ok (.bipush (-2), 2) := by decide +kernel
theorem dX4_forget_9 : decode cX4_forget 9 = .ok (.putfield 43, 3) := by decide +kernel
theorem dX4_forget_12 : decode cX4_forget 12 = .ok (.return_, 1) := by decide +kernel
theorem dX4_findLeast_0 : decode cX4_findLeast 0 = .ok (.aload_n 0, 1) := by decide +kernel
theorem dX4_findLeast_1 : decode cX4_findLeast 1 = .ok (.getfield 39, 3) := by decide +kernel
theorem dX4_findLeast_4 : decode cX4_findLeast 4 = .ok (.bipush (-2), 2) := by decide +kernel
theorem dX4_findLeast_6 : decode cX4_findLeast 6 = .ok (.if_icmp .ne 19, 3) := by decide +kernel
theorem dX4_findLeast_9 : decode cX4_findLeast 9 = .ok (.aload_n 0, 1) := by decide +kernel
theorem dX4_findLeast_10 : decode cX4_findLeast 10 = .ok (.invokevirtual 54, 3) := by decide +kernel
theorem dX4_findLeast_13 : decode cX4_findLeast 13 = .ok (.aload_n 0, 1) := by decide +kernel
theorem dX4_findLeast_14 : decode cX4_findLeast 14 = .ok (.aload_n 0, 1) := by decide +kernel
theorem dX4_findLeast_15 : decode cX4_findLeast 15 = .ok (.invokevirtual 57, 3) := by decide +kernel
theorem dX4_findLeast_18 : decode cX4_findLeast 18 = .ok (.putfield 39, 3) := by decide +kernel
theorem dX4_findLeast_21 : decode cX4_findLeast 21 = .ok (.aload_n 0, 1) := by decide +kernel
theorem dX4_findLeast_22 : decode cX4_findLeast 22 = .ok (.invokevirtual 61, 3) := by decide +kernel
theorem dX4_findLeast_25 : decode cX4_findLeast 25 = .ok (.return_, 1) := by decide +kernel
theorem dX4_fewestChanges_0 : decode cX4_fewestChanges 0 = .ok (.aload_n 0, 1) := by decide +kernel
theorem dX4_fewestChanges_1 : decode cX4_fewestChanges 1 = .ok (.getfield 43, 3) := by decide +kernel
theorem dX4_fewestChanges_4 : decode cX4_fewestChanges 4 = .ok (.bipush (-2), 2) := by decide +kernel
theorem dX4_fewestChanges_6 : decode cX4_fewestChanges 6 = .ok (.if_icmp .ne 27, 3) := by decide +kernel
theorem dX4_fewestChanges_9 : decode cX4_fewestChanges 9 = .ok (.aload_n 0, 1) := by decide +kernel
theorem dX4_fewestChanges_10 : decode cX4_fewestChanges 10 = .ok (.invokevirtual 64, 3) := by decide +kernel
theorem dX4_fewestChanges_13 : decode cX4_fewestChanges 13 = .ok (.aload_n 0, 1) := by decide +kernel
theorem dX4_fewestChanges_14 : decode cX4_fewestChanges 14 = .ok (.invokevirtual 57, 3) := by decide +kernel
theorem dX4_fewestChanges_17 : decode cX4_fewestChanges 17 = .ok (.istore_n 1, 1) := by decide +kernel
theorem dX4_fewestChanges_18 : decode cX4_fewestChanges 18 = .ok (.aload_n 0, 1) := by decide +kernel
theorem dX4_fewestChanges_19 : decode cX4_fewestChanges 19 = .ok (.iload_n 1, 1) := by decide +kernel
theorem dX4_fewestChanges_20 : decode cX4_fewestChanges 20 = .ok (.ldc 67, 2) := by decide +kernel
theorem dX4_fewestChanges_22 : decode cX4_fewestChanges 22 = .ok (.if_icmp .ge 7, 3) := by decide +kernel
theorem dX4_fewestChanges_25 : decode cX4_fewestChanges 25 = .ok (.iload_n 1, 1) := by decide +kernel
theorem dX4_fewestChanges_26 : decode cX4_fewestChanges 26 = .ok (.goto 4, 3) := by decide +kernel
theorem dX4_fewestChanges_29 : decode cX4_fewestChanges 29 = .ok (.iconst (-1), 1) := by decide +kernel
theorem dX4_fewestChanges_30 : decode cX4_fewestChanges 30 = .ok (.putfield 43, 3) := by decide +kernel
theorem dX4_fewestChanges_33 : decode cX4_fewestChanges 33 = .ok (.aload_n 0, 1) := by decide +kernel
theorem dX4_fewestChanges_34 : decode cX4_fewestChanges 34 = .ok (.getfield 43, 3) := by decide +kernel
theorem dX4_fewestChanges_37 : decode cX4_fewestChanges 37 = .ok (.ireturn, 1) := by decide +kernel
theorem dX4_priceByRule_0 : decode cX4_priceByRule 0 = .ok (.iconst 0, 1) := by decide +kernel
theorem dX4_priceByRule_1 : decode cX4_priceByRule 1 = .ok (.istore_n 1, 1) := by decide +kernel
theorem dX4_priceByRule_2 : decode cX4_priceByRule 2 = .ok (.iload_n 1, 1) := by decide +kernel
theorem dX4_priceByRule_3 : decode cX4_priceByRule 3 = .ok (.bipush 8, 2) := by decide +kernel
theorem dX4_priceByRule_5 : decode cX4_priceByRule 5 = .ok (.if_icmp .ge 66, 3) := by decide +kernel
theorem dX4_priceByRule_8 : decode cX4_priceByRule 8 = .ok (.aload_n 0, 1) := by decide +kernel
theorem dX4_priceByRule_9 : decode cX4_priceByRule 9 = .ok (.getfield 46, 3) := by decide +kernel
theorem dX4_priceByRule_12 : decode cX4_priceByRule 12 = .ok (.getfield 68, 3) := by decide +kernel
theorem dX4_priceByRule_15 : decode cX4_priceByRule 15 = .ok (.iload_n 1, 1) := by decide +kernel
theorem dX4_priceByRule_16 : decode cX4_priceByRule 16 = .ok (.iaload, 1) := by decide +kernel
theorem dX4_priceByRule_17 : decode cX4_priceByRule 17 = .ok (.iconst 0, 1) := by decide +kernel
theorem dX4_priceByRule_18 : decode cX4_priceByRule 18 = .ok (.invokestatic 73, 3) := by decide +kernel
theorem dX4_priceByRule_21 : decode cX4_priceByRule 21 = .ok (.istore_n 2, 1) := by decide +kernel
theorem dX4_priceByRule_22 : decode cX4_priceByRule 22 = .ok (.iload_n 2, 1) := by decide +kernel
theorem dX4_priceByRule_23 : decode cX4_priceByRule 23 = .ok (.bipush 24, 2) := by decide +kernel
theorem dX4_priceByRule_25 : decode cX4_priceByRule 25 = .ok (.if_icmp .gt 40, 3) := by decide +kernel
theorem dX4_priceByRule_28 : decode cX4_priceByRule 28 = .ok (.aload_n 0, 1) := by decide +kernel
theorem dX4_priceByRule_29 : decode cX4_priceByRule 29 = .ok (.getfield 46, 3) := by decide +kernel
theorem dX4_priceByRule_32 : decode cX4_priceByRule 32 = .ok (.iload_n 1, 1) := by decide +kernel
theorem dX4_priceByRule_33 : decode cX4_priceByRule 33 = .ok (.invokevirtual 79, 3) := by decide +kernel
theorem dX4_priceByRule_36 : decode cX4_priceByRule 36 = .ok (.ifCond .eq 29, 3) := by decide +kernel
theorem dX4_priceByRule_39 : decode cX4_priceByRule 39 = .ok (.aload_n 0, 1) := by decide +kernel
theorem dX4_priceByRule_40 : decode cX4_priceByRule 40 = .ok (.getfield 11, 3) := by decide +kernel
theorem dX4_priceByRule_43 : decode cX4_priceByRule 43 = .ok (.iload_n 1, 1) := by decide +kernel
theorem dX4_priceByRule_44 : decode cX4_priceByRule 44 = .ok (.bipush 25, 2) := by decide +kernel
theorem dX4_priceByRule_46 : decode cX4_priceByRule 46 = .ok (.imul, 1) := by decide +kernel
theorem dX4_priceByRule_47 : decode cX4_priceByRule 47 = .ok (.iload_n 2, 1) := by decide +kernel
theorem dX4_priceByRule_48 : decode cX4_priceByRule 48 = .ok (.iadd, 1) := by decide +kernel
theorem dX4_priceByRule_49 : decode cX4_priceByRule 49 = .ok (.aload_n 0, 1) := by decide +kernel
theorem dX4_priceByRule_50 : decode cX4_priceByRule 50 = .ok (.getfield 50, 3) := by decide +kernel
theorem dX4_priceByRule_53 : decode cX4_priceByRule 53 = .ok (.iload_n 1, 1) := by decide +kernel
theorem dX4_priceByRule_54 : decode cX4_priceByRule 54 = .ok (.iload_n 2, 1) := by decide +kernel
theorem dX4_priceByRule_55 : decode cX4_priceByRule 55 = .ok (.invokevirtual 83, 3) := by decide +kernel
theorem dX4_priceByRule_58 : decode cX4_priceByRule 58 = .ok (.iastore, 1) := by decide +kernel
theorem dX4_priceByRule_59 : decode cX4_priceByRule 59 = .ok (.iinc 2 1, 3) := by decide +kernel
theorem dX4_priceByRule_62 : decode cX4_priceByRule 62 = .ok (.goto (-40), 3) := by decide +kernel
theorem dX4_priceByRule_65 : decode cX4_priceByRule 65 = .ok (.iinc 1 1, 3) := by decide +kernel
theorem dX4_priceByRule_68 : decode cX4_priceByRule 68 = .ok (.goto (-66), 3) := by decide +kernel
theorem dX4_priceByRule_71 : decode cX4_priceByRule 71 = .ok (.iconst 1, 1) := by decide +kernel
theorem dX4_priceByRule_72 : decode cX4_priceByRule 72 = .ok (.istore_n 1, 1) := by decide +kernel
theorem dX4_priceByRule_73 : decode cX4_priceByRule 73 = .ok (.iload_n 1, 1) := by decide +kernel
theorem dX4_priceByRule_74 : decode cX4_priceByRule 74 = .ok (.bipush 24, 2) := by decide +kernel
theorem dX4_priceByRule_76 : decode cX4_priceByRule 76 = .ok (.if_icmp .ge 68, 3) := by decide +kernel
theorem dX4_priceByRule_79 : decode cX4_priceByRule 79 = .ok (.iconst 0, 1) := by decide +kernel
theorem dX4_priceByRule_80 : decode cX4_priceByRule 80 = .ok (.istore_n 2, 1) := by decide +kernel
theorem dX4_priceByRule_81 : decode cX4_priceByRule 81 = .ok (.iload_n 2, 1) := by decide +kernel
theorem dX4_priceByRule_82 : decode cX4_priceByRule 82 = .ok (.iconst 3, 1) := by decide +kernel
theorem dX4_priceByRule_83 : decode cX4_priceByRule 83 = .ok (.if_icmp .ge 55, 3) := by decide +kernel
theorem dX4_priceByRule_86 : decode cX4_priceByRule 86 = .ok (.iconst 0, 1) := by decide +kernel
theorem dX4_priceByRule_87 : decode cX4_priceByRule 87 = .ok (.istore_n 3, 1) := by decide +kernel
theorem dX4_priceByRule_88 : decode cX4_priceByRule 88 = .ok (.iload_n 3, 1) := by decide +kernel
theorem dX4_priceByRule_89 : decode cX4_priceByRule 89 = .ok (.iconst 3, 1) := by decide +kernel
theorem dX4_priceByRule_90 : decode cX4_priceByRule 90 = .ok (.if_icmp .ge 42, 3) := by decide +kernel
theorem dX4_priceByRule_93 : decode cX4_priceByRule 93 = .ok (.aload_n 0, 1) := by decide +kernel
theorem dX4_priceByRule_94 : decode cX4_priceByRule 94 = .ok (.getfield 15, 3) := by decide +kernel
theorem dX4_priceByRule_97 : decode cX4_priceByRule 97 = .ok (.iload_n 1, 1) := by decide +kernel
theorem dX4_priceByRule_98 : decode cX4_priceByRule 98 = .ok (.iconst 3, 1) := by decide +kernel
theorem dX4_priceByRule_99 : decode cX4_priceByRule 99 = .ok (.imul, 1) := by decide +kernel
theorem dX4_priceByRule_100 : decode cX4_priceByRule 100 = .ok (.iload_n 2, 1) := by decide +kernel
theorem dX4_priceByRule_101 : decode cX4_priceByRule 101 = .ok (.iadd, 1) := by decide +kernel
theorem dX4_priceByRule_102 : decode cX4_priceByRule 102 = .ok (.iconst 3, 1) := by decide +kernel
theorem dX4_priceByRule_103 : decode cX4_priceByRule 103 = .ok (.imul, 1) := by decide +kernel
theorem dX4_priceByRule_104 : decode cX4_priceByRule 104 = .ok (.iload_n 3, 1) := by decide +kernel
theorem dX4_priceByRule_105 : decode cX4_priceByRule 105 = .ok (.iadd, 1) := by decide +kernel
theorem dX4_priceByRule_106 : decode cX4_priceByRule 106 = .ok (.iload_n 2, 1) := by decide +kernel
theorem dX4_priceByRule_107 : decode cX4_priceByRule 107 = .ok (.iload_n 3, 1) := by decide +kernel
theorem dX4_priceByRule_108 : decode cX4_priceByRule 108 = .ok (.if_icmp .ne 7, 3) := by decide +kernel
theorem dX4_priceByRule_111 : decode cX4_priceByRule 111 = .ok (.iconst 0, 1) := by decide +kernel
theorem dX4_priceByRule_112 : decode cX4_priceByRule 112 = .ok (.goto 13, 3) := by decide +kernel
theorem dX4_priceByRule_115 : decode cX4_priceByRule 115 = .ok (.aload_n 0, 1) := by decide +kernel
theorem dX4_priceByRule_116 : decode cX4_priceByRule 116 = .ok (.getfield 50, 3) := by decide +kernel
theorem dX4_priceByRule_119 : decode cX4_priceByRule 119 = .ok (.iload_n 1, 1) := by decide +kernel
theorem dX4_priceByRule_120 : decode cX4_priceByRule 120 = .ok (.iload_n 2, 1) := by decide +kernel
theorem dX4_priceByRule_121 : decode cX4_priceByRule 121 = .ok (.iload_n 3, 1) := by decide +kernel
theorem dX4_priceByRule_122 : decode cX4_priceByRule 122 = .ok (.invokevirtual 88, 3) := by decide +kernel
theorem dX4_priceByRule_125 : decode cX4_priceByRule 125 = .ok (.iastore, 1) := by decide +kernel
theorem dX4_priceByRule_126 : decode cX4_priceByRule 126 = .ok (.iinc 3 1, 3) := by decide +kernel
theorem dX4_priceByRule_129 : decode cX4_priceByRule 129 = .ok (.goto (-41), 3) := by decide +kernel
theorem dX4_priceByRule_132 : decode cX4_priceByRule 132 = .ok (.iinc 2 1, 3) := by decide +kernel
theorem dX4_priceByRule_135 : decode cX4_priceByRule 135 = .ok (.goto (-54), 3) := by decide +kernel
theorem dX4_priceByRule_138 : decode cX4_priceByRule 138 = .ok (.iinc 1 1, 3) := by decide +kernel
theorem dX4_priceByRule_141 : decode cX4_priceByRule 141 = .ok (.goto (-68), 3) := by decide +kernel
theorem dX4_priceByRule_144 : decode cX4_priceByRule 144 = .ok (.return_, 1) := by decide +kernel
theorem dX4_priceChangesAlone_0 : decode cX4_priceChangesAlone 0 = .ok (.aload_n 0, 1) := by decide +kernel
theorem dX4_priceChangesAlone_1 : decode cX4_priceChangesAlone 1 = .ok (.getfield 11, 3) := by decide +kernel
theorem dX4_priceChangesAlone_4 : decode cX4_priceChangesAlone 4 = .ok (.iconst 0, 1) := by decide +kernel
theorem dX4_priceChangesAlone_5 : decode cX4_priceChangesAlone 5 = .ok (.invokestatic 92, 3) := by decide +kernel
theorem dX4_priceChangesAlone_8 : decode cX4_priceChangesAlone 8 = .ok (.iconst 0, 1) := by decide +kernel
theorem dX4_priceChangesAlone_9 : decode cX4_priceChangesAlone 9 = .ok (.istore_n 1, 1) := by decide +kernel
theorem dX4_priceChangesAlone_10 : decode cX4_priceChangesAlone 10 = .ok (.iload_n 1, 1) := by decide +kernel
theorem dX4_priceChangesAlone_11 : decode cX4_priceChangesAlone 11 = .ok (.bipush 8, 2) := by decide +kernel
theorem dX4_priceChangesAlone_13 : decode cX4_priceChangesAlone 13 = .ok (.if_icmp .ge 23, 3) := by decide +kernel
theorem dX4_priceChangesAlone_16 : decode cX4_priceChangesAlone 16 = .ok (.aload_n 0, 1) := by decide +kernel
theorem dX4_priceChangesAlone_17 : decode cX4_priceChangesAlone 17 = .ok (.getfield 11, 3) := by decide +kernel
theorem dX4_priceChangesAlone_20 : decode cX4_priceChangesAlone 20 = .ok (.iload_n 1, 1) := by decide +kernel
theorem dX4_priceChangesAlone_21 : decode cX4_priceChangesAlone 21 = .ok (.bipush 25, 2) := by decide +kernel
theorem dX4_priceChangesAlone_23 : decode cX4_priceChangesAlone 23 = .ok (.imul, 1) := by decide +kernel
theorem dX4_priceChangesAlone_24 : decode cX4_priceChangesAlone 24 = .ok (.bipush 24, 2) := by decide +kernel
theorem dX4_priceChangesAlone_26 : decode cX4_priceChangesAlone 26 = .ok (.iadd, 1) := by decide +kernel
theorem dX4_priceChangesAlone_27 : decode cX4_priceChangesAlone 27 = .ok (.ldc 67, 2) := by decide +kernel
theorem dX4_priceChangesAlone_29 : decode cX4_priceChangesAlone 29 = .ok (.iastore, 1) := by decide +kernel
theorem dX4_priceChangesAlone_30 : decode cX4_priceChangesAlone 30 = .ok (.iinc 1 1, 3) := by decide +kernel
theorem dX4_priceChangesAlone_33 : decode cX4_priceChangesAlone 33 = .ok (.goto (-23), 3) := by decide +kernel
theorem dX4_priceChangesAlone_36 : decode cX4_priceChangesAlone 36 = .ok (.aload_n 0, 1) := by decide +kernel
theorem dX4_priceChangesAlone_37 : decode cX4_priceChangesAlone 37 = .ok (.getfield 15, 3) := by decide +kernel
theorem dX4_priceChangesAlone_40 : decode cX4_priceChangesAlone 40 = .ok (.iconst 1, 1) := by decide +kernel
theorem dX4_priceChangesAlone_41 : decode cX4_priceChangesAlone 41 = .ok (.invokestatic 92, 3) := by decide +kernel
theorem dX4_priceChangesAlone_44 : decode cX4_priceChangesAlone 44 = .ok (.return_, 1) := by decide +kernel
theorem dX4_solve_0 : decode cX4_solve 0 = .ok (.iconst 0, 1) := by decide +kernel
theorem dX4_solve_1 : decode cX4_solve 1 = .ok (.istore_n 1, 1) := by decide +kernel
theorem dX4_solve_2 : decode cX4_solve 2 = .ok (.iload_n 1, 1) := by decide +kernel
theorem dX4_solve_3 : decode cX4_solve 3 = .ok (.iconst 3, 1) := by decide +kernel
theorem dX4_solve_4 : decode cX4_solve 4 = .ok (.if_icmp .ge 24, 3) := by decide +kernel
theorem dX4_solve_7 : decode cX4_solve 7 = .ok (.aload_n 0, 1) := by decide +kernel
theorem dX4_solve_8 : decode cX4_solve 8 = .ok (.getfield 33, 3) := by decide +kernel
theorem dX4_solve_11 : decode cX4_solve 11 = .ok (.iload_n 1, 1) := by decide +kernel
theorem dX4_solve_12 : decode cX4_solve 12 = .ok (.aload_n 0, 1) := by decide +kernel
theorem dX4_solve_13 : decode cX4_solve 13 = .ok (.iconst 0, 1) := by decide +kernel
theorem dX4_solve_14 : decode cX4_solve 14 = .ok (.bipush 24, 2) := by decide +kernel
theorem dX4_solve_16 : decode cX4_solve 16 = .ok (.iload_n 1, 1) := by decide +kernel
theorem dX4_solve_17 : decode cX4_solve 17 = .ok (.iconst 1, 1) := by decide +kernel
theorem dX4_solve_18 : decode cX4_solve 18 = .ok (.invokevirtual 98, 3) := by decide +kernel
theorem dX4_solve_21 : decode cX4_solve 21 = .ok (.iastore, 1) := by decide +kernel
theorem dX4_solve_22 : decode cX4_solve 22 = .ok (.iinc 1 1, 3) := by decide +kernel
theorem dX4_solve_25 : decode cX4_solve 25 = .ok (.goto (-23), 3) := by decide +kernel
theorem dX4_solve_28 : decode cX4_solve 28 = .ok (.aload_n 0, 1) := by decide +kernel
theorem dX4_solve_29 : decode cX4_solve 29 = .ok (.getfield 27, 3) := by decide +kernel
theorem dX4_solve_32 : decode cX4_solve 32 = .ok (.iconst 0, 1) := by decide +kernel
theorem dX4_solve_33 : decode cX4_solve 33 = .ok (.invokestatic 92, 3) := by decide +kernel
theorem dX4_solve_36 : decode cX4_solve 36 = .ok (.aload_n 0, 1) := by decide +kernel
theorem dX4_solve_37 : decode cX4_solve 37 = .ok (.getfield 30, 3) := by decide +kernel
theorem dX4_solve_40 : decode cX4_solve 40 = .ok (.iconst 0, 1) := by decide +kernel
theorem dX4_solve_41 : decode cX4_solve 41 = .ok (.invokestatic 92, 3) := by decide +kernel
theorem dX4_solve_44 : decode cX4_solve 44 = .ok (.aload_n 0, 1) := by decide +kernel
theorem dX4_solve_45 : decode cX4_solve 45 = .ok (.invokevirtual 102, 3) := by decide +kernel
theorem dX4_solve_48 : decode cX4_solve 48 = .ok (.bipush 23, 2) := by decide +kernel
theorem dX4_solve_50 : decode cX4_solve 50 = .ok (.istore_n 1, 1) := by decide +kernel
theorem dX4_solve_51 : decode cX4_solve 51 = .ok (.iload_n 1, 1) := by decide +kernel
theorem dX4_solve_52 : decode cX4_solve 52 = .ok (.ifCond .le 33, 3) := by decide +kernel
theorem dX4_solve_55 : decode cX4_solve 55 = .ok (.aload_n 0, 1) := by decide +kernel
theorem dX4_solve_56 : decode cX4_solve 56 = .ok (.iload_n 1, 1) := by decide +kernel
theorem dX4_solve_57 : decode cX4_solve 57 = .ok (.invokevirtual 105, 3) := by decide +kernel
theorem dX4_solve_60 : decode cX4_solve 60 = .ok (.iconst 0, 1) := by decide +kernel
theorem dX4_solve_61 : decode cX4_solve 61 = .ok (.istore_n 2, 1) := by decide +kernel
theorem dX4_solve_62 : decode cX4_solve 62 = .ok (.iload_n 2, 1) := by decide +kernel
theorem dX4_solve_63 : decode cX4_solve 63 = .ok (.iconst 3, 1) := by decide +kernel
theorem dX4_solve_64 : decode cX4_solve 64 = .ok (.if_icmp .ge 15, 3) := by decide +kernel
theorem dX4_solve_67 : decode cX4_solve 67 = .ok (.aload_n 0, 1) := by decide +kernel
theorem dX4_solve_68 : decode cX4_solve 68 = .ok (.iload_n 1, 1) := by decide +kernel
theorem dX4_solve_69 : decode cX4_solve 69 = .ok (.iload_n 2, 1) := by decide +kernel
theorem dX4_solve_70 : decode cX4_solve 70 = .ok (.invokevirtual 109, 3) := by decide +kernel
theorem dX4_solve_73 : decode cX4_solve 73 = .ok (.iinc 2 1, 3) := by decide +kernel
theorem dX4_solve_76 : decode cX4_solve 76 = .ok (.goto (-14), 3) := by decide +kernel
theorem dX4_solve_79 : decode cX4_solve 79 = .ok (.iinc 1 (-1), 3) := by decide +kernel
theorem dX4_solve_82 : decode cX4_solve 82 = .ok (.goto (-31), 3) := by decide +kernel
theorem dX4_solve_85 : decode cX4_solve 85 = .ok (.aload_n 0, 1) := by decide +kernel
theorem dX4_solve_86 : decode cX4_solve 86 = .ok (.iconst 0, 1) := by decide +kernel
theorem dX4_solve_87 : decode cX4_solve 87 = .ok (.invokevirtual 105, 3) := by decide +kernel
theorem dX4_solve_90 : decode cX4_solve 90 = .ok (.aload_n 0, 1) := by decide +kernel
theorem dX4_solve_91 : decode cX4_solve 91 = .ok (.iconst 0, 1) := by decide +kernel
theorem dX4_solve_92 : decode cX4_solve 92 = .ok (.iconst (-1), 1) := by decide +kernel
theorem dX4_solve_93 : decode cX4_solve 93 = .ok (.iconst 0, 1) := by decide +kernel
theorem dX4_solve_94 : decode cX4_solve 94 = .ok (.invokevirtual 113, 3) := by decide +kernel
theorem dX4_solve_97 : decode cX4_solve 97 = .ok (.aload_n 0, 1) := by decide +kernel
theorem dX4_solve_98 : decode cX4_solve 98 = .ok (.getfield 18, 3) := by decide +kernel
theorem dX4_solve_101 : decode cX4_solve 101 = .ok (.iconst 0, 1) := by decide +kernel
theorem dX4_solve_102 : decode cX4_solve 102 = .ok (.iaload, 1) := by decide +kernel
theorem dX4_solve_103 : decode cX4_solve 103 = .ok (.ireturn, 1) := by decide +kernel
theorem dX4_closeDay_0 : decode cX4_closeDay 0 = .ok (.iconst 0, 1) := by decide +kernel
theorem dX4_closeDay_1 : decode cX4_closeDay 1 = .ok (.istore_n 1, 1) := by decide +kernel
theorem dX4_closeDay_2 : decode cX4_closeDay 2 = .ok (.iload_n 1, 1) := by decide +kernel
theorem dX4_closeDay_3 : decode cX4_closeDay 3 = .ok (.bipush 16, 2) := by decide +kernel
theorem dX4_closeDay_5 : decode cX4_closeDay 5 = .ok (.if_icmp .ge 43, 3) := by decide +kernel
theorem dX4_closeDay_8 : decode cX4_closeDay 8 = .ok (.aload_n 0, 1) := by decide +kernel
theorem dX4_closeDay_9 : decode cX4_closeDay 9 = .ok (.iload_n 1, 1) := by decide +kernel
theorem dX4_closeDay_10 : decode cX4_closeDay 10 = .ok (.bipush 24, 2) := by decide +kernel
theorem dX4_closeDay_12 : decode cX4_closeDay 12 = .ok (.invokevirtual 117, 3) := by decide +kernel
theorem dX4_closeDay_15 : decode cX4_closeDay 15 = .ok (.istore_n 2, 1) := by decide +kernel
theorem dX4_closeDay_16 : decode cX4_closeDay 16 = .ok (.iconst 0, 1) := by decide +kernel
theorem dX4_closeDay_17 : decode cX4_closeDay 17 = .ok (.istore_n 3, 1) := by decide +kernel
theorem dX4_closeDay_18 : decode cX4_closeDay 18 = .ok (.iload_n 3, 1) := by decide +kernel
theorem dX4_closeDay_19 : decode cX4_closeDay 19 = .ok (.iconst 3, 1) := by decide +kernel
theorem dX4_closeDay_20 : decode cX4_closeDay 20 = .ok (.if_icmp .ge 22, 3) := by decide +kernel
theorem dX4_closeDay_23 : decode cX4_closeDay 23 = .ok (.aload_n 0, 1) := by decide +kernel
theorem dX4_closeDay_24 : decode cX4_closeDay 24 = .ok (.getfield 18, 3) := by decide +kernel
theorem dX4_closeDay_27 : decode cX4_closeDay 27 = .ok (.bipush 24, 2) := by decide +kernel
theorem dX4_closeDay_29 : decode cX4_closeDay 29 = .ok (.iload_n 3, 1) := by decide +kernel
theorem dX4_closeDay_30 : decode cX4_closeDay 30 = .ok (.iload_n 1, 1) := by decide +kernel
theorem dX4_closeDay_31 : decode cX4_closeDay 31 = .ok (.invokestatic 120, 3) := by decide +kernel
theorem dX4_closeDay_34 : decode cX4_closeDay 34 = .ok (.iload_n 2, 1) := by decide +kernel
theorem dX4_closeDay_35 : decode cX4_closeDay 35 = .ok (.iastore, 1) := by decide +kernel
theorem dX4_closeDay_36 : decode cX4_closeDay 36 = .ok (.iinc 3 1, 3) := by decide +kernel
theorem dX4_closeDay_39 : decode cX4_closeDay 39 = .ok (.goto (-21), 3) := by decide +kernel
theorem dX4_closeDay_42 : decode cX4_closeDay 42 = .ok (.iinc 1 1, 3) := by decide +kernel
theorem dX4_closeDay_45 : decode cX4_closeDay 45 = .ok (.goto (-43), 3) := by decide +kernel
theorem dX4_closeDay_48 : decode cX4_closeDay 48 = .ok (.return_, 1) := by decide +kernel
theorem dX4_addComers_0 : decode cX4_addComers 0 = .ok (.iconst 0, 1) := by decide +kernel
theorem dX4_addComers_1 : decode cX4_addComers 1 = .ok (.istore_n 2, 1) := by decide +kernel
theorem dX4_addComers_2 : decode cX4_addComers 2 = .ok (.iload_n 2, 1) := by decide +kernel
theorem dX4_addComers_3 : decode cX4_addComers 3 = .ok (.bipush 8, 2) := by decide +kernel
theorem dX4_addComers_5 : decode cX4_addComers 5 = .ok (.if_icmp .ge 53, 3) := by decide +kernel
theorem dX4_addComers_8 : decode cX4_addComers 8 = .ok (.aload_n 0, 1) := by decide +kernel
theorem dX4_addComers_9 : decode cX4_addComers 9 = .ok (.getfield 46, 3) := by decide +kernel
theorem dX4_addComers_12 : decode cX4_addComers 12 = .ok (.iload_n 2, 1) := by decide +kernel
theorem dX4_addComers_13 : decode cX4_addComers 13 = .ok (.invokevirtual 79, 3) := by decide +kernel
theorem dX4_addComers_16 : decode cX4_addComers 16 = .ok (.ifCond .eq 36, 3) := by decide +kernel
theorem dX4_addComers_19 : decode cX4_addComers 19 = .ok (.aload_n 0, 1) := by decide +kernel
theorem dX4_addComers_20 : decode cX4_addComers 20 = .ok (.getfield 46, 3) := by decide +kernel
theorem dX4_addComers_23 : decode cX4_addComers 23 = .ok (.getfield 68, 3) := by decide +kernel
theorem dX4_addComers_26 : decode cX4_addComers 26 = .ok (.iload_n 2, 1) := by decide +kernel
theorem dX4_addComers_27 : decode cX4_addComers 27 = .ok (.iaload, 1) := by decide +kernel
theorem dX4_addComers_28 : decode cX4_addComers 28 = .ok (.iload_n 1, 1) := by decide +kernel
theorem dX4_addComers_29 : decode cX4_addComers 29 = .ok (.if_icmp .ne 23, 3) := by decide +kernel
theorem dX4_addComers_32 : decode cX4_addComers 32 = .ok (.iconst 0, 1) := by decide +kernel
theorem dX4_addComers_33 : decode cX4_addComers 33 = .ok (.istore_n 3, 1) := by decide +kernel
theorem dX4_addComers_34 : decode cX4_addComers 34 = .ok (.iload_n 3, 1) := by decide +kernel
theorem dX4_addComers_35 : decode cX4_addComers 35 = .ok (.iconst 3, 1) := by decide +kernel
theorem dX4_addComers_36 : decode cX4_addComers 36 = .ok (.if_icmp .ge 16, 3) := by decide +kernel
theorem dX4_addComers_39 : decode cX4_addComers 39 = .ok (.aload_n 0, 1) := by decide +kernel
theorem dX4_addComers_40 : decode cX4_addComers 40 = .ok (.iload_n 2, 1) := by decide +kernel
theorem dX4_addComers_41 : decode cX4_addComers 41 = .ok (.iload_n 1, 1) := by decide +kernel
theorem dX4_addComers_42 : decode cX4_addComers 42 = .ok (.iload_n 3, 1) := by decide +kernel
theorem dX4_addComers_43 : decode cX4_addComers 43 = .ok (.invokevirtual 123, 3) := by decide +kernel
theorem dX4_addComers_46 : decode cX4_addComers 46 = .ok (.iinc 3 1, 3) := by decide +kernel
theorem dX4_addComers_49 : decode cX4_addComers 49 = .ok (.goto (-15), 3) := by decide +kernel
theorem dX4_addComers_52 : decode cX4_addComers 52 = .ok (.iinc 2 1, 3) := by decide +kernel
theorem dX4_addComers_55 : decode cX4_addComers 55 = .ok (.goto (-53), 3) := by decide +kernel
theorem dX4_addComers_58 : decode cX4_addComers 58 = .ok (.return_, 1) := by decide +kernel
theorem dX4_addComer_0 : decode cX4_addComer 0 = .ok (.aload_n 0, 1) := by decide +kernel
theorem dX4_addComer_1 : decode cX4_addComer 1 = .ok (.getfield 46, 3) := by decide +kernel
theorem dX4_addComer_4 : decode cX4_addComer 4 = .ok (.iload_n 1, 1) := by decide +kernel
theorem dX4_addComer_5 : decode cX4_addComer 5 = .ok (.iload_n 3, 1) := by decide +kernel
theorem dX4_addComer_6 : decode cX4_addComer 6 = .ok (.invokevirtual 126, 3) := by decide +kernel
theorem dX4_addComer_9 : decode cX4_addComer 9 = .ok (.istore 4, 2) := by decide +kernel
theorem dX4_addComer_11 : decode cX4_addComer 11 = .ok (.iload_n 2, 1) := by decide +kernel
theorem dX4_addComer_12 : decode cX4_addComer 12 = .ok (.iconst 1, 1) := by decide +kernel
theorem dX4_addComer_13 : decode cX4_addComer 13 = .ok (.iadd, 1) := by decide +kernel
theorem dX4_addComer_14 : decode cX4_addComer 14 = .ok (.istore 5, 2) := by decide +kernel
theorem dX4_addComer_16 : decode cX4_addComer 16 = .ok (.iload 5, 2) := by decide +kernel
theorem dX4_addComer_18 : decode cX4_addComer 18 = .ok (.bipush 25, 2) := by decide +kernel
theorem dX4_addComer_20 : decode cX4_addComer 20 = .ok (.if_icmp .ge 90, 3) := by decide +kernel
theorem dX4_addComer_23 : decode cX4_addComer 23 = .ok (.iload_n 3, 1) := by decide +kernel
theorem dX4_addComer_24 : decode cX4_addComer 24 = .ok (.bipush 25, 2) := by decide +kernel
theorem dX4_addComer_26 : decode cX4_addComer 26 = .ok (.imul, 1) := by decide +kernel
theorem dX4_addComer_27 : decode cX4_addComer 27 = .ok (.iload 5, 2) := by decide +kernel
theorem dX4_addComer_29 : decode cX4_addComer 29 = .ok (.iadd, 1) := by decide +kernel
theorem dX4_addComer_30 : decode cX4_addComer 30 = .ok (.istore 6, 2) := by decide +kernel
theorem dX4_addComer_32 : decode cX4_addComer 32 = .ok (.iload 4, 2) := by decide +kernel
theorem dX4_addComer_34 : decode cX4_addComer 34 = .ok (.ifCond .eq 27, 3) := by decide +kernel
theorem dX4_addComer_37 : decode cX4_addComer 37 = .ok (.aload_n 0, 1) := by decide +kernel
theorem dX4_addComer_38 : decode cX4_addComer 38 = .ok (.getfield 27, 3) := by decide +kernel
theorem dX4_addComer_41 : decode cX4_addComer 41 = .ok (.iload 6, 2) := by decide +kernel
theorem dX4_addComer_43 : decode cX4_addComer 43 = .ok (.dup2, 1) := by decide +kernel
theorem dX4_addComer_44 : decode cX4_addComer 44 = .ok (.iaload, 1) := by decide +kernel
theorem dX4_addComer_45 : decode cX4_addComer 45 = .ok (.aload_n 0, 1) := by decide +kernel
theorem dX4_addComer_46 : decode cX4_addComer 46 = .ok (.getfield 11, 3) := by decide +kernel
theorem dX4_addComer_49 : decode cX4_addComer 49 = .ok (.iload_n 1, 1) := by decide +kernel
theorem dX4_addComer_50 : decode cX4_addComer 50 = .ok (.bipush 25, 2) := by decide +kernel
theorem dX4_addComer_52 : decode cX4_addComer 52 = .ok (.imul, 1) := by decide +kernel
theorem dX4_addComer_53 : decode cX4_addComer 53 = .ok (.iload_n 2, 1) := by decide +kernel
theorem dX4_addComer_54 : decode cX4_addComer 54 = .ok (.iadd, 1) := by decide +kernel
theorem dX4_addComer_55 : decode cX4_addComer 55 = .ok (.iaload, 1) := by decide +kernel
theorem dX4_addComer_56 : decode cX4_addComer 56 = .ok (.iadd, 1) := by decide +kernel
theorem dX4_addComer_57 : decode cX4_addComer 57 = .ok (.iastore, 1) := by decide +kernel
theorem dX4_addComer_58 : decode cX4_addComer 58 = .ok (.goto 46, 3) := by decide +kernel
theorem dX4_addComer_61 : decode cX4_addComer 61 = .ok (.iload_n 1, 1) := by decide +kernel
theorem dX4_addComer_62 : decode cX4_addComer 62 = .ok (.iconst 4, 1) := by decide +kernel
theorem dX4_addComer_63 : decode cX4_addComer 63 = .ok (.if_icmp .lt 28, 3) := by decide +kernel
theorem dX4_addComer_66 : decode cX4_addComer 66 = .ok (.aload_n 0, 1) := by decide +kernel
theorem dX4_addComer_67 : decode cX4_addComer 67 = .ok (.getfield 27, 3) := by decide +kernel
theorem dX4_addComer_70 : decode cX4_addComer 70 = .ok (.iload 6, 2) := by decide +kernel
theorem dX4_addComer_72 : decode cX4_addComer 72 = .ok (.dup2, 1) := by decide +kernel
theorem dX4_addComer_73 : decode cX4_addComer 73 = .ok (.iaload, 1) := by decide +kernel
theorem dX4_addComer_74 : decode cX4_addComer 74 = .ok (.aload_n 0, 1) := by decide +kernel
theorem dX4_addComer_75 : decode cX4_addComer 75 = .ok (.getfield 11, 3) := by decide +kernel
theorem dX4_addComer_78 : decode cX4_addComer 78 = .ok (.iload_n 1, 1) := by decide +kernel
theorem dX4_addComer_79 : decode cX4_addComer 79 = .ok (.bipush 25, 2) := by decide +kernel
theorem dX4_addComer_81 : decode cX4_addComer 81 = .ok (.imul, 1) := by decide +kernel
theorem dX4_addComer_82 : decode cX4_addComer 82 = .ok (.iload 5, 2) := by decide +kernel
theorem dX4_addComer_84 : decode cX4_addComer 84 = .ok (.iadd, 1) := by decide +kernel
theorem dX4_addComer_85 : decode cX4_addComer 85 = .ok (.iaload, 1) := by decide +kernel
theorem dX4_addComer_86 : decode cX4_addComer 86 = .ok (.iadd, 1) := by decide +kernel
theorem dX4_addComer_87 : decode cX4_addComer 87 = .ok (.iastore, 1) := by decide +kernel
theorem dX4_addComer_88 : decode cX4_addComer 88 = .ok (.goto 16, 3) := by decide +kernel
theorem dX4_addComer_91 : decode cX4_addComer 91 = .ok (.aload_n 0, 1) := by decide +kernel
theorem dX4_addComer_92 : decode cX4_addComer 92 = .ok (.getfield 30, 3) := by decide +kernel
theorem dX4_addComer_95 : decode cX4_addComer 95 = .ok (.iload 6, 2) := by decide +kernel
theorem dX4_addComer_97 : decode cX4_addComer 97 = .ok (.dup2, 1) := by decide +kernel
theorem dX4_addComer_98 : decode cX4_addComer 98 = .ok (.iaload, 1) := by decide +kernel
theorem dX4_addComer_99 : decode cX4_addComer 99 = .ok (.iconst 1, 1) := by decide +kernel
theorem dX4_addComer_100 : decode cX4_addComer 100 = .ok (.iload_n 1, 1) := by decide +kernel
theorem dX4_addComer_101 : decode cX4_addComer 101 = .ok (.ishl, 1) := by decide +kernel
theorem dX4_addComer_102 : decode cX4_addComer 102 = .ok (.ior, 1) := by decide +kernel
theorem dX4_addComer_103 : decode cX4_addComer 103 = .ok (.iastore, 1) := by decide +kernel
theorem dX4_addComer_104 : decode cX4_addComer 104 = .ok (.iinc 5 1, 3) := by decide +kernel
theorem dX4_addComer_107 : decode cX4_addComer 107 = .ok (.goto (-91), 3) := by decide +kernel
theorem dX4_addComer_110 : decode cX4_addComer 110 = .ok (.return_, 1) := by decide +kernel
theorem dX4_settleMinute_0 : decode cX4_settleMinute 0 = .ok (.aload_n 0, 1) := by decide +kernel
theorem dX4_settleMinute_1 : decode cX4_settleMinute 1 = .ok (.iconst 0, 1) := by decide +kernel
theorem dX4_settleMinute_2 : decode cX4_settleMinute 2 = .ok (.iload_n 1, 1) := by decide +kernel
theorem dX4_settleMinute_3 : decode cX4_settleMinute 3 = .ok (.iload_n 2, 1) := by decide +kernel
theorem dX4_settleMinute_4 : decode cX4_settleMinute 4 = .ok (.iconst 0, 1) := by decide +kernel
theorem dX4_settleMinute_5 : decode cX4_settleMinute 5 = .ok (.invokevirtual 98, 3) := by decide +kernel
theorem dX4_settleMinute_8 : decode cX4_settleMinute 8 = .ok (.istore_n 3, 1) := by decide +kernel
theorem dX4_settleMinute_9 : decode cX4_settleMinute 9 = .ok (.iconst 0, 1) := by decide +kernel
theorem dX4_settleMinute_10 : decode cX4_settleMinute 10 = .ok (.istore 4, 2) := by decide +kernel
theorem dX4_settleMinute_12 : decode cX4_settleMinute 12 = .ok (.iload 4, 2) := by decide +kernel
theorem dX4_settleMinute_14 : decode cX4_settleMinute 14 = .ok (.bipush 16, 2) := by decide +kernel
theorem dX4_settleMinute_16 : decode cX4_settleMinute 16 = .ok (.if_icmp .ge 26, 3) := by decide +kernel
theorem dX4_settleMinute_19 : decode cX4_settleMinute 19 = .ok (.iload 4, 2) := by decide +kernel
theorem dX4_settleMinute_21 : decode cX4_settleMinute 21 = .ok (.iload_n 3, 1) := by decide +kernel
theorem dX4_settleMinute_22 : decode cX4_settleMinute 22 = .ok (.iconst (-1), 1) := by decide +kernel
theorem dX4_settleMinute_23 : decode cX4_settleMinute 23 = .ok (.ixor, 1) := by decide +kernel
theorem dX4_settleMinute_24 : decode cX4_settleMinute 24 = .ok (.iand, 1) := by decide +kernel
theorem dX4_settleMinute_25 : decode cX4_settleMinute 25 = .ok (.ifCond .ne 11, 3) := by decide +kernel
theorem dX4_settleMinute_28 : decode cX4_settleMinute 28 = .ok (.aload_n 0, 1) := by decide +kernel
theorem dX4_settleMinute_29 : decode cX4_settleMinute 29 = .ok (.iload_n 1, 1) := by decide +kernel
theorem dX4_settleMinute_30 : decode cX4_settleMinute 30 = .ok (.iload_n 2, 1) := by decide +kernel
theorem dX4_settleMinute_31 : decode cX4_settleMinute 31 = .ok (.iload 4, 2) := by decide +kernel
theorem dX4_settleMinute_33 : decode cX4_settleMinute 33 = .ok (.invokevirtual 113, 3) := by decide +kernel
theorem dX4_settleMinute_36 : decode cX4_settleMinute 36 = .ok (.iinc 4 1, 3) := by decide +kernel
theorem dX4_settleMinute_39 : decode cX4_settleMinute 39 = .ok (.goto (-27), 3) := by decide +kernel
theorem dX4_settleMinute_42 : decode cX4_settleMinute 42 = .ok (.return_, 1) := by decide +kernel
theorem dX4_settle_0 : decode cX4_settle 0 = .ok (.iload_n 1, 1) := by decide +kernel
theorem dX4_settle_1 : decode cX4_settle 1 = .ok (.iload_n 2, 1) := by decide +kernel
theorem dX4_settle_2 : decode cX4_settle 2 = .ok (.iload_n 3, 1) := by decide +kernel
theorem dX4_settle_3 : decode cX4_settle 3 = .ok (.invokestatic 120, 3) := by decide +kernel
theorem dX4_settle_6 : decode cX4_settle 6 = .ok (.istore 4, 2) := by decide +kernel
theorem dX4_settle_8 : decode cX4_settle 8 = .ok (.aload_n 0, 1) := by decide +kernel
theorem dX4_settle_9 : decode cX4_settle 9 = .ok (.getfield 18, 3) := by decide +kernel
theorem dX4_settle_12 : decode cX4_settle 12 = .ok (.iload 4, 2) := by decide +kernel
theorem dX4_settle_14 : decode cX4_settle 14 = .ok (.ldc 130, 2) := by decide +kernel
theorem dX4_settle_16 : decode cX4_settle 16 = .ok (.iastore, 1) := by decide +kernel
theorem dX4_settle_17 : decode cX4_settle 17 = .ok (.iconst 0, 1) := by decide +kernel
theorem dX4_settle_18 : decode cX4_settle 18 = .ok (.istore 5, 2) := by decide +kernel
theorem dX4_settle_20 : decode cX4_settle 20 = .ok (.iload 5, 2) := by decide +kernel
theorem dX4_settle_22 : decode cX4_settle 22 = .ok (.iconst 3, 1) := by decide +kernel
theorem dX4_settle_23 : decode cX4_settle 23 = .ok (.if_icmp .ge 80, 3) := by decide +kernel
theorem dX4_settle_26 : decode cX4_settle 26 = .ok (.iload 5, 2) := by decide +kernel
theorem dX4_settle_28 : decode cX4_settle 28 = .ok (.iload_n 2, 1) := by decide +kernel
theorem dX4_settle_29 : decode cX4_settle 29 = .ok (.if_icmp .eq 68, 3) := by decide +kernel
theorem dX4_settle_32 : decode cX4_settle 32 = .ok (.iload_n 2, 1) := by decide +kernel
theorem dX4_settle_33 : decode cX4_settle 33 = .ok (.invokestatic 131, 3) := by decide +kernel
theorem dX4_settle_36 : decode cX4_settle 36 = .ok (.ifCond .eq 21, 3) := by decide +kernel
theorem dX4_settle_39 : decode cX4_settle 39 = .ok (.aload_n 0, 1) := by decide +kernel
theorem dX4_settle_40 : decode cX4_settle 40 = .ok (.getfield 15, 3) := by decide +kernel
theorem dX4_settle_43 : decode cX4_settle 43 = .ok (.iload_n 1, 1) := by decide +kernel
theorem dX4_settle_44 : decode cX4_settle 44 = .ok (.iconst 3, 1) := by decide +kernel
theorem dX4_settle_45 : decode cX4_settle 45 = .ok (.imul, 1) := by decide +kernel
theorem dX4_settle_46 : decode cX4_settle 46 = .ok (.iload_n 2, 1) := by decide +kernel
theorem dX4_settle_47 : decode cX4_settle 47 = .ok (.iadd, 1) := by decide +kernel
theorem dX4_settle_48 : decode cX4_settle 48 = .ok (.iconst 3, 1) := by decide +kernel
theorem dX4_settle_49 : decode cX4_settle 49 = .ok (.imul, 1) := by decide +kernel
theorem dX4_settle_50 : decode cX4_settle 50 = .ok (.iload 5, 2) := by decide +kernel
theorem dX4_settle_52 : decode cX4_settle 52 = .ok (.iadd, 1) := by decide +kernel
theorem dX4_settle_53 : decode cX4_settle 53 = .ok (.iaload, 1) := by decide +kernel
theorem dX4_settle_54 : decode cX4_settle 54 = .ok (.goto 4, 3) := by decide +kernel
theorem dX4_settle_57 : decode cX4_settle 57 = .ok (.iconst 0, 1) := by decide +kernel
theorem dX4_settle_58 : decode cX4_settle 58 = .ok (.istore 6, 2) := by decide +kernel
theorem dX4_settle_60 : decode cX4_settle 60 = .ok (.aload_n 0, 1) := by decide +kernel
theorem dX4_settle_61 : decode cX4_settle 61 = .ok (.iload 4, 2) := by decide +kernel
theorem dX4_settle_63 : decode cX4_settle 63 = .ok (.iload_n 1, 1) := by decide +kernel
theorem dX4_settle_64 : decode cX4_settle 64 = .ok (.iload 5, 2) := by decide +kernel
theorem dX4_settle_66 : decode cX4_settle 66 = .ok (.iload_n 3, 1) := by decide +kernel
theorem dX4_settle_67 : decode cX4_settle 67 = .ok (.aload_n 0, 1) := by decide +kernel
theorem dX4_settle_68 : decode cX4_settle 68 = .ok (.getfield 33, 3) := by decide +kernel
theorem dX4_settle_71 : decode cX4_settle 71 = .ok (.iload 5, 2) := by decide +kernel
theorem dX4_settle_73 : decode cX4_settle 73 = .ok (.iaload, 1) := by decide +kernel
theorem dX4_settle_74 : decode cX4_settle 74 = .ok (.iconst (-1), 1) := by decide +kernel
theorem dX4_settle_75 : decode cX4_settle 75 = .ok (.ixor, 1) := by decide +kernel
theorem dX4_settle_76 : decode cX4_settle 76 = .ok (.iand, 1) := by decide +kernel
theorem dX4_settle_77 : decode cX4_settle 77 = .ok (.iload 6, 2) := by decide +kernel
theorem dX4_settle_79 : decode cX4_settle 79 = .ok (.aload_n 0, 1) := by decide +kernel
theorem dX4_settle_80 : decode cX4_settle 80 = .ok (.iload_n 3, 1) := by decide +kernel
theorem dX4_settle_81 : decode cX4_settle 81 = .ok (.aload_n 0, 1) := by decide +kernel
theorem dX4_settle_82 : decode cX4_settle 82 = .ok (.getfield 33, 3) := by decide +kernel
theorem dX4_settle_85 : decode cX4_settle 85 = .ok (.iload 5, 2) := by decide +kernel
theorem dX4_settle_87 : decode cX4_settle 87 = .ok (.iaload, 1) := by decide +kernel
theorem dX4_settle_88 : decode cX4_settle 88 = .ok (.iand, 1) := by decide +kernel
theorem dX4_settle_89 : decode cX4_settle 89 = .ok (.iload_n 1, 1) := by decide +kernel
theorem dX4_settle_90 : decode cX4_settle 90 = .ok (.invokevirtual 117, 3) := by decide +kernel
theorem dX4_settle_93 : decode cX4_settle 93 = .ok (.iadd, 1) := by decide +kernel
theorem dX4_settle_94 : decode cX4_settle 94 = .ok (.invokevirtual 134, 3) := by decide +kernel
theorem dX4_settle_97 : decode cX4_settle 97 = .ok (.iinc 5 1, 3) := by decide +kernel
theorem dX4_settle_100 : decode cX4_settle 100 = .ok (.goto (-80), 3) := by decide +kernel
theorem dX4_settle_103 : decode cX4_settle 103 = .ok (.return_, 1) := by decide +kernel
theorem dX4_trySpans_0 : decode cX4_trySpans 0 = .ok (.iconst (-1), 1) := by decide +kernel
theorem dX4_trySpans_1 : decode cX4_trySpans 1 = .ok (.istore 6, 2) := by decide +kernel
theorem dX4_trySpans_3 : decode cX4_trySpans 3 = .ok (.iload_n 2, 1) := by decide +kernel
theorem dX4_trySpans_4 : decode cX4_trySpans 4 = .ok (.aload_n 0, 1) := by decide +kernel
theorem dX4_trySpans_5 : decode cX4_trySpans 5 = .ok (.getfield 46, 3) := by decide +kernel
theorem dX4_trySpans_8 : decode cX4_trySpans 8 = .ok (.getfield 138, 3) := by decide +kernel
theorem dX4_trySpans_11 : decode cX4_trySpans 11 = .ok (.iadd, 1) := by decide +kernel
theorem dX4_trySpans_12 : decode cX4_trySpans 12 = .ok (.bipush 24, 2) := by decide +kernel
theorem dX4_trySpans_14 : decode cX4_trySpans 14 = .ok (.invokestatic 141, 3) := by decide +kernel
theorem dX4_trySpans_17 : decode cX4_trySpans 17 = .ok (.istore 7, 2) := by decide +kernel
theorem dX4_trySpans_19 : decode cX4_trySpans 19 = .ok (.iload 7, 2) := by decide +kernel
theorem dX4_trySpans_21 : decode cX4_trySpans 21 = .ok (.bipush 25, 2) := by decide +kernel
theorem dX4_trySpans_23 : decode cX4_trySpans 23 = .ok (.if_icmp .ge 132, 3) := by decide +kernel
theorem dX4_trySpans_26 : decode cX4_trySpans 26 = .ok (.iload 7, 2) := by decide +kernel
theorem dX4_trySpans_28 : decode cX4_trySpans 28 = .ok (.iconst 3, 1) := by decide +kernel
theorem dX4_trySpans_29 : decode cX4_trySpans 29 = .ok (.imul, 1) := by decide +kernel
theorem dX4_trySpans_30 : decode cX4_trySpans 30 = .ok (.iload_n 3, 1) := by decide +kernel
theorem dX4_trySpans_31 : decode cX4_trySpans 31 = .ok (.iadd, 1) := by decide +kernel
theorem dX4_trySpans_32 : decode cX4_trySpans 32 = .ok (.bipush 16, 2) := by decide +kernel
theorem dX4_trySpans_34 : decode cX4_trySpans 34 = .ok (.imul, 1) := by decide +kernel
theorem dX4_trySpans_35 : decode cX4_trySpans 35 = .ok (.iload 4, 2) := by decide +kernel
theorem dX4_trySpans_37 : decode cX4_trySpans 37 = .ok (.aload_n 0, 1) := by decide +kernel
theorem dX4_trySpans_38 : decode cX4_trySpans 38 = .ok (.getfield 30, 3) := by decide +kernel
theorem dX4_trySpans_41 : decode cX4_trySpans 41 = .ok (.iload_n 3, 1) := by decide +kernel
theorem dX4_trySpans_42 : decode cX4_trySpans 42 = .ok (.bipush 25, 2) := by decide +kernel
theorem dX4_trySpans_44 : decode cX4_trySpans 44 = .ok (.imul, 1) := by decide +kernel
theorem dX4_trySpans_45 : decode cX4_trySpans 45 = .ok (.iload 7, 2) := by decide +kernel
theorem dX4_trySpans_47 : decode cX4_trySpans 47 = .ok (.iadd, 1) := by decide +kernel
theorem dX4_trySpans_48 : decode cX4_trySpans 48 = .ok (.iaload, 1) := by decide +kernel
theorem dX4_trySpans_49 : decode cX4_trySpans 49 = .ok (.ior, 1) := by decide +kernel
theorem dX4_trySpans_50 : decode cX4_trySpans 50 = .ok (.iadd, 1) := by decide +kernel
theorem dX4_trySpans_51 : decode cX4_trySpans 51 = .ok (.istore 8, 2) := by decide +kernel
theorem dX4_trySpans_53 : decode cX4_trySpans 53 = .ok (.iload 5, 2) := by decide +kernel
theorem dX4_trySpans_55 : decode cX4_trySpans 55 = .ok (.aload_n 0, 1) := by decide +kernel
theorem dX4_trySpans_56 : decode cX4_trySpans 56 = .ok (.getfield 27, 3) := by decide +kernel
theorem dX4_trySpans_59 : decode cX4_trySpans 59 = .ok (.iload_n 3, 1) := by decide +kernel
theorem dX4_trySpans_60 : decode cX4_trySpans 60 = .ok (.bipush 25, 2) := by decide +kernel
theorem dX4_trySpans_62 : decode cX4_trySpans 62 = .ok (.imul, 1) := by decide +kernel
theorem dX4_trySpans_63 : decode cX4_trySpans 63 = .ok (.iload 7, 2) := by decide +kernel
theorem dX4_trySpans_65 : decode cX4_trySpans 65 = .ok (.iadd, 1) := by decide +kernel
theorem dX4_trySpans_66 : decode cX4_trySpans 66 = .ok (.iaload, 1) := by decide +kernel
theorem dX4_trySpans_67 : decode cX4_trySpans 67 = .ok (.iadd, 1) := by decide +kernel
theorem dX4_trySpans_68 : decode cX4_trySpans 68 = .ok (.aload_n 0, 1) := by decide +kernel
theorem dX4_trySpans_69 : decode cX4_trySpans 69 = .ok (.getfield 18, 3) := by decide +kernel
theorem dX4_trySpans_72 : decode cX4_trySpans 72 = .ok (.iload 8, 2) := by decide +kernel
theorem dX4_trySpans_74 : decode cX4_trySpans 74 = .ok (.iaload, 1) := by decide +kernel
theorem dX4_trySpans_75 : decode cX4_trySpans 75 = .ok (.iadd, 1) := by decide +kernel
theorem dX4_trySpans_76 : decode cX4_trySpans 76 = .ok (.istore 9, 2) := by decide +kernel
theorem dX4_trySpans_78 : decode cX4_trySpans 78 = .ok (.iload 9, 2) := by decide +kernel
theorem dX4_trySpans_80 : decode cX4_trySpans 80 = .ok (.aload_n 0, 1) := by decide +kernel
theorem dX4_trySpans_81 : decode cX4_trySpans 81 = .ok (.getfield 18, 3) := by decide +kernel
theorem dX4_trySpans_84 : decode cX4_trySpans 84 = .ok (.iload_n 1, 1) := by decide +kernel
theorem dX4_trySpans_85 : decode cX4_trySpans 85 = .ok (.iaload, 1) := by decide +kernel
theorem dX4_trySpans_86 : decode cX4_trySpans 86 = .ok (.if_icmp .lt 20, 3) := by decide +kernel
theorem dX4_trySpans_89 : decode cX4_trySpans 89 = .ok (.iload 9, 2) := by decide +kernel
theorem dX4_trySpans_91 : decode cX4_trySpans 91 = .ok (.aload_n 0, 1) := by decide +kernel
theorem dX4_trySpans_92 : decode cX4_trySpans 92 = .ok (.getfield 18, 3) := by decide +kernel
theorem dX4_trySpans_95 : decode cX4_trySpans 95 = .ok (.iload_n 1, 1) := by decide +kernel
theorem dX4_trySpans_96 : decode cX4_trySpans 96 = .ok (.iaload, 1) := by decide +kernel
theorem dX4_trySpans_97 : decode cX4_trySpans 97 = .ok (.if_icmp .ne 52, 3) := by decide +kernel
theorem dX4_trySpans_100 : decode cX4_trySpans 100 = .ok (.iload 6, 2) := by decide +kernel
theorem dX4_trySpans_102 : decode cX4_trySpans 102 = .ok (.iload_n 3, 1) := by decide +kernel
theorem dX4_trySpans_103 : decode cX4_trySpans 103 = .ok (.if_icmp .le 46, 3) := by decide +kernel
theorem dX4_trySpans_106 : decode cX4_trySpans 106 = .ok (.aload_n 0, 1) := by decide +kernel
theorem dX4_trySpans_107 : decode cX4_trySpans 107 = .ok (.getfield 18, 3) := by decide +kernel
theorem dX4_trySpans_110 : decode cX4_trySpans 110 = .ok (.iload_n 1, 1) := by decide +kernel
theorem dX4_trySpans_111 : decode cX4_trySpans 111 = .ok (.iload 9, 2) := by decide +kernel
theorem dX4_trySpans_113 : decode cX4_trySpans 113 = .ok (.iastore, 1) := by decide +kernel
theorem dX4_trySpans_114 : decode cX4_trySpans 114 = .ok (.aload_n 0, 1) := by decide +kernel
theorem dX4_trySpans_115 : decode cX4_trySpans 115 = .ok (.getfield 21, 3) := by decide +kernel
theorem dX4_trySpans_118 : decode cX4_trySpans 118 = .ok (.iload_n 1, 1) := by decide +kernel
theorem dX4_trySpans_119 : decode cX4_trySpans 119 = .ok (.iload_n 3, 1) := by decide +kernel
theorem dX4_trySpans_120 : decode cX4_trySpans 120 = .ok (.iastore, 1) := by decide +kernel
theorem dX4_trySpans_121 : decode cX4_trySpans 121 = .ok (.aload_n 0, 1) := by decide +kernel
theorem dX4_trySpans_122 : decode cX4_trySpans 122 = .ok (.getfield 24, 3) := by decide +kernel
theorem dX4_trySpans_125 : decode cX4_trySpans 125 = .ok (.iload_n 1, 1) := by decide +kernel
theorem dX4_trySpans_126 : decode cX4_trySpans 126 = .ok (.iload 7, 2) := by decide +kernel
theorem dX4_trySpans_128 : decode cX4_trySpans 128 = .ok (.iastore, 1) := by decide +kernel
theorem dX4_trySpans_129 : decode cX4_trySpans 129 = .ok (.iload 7, 2) := by decide +kernel
theorem dX4_trySpans_131 : decode cX4_trySpans 131 = .ok (.bipush 24, 2) := by decide +kernel
theorem dX4_trySpans_133 : decode cX4_trySpans 133 = .ok (.if_icmp .ge 13, 3) := by decide +kernel
theorem dX4_trySpans_136 : decode cX4_trySpans 136 = .ok (.aload_n 0, 1) := by decide +kernel
theorem dX4_trySpans_137 : decode cX4_trySpans 137 = .ok (.getfield 21, 3) := by decide +kernel
theorem dX4_trySpans_140 : decode cX4_trySpans 140 = .ok (.iload 8, 2) := by decide +kernel
theorem dX4_trySpans_142 : decode cX4_trySpans 142 = .ok (.iaload, 1) := by decide +kernel
theorem dX4_trySpans_143 : decode cX4_trySpans 143 = .ok (.goto 4, 3) := by decide +kernel
theorem dX4_trySpans_146 : decode cX4_trySpans 146 = .ok (.iconst (-1), 1) := by decide +kernel
theorem dX4_trySpans_147 : decode cX4_trySpans 147 = .ok (.istore 6, 2) := by decide +kernel
theorem dX4_trySpans_149 : decode cX4_trySpans 149 = .ok (.iinc 7 1, 3) := by decide +kernel
theorem dX4_trySpans_152 : decode cX4_trySpans 152 = .ok (.goto (-133), 3) := by decide +kernel
theorem dX4_trySpans_155 : decode cX4_trySpans 155 = .ok (.return_, 1) := by decide +kernel
theorem dX4_layRow_0 : decode cX4_layRow 0 = .ok (.iconst 0, 1) := by decide +kernel
theorem dX4_layRow_1 : decode cX4_layRow 1 = .ok (.istore_n 1, 1) := by decide +kernel
theorem dX4_layRow_2 : decode cX4_layRow 2 = .ok (.iconst 0, 1) := by decide +kernel
theorem dX4_layRow_3 : decode cX4_layRow 3 = .ok (.istore_n 2, 1) := by decide +kernel
theorem dX4_layRow_4 : decode cX4_layRow 4 = .ok (.iconst 0, 1) := by decide +kernel
theorem dX4_layRow_5 : decode cX4_layRow 5 = .ok (.istore_n 3, 1) := by decide +kernel
theorem dX4_layRow_6 : decode cX4_layRow 6 = .ok (.iconst 0, 1) := by decide +kernel
theorem dX4_layRow_7 : decode cX4_layRow 7 = .ok (.istore 4, 2) := by decide +kernel
theorem dX4_layRow_9 : decode cX4_layRow 9 = .ok (.iload 4, 2) := by decide +kernel
theorem dX4_layRow_11 : decode cX4_layRow 11 = .ok (.bipush 24, 2) := by decide +kernel
theorem dX4_layRow_13 : decode cX4_layRow 13 = .ok (.if_icmp .ge 102, 3) := by decide +kernel
theorem dX4_layRow_16 : decode cX4_layRow 16 = .ok (.iload_n 2, 1) := by decide +kernel
theorem dX4_layRow_17 : decode cX4_layRow 17 = .ok (.bipush 24, 2) := by decide +kernel
theorem dX4_layRow_19 : decode cX4_layRow 19 = .ok (.if_icmp .ge 96, 3) := by decide +kernel
theorem dX4_layRow_22 : decode cX4_layRow 22 = .ok (.aload_n 0, 1) := by decide +kernel
theorem dX4_layRow_23 : decode cX4_layRow 23 = .ok (.getfield 21, 3) := by decide +kernel
theorem dX4_layRow_26 : decode cX4_layRow 26 = .ok (.iload_n 1, 1) := by decide +kernel
theorem dX4_layRow_27 : decode cX4_layRow 27 = .ok (.iaload, 1) := by decide +kernel
theorem dX4_layRow_28 : decode cX4_layRow 28 = .ok (.istore 5, 2) := by decide +kernel
theorem dX4_layRow_30 : decode cX4_layRow 30 = .ok (.aload_n 0, 1) := by decide +kernel
theorem dX4_layRow_31 : decode cX4_layRow 31 = .ok (.getfield 24, 3) := by decide +kernel
theorem dX4_layRow_34 : decode cX4_layRow 34 = .ok (.iload_n 1, 1) := by decide +kernel
theorem dX4_layRow_35 : decode cX4_layRow 35 = .ok (.iaload, 1) := by decide +kernel
theorem dX4_layRow_36 : decode cX4_layRow 36 = .ok (.bipush 24, 2) := by decide +kernel
theorem dX4_layRow_38 : decode cX4_layRow 38 = .ok (.invokestatic 141, 3) := by decide +kernel
theorem dX4_layRow_41 : decode cX4_layRow 41 = .ok (.istore 6, 2) := by decide +kernel
theorem dX4_layRow_43 : decode cX4_layRow 43 = .ok (.iload_n 2, 1) := by decide +kernel
theorem dX4_layRow_44 : decode cX4_layRow 44 = .ok (.istore 7, 2) := by decide +kernel
theorem dX4_layRow_46 : decode cX4_layRow 46 = .ok (.iload 7, 2) := by decide +kernel
theorem dX4_layRow_48 : decode cX4_layRow 48 = .ok (.iload 6, 2) := by decide +kernel
theorem dX4_layRow_50 : decode cX4_layRow 50 = .ok (.if_icmp .ge 18, 3) := by decide +kernel
theorem dX4_layRow_53 : decode cX4_layRow 53 = .ok (.aload_n 0, 1) := by decide +kernel
theorem dX4_layRow_54 : decode cX4_layRow 54 = .ok (.getfield 36, 3) := by decide +kernel
theorem dX4_layRow_57 : decode cX4_layRow 57 = .ok (.iload 7, 2) := by decide +kernel
theorem dX4_layRow_59 : decode cX4_layRow 59 = .ok (.iload 5, 2) := by decide +kernel
theorem dX4_layRow_61 : decode cX4_layRow 61 = .ok (.iastore, 1) := by decide +kernel
theorem dX4_layRow_62 : decode cX4_layRow 62 = .ok (.iinc 7 1, 3) := by decide +kernel
theorem dX4_layRow_65 : decode cX4_layRow 65 = .ok (.goto (-19), 3) := by decide +kernel
theorem dX4_layRow_68 : decode cX4_layRow 68 = .ok (.iload_n 3, 1) := by decide +kernel
theorem dX4_layRow_69 : decode cX4_layRow 69 = .ok (.aload_n 0, 1) := by decide +kernel
theorem dX4_layRow_70 : decode cX4_layRow 70 = .ok (.iconst 0, 1) := by decide +kernel
theorem dX4_layRow_71 : decode cX4_layRow 71 = .ok (.bipush 24, 2) := by decide +kernel
theorem dX4_layRow_73 : decode cX4_layRow 73 = .ok (.iload 5, 2) := by decide +kernel
theorem dX4_layRow_75 : decode cX4_layRow 75 = .ok (.iconst 1, 1) := by decide +kernel
theorem dX4_layRow_76 : decode cX4_layRow 76 = .ok (.invokevirtual 98, 3) := by decide +kernel
theorem dX4_layRow_79 : decode cX4_layRow 79 = .ok (.iconst (-1), 1) := by decide +kernel
theorem dX4_layRow_80 : decode cX4_layRow 80 = .ok (.ixor, 1) := by decide +kernel
theorem dX4_layRow_81 : decode cX4_layRow 81 = .ok (.iand, 1) := by decide +kernel
theorem dX4_layRow_82 : decode cX4_layRow 82 = .ok (.aload_n 0, 1) := by decide +kernel
theorem dX4_layRow_83 : decode cX4_layRow 83 = .ok (.iload_n 2, 1) := by decide +kernel
theorem dX4_layRow_84 : decode cX4_layRow 84 = .ok (.iload 6, 2) := by decide +kernel
theorem dX4_layRow_86 : decode cX4_layRow 86 = .ok (.iload 5, 2) := by decide +kernel
theorem dX4_layRow_88 : decode cX4_layRow 88 = .ok (.iconst 0, 1) := by decide +kernel
theorem dX4_layRow_89 : decode cX4_layRow 89 = .ok (.invokevirtual 98, 3) := by decide +kernel
theorem dX4_layRow_92 : decode cX4_layRow 92 = .ok (.ior, 1) := by decide +kernel
theorem dX4_layRow_93 : decode cX4_layRow 93 = .ok (.istore_n 3, 1) := by decide +kernel
theorem dX4_layRow_94 : decode cX4_layRow 94 = .ok (.iload_n 2, 1) := by decide +kernel
theorem dX4_layRow_95 : decode cX4_layRow 95 = .ok (.iload 6, 2) := by decide +kernel
theorem dX4_layRow_97 : decode cX4_layRow 97 = .ok (.invokestatic 73, 3) := by decide +kernel
theorem dX4_layRow_100 : decode cX4_layRow 100 = .ok (.istore_n 2, 1) := by decide +kernel
theorem dX4_layRow_101 : decode cX4_layRow 101 = .ok (.iload_n 2, 1) := by decide +kernel
theorem dX4_layRow_102 : decode cX4_layRow 102 = .ok (.iload 5, 2) := by decide +kernel
theorem dX4_layRow_104 : decode cX4_layRow 104 = .ok (.iload_n 3, 1) := by decide +kernel
theorem dX4_layRow_105 : decode cX4_layRow 105 = .ok (.invokestatic 120, 3) := by decide +kernel
theorem dX4_layRow_108 : decode cX4_layRow 108 = .ok (.istore_n 1, 1) := by decide +kernel
theorem dX4_layRow_109 : decode cX4_layRow 109 = .ok (.iinc 4 1, 3) := by decide +kernel
theorem dX4_layRow_112 : decode cX4_layRow 112 = .ok (.goto (-103), 3) := by decide +kernel
theorem dX4_layRow_115 : decode cX4_layRow 115 = .ok (.return_, 1) := by decide +kernel
theorem dX4_place_0 : decode cX4_place 0 = .ok (.iload_n 0, 1) := by decide +kernel
theorem dX4_place_1 : decode cX4_place 1 = .ok (.ifCond .lt 16, 3) := by decide +kernel
theorem dX4_place_4 : decode cX4_place 4 = .ok (.iload_n 0, 1) := by decide +kernel
theorem dX4_place_5 : decode cX4_place 5 = .ok (.bipush 24, 2) := by decide +kernel
theorem dX4_place_7 : decode cX4_place 7 = .ok (.if_icmp .gt 10, 3) := by decide +kernel
theorem dX4_place_10 : decode cX4_place 10 = .ok (.iload_n 1, 1) := by decide +kernel
theorem dX4_place_11 : decode cX4_place 11 = .ok (.invokestatic 131, 3) := by decide +kernel
theorem dX4_place_14 : decode cX4_place 14 = .ok (.ifCond .ne 5, 3) := by decide +kernel
theorem dX4_place_17 : decode cX4_place 17 = .ok (.iconst 0, 1) := by decide +kernel
theorem dX4_place_18 : decode cX4_place 18 = .ok (.ireturn, 1) := by decide +kernel
theorem dX4_place_19 : decode cX4_place 19 = .ok (.iload_n 0, 1) := by decide +kernel
theorem dX4_place_20 : decode cX4_place 20 = .ok (.iconst 3, 1) := by decide +kernel
theorem dX4_place_21 : decode cX4_place 21 = .ok (.imul, 1) := by decide +kernel
theorem dX4_place_22 : decode cX4_place 22 = .ok (.iload_n 1, 1) := by decide +kernel
theorem dX4_place_23 : decode cX4_place 23 = .ok (.iadd, 1) := by decide +kernel
theorem dX4_place_24 : decode cX4_place 24 = .ok (.bipush 16, 2) := by decide +kernel
theorem dX4_place_26 : decode cX4_place 26 = .ok (.imul, 1) := by decide +kernel
theorem dX4_place_27 : decode cX4_place 27 = .ok (.iload_n 2, 1) := by decide +kernel
theorem dX4_place_28 : decode cX4_place 28 = .ok (.bipush 15, 2) := by decide +kernel
theorem dX4_place_30 : decode cX4_place 30 = .ok (.iand, 1) := by decide +kernel
theorem dX4_place_31 : decode cX4_place 31 = .ok (.iadd, 1) := by decide +kernel
theorem dX4_place_32 : decode cX4_place 32 = .ok (.ireturn, 1) := by decide +kernel
theorem dX4_ships_0 : decode cX4_ships 0 = .ok (.iconst 0, 1) := by decide +kernel
theorem dX4_ships_1 : decode cX4_ships 1 = .ok (.istore 5, 2) := by decide +kernel
theorem dX4_ships_3 : decode cX4_ships 3 = .ok (.iconst 0, 1) := by decide +kernel
theorem dX4_ships_4 : decode cX4_ships 4 = .ok (.istore 6, 2) := by decide +kernel
theorem dX4_ships_6 : decode cX4_ships 6 = .ok (.iload 6, 2) := by decide +kernel
theorem dX4_ships_8 : decode cX4_ships 8 = .ok (.iconst 4, 1) := by decide +kernel
theorem dX4_ships_9 : decode cX4_ships 9 = .ok (.if_icmp .ge 82, 3) := by decide +kernel
theorem dX4_ships_12 : decode cX4_ships 12 = .ok (.aload_n 0, 1) := by decide +kernel
theorem dX4_ships_13 : decode cX4_ships 13 = .ok (.getfield 46, 3) := by decide +kernel
theorem dX4_ships_16 : decode cX4_ships 16 = .ok (.iload 6, 2) := by decide +kernel
theorem dX4_ships_18 : decode cX4_ships 18 = .ok (.invokevirtual 79, 3) := by decide +kernel
theorem dX4_ships_21 : decode cX4_ships 21 = .ok (.ifCond .eq 64, 3) := by decide +kernel
theorem dX4_ships_24 : decode cX4_ships 24 = .ok (.aload_n 0, 1) := by decide +kernel
theorem dX4_ships_25 : decode cX4_ships 25 = .ok (.getfield 46, 3) := by decide +kernel
theorem dX4_ships_28 : decode cX4_ships 28 = .ok (.getfield 68, 3) := by decide +kernel
theorem dX4_ships_31 : decode cX4_ships 31 = .ok (.iload 6, 2) := by decide +kernel
theorem dX4_ships_33 : decode cX4_ships 33 = .ok (.iaload, 1) := by decide +kernel
theorem dX4_ships_34 : decode cX4_ships 34 = .ok (.iload_n 1, 1) := by decide +kernel
theorem dX4_ships_35 : decode cX4_ships 35 = .ok (.if_icmp .lt 50, 3) := by decide +kernel
theorem dX4_ships_38 : decode cX4_ships 38 = .ok (.aload_n 0, 1) := by decide +kernel
theorem dX4_ships_39 : decode cX4_ships 39 = .ok (.getfield 46, 3) := by decide +kernel
theorem dX4_ships_42 : decode cX4_ships 42 = .ok (.getfield 68, 3) := by decide +kernel
theorem dX4_ships_45 : decode cX4_ships 45 = .ok (.iload 6, 2) := by decide +kernel
theorem dX4_ships_47 : decode cX4_ships 47 = .ok (.iaload, 1) := by decide +kernel
theorem dX4_ships_48 : decode cX4_ships 48 = .ok (.iload_n 2, 1) := by decide +kernel
theorem dX4_ships_49 : decode cX4_ships 49 = .ok (.if_icmp .ge 36, 3) := by decide +kernel
theorem dX4_ships_52 : decode cX4_ships 52 = .ok (.aload_n 0, 1) := by decide +kernel
theorem dX4_ships_53 : decode cX4_ships 53 = .ok (.getfield 46, 3) := by decide +kernel
theorem dX4_ships_56 : decode cX4_ships 56 = .ok (.getfield 144, 3) := by decide +kernel
theorem dX4_ships_59 : decode cX4_ships 59 = .ok (.iload 6, 2) := by decide +kernel
theorem dX4_ships_61 : decode cX4_ships 61 = .ok (.iaload, 1) := by decide +kernel
theorem dX4_ships_62 : decode cX4_ships 62 = .ok (.iload_n 3, 1) := by decide +kernel
theorem dX4_ships_63 : decode cX4_ships 63 = .ok (.if_icmp .ne 7, 3) := by decide +kernel
theorem dX4_ships_66 : decode cX4_ships 66 = .ok (.iconst 1, 1) := by decide +kernel
theorem dX4_ships_67 : decode cX4_ships 67 = .ok (.goto 4, 3) := by decide +kernel
theorem dX4_ships_70 : decode cX4_ships 70 = .ok (.iconst 0, 1) := by decide +kernel
theorem dX4_ships_71 : decode cX4_ships 71 = .ok (.iload 4, 2) := by decide +kernel
theorem dX4_ships_73 : decode cX4_ships 73 = .ok (.if_icmp .ne 12, 3) := by decide +kernel
theorem dX4_ships_76 : decode cX4_ships 76 = .ok (.iload 5, 2) := by decide +kernel
theorem dX4_ships_78 : decode cX4_ships 78 = .ok (.iconst 1, 1) := by decide +kernel
theorem dX4_ships_79 : decode cX4_ships 79 = .ok (.iload 6, 2) := by decide +kernel
theorem dX4_ships_81 : decode cX4_ships 81 = .ok (.ishl, 1) := by decide +kernel
theorem dX4_ships_82 : decode cX4_ships 82 = .ok (.ior, 1) := by decide +kernel
theorem dX4_ships_83 : decode cX4_ships 83 = .ok (.istore 5, 2) := by decide +kernel
theorem dX4_ships_85 : decode cX4_ships 85 = .ok (.iinc 6 1, 3) := by decide +kernel
theorem dX4_ships_88 : decode cX4_ships 88 = .ok (.goto (-82), 3) := by decide +kernel
theorem dX4_ships_91 : decode cX4_ships 91 = .ok (.iload 5, 2) := by decide +kernel
theorem dX4_ships_93 : decode cX4_ships 93 = .ok (.ireturn, 1) := by decide +kernel
theorem dX4_costOfShips_0 : decode cX4_costOfShips 0 = .ok (.iconst 0, 1) := by decide +kernel
theorem dX4_costOfShips_1 : decode cX4_costOfShips 1 = .ok (.istore_n 3, 1) := by decide +kernel
theorem dX4_costOfShips_2 : decode cX4_costOfShips 2 = .ok (.iconst 0, 1) := by decide +kernel
theorem dX4_costOfShips_3 : decode cX4_costOfShips 3 = .ok (.istore 4, 2) := by decide +kernel
theorem dX4_costOfShips_5 : decode cX4_costOfShips 5 = .ok (.iload 4, 2) := by decide +kernel
theorem dX4_costOfShips_7 : decode cX4_costOfShips 7 = .ok (.iconst 4, 1) := by decide +kernel
theorem dX4_costOfShips_8 : decode cX4_costOfShips 8 = .ok (.if_icmp .ge 33, 3) := by decide +kernel
theorem dX4_costOfShips_11 : decode cX4_costOfShips 11 = .ok (.iload_n 1, 1) := by decide +kernel
theorem dX4_costOfShips_12 : decode cX4_costOfShips 12 = .ok (.iconst 1, 1) := by decide +kernel
theorem dX4_costOfShips_13 : decode cX4_costOfShips 13 = .ok (.iload 4, 2) := by decide +kernel
theorem dX4_costOfShips_15 : decode cX4_costOfShips 15 = .ok (.ishl, 1) := by decide +kernel
theorem dX4_costOfShips_16 : decode cX4_costOfShips 16 = .ok (.iand, 1) := by decide +kernel
theorem dX4_costOfShips_17 : decode cX4_costOfShips 17 = .ok (.ifCond .eq 18, 3) := by decide +kernel
theorem dX4_costOfShips_20 : decode cX4_costOfShips 20 = .ok (.iload_n 3, 1) := by decide +kernel
theorem dX4_costOfShips_21 : decode cX4_costOfShips 21 = .ok (.aload_n 0, 1) := by decide +kernel
theorem dX4_costOfShips_22 : decode cX4_costOfShips 22 = .ok (.getfield 11, 3) := by decide +kernel
theorem dX4_costOfShips_25 : decode cX4_costOfShips 25 = .ok (.iload 4, 2) := by decide +kernel
theorem dX4_costOfShips_27 : decode cX4_costOfShips 27 = .ok (.bipush 25, 2) := by decide +kernel
theorem dX4_costOfShips_29 : decode cX4_costOfShips 29 = .ok (.imul, 1) := by decide +kernel
theorem dX4_costOfShips_30 : decode cX4_costOfShips 30 = .ok (.iload_n 2, 1) := by decide +kernel
theorem dX4_costOfShips_31 : decode cX4_costOfShips 31 = .ok (.iadd, 1) := by decide +kernel
theorem dX4_costOfShips_32 : decode cX4_costOfShips 32 = .ok (.iaload, 1) := by decide +kernel
theorem dX4_costOfShips_33 : decode cX4_costOfShips 33 = .ok (.iadd, 1) := by decide +kernel
theorem dX4_costOfShips_34 : decode cX4_costOfShips 34 = .ok (.istore_n 3, 1) := by decide +kernel
theorem dX4_costOfShips_35 : decode cX4_costOfShips 35 = .ok (.iinc 4 1, 3) := by decide +kernel
theorem dX4_costOfShips_38 : decode cX4_costOfShips 38 = .ok (.goto (-33), 3) := by decide +kernel
theorem dX4_costOfShips_41 : decode cX4_costOfShips 41 = .ok (.iload_n 3, 1) := by decide +kernel
theorem dX4_costOfShips_42 : decode cX4_costOfShips 42 = .ok (.ireturn, 1) := by decide +kernel
theorem dX5_init_0 : decode cX5_init 0 = .ok (.aload_n 0, 1) := by decide +kernel
theorem dX5_init_1 : decode cX5_init 1 = .ok (.invokespecial 3, 3) := by decide +kernel
theorem dX5_init_4 : decode cX5_init 4 = .ok (.aload_n 0, 1) := by decide +kernel
theorem dX5_init_5 : decode cX5_init 5 = .ok (.bipush 40, 2) := by decide +kernel
theorem dX5_init_7 : decode cX5_init 7 = .ok (.newarray .int, 2) := by decide +kernel
theorem dX5_init_9 : decode cX5_init 9 = .ok (.putfield 9, 3) := by decide +kernel
theorem dX5_init_12 : decode cX5_init 12 = .ok (.aload_n 0, 1) := by decide +kernel
theorem dX5_init_13 : decode cX5_init 13 = .ok (.iconst (-1), 1) := by decide +kernel
theorem dX5_init_14 : decode cX5_init 14 = .ok (.putfield 15, 3) := by decide +kernel
theorem dX5_init_17 : decode cX5_init 17 = .ok (.aload_n 0, 1) := by decide +kernel
theorem dX5_init_18 : decode cX5_init 18 = .ok (.iconst 0, 1) := by decide +kernel
theorem dX5_init_19 : decode cX5_init 19 = .ok (.putfield 19, 3) := by decide +kernel
theorem dX5_init_22 : decode cX5_init 22 = .ok (.return_, 1) := by decide +kernel
theorem dX5_become_0 : decode cX5_become 0 = .ok (.aload_n 0, 1) := by decide +kernel
theorem dX5_become_1 : decode cX5_become 1 = .ok (.getfield 9, 3) := by decide +kernel
theorem dX5_become_4 : decode cX5_become 4 = .ok (.iconst 0, 1) := by decide +kernel
theorem dX5_become_5 : decode cX5_become 5 = .ok (.invokestatic 22, 3) := by decide +kernel
theorem dX5_become_8 : decode cX5_become 8 = .ok (.aload_n 0, 1) := by decide +kernel
theorem dX5_become_9 : decode cX5_become 9 = .ok (.iload_n 1, 1) := by decide +kernel
theorem dX5_become_10 : decode cX5_become 10 = .ok (.putfield 15, 3) := by decide +kernel
theorem dX5_become_13 : decode cX5_become 13 = .ok (.aload_n 0, 1) := by decide +kernel
theorem dX5_become_14 : decode cX5_become 14 = .ok (.iconst 0, 1) := by decide +kernel
theorem dX5_become_15 : decode cX5_become 15 = .ok (.iload_n 2, 1) := by decide +kernel
theorem dX5_become_16 : decode cX5_become 16 = .ok (.bipush 40, 2) := by decide +kernel
theorem dX5_become_18 : decode cX5_become 18 = .ok (.invokestatic 28, 3) := by decide +kernel
theorem dX5_become_21 : decode cX5_become 21 = .ok (.invokestatic 34, 3) := by decide +kernel
theorem dX5_become_24 : decode cX5_become 24 = .ok (.putfield 19, 3) := by decide +kernel
theorem dX5_become_27 : decode cX5_become 27 = .ok (.return_, 1) := by decide +kernel
theorem dX5_holds_0 : decode cX5_holds 0 = .ok (.iload_n 1, 1) := by decide +kernel
theorem dX5_holds_1 : decode cX5_holds 1 = .ok (.ifCond .lt 21, 3) := by decide +kernel
theorem dX5_holds_4 : decode cX5_holds 4 = .ok (.iload_n 2, 1) := by decide +kernel
theorem dX5_holds_5 : decode cX5_holds 5 = .ok (.ifCond .lt 17, 3) := by decide +kernel
theorem dX5_holds_8 : decode cX5_holds 8 = .ok (.iload_n 1, 1) := by decide +kernel
theorem dX5_holds_9 : decode cX5_holds 9 = .ok (.aload_n 0, 1) := by decide +kernel
theorem dX5_holds_10 : decode cX5_holds 10 = .ok (.getfield 19, 3) := by decide +kernel
theorem dX5_holds_13 : decode cX5_holds 13 = .ok (.iload_n 2, 1) := by decide +kernel
theorem dX5_holds_14 : decode cX5_holds 14 = .ok (.isub, 1) := by decide +kernel
theorem dX5_holds_15 : decode cX5_holds 15 = .ok (.if_icmp .gt 7, 3) := by decide +kernel
theorem dX5_holds_18 : decode cX5_holds 18 = .ok (.iconst 1, 1) := by decide +kernel
theorem dX5_holds_19 : decode cX5_holds 19 = .ok (.goto 4, 3) := by decide +kernel
theorem dX5_holds_22 : decode cX5_holds 22 = .ok (.iconst 0, 1) := by decide +kernel
theorem dX5_holds_23 : decode cX5_holds 23 = .ok (.ireturn, 1) := by decide +kernel
theorem dX5_tells_0 : decode cX5_tells 0 = .ok (.iconst 0, 1) := by decide +kernel
theorem dX5_tells_1 : decode cX5_tells 1 = .ok (.istore_n 2, 1) := by decide +kernel
theorem dX5_tells_2 : decode cX5_tells 2 = .ok (.iload_n 2, 1) := by decide +kernel
theorem dX5_tells_3 : decode cX5_tells 3 = .ok (.aload_n 0, 1) := by decide +kernel
theorem dX5_tells_4 : decode cX5_tells 4 = .ok (.getfield 19, 3) := by decide +kernel
theorem dX5_tells_7 : decode cX5_tells 7 = .ok (.if_icmp .ge 29, 3) := by decide +kernel
theorem dX5_tells_10 : decode cX5_tells 10 = .ok (.iload_n 2, 1) := by decide +kernel
theorem dX5_tells_11 : decode cX5_tells 11 = .ok (.aload_n 1, 1) := by decide +kernel
theorem dX5_tells_12 : decode cX5_tells 12 = .ok (.arraylength, 1) := by decide +kernel
theorem dX5_tells_13 : decode cX5_tells 13 = .ok (.if_icmp .ge 23, 3) := by decide +kernel
theorem dX5_tells_16 : decode cX5_tells 16 = .ok (.aload_n 0, 1) := by decide +kernel
theorem dX5_tells_17 : decode cX5_tells 17 = .ok (.getfield 9, 3) := by decide +kernel
theorem dX5_tells_20 : decode cX5_tells 20 = .ok (.iload_n 2, 1) := by decide +kernel
theorem dX5_tells_21 : decode cX5_tells 21 = .ok (.iaload, 1) := by decide +kernel
theorem dX5_tells_22 : decode cX5_tells 22 = .ok (.aload_n 1, 1) := by decide +kernel
theorem dX5_tells_23 : decode cX5_tells 23 = .ok (.iload_n 2, 1) := by decide +kernel
theorem dX5_tells_24 : decode cX5_tells 24 = .ok (.iaload, 1) := by decide +kernel
theorem dX5_tells_25 : decode cX5_tells 25 = .ok (.if_icmp .eq 5, 3) := by decide +kernel
theorem dX5_tells_28 : decode cX5_tells 28 = .ok (.iconst 0, 1) := by decide +kernel
theorem dX5_tells_29 : decode cX5_tells 29 = .ok (.ireturn, 1) := by decide +kernel
theorem dX5_tells_30 : decode cX5_tells 30 = .ok (.iinc 2 1, 3) := by decide +kernel
theorem dX5_tells_33 : decode cX5_tells 33 = .ok (.goto (-31), 3) := by decide +kernel
theorem dX5_tells_36 : decode cX5_tells 36 = .ok (.iconst 1, 1) := by decide +kernel
theorem dX5_tells_37 : decode cX5_tells 37 = .ok (.ireturn, 1) := by decide +kernel
theorem dX6_init_0 : decode cX6_init 0 = .ok (.aload_n 0, 1) := by decide +kernel
theorem dX6_init_1 : decode cX6_init 1 = .ok (.invokespecial 3, 3) := by decide +kernel
theorem dX6_init_4 : decode cX6_init 4 = .ok (.aload_n 0, 1) := by decide +kernel
theorem dX6_init_5 : decode cX6_init 5 = .ok (.sipush 160, 3) := by decide +kernel
theorem dX6_init_8 : decode cX6_init 8 = .ok (.newarray .int, 2) := by decide +kernel
theorem dX6_init_10 : decode cX6_init 10 = .ok (.putfield 9, 3) := by decide +kernel
theorem dX6_init_13 : decode cX6_init 13 = .ok (.aload_n 0, 1) := by decide +kernel
theorem dX6_init_14 : decode cX6_init 14 = .ok (.iconst 3, 1) := by decide +kernel
theorem dX6_init_15 : decode cX6_init 15 = .ok (.newarray .int, 2) := by decide +kernel
theorem dX6_init_17 : decode cX6_init 17 = .ok (.putfield 15, 3) := by decide +kernel
theorem dX6_init_20 : decode cX6_init 20 = .ok (.aload_n 0, 1) := by decide +kernel
theorem dX6_init_21 : decode cX6_init 21 = .ok (.iconst 0, 1) := by decide +kernel
theorem dX6_init_22 : decode cX6_init 22 = .ok (.putfield 18, 3) := by decide +kernel
theorem dX6_init_25 : decode cX6_init 25 = .ok (.return_, 1) := by decide +kernel
theorem dX6_clear_0 : decode cX6_clear 0 = .ok (.aload_n 0, 1) := by decide +kernel
theorem dX6_clear_1 : decode cX6_clear 1 = .ok (.iconst 0, 1) := by decide +kernel
theorem dX6_clear_2 : decode cX6_clear 2 = .ok (.putfield 18, 3) := by decide +kernel
theorem dX6_clear_5 : decode cX6_clear 5 = .ok (.return_, 1) := by decide +kernel
theorem dX6_put_0 : decode cX6_put 0 = .ok (.aload_n 0, 1) := by decide +kernel
theorem dX6_put_1 : decode cX6_put 1 = .ok (.getfield 18, 3) := by decide +kernel
theorem dX6_put_4 : decode cX6_put 4 = .ok (.aload_n 0, 1) := by decide +kernel
theorem dX6_put_5 : decode cX6_put 5 = .ok (.getfield 9, 3) := by decide +kernel
theorem dX6_put_8 : decode cX6_put 8 = .ok (.arraylength, 1) := by decide +kernel
theorem dX6_put_9 : decode cX6_put 9 = .ok (.if_icmp .ge 23, 3) := by decide +kernel
theorem dX6_put_12 : decode cX6_put 12 = .ok (.aload_n 0, 1) := by decide +kernel
theorem dX6_put_13 : decode cX6_put 13 = .ok (.getfield 9, 3) := by decide +kernel
theorem dX6_put_16 : decode cX6_put 16 = .ok (.aload_n 0, 1) := by decide +kernel
theorem dX6_put_17 : decode cX6_put 17 = .ok (.getfield 18, 3) := by decide +kernel
theorem dX6_put_20 : decode cX6_put 20 = .ok (.iload_n 1, 1) := by decide +kernel
theorem dX6_put_21 : decode cX6_put 21 = .ok (.iastore, 1) := by decide +kernel
theorem dX6_put_22 : decode cX6_put 22 = .ok (.aload_n 0, 1) := by decide +kernel
theorem dX6_put_23 : decode cX6_put 23 = .ok (.dup, 1) := by decide +kernel
theorem dX6_put_24 : decode cX6_put 24 = .ok (.getfield 18, 3) := by decide +kernel
theorem dX6_put_27 : decode cX6_put 27 = .ok (.iconst 1, 1) := by decide +kernel
theorem dX6_put_28 : decode cX6_put 28 = .ok (.iadd, 1) := by decide +kernel
theorem dX6_put_29 : decode cX6_put 29 = .ok (.putfield 18, 3) := by decide +kernel
theorem dX6_put_32 : decode cX6_put 32 = .ok (.return_, 1) := by decide +kernel
theorem dX6_endPart_0 : decode cX6_endPart 0 = .ok (.iload_n 1, 1) := by decide +kernel
theorem dX6_endPart_1 : decode cX6_endPart 1 = .ok (.ifCond .lt 22, 3) := by decide +kernel
theorem dX6_endPart_4 : decode cX6_endPart 4 = .ok (.iload_n 1, 1) := by decide +kernel
theorem dX6_endPart_5 : decode cX6_endPart 5 = .ok (.aload_n 0, 1) := by decide +kernel
theorem dX6_endPart_6 : decode cX6_endPart 6 = .ok (.getfield 15, 3) := by decide +kernel
theorem dX6_endPart_9 : decode cX6_endPart 9 = .ok (.arraylength, 1) := by decide +kernel
theorem dX6_endPart_10 : decode cX6_endPart 10 = .ok (.if_icmp .ge 13, 3) := by decide +kernel
theorem dX6_endPart_13 : decode cX6_endPart 13 = .ok (.aload_n 0, 1) := by decide +kernel
theorem dX6_endPart_14 : decode cX6_endPart 14 = .ok (.getfield 15, 3) := by decide +kernel
theorem dX6_endPart_17 : decode cX6_endPart 17 = .ok (.iload_n 1, 1) := by decide +kernel
theorem dX6_endPart_18 : decode cX6_endPart 18 = .ok (.aload_n 0, 1) := by decide +kernel
theorem dX6_endPart_19 : decode cX6_endPart 19 = .ok (.getfield 18, 3) := by decide +kernel
theorem dX6_endPart_22 : decode cX6_endPart 22 = .ok (.iastore, 1) := by decide +kernel
theorem dX6_endPart_23 : decode cX6_endPart 23 = .ok (.return_, 1) := by decide +kernel
theorem dX6_worth_0 : decode cX6_worth 0 = .ok (.iload_n 1, 1) := by decide +kernel
theorem dX6_worth_1 : decode cX6_worth 1 = .ok (.ifCond .lt 12, 3) := by decide +kernel
theorem dX6_worth_4 : decode cX6_worth 4 = .ok (.iload_n 1, 1) := by decide +kernel
theorem dX6_worth_5 : decode cX6_worth 5 = .ok (.aload_n 0, 1) := by decide +kernel
theorem dX6_worth_6 : decode cX6_worth 6 = .ok (.getfield 15, 3) := by decide +kernel
theorem dX6_worth_9 : decode cX6_worth 9 = .ok (.arraylength, 1) := by decide +kernel
theorem dX6_worth_10 : decode cX6_worth 10 = .ok (.if_icmp .lt 5, 3) := by decide +kernel
theorem dX6_worth_13 : decode cX6_worth 13 = .ok (.iconst 0, 1) := by decide +kernel
theorem dX6_worth_14 : decode cX6_worth 14 = .ok (.ireturn, 1) := by decide +kernel
theorem dX6_worth_15 : decode cX6_worth 15 = .ok (.iconst 0, 1) := by decide +kernel
theorem dX6_worth_16 : decode cX6_worth 16 = .ok (.istore 4, 2) := by decide +kernel
theorem dX6_worth_18 : decode cX6_worth 18 = .ok (.iload_n 1, 1) := by decide +kernel
theorem dX6_worth_19 : decode cX6_worth 19 = .ok (.ifCond .ne 7, 3) := by decide +kernel
theorem dX6_worth_22 : decode cX6_worth 22 = .ok (.iconst 0, 1) := by decide +kernel
theorem dX6_worth_23 : decode cX6_worth 23 = .ok (.goto 11, 3) := by decide +kernel
theorem dX6_worth_26 : decode cX6_worth 26 = .ok (.aload_n 0, 1) := by decide +kernel
theorem dX6_worth_27 : decode cX6_worth 27 = .ok (.getfield 15, 3) := by decide +kernel
theorem dX6_worth_30 : decode cX6_worth 30 = .ok (.iload_n 1, 1) := by decide +kernel
theorem dX6_worth_31 : decode cX6_worth 31 = .ok (.iconst 1, 1) := by decide +kernel
theorem dX6_worth_32 : decode cX6_worth 32 = .ok (.isub, 1) := by decide +kernel
theorem dX6_worth_33 : decode cX6_worth 33 = .ok (.iaload, 1) := by decide +kernel
theorem dX6_worth_34 : decode cX6_worth 34 = .ok (.istore 5, 2) := by decide +kernel
theorem dX6_worth_36 : decode cX6_worth 36 = .ok (.iload 5, 2) := by decide +kernel
theorem dX6_worth_38 : decode cX6_worth 38 = .ok (.aload_n 0, 1) := by decide +kernel
theorem dX6_worth_39 : decode cX6_worth 39 = .ok (.getfield 15, 3) := by decide +kernel
theorem dX6_worth_42 : decode cX6_worth 42 = .ok (.iload_n 1, 1) := by decide +kernel
theorem dX6_worth_43 : decode cX6_worth 43 = .ok (.iaload, 1) := by decide +kernel
theorem dX6_worth_44 : decode cX6_worth 44 = .ok (.if_icmp .ge 153, 3) := by decide +kernel
theorem dX6_worth_47 : decode cX6_worth 47 = .ok (.iload 5, 2) := by decide +kernel
theorem dX6_worth_49 : decode cX6_worth 49 = .ok (.aload_n 0, 1) := by decide +kernel
theorem dX6_worth_50 : decode cX6_worth 50 = .ok (.getfield 9, 3) := by decide +kernel
theorem dX6_worth_53 : decode cX6_worth 53 = .ok (.arraylength, 1) := by decide +kernel
theorem dX6_worth_54 : decode cX6_worth 54 = .ok (.if_icmp .ge 143, 3) := by decide +kernel
theorem dX6_worth_57 : decode cX6_worth 57 = .ok (.aload_n 0, 1) := by decide +kernel
theorem dX6_worth_58 : decode cX6_worth 58 = .ok (.getfield 9, 3) := by decide +kernel
theorem dX6_worth_61 : decode cX6_worth 61 = .ok (.iload 5, 2) := by decide +kernel
theorem dX6_worth_63 : decode cX6_worth 63 = .ok (.iaload, 1) := by decide +kernel
theorem dX6_worth_64 : decode cX6_worth 64 = .ok (.istore 6, 2) := by decide +kernel
theorem dX6_worth_66 : decode cX6_worth 66 = .ok (.iload 6, 2) := by decide +kernel
theorem dX6_worth_68 : decode cX6_worth 68 = .ok (.bipush (-6), 2) := by decide +kernel
theorem dX6_worth_70 : decode cX6_worth 70 = .ok (.if_icmp .lt 38, 3) := by decide +kernel
theorem dX6_worth_73 : decode cX6_worth 73 = .ok (.iload 4, 2) := by decide +kernel
theorem dX6_worth_75 : decode cX6_worth 75 = .ok (.aload_n 3, 1) := by decide +kernel
theorem dX6_worth_76 : decode cX6_worth 76 = .ok (.arraylength, 1) := by decide +kernel
theorem dX6_worth_77 : decode cX6_worth 77 = .ok (.if_icmp .ge 114, 3) := by decide +kernel
theorem dX6_worth_80 : decode cX6_worth 80 = .ok (.aload_n 3, 1) := by decide +kernel
theorem dX6_worth_81 : decode cX6_worth 81 = .ok (.iload 4, 2) := by decide +kernel
theorem dX6_worth_83 : decode cX6_worth 83 = .ok (.iload 6, 2) := by decide +kernel
theorem dX6_worth_85 : decode cX6_worth 85 = .ok (.ifCond .lt 8, 3) := by decide +kernel
theorem dX6_worth_88 : decode cX6_worth 88 = .ok (.iload 6, 2) := by decide +kernel
theorem dX6_worth_90 : decode cX6_worth 90 = .ok (.goto 11, 3) := by decide +kernel
theorem dX6_worth_93 : decode cX6_worth 93 = .ok (.aload_n 2, 1) := by decide +kernel
theorem dX6_worth_94 : decode cX6_worth 94 = .ok (.iconst (-1), 1) := by decide +kernel
theorem dX6_worth_95 : decode cX6_worth 95 = .ok (.iload 6, 2) := by decide +kernel
theorem dX6_worth_97 : decode cX6_worth 97 = .ok (.isub, 1) := by decide +kernel
theorem dX6_worth_98 : decode cX6_worth 98 = .ok (.invokestatic 22, 3) := by decide +kernel
theorem dX6_worth_101 : decode cX6_worth 101 = .ok (.iastore, 1) := by decide +kernel
theorem dX6_worth_102 : decode cX6_worth 102 = .ok (.iinc 4 1, 3) := by decide +kernel
theorem dX6_worth_105 : decode cX6_worth 105 = .ok (.goto 86, 3) := by decide +kernel
theorem dX6_worth_108 : decode cX6_worth 108 = .ok (.iload 6, 2) := by decide +kernel
theorem dX6_worth_110 : decode cX6_worth 110 = .ok (.bipush (-8), 2) := by decide +kernel
theorem dX6_worth_112 : decode cX6_worth 112 = .ok (.if_icmp .lt 49, 3) := by decide +kernel
theorem dX6_worth_115 : decode cX6_worth 115 = .ok (.iload 4, 2) := by decide +kernel
theorem dX6_worth_117 : decode cX6_worth 117 = .ok (.iconst 1, 1) := by decide +kernel
theorem dX6_worth_118 : decode cX6_worth 118 = .ok (.if_icmp .lt 73, 3) := by decide +kernel
theorem dX6_worth_121 : decode cX6_worth 121 = .ok (.aload_n 3, 1) := by decide +kernel
theorem dX6_worth_122 : decode cX6_worth 122 = .ok (.iload 4, 2) := by decide +kernel
theorem dX6_worth_124 : decode cX6_worth 124 = .ok (.iconst 1, 1) := by decide +kernel
theorem dX6_worth_125 : decode cX6_worth 125 = .ok (.isub, 1) := by decide +kernel
theorem dX6_worth_126 : decode cX6_worth 126 = .ok (.iload 6, 2) := by decide +kernel
theorem dX6_worth_128 : decode cX6_worth 128 = .ok (.bipush (-7), 2) := by decide +kernel
theorem dX6_worth_130 : decode cX6_worth 130 = .ok (.if_icmp .ne 13, 3) := by decide +kernel
theorem dX6_worth_133 : decode cX6_worth 133 = .ok (.aload_n 3, 1) := by decide +kernel
theorem dX6_worth_134 : decode cX6_worth 134 = .ok (.iload 4, 2) := by decide +kernel
theorem dX6_worth_136 : decode cX6_worth 136 = .ok (.iconst 1, 1) := by decide +kernel
theorem dX6_worth_137 : decode cX6_worth 137 = .ok (.isub, 1) := by decide +kernel
theorem dX6_worth_138 : decode cX6_worth 138 = .ok (.iaload, 1) := by decide +kernel
theorem dX6_worth_139 : decode cX6_worth 139 = .ok (.ineg, 1) := by decide +kernel
theorem dX6_worth_140 : decode cX6_worth 140 = .ok (.goto 17, 3) := by decide +kernel
theorem dX6_worth_143 : decode cX6_worth 143 = .ok (.aload_n 3, 1) := by decide +kernel
theorem dX6_worth_144 : decode cX6_worth 144 = .ok (.iload 4, 2) := by decide +kernel
theorem dX6_worth_146 : decode cX6_worth 146 = .ok (.iconst 1, 1) := by decide +kernel
theorem dX6_worth_147 : decode cX6_worth 147 = .ok (.isub, 1) := by decide +kernel
theorem dX6_worth_148 : decode cX6_worth 148 = .ok (.iaload, 1) := by decide +kernel
theorem dX6_worth_149 : decode cX6_worth 149 = .ok (.ifCond .ne 7, 3) := by decide +kernel
theorem dX6_worth_152 : decode cX6_worth 152 = .ok (.iconst 1, 1) := by decide +kernel
theorem dX6_worth_153 : decode cX6_worth 153 = .ok (.goto 4, 3) := by decide +kernel
theorem dX6_worth_156 : decode cX6_worth 156 = .ok (.iconst 0, 1) := by decide +kernel
theorem dX6_worth_157 : decode cX6_worth 157 = .ok (.iastore, 1) := by decide +kernel
theorem dX6_worth_158 : decode cX6_worth 158 = .ok (.goto 33, 3) := by decide +kernel
theorem dX6_worth_161 : decode cX6_worth 161 = .ok (.iload 4, 2) := by decide +kernel
theorem dX6_worth_163 : decode cX6_worth 163 = .ok (.iconst 2, 1) := by decide +kernel
theorem dX6_worth_164 : decode cX6_worth 164 = .ok (.if_icmp .lt 27, 3) := by decide +kernel
theorem dX6_worth_167 : decode cX6_worth 167 = .ok (.iinc 4 (-1), 3) := by decide +kernel
theorem dX6_worth_170 : decode cX6_worth 170 = .ok (.aload_n 3, 1) := by decide +kernel
theorem dX6_worth_171 : decode cX6_worth 171 = .ok (.iload 4, 2) := by decide +kernel
theorem dX6_worth_173 : decode cX6_worth 173 = .ok (.iconst 1, 1) := by decide +kernel
theorem dX6_worth_174 : decode cX6_worth 174 = .ok (.isub, 1) := by decide +kernel
theorem dX6_worth_175 : decode cX6_worth 175 = .ok (.iload 6, 2) := by decide +kernel
theorem dX6_worth_177 : decode cX6_worth 177 = .ok (.aload_n 3, 1) := by decide +kernel
theorem dX6_worth_178 : decode cX6_worth 178 = .ok (.iload 4, 2) := by decide +kernel
theorem dX6_worth_180 : decode cX6_worth 180 = .ok (.iconst 1, 1) := by decide +kernel
theorem dX6_worth_181 : decode cX6_worth 181 = .ok (.isub, 1) := by decide +kernel
theorem dX6_worth_182 : decode cX6_worth 182 = .ok (.iaload, 1) := by decide +kernel
theorem dX6_worth_183 : decode cX6_worth 183 = .ok (.aload_n 3, 1) := by decide +kernel
theorem dX6_worth_184 : decode cX6_worth 184 = .ok (.iload 4, 2) := by decide +kernel
theorem dX6_worth_186 : decode cX6_worth 186 = .ok (.iaload, 1) := by decide +kernel
theorem dX6_worth_187 : decode cX6_worth 187 = .ok (.invokestatic 26, 3) := by decide +kernel
theorem dX6_worth_190 : decode cX6_worth 190 = .ok (.iastore, 1) := by decide +kernel
theorem dX6_worth_191 : decode cX6_worth 191 = .ok (.iinc 5 1, 3) := by decide +kernel
theorem dX6_worth_194 : decode cX6_worth 194 = .ok (.goto (-158), 3) := by decide +kernel
theorem dX6_worth_197 : decode cX6_worth 197 = .ok (.iload 4, 2) := by decide +kernel
theorem dX6_worth_199 : decode cX6_worth 199 = .ok (.ifCond .le 12, 3) := by decide +kernel
theorem dX6_worth_202 : decode cX6_worth 202 = .ok (.aload_n 3, 1) := by decide +kernel
theorem dX6_worth_203 : decode cX6_worth 203 = .ok (.iload 4, 2) := by decide +kernel
theorem dX6_worth_205 : decode cX6_worth 205 = .ok (.iconst 1, 1) := by decide +kernel
theorem dX6_worth_206 : decode cX6_worth 206 = .ok (.isub, 1) := by decide +kernel
theorem dX6_worth_207 : decode cX6_worth 207 = .ok (.iaload, 1) := by decide +kernel
theorem dX6_worth_208 : decode cX6_worth 208 = .ok (.goto 4, 3) := by decide +kernel
theorem dX6_worth_211 : decode cX6_worth 211 = .ok (.iconst 0, 1) := by decide +kernel
theorem dX6_worth_212 : decode cX6_worth 212 = .ok (.ireturn, 1) := by decide +kernel
theorem dX6_nameAt_0 : decode cX6_nameAt 0 = .ok (.iload_n 1, 1) := by decide +kernel
theorem dX6_nameAt_1 : decode cX6_nameAt 1 = .ok (.ifCond .lt 15, 3) := by decide +kernel
theorem dX6_nameAt_4 : decode cX6_nameAt 4 = .ok (.iload_n 1, 1) := by decide +kernel
theorem dX6_nameAt_5 : decode cX6_nameAt 5 = .ok (.aload_n 0, 1) := by decide +kernel
theorem dX6_nameAt_6 : decode cX6_nameAt 6 = .ok (.arraylength, 1) := by decide +kernel
theorem dX6_nameAt_7 : decode cX6_nameAt 7 = .ok (.if_icmp .ge 9, 3) := by decide +kernel
theorem dX6_nameAt_10 : decode cX6_nameAt 10 = .ok (.aload_n 0, 1) := by decide +kernel
theorem dX6_nameAt_11 : decode cX6_nameAt 11 = .ok (.iload_n 1, 1) := by decide +kernel
theorem dX6_nameAt_12 : decode cX6_nameAt 12 = .ok (.iaload, 1) := by decide +kernel
theorem dX6_nameAt_13 : decode cX6_nameAt 13 = .ok (.goto 4, 3) := by decide +kernel
theorem dX6_nameAt_16 : decode cX6_nameAt 16 = .ok (.iconst 0, 1) := by decide +kernel
theorem dX6_nameAt_17 : decode cX6_nameAt 17 = .ok (.ireturn, 1) := by decide +kernel
theorem dX6_joined_0 : decode cX6_joined 0 = .ok (.iload_n 0, 1) := by decide +kernel
theorem dX6_joined_1 : decode cX6_joined 1 = .ok (.tableswitch 87 (-14) (-9) #[73, 62, 51, 47, 43, 39], 39) := by decide +kernel
theorem dX6_joined_40 : decode cX6_joined 40 = .ok (.iload_n 1, 1) := by decide +kernel
theorem dX6_joined_41 : decode cX6_joined 41 = .ok (.iload_n 2, 1) := by decide +kernel
theorem dX6_joined_42 : decode cX6_joined 42 = .ok (.iadd, 1) := by decide +kernel
theorem dX6_joined_43 : decode cX6_joined 43 = .ok (.ireturn, 1) := by decide +kernel
theorem dX6_joined_44 : decode cX6_joined 44 = .ok (.iload_n 1, 1) := by decide +kernel
theorem dX6_joined_45 : decode cX6_joined 45 = .ok (.iload_n 2, 1) := by decide +kernel
theorem dX6_joined_46 : decode cX6_joined 46 = .ok (.isub, 1) := by decide +kernel
theorem dX6_joined_47 : decode cX6_joined 47 = .ok (.ireturn, 1) := by decide +kernel
theorem dX6_joined_48 : decode cX6_joined 48 = .ok (.iload_n 1, 1) := by decide +kernel
theorem dX6_joined_49 : decode cX6_joined 49 = .ok (.iload_n 2, 1) := by decide +kernel
theorem dX6_joined_50 : decode cX6_joined 50 = .ok (.imul, 1) := by decide +kernel
theorem dX6_joined_51 : decode cX6_joined 51 = .ok (.ireturn, 1) := by decide +kernel
theorem dX6_joined_52 : decode cX6_joined 52 = .ok (.iload_n 1, 1) := by decide +kernel
theorem dX6_joined_53 : decode cX6_joined 53 = .ok (.iload_n 2, 1) := by decide +kernel
theorem dX6_joined_54 : decode cX6_joined 54 = .ok (.if_icmp .ge 7, 3) := by decide +kernel
theorem dX6_joined_57 : decode cX6_joined 57 = .ok (.iconst 1, 1) := by decide +kernel
theorem dX6_joined_58 : decode cX6_joined 58 = .ok (.goto 4, 3) := by decide +kernel
theorem dX6_joined_61 : decode cX6_joined 61 = .ok (.iconst 0, 1) := by decide +kernel
theorem dX6_joined_62 : decode cX6_joined 62 = .ok (.ireturn, 1) := by decide +kernel
theorem dX6_joined_63 : decode cX6_joined 63 = .ok (.iload_n 1, 1) := by decide +kernel
theorem dX6_joined_64 : decode cX6_joined 64 = .ok (.iload_n 2, 1) := by decide +kernel
theorem dX6_joined_65 : decode cX6_joined 65 = .ok (.if_icmp .ne 7, 3) := by decide +kernel
theorem dX6_joined_68 : decode cX6_joined 68 = .ok (.iconst 1, 1) := by decide +kernel
theorem dX6_joined_69 : decode cX6_joined 69 = .ok (.goto 4, 3) := by decide +kernel
theorem dX6_joined_72 : decode cX6_joined 72 = .ok (.iconst 0, 1) := by decide +kernel
theorem dX6_joined_73 : decode cX6_joined 73 = .ok (.ireturn, 1) := by decide +kernel
theorem dX6_joined_74 : decode cX6_joined 74 = .ok (.iload_n 1, 1) := by decide +kernel
theorem dX6_joined_75 : decode cX6_joined 75 = .ok (.ifCond .eq 11, 3) := by decide +kernel
theorem dX6_joined_78 : decode cX6_joined 78 = .ok (.iload_n 2, 1) := by decide +kernel
theorem dX6_joined_79 : decode cX6_joined 79 = .ok (.ifCond .eq 7, 3) := by decide +kernel
theorem dX6_joined_82 : decode cX6_joined 82 = .ok (.iconst 1, 1) := by decide +kernel
theorem dX6_joined_83 : decode cX6_joined 83 = .ok (.goto 4, 3) := by decide +kernel
theorem dX6_joined_86 : decode cX6_joined 86 = .ok (.iconst 0, 1) := by decide +kernel
theorem dX6_joined_87 : decode cX6_joined 87 = .ok (.ireturn, 1) := by decide +kernel
theorem dX6_joined_88 : decode cX6_joined 88 = .ok (.iload_n 1, 1) := by decide +kernel
theorem dX6_joined_89 : decode cX6_joined 89 = .ok (.ifCond .ne 7, 3) := by decide +kernel
theorem dX6_joined_92 : decode cX6_joined 92 = .ok (.iload_n 2, 1) := by decide +kernel
theorem dX6_joined_93 : decode cX6_joined 93 = .ok (.ifCond .eq 7, 3) := by decide +kernel
theorem dX6_joined_96 : decode cX6_joined 96 = .ok (.iconst 1, 1) := by decide +kernel
theorem dX6_joined_97 : decode cX6_joined 97 = .ok (.goto 4, 3) := by decide +kernel
theorem dX6_joined_100 : decode cX6_joined 100 = .ok (.iconst 0, 1) := by decide +kernel
theorem dX6_joined_101 : decode cX6_joined 101 = .ok (.ireturn, 1) := by decide +kernel
