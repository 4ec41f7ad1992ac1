theorem dX4_told_0 : decode cX4_told 0 = .ok (.aload_n 0, 1) := by decide +kernel
theorem dX4_told_1 : decode cX4_told 1 = .ok (.iconst 0, 1) := by decide +kernel
theorem dX4_told_2 : decode cX4_told 2 = .ok (.putfield 112, 3) := by decide +kernel
theorem dX4_told_5 : decode cX4_told 5 = .ok (.aload_n 0, 1) := by decide +kernel
theorem dX4_told_6 : decode cX4_told 6 = .ok (.iload_n 1, 1) := by decide +kernel
theorem dX4_told_7 : decode cX4_told 7 = .ok (.invokevirtual 198, 3) := by decide +kernel
theorem dX4_told_10 : decode cX4_told 10 = .ok (.ifCond .ne 5, 3) := by decide +kernel
theorem dX4_told_13 : decode cX4_told 13 = .ok (.iconst (-1), 1) := by decide +kernel
theorem dX4_told_14 : decode cX4_told 14 = .ok (.ireturn, 1) := by decide +kernel
theorem dX4_told_15 : decode cX4_told 15 = .ok (.iload_n 2, 1) := by decide +kernel
theorem dX4_told_16 : decode cX4_told 16 = .ok (.tableswitch 135 0 9 #[56, 63, 70, 77, 84, 100, 107, 114, 121, 128], 56) := by decide +kernel
theorem dX4_told_72 : decode cX4_told 72 = .ok (.aload_n 0, 1) := by decide +kernel
theorem dX4_told_73 : decode cX4_told 73 = .ok (.getfield 72, 3) := by decide +kernel
theorem dX4_told_76 : decode cX4_told 76 = .ok (.iload_n 1, 1) := by decide +kernel
theorem dX4_told_77 : decode cX4_told 77 = .ok (.iaload, 1) := by decide +kernel
theorem dX4_told_78 : decode cX4_told 78 = .ok (.ireturn, 1) := by decide +kernel
theorem dX4_told_79 : decode cX4_told 79 = .ok (.aload_n 0, 1) := by decide +kernel
theorem dX4_told_80 : decode cX4_told 80 = .ok (.getfield 75, 3) := by decide +kernel
theorem dX4_told_83 : decode cX4_told 83 = .ok (.iload_n 1, 1) := by decide +kernel
theorem dX4_told_84 : decode cX4_told 84 = .ok (.iaload, 1) := by decide +kernel
theorem dX4_told_85 : decode cX4_told 85 = .ok (.ireturn, 1) := by decide +kernel
theorem dX4_told_86 : decode cX4_told 86 = .ok (.aload_n 0, 1) := by decide +kernel
theorem dX4_told_87 : decode cX4_told 87 = .ok (.getfield 78, 3) := by decide +kernel
theorem dX4_told_90 : decode cX4_told 90 = .ok (.iload_n 1, 1) := by decide +kernel
theorem dX4_told_91 : decode cX4_told 91 = .ok (.iaload, 1) := by decide +kernel
theorem dX4_told_92 : decode cX4_told 92 = .ok (.ireturn, 1) := by decide +kernel
theorem dX4_told_93 : decode cX4_told 93 = .ok (.aload_n 0, 1) := by decide +kernel
theorem dX4_told_94 : decode cX4_told 94 = .ok (.getfield 81, 3) := by decide +kernel
theorem dX4_told_97 : decode cX4_told 97 = .ok (.iload_n 1, 1) := by decide +kernel
theorem dX4_told_98 : decode cX4_told 98 = .ok (.iaload, 1) := by decide +kernel
theorem dX4_told_99 : decode cX4_told 99 = .ok (.ireturn, 1) := by decide +kernel
theorem dX4_told_100 : decode cX4_told 100 = .ok (.aload_n 0, 1) := by decide +kernel
theorem dX4_told_101 : decode cX4_told 101 = .ok (.getfield 87, 3) := by decide +kernel
theorem dX4_told_104 : decode cX4_told 104 = .ok (.iload_n 1, 1) := by decide +kernel
theorem dX4_told_105 : decode cX4_told 105 = .ok (.iaload, 1) := by decide +kernel
theorem dX4_told_106 : decode cX4_told 106 = .ok (.iconst (-1), 1) := by decide +kernel
theorem dX4_told_107 : decode cX4_told 107 = .ok (.if_icmp .ne 7, 3) := by decide +kernel
theorem dX4_told_110 : decode cX4_told 110 = .ok (.iconst 0, 1) := by decide +kernel
theorem dX4_told_111 : decode cX4_told 111 = .ok (.goto 4, 3) := by decide +kernel
theorem dX4_told_114 : decode cX4_told 114 = .ok (.iconst 1, 1) := by decide +kernel
theorem dX4_told_115 : decode cX4_told 115 = .ok (.ireturn, 1) := by decide +kernel
theorem dX4_told_116 : decode cX4_told 116 = .ok (.aload_n 0, 1) := by decide +kernel
theorem dX4_told_117 : decode cX4_told 117 = .ok (.getfield 84, 3) := by decide +kernel
theorem dX4_told_120 : decode cX4_told 120 = .ok (.iload_n 1, 1) := by decide +kernel
theorem dX4_told_121 : decode cX4_told 121 = .ok (.iaload, 1) := by decide +kernel
theorem dX4_told_122 : decode cX4_told 122 = .ok (.ireturn, 1) := by decide +kernel
theorem dX4_told_123 : decode cX4_told 123 = .ok (.aload_n 0, 1) := by decide +kernel
theorem dX4_told_124 : decode cX4_told 124 = .ok (.getfield 87, 3) := by decide +kernel
theorem dX4_told_127 : decode cX4_told 127 = .ok (.iload_n 1, 1) := by decide +kernel
theorem dX4_told_128 : decode cX4_told 128 = .ok (.iaload, 1) := by decide +kernel
theorem dX4_told_129 : decode cX4_told 129 = .ok (.ireturn, 1) := by decide +kernel
theorem dX4_told_130 : decode cX4_told 130 = .ok (.aload_n 0, 1) := by decide +kernel
theorem dX4_told_131 : decode cX4_told 131 = .ok (.getfield 90, 3) := by decide +kernel
theorem dX4_told_134 : decode cX4_told 134 = .ok (.iload_n 1, 1) := by decide +kernel
theorem dX4_told_135 : decode cX4_told 135 = .ok (.iaload, 1) := by decide +kernel
theorem dX4_told_136 : decode cX4_told 136 = .ok (.ireturn, 1) := by decide +kernel
theorem dX4_told_137 : decode cX4_told 137 = .ok (.aload_n 0, 1) := by decide +kernel
theorem dX4_told_138 : decode cX4_told 138 = .ok (.getfield 93, 3) := by decide +kernel
theorem dX4_told_141 : decode cX4_told 141 = .ok (.iload_n 1, 1) := by decide +kernel
theorem dX4_told_142 : decode cX4_told 142 = .ok (.iaload, 1) := by decide +kernel
theorem dX4_told_143 : decode cX4_told 143 = .ok (.ireturn, 1) := by decide +kernel
theorem dX4_told_144 : decode cX4_told 144 = .ok (.aload_n 0, 1) := by decide +kernel
theorem dX4_told_145 : decode cX4_told 145 = .ok (.getfield 96, 3) := by decide +kernel
theorem dX4_told_148 : decode cX4_told 148 = .ok (.iload_n 1, 1) := by decide +kernel
theorem dX4_told_149 : decode cX4_told 149 = .ok (.iaload, 1) := by decide +kernel
theorem dX4_told_150 : decode cX4_told 150 = .ok (.ireturn, 1) := by decide +kernel
theorem dX4_told_151 : decode cX4_told 151 = .ok (.iconst (-1), 1) := by decide +kernel
theorem dX4_told_152 : decode cX4_told 152 = .ok (.ireturn, 1) := by decide +kernel
theorem dX4_gather_0 : decode cX4_gather 0 = .ok (.aload_n 0, 1) := by decide +kernel
theorem dX4_gather_1 : decode cX4_gather 1 = .ok (.iconst 0, 1) := by decide +kernel
theorem dX4_gather_2 : decode cX4_gather 2 = .ok (.putfield 201, 3) := by decide +kernel
theorem dX4_gather_5 : decode cX4_gather 5 = .ok (.iconst 0, 1) := by decide +kernel
theorem dX4_gather_6 : decode cX4_gather 6 = .ok (.istore_n 3, 1) := by decide +kernel
theorem dX4_gather_7 : decode cX4_gather 7 = .ok (.iload_n 3, 1) := by decide +kernel
theorem dX4_gather_8 : decode cX4_gather 8 = .ok (.aload_n 0, 1) := by decide +kernel
theorem dX4_gather_9 : decode cX4_gather 9 = .ok (.getfield 108, 3) := by decide +kernel
theorem dX4_gather_12 : decode cX4_gather 12 = .ok (.if_icmp .ge 81, 3) := by decide +kernel
theorem dX4_gather_15 : decode cX4_gather 15 = .ok (.iconst 0, 1) := by decide +kernel
theorem dX4_gather_16 : decode cX4_gather 16 = .ok (.istore 4, 2) := by decide +kernel
theorem dX4_gather_18 : decode cX4_gather 18 = .ok (.iload 4, 2) := by decide +kernel
theorem dX4_gather_20 : decode cX4_gather 20 = .ok (.aload_n 0, 1) := by decide +kernel
theorem dX4_gather_21 : decode cX4_gather 21 = .ok (.getfield 99, 3) := by decide +kernel
theorem dX4_gather_24 : decode cX4_gather 24 = .ok (.bipush 31, 2) := by decide +kernel
theorem dX4_gather_26 : decode cX4_gather 26 = .ok (.iload_n 1, 1) := by decide +kernel
theorem dX4_gather_27 : decode cX4_gather 27 = .ok (.imul, 1) := by decide +kernel
theorem dX4_gather_28 : decode cX4_gather 28 = .ok (.iload_n 3, 1) := by decide +kernel
theorem dX4_gather_29 : decode cX4_gather 29 = .ok (.iadd, 1) := by decide +kernel
theorem dX4_gather_30 : decode cX4_gather 30 = .ok (.iaload, 1) := by decide +kernel
theorem dX4_gather_31 : decode cX4_gather 31 = .ok (.if_icmp .ge 56, 3) := by decide +kernel
theorem dX4_gather_34 : decode cX4_gather 34 = .ok (.aload_n 0, 1) := by decide +kernel
theorem dX4_gather_35 : decode cX4_gather 35 = .ok (.getfield 54, 3) := by decide +kernel
theorem dX4_gather_38 : decode cX4_gather 38 = .ok (.sipush 512, 3) := by decide +kernel
theorem dX4_gather_41 : decode cX4_gather 41 = .ok (.iload_n 3, 1) := by decide +kernel
theorem dX4_gather_42 : decode cX4_gather 42 = .ok (.imul, 1) := by decide +kernel
theorem dX4_gather_43 : decode cX4_gather 43 = .ok (.iload 4, 2) := by decide +kernel
theorem dX4_gather_45 : decode cX4_gather 45 = .ok (.iadd, 1) := by decide +kernel
theorem dX4_gather_46 : decode cX4_gather 46 = .ok (.iaload, 1) := by decide +kernel
theorem dX4_gather_47 : decode cX4_gather 47 = .ok (.istore 5, 2) := by decide +kernel
theorem dX4_gather_49 : decode cX4_gather 49 = .ok (.aload_n 0, 1) := by decide +kernel
theorem dX4_gather_50 : decode cX4_gather 50 = .ok (.getfield 75, 3) := by decide +kernel
theorem dX4_gather_53 : decode cX4_gather 53 = .ok (.iload 5, 2) := by decide +kernel
theorem dX4_gather_55 : decode cX4_gather 55 = .ok (.iaload, 1) := by decide +kernel
theorem dX4_gather_56 : decode cX4_gather 56 = .ok (.iload_n 2, 1) := by decide +kernel
theorem dX4_gather_57 : decode cX4_gather 57 = .ok (.if_icmp .ne 24, 3) := by decide +kernel
theorem dX4_gather_60 : decode cX4_gather 60 = .ok (.aload_n 0, 1) := by decide +kernel
theorem dX4_gather_61 : decode cX4_gather 61 = .ok (.getfield 105, 3) := by decide +kernel
theorem dX4_gather_64 : decode cX4_gather 64 = .ok (.aload_n 0, 1) := by decide +kernel
theorem dX4_gather_65 : decode cX4_gather 65 = .ok (.getfield 201, 3) := by decide +kernel
theorem dX4_gather_68 : decode cX4_gather 68 = .ok (.iload 5, 2) := by decide +kernel
theorem dX4_gather_70 : decode cX4_gather 70 = .ok (.iastore, 1) := by decide +kernel
theorem dX4_gather_71 : decode cX4_gather 71 = .ok (.aload_n 0, 1) := by decide +kernel
theorem dX4_gather_72 : decode cX4_gather 72 = .ok (.dup, 1) := by decide +kernel
theorem dX4_gather_73 : decode cX4_gather 73 = .ok (.getfield 201, 3) := by decide +kernel
theorem dX4_gather_76 : decode cX4_gather 76 = .ok (.iconst 1, 1) := by decide +kernel
theorem dX4_gather_77 : decode cX4_gather 77 = .ok (.iadd, 1) := by decide +kernel
theorem dX4_gather_78 : decode cX4_gather 78 = .ok (.putfield 201, 3) := by decide +kernel
theorem dX4_gather_81 : decode cX4_gather 81 = .ok (.iinc 4 1, 3) := by decide +kernel
theorem dX4_gather_84 : decode cX4_gather 84 = .ok (.goto (-66), 3) := by decide +kernel
theorem dX4_gather_87 : decode cX4_gather 87 = .ok (.iinc 3 1, 3) := by decide +kernel
theorem dX4_gather_90 : decode cX4_gather 90 = .ok (.goto (-83), 3) := by decide +kernel
theorem dX4_gather_93 : decode cX4_gather 93 = .ok (.return_, 1) := by decide +kernel
theorem dX4_different_0 : decode cX4_different 0 = .ok (.iconst 0, 1) := by decide +kernel
theorem dX4_different_1 : decode cX4_different 1 = .ok (.istore_n 1, 1) := by decide +kernel
theorem dX4_different_2 : decode cX4_different 2 = .ok (.iconst 0, 1) := by decide +kernel
theorem dX4_different_3 : decode cX4_different 3 = .ok (.istore_n 2, 1) := by decide +kernel
theorem dX4_different_4 : decode cX4_different 4 = .ok (.iload_n 2, 1) := by decide +kernel
theorem dX4_different_5 : decode cX4_different 5 = .ok (.aload_n 0, 1) := by decide +kernel
theorem dX4_different_6 : decode cX4_different 6 = .ok (.getfield 201, 3) := by decide +kernel
theorem dX4_different_9 : decode cX4_different 9 = .ok (.if_icmp .ge 74, 3) := by decide +kernel
theorem dX4_different_12 : decode cX4_different 12 = .ok (.iconst 1, 1) := by decide +kernel
theorem dX4_different_13 : decode cX4_different 13 = .ok (.istore_n 3, 1) := by decide +kernel
theorem dX4_different_14 : decode cX4_different 14 = .ok (.iconst 0, 1) := by decide +kernel
theorem dX4_different_15 : decode cX4_different 15 = .ok (.istore 4, 2) := by decide +kernel
theorem dX4_different_17 : decode cX4_different 17 = .ok (.iload 4, 2) := by decide +kernel
theorem dX4_different_19 : decode cX4_different 19 = .ok (.iload_n 2, 1) := by decide +kernel
theorem dX4_different_20 : decode cX4_different 20 = .ok (.if_icmp .ge 45, 3) := by decide +kernel
theorem dX4_different_23 : decode cX4_different 23 = .ok (.iload_n 3, 1) := by decide +kernel
theorem dX4_different_24 : decode cX4_different 24 = .ok (.ifCond .eq 33, 3) := by decide +kernel
theorem dX4_different_27 : decode cX4_different 27 = .ok (.aload_n 0, 1) := by decide +kernel
theorem dX4_different_28 : decode cX4_different 28 = .ok (.getfield 78, 3) := by decide +kernel
theorem dX4_different_31 : decode cX4_different 31 = .ok (.aload_n 0, 1) := by decide +kernel
theorem dX4_different_32 : decode cX4_different 32 = .ok (.getfield 105, 3) := by decide +kernel
theorem dX4_different_35 : decode cX4_different 35 = .ok (.iload 4, 2) := by decide +kernel
theorem dX4_different_37 : decode cX4_different 37 = .ok (.iaload, 1) := by decide +kernel
theorem dX4_different_38 : decode cX4_different 38 = .ok (.iaload, 1) := by decide +kernel
theorem dX4_different_39 : decode cX4_different 39 = .ok (.aload_n 0, 1) := by decide +kernel
theorem dX4_different_40 : decode cX4_different 40 = .ok (.getfield 78, 3) := by decide +kernel
theorem dX4_different_43 : decode cX4_different 43 = .ok (.aload_n 0, 1) := by decide +kernel
theorem dX4_different_44 : decode cX4_different 44 = .ok (.getfield 105, 3) := by decide +kernel
theorem dX4_different_47 : decode cX4_different 47 = .ok (.iload_n 2, 1) := by decide +kernel
theorem dX4_different_48 : decode cX4_different 48 = .ok (.iaload, 1) := by decide +kernel
theorem dX4_different_49 : decode cX4_different 49 = .ok (.iaload, 1) := by decide +kernel
theorem dX4_different_50 : decode cX4_different 50 = .ok (.if_icmp .eq 7, 3) := by decide +kernel
theorem dX4_different_53 : decode cX4_different 53 = .ok (.iconst 1, 1) := by decide +kernel
theorem dX4_different_54 : decode cX4_different 54 = .ok (.goto 4, 3) := by decide +kernel
theorem dX4_different_57 : decode cX4_different 57 = .ok (.iconst 0, 1) := by decide +kernel
theorem dX4_different_58 : decode cX4_different 58 = .ok (.istore_n 3, 1) := by decide +kernel
theorem dX4_different_59 : decode cX4_different 59 = .ok (.iinc 4 1, 3) := by decide +kernel
theorem dX4_different_62 : decode cX4_different 62 = .ok (.goto (-45), 3) := by decide +kernel
theorem dX4_different_65 : decode cX4_different 65 = .ok (.iload_n 1, 1) := by decide +kernel
theorem dX4_different_66 : decode cX4_different 66 = .ok (.iload_n 3, 1) := by decide +kernel
theorem dX4_different_67 : decode cX4_different 67 = .ok (.ifCond .eq 7, 3) := by decide +kernel
theorem dX4_different_70 : decode cX4_different 70 = .ok (.iconst 1, 1) := by decide +kernel
theorem dX4_different_71 : decode cX4_different 71 = .ok (.goto 4, 3) := by decide +kernel
theorem dX4_different_74 : decode cX4_different 74 = .ok (.iconst 0, 1) := by decide +kernel
theorem dX4_different_75 : decode cX4_different 75 = .ok (.iadd, 1) := by decide +kernel
theorem dX4_different_76 : decode cX4_different 76 = .ok (.istore_n 1, 1) := by decide +kernel
theorem dX4_different_77 : decode cX4_different 77 = .ok (.iinc 2 1, 3) := by decide +kernel
theorem dX4_different_80 : decode cX4_different 80 = .ok (.goto (-76), 3) := by decide +kernel
theorem dX4_different_83 : decode cX4_different 83 = .ok (.iload_n 1, 1) := by decide +kernel
theorem dX4_different_84 : decode cX4_different 84 = .ok (.ireturn, 1) := by decide +kernel
theorem dX4_answer_0 : decode cX4_answer 0 = .ok (.aload_n 0, 1) := by decide +kernel
theorem dX4_answer_1 : decode cX4_answer 1 = .ok (.iconst 0, 1) := by decide +kernel
theorem dX4_answer_2 : decode cX4_answer 2 = .ok (.putfield 112, 3) := by decide +kernel
theorem dX4_answer_5 : decode cX4_answer 5 = .ok (.aload_n 0, 1) := by decide +kernel
theorem dX4_answer_6 : decode cX4_answer 6 = .ok (.iload_n 1, 1) := by decide +kernel
theorem dX4_answer_7 : decode cX4_answer 7 = .ok (.invokevirtual 198, 3) := by decide +kernel
theorem dX4_answer_10 : decode cX4_answer 10 = .ok (.ifCond .eq 21, 3) := by decide +kernel
theorem dX4_answer_13 : decode cX4_answer 13 = .ok (.aload_n 0, 1) := by decide +kernel
theorem dX4_answer_14 : decode cX4_answer 14 = .ok (.getfield 87, 3) := by decide +kernel
theorem dX4_answer_17 : decode cX4_answer 17 = .ok (.iload_n 1, 1) := by decide +kernel
theorem dX4_answer_18 : decode cX4_answer 18 = .ok (.iaload, 1) := by decide +kernel
theorem dX4_answer_19 : decode cX4_answer 19 = .ok (.iconst (-1), 1) := by decide +kernel
theorem dX4_answer_20 : decode cX4_answer 20 = .ok (.if_icmp .eq 11, 3) := by decide +kernel
theorem dX4_answer_23 : decode cX4_answer 23 = .ok (.aload_n 0, 1) := by decide +kernel
theorem dX4_answer_24 : decode cX4_answer 24 = .ok (.iload_n 1, 1) := by decide +kernel
theorem dX4_answer_25 : decode cX4_answer 25 = .ok (.invokevirtual 159, 3) := by decide +kernel
theorem dX4_answer_28 : decode cX4_answer 28 = .ok (.ifCond .ne 5, 3) := by decide +kernel
theorem dX4_answer_31 : decode cX4_answer 31 = .ok (.lconst 0, 1) := by decide +kernel
theorem dX4_answer_32 : decode cX4_answer 32 = .ok (.lreturn, 1) := by decide +kernel
theorem dX4_answer_33 : decode cX4_answer 33 = .ok (.aload_n 0, 1) := by decide +kernel
theorem dX4_answer_34 : decode cX4_answer 34 = .ok (.getfield 75, 3) := by decide +kernel
theorem dX4_answer_37 : decode cX4_answer 37 = .ok (.iload_n 1, 1) := by decide +kernel
theorem dX4_answer_38 : decode cX4_answer 38 = .ok (.iaload, 1) := by decide +kernel
theorem dX4_answer_39 : decode cX4_answer 39 = .ok (.istore_n 2, 1) := by decide +kernel
theorem dX4_answer_40 : decode cX4_answer 40 = .ok (.aload_n 0, 1) := by decide +kernel
theorem dX4_answer_41 : decode cX4_answer 41 = .ok (.iload_n 1, 1) := by decide +kernel
theorem dX4_answer_42 : decode cX4_answer 42 = .ok (.iload_n 2, 1) := by decide +kernel
theorem dX4_answer_43 : decode cX4_answer 43 = .ok (.bipush 10, 2) := by decide +kernel
theorem dX4_answer_45 : decode cX4_answer 45 = .ok (.if_icmp .ne 7, 3) := by decide +kernel
theorem dX4_answer_48 : decode cX4_answer 48 = .ok (.iconst 0, 1) := by decide +kernel
theorem dX4_answer_49 : decode cX4_answer 49 = .ok (.goto 24, 3) := by decide +kernel
theorem dX4_answer_52 : decode cX4_answer 52 = .ok (.iload_n 2, 1) := by decide +kernel
theorem dX4_answer_53 : decode cX4_answer 53 = .ok (.bipush 11, 2) := by decide +kernel
theorem dX4_answer_55 : decode cX4_answer 55 = .ok (.if_icmp .ne 7, 3) := by decide +kernel
theorem dX4_answer_58 : decode cX4_answer 58 = .ok (.iconst 1, 1) := by decide +kernel
theorem dX4_answer_59 : decode cX4_answer 59 = .ok (.goto 14, 3) := by decide +kernel
theorem dX4_answer_62 : decode cX4_answer 62 = .ok (.iload_n 2, 1) := by decide +kernel
theorem dX4_answer_63 : decode cX4_answer 63 = .ok (.bipush 14, 2) := by decide +kernel
theorem dX4_answer_65 : decode cX4_answer 65 = .ok (.if_icmp .ge 7, 3) := by decide +kernel
theorem dX4_answer_68 : decode cX4_answer 68 = .ok (.iconst 2, 1) := by decide +kernel
theorem dX4_answer_69 : decode cX4_answer 69 = .ok (.goto 4, 3) := by decide +kernel
theorem dX4_answer_72 : decode cX4_answer 72 = .ok (.iconst 3, 1) := by decide +kernel
theorem dX4_answer_73 : decode cX4_answer 73 = .ok (.invokevirtual 204, 3) := by decide +kernel
theorem dX4_answer_76 : decode cX4_answer 76 = .ok (.iload_n 2, 1) := by decide +kernel
theorem dX4_answer_77 : decode cX4_answer 77 = .ok (.bipush 13, 2) := by decide +kernel
theorem dX4_answer_79 : decode cX4_answer 79 = .ok (.if_icmp .eq 9, 3) := by decide +kernel
theorem dX4_answer_82 : decode cX4_answer 82 = .ok (.iload_n 2, 1) := by decide +kernel
theorem dX4_answer_83 : decode cX4_answer 83 = .ok (.bipush 15, 2) := by decide +kernel
theorem dX4_answer_85 : decode cX4_answer 85 = .ok (.if_icmp .ne 9, 3) := by decide +kernel
theorem dX4_answer_88 : decode cX4_answer 88 = .ok (.aload_n 0, 1) := by decide +kernel
theorem dX4_answer_89 : decode cX4_answer 89 = .ok (.invokevirtual 208, 3) := by decide +kernel
theorem dX4_answer_92 : decode cX4_answer 92 = .ok (.i2l, 1) := by decide +kernel
theorem dX4_answer_93 : decode cX4_answer 93 = .ok (.lreturn, 1) := by decide +kernel
theorem dX4_answer_94 : decode cX4_answer 94 = .ok (.lconst 0, 1) := by decide +kernel
theorem dX4_answer_95 : decode cX4_answer 95 = .ok (.lstore_n 3, 1) := by decide +kernel
theorem dX4_answer_96 : decode cX4_answer 96 = .ok (.ldc2_w 214, 3) := by decide +kernel
theorem dX4_answer_99 : decode cX4_answer 99 = .ok (.lstore 5, 2) := by decide +kernel
theorem dX4_answer_101 : decode cX4_answer 101 = .ok (.iconst 0, 1) := by decide +kernel
theorem dX4_answer_102 : decode cX4_answer 102 = .ok (.istore 7, 2) := by decide +kernel
theorem dX4_answer_104 : decode cX4_answer 104 = .ok (.iconst 0, 1) := by decide +kernel
theorem dX4_answer_105 : decode cX4_answer 105 = .ok (.istore 8, 2) := by decide +kernel
theorem dX4_answer_107 : decode cX4_answer 107 = .ok (.iload 8, 2) := by decide +kernel
theorem dX4_answer_109 : decode cX4_answer 109 = .ok (.aload_n 0, 1) := by decide +kernel
theorem dX4_answer_110 : decode cX4_answer 110 = .ok (.getfield 201, 3) := by decide +kernel
theorem dX4_answer_113 : decode cX4_answer 113 = .ok (.if_icmp .ge 124, 3) := by decide +kernel
theorem dX4_answer_116 : decode cX4_answer 116 = .ok (.aload_n 0, 1) := by decide +kernel
theorem dX4_answer_117 : decode cX4_answer 117 = .ok (.getfield 105, 3) := by decide +kernel
theorem dX4_answer_120 : decode cX4_answer 120 = .ok (.iload 8, 2) := by decide +kernel
theorem dX4_answer_122 : decode cX4_answer 122 = .ok (.iaload, 1) := by decide +kernel
theorem dX4_answer_123 : decode cX4_answer 123 = .ok (.istore 9, 2) := by decide +kernel
theorem dX4_answer_125 : decode cX4_answer 125 = .ok (.aload_n 0, 1) := by decide +kernel
theorem dX4_answer_126 : decode cX4_answer 126 = .ok (.getfield 78, 3) := by decide +kernel
theorem dX4_answer_129 : decode cX4_answer 129 = .ok (.iload 9, 2) := by decide +kernel
theorem dX4_answer_131 : decode cX4_answer 131 = .ok (.iaload, 1) := by decide +kernel
theorem dX4_answer_132 : decode cX4_answer 132 = .ok (.aload_n 0, 1) := by decide +kernel
theorem dX4_answer_133 : decode cX4_answer 133 = .ok (.getfield 78, 3) := by decide +kernel
theorem dX4_answer_136 : decode cX4_answer 136 = .ok (.iload_n 1, 1) := by decide +kernel
theorem dX4_answer_137 : decode cX4_answer 137 = .ok (.iaload, 1) := by decide +kernel
theorem dX4_answer_138 : decode cX4_answer 138 = .ok (.if_icmp .ne 7, 3) := by decide +kernel
theorem dX4_answer_141 : decode cX4_answer 141 = .ok (.iconst 1, 1) := by decide +kernel
theorem dX4_answer_142 : decode cX4_answer 142 = .ok (.goto 4, 3) := by decide +kernel
theorem dX4_answer_145 : decode cX4_answer 145 = .ok (.iconst 0, 1) := by decide +kernel
theorem dX4_answer_146 : decode cX4_answer 146 = .ok (.istore 10, 2) := by decide +kernel
theorem dX4_answer_148 : decode cX4_answer 148 = .ok (.lload_n 3, 1) := by decide +kernel
theorem dX4_answer_149 : decode cX4_answer 149 = .ok (.aload_n 0, 1) := by decide +kernel
theorem dX4_answer_150 : decode cX4_answer 150 = .ok (.getfield 78, 3) := by decide +kernel
theorem dX4_answer_153 : decode cX4_answer 153 = .ok (.iload 9, 2) := by decide +kernel
theorem dX4_answer_155 : decode cX4_answer 155 = .ok (.iaload, 1) := by decide +kernel
theorem dX4_answer_156 : decode cX4_answer 156 = .ok (.i2l, 1) := by decide +kernel
theorem dX4_answer_157 : decode cX4_answer 157 = .ok (.ladd, 1) := by decide +kernel
theorem dX4_answer_158 : decode cX4_answer 158 = .ok (.lstore_n 3, 1) := by decide +kernel
theorem dX4_answer_159 : decode cX4_answer 159 = .ok (.iload 7, 2) := by decide +kernel
theorem dX4_answer_161 : decode cX4_answer 161 = .ok (.ifCond .ne 8, 3) := by decide +kernel
theorem dX4_answer_164 : decode cX4_answer 164 = .ok (.iload 10, 2) := by decide +kernel
theorem dX4_answer_166 : decode cX4_answer 166 = .ok (.ifCond .eq 7, 3) := by decide +kernel
theorem dX4_answer_169 : decode cX4_answer 169 = .ok (.iconst 1, 1) := by decide +kernel
theorem dX4_answer_170 : decode cX4_answer 170 = .ok (.goto 4, 3) := by decide +kernel
theorem dX4_answer_173 : decode cX4_answer 173 = .ok (.iconst 0, 1) := by decide +kernel
theorem dX4_answer_174 : decode cX4_answer 174 = .ok (.istore 7, 2) := by decide +kernel
theorem dX4_answer_176 : decode cX4_answer 176 = .ok (.iload_n 2, 1) := by decide +kernel
theorem dX4_answer_177 : decode cX4_answer 177 = .ok (.bipush 11, 2) := by decide +kernel
theorem dX4_answer_179 : decode cX4_answer 179 = .ok (.if_icmp .ne 14, 3) := by decide +kernel
theorem dX4_answer_182 : decode cX4_answer 182 = .ok (.aload_n 0, 1) := by decide +kernel
theorem dX4_answer_183 : decode cX4_answer 183 = .ok (.getfield 78, 3) := by decide +kernel
theorem dX4_answer_186 : decode cX4_answer 186 = .ok (.iload 9, 2) := by decide +kernel
theorem dX4_answer_188 : decode cX4_answer 188 = .ok (.iaload, 1) := by decide +kernel
theorem dX4_answer_189 : decode cX4_answer 189 = .ok (.i2l, 1) := by decide +kernel
theorem dX4_answer_190 : decode cX4_answer 190 = .ok (.goto 11, 3) := by decide +kernel
theorem dX4_answer_193 : decode cX4_answer 193 = .ok (.aload_n 0, 1) := by decide +kernel
theorem dX4_answer_194 : decode cX4_answer 194 = .ok (.getfield 81, 3) := by decide +kernel
theorem dX4_answer_197 : decode cX4_answer 197 = .ok (.iload 9, 2) := by decide +kernel
theorem dX4_answer_199 : decode cX4_answer 199 = .ok (.iaload, 1) := by decide +kernel
theorem dX4_answer_200 : decode cX4_answer 200 = .ok (.i2l, 1) := by decide +kernel
theorem dX4_answer_201 : decode cX4_answer 201 = .ok (.lstore 11, 2) := by decide +kernel
theorem dX4_answer_203 : decode cX4_answer 203 = .ok (.iload_n 2, 1) := by decide +kernel
theorem dX4_answer_204 : decode cX4_answer 204 = .ok (.bipush 11, 2) := by decide +kernel
theorem dX4_answer_206 : decode cX4_answer 206 = .ok (.if_icmp .eq 8, 3) := by decide +kernel
theorem dX4_answer_209 : decode cX4_answer 209 = .ok (.iload 10, 2) := by decide +kernel
theorem dX4_answer_211 : decode cX4_answer 211 = .ok (.ifCond .eq 16, 3) := by decide +kernel
theorem dX4_answer_214 : decode cX4_answer 214 = .ok (.lload 11, 2) := by decide +kernel
theorem dX4_answer_216 : decode cX4_answer 216 = .ok (.lload 5, 2) := by decide +kernel
theorem dX4_answer_218 : decode cX4_answer 218 = .ok (.lcmp, 1) := by decide +kernel
theorem dX4_answer_219 : decode cX4_answer 219 = .ok (.ifCond .le 8, 3) := by decide +kernel
theorem dX4_answer_222 : decode cX4_answer 222 = .ok (.lload 11, 2) := by decide +kernel
theorem dX4_answer_224 : decode cX4_answer 224 = .ok (.goto 5, 3) := by decide +kernel
theorem dX4_answer_227 : decode cX4_answer 227 = .ok (.lload 5, 2) := by decide +kernel
theorem dX4_answer_229 : decode cX4_answer 229 = .ok (.lstore 5, 2) := by decide +kernel
theorem dX4_answer_231 : decode cX4_answer 231 = .ok (.iinc 8 1, 3) := by decide +kernel
theorem dX4_answer_234 : decode cX4_answer 234 = .ok (.goto (-127), 3) := by decide +kernel
theorem dX4_answer_237 : decode cX4_answer 237 = .ok (.iload_n 2, 1) := by decide +kernel
theorem dX4_answer_238 : decode cX4_answer 238 = .ok (.bipush 10, 2) := by decide +kernel
theorem dX4_answer_240 : decode cX4_answer 240 = .ok (.if_icmp .ne 7, 3) := by decide +kernel
theorem dX4_answer_243 : decode cX4_answer 243 = .ok (.lload_n 3, 1) := by decide +kernel
theorem dX4_answer_244 : decode cX4_answer 244 = .ok (.goto 24, 3) := by decide +kernel
theorem dX4_answer_247 : decode cX4_answer 247 = .ok (.iload_n 2, 1) := by decide +kernel
theorem dX4_answer_248 : decode cX4_answer 248 = .ok (.bipush 12, 2) := by decide +kernel
theorem dX4_answer_250 : decode cX4_answer 250 = .ok (.if_icmp .ne 16, 3) := by decide +kernel
theorem dX4_answer_253 : decode cX4_answer 253 = .ok (.iload 7, 2) := by decide +kernel
theorem dX4_answer_255 : decode cX4_answer 255 = .ok (.ifCond .eq 7, 3) := by decide +kernel
theorem dX4_answer_258 : decode cX4_answer 258 = .ok (.lconst 1, 1) := by decide +kernel
theorem dX4_answer_259 : decode cX4_answer 259 = .ok (.goto 9, 3) := by decide +kernel
theorem dX4_answer_262 : decode cX4_answer 262 = .ok (.lconst 0, 1) := by decide +kernel
theorem dX4_answer_263 : decode cX4_answer 263 = .ok (.goto 5, 3) := by decide +kernel
theorem dX4_answer_266 : decode cX4_answer 266 = .ok (.lload 5, 2) := by decide +kernel
theorem dX4_answer_268 : decode cX4_answer 268 = .ok (.lreturn, 1) := by decide +kernel
theorem dX4_view_0 : decode cX4_view 0 = .ok (.aload_n 0, 1) := by decide +kernel
theorem dX4_view_1 : decode cX4_view 1 = .ok (.iconst 0, 1) := by decide +kernel
theorem dX4_view_2 : decode cX4_view 2 = .ok (.putfield 112, 3) := by decide +kernel
theorem dX4_view_5 : decode cX4_view 5 = .ok (.aload_n 0, 1) := by decide +kernel
theorem dX4_view_6 : decode cX4_view 6 = .ok (.iload_n 1, 1) := by decide +kernel
theorem dX4_view_7 : decode cX4_view 7 = .ok (.invokevirtual 198, 3) := by decide +kernel
theorem dX4_view_10 : decode cX4_view 10 = .ok (.ifCond .eq 34, 3) := by decide +kernel
theorem dX4_view_13 : decode cX4_view 13 = .ok (.aload_n 0, 1) := by decide +kernel
theorem dX4_view_14 : decode cX4_view 14 = .ok (.getfield 102, 3) := by decide +kernel
theorem dX4_view_17 : decode cX4_view 17 = .ok (.iload_n 1, 1) := by decide +kernel
theorem dX4_view_18 : decode cX4_view 18 = .ok (.baload, 1) := by decide +kernel
theorem dX4_view_19 : decode cX4_view 19 = .ok (.ifCond .eq 25, 3) := by decide +kernel
theorem dX4_view_22 : decode cX4_view 22 = .ok (.aload_n 0, 1) := by decide +kernel
theorem dX4_view_23 : decode cX4_view 23 = .ok (.iload_n 2, 1) := by decide +kernel
theorem dX4_view_24 : decode cX4_view 24 = .ok (.invokevirtual 143, 3) := by decide +kernel
theorem dX4_view_27 : decode cX4_view 27 = .ok (.ifCond .eq 17, 3) := by decide +kernel
theorem dX4_view_30 : decode cX4_view 30 = .ok (.aload_n 0, 1) := by decide +kernel
theorem dX4_view_31 : decode cX4_view 31 = .ok (.getfield 99, 3) := by decide +kernel
theorem dX4_view_34 : decode cX4_view 34 = .ok (.bipush 31, 2) := by decide +kernel
theorem dX4_view_36 : decode cX4_view 36 = .ok (.iload_n 1, 1) := by decide +kernel
theorem dX4_view_37 : decode cX4_view 37 = .ok (.imul, 1) := by decide +kernel
theorem dX4_view_38 : decode cX4_view 38 = .ok (.iload_n 2, 1) := by decide +kernel
theorem dX4_view_39 : decode cX4_view 39 = .ok (.iadd, 1) := by decide +kernel
theorem dX4_view_40 : decode cX4_view 40 = .ok (.iaload, 1) := by decide +kernel
theorem dX4_view_41 : decode cX4_view 41 = .ok (.goto 4, 3) := by decide +kernel
theorem dX4_view_44 : decode cX4_view 44 = .ok (.iconst (-1), 1) := by decide +kernel
theorem dX4_view_45 : decode cX4_view 45 = .ok (.ireturn, 1) := by decide +kernel
theorem dX4_node_0 : decode cX4_node 0 = .ok (.aload_n 0, 1) := by decide +kernel
theorem dX4_node_1 : decode cX4_node 1 = .ok (.iconst 0, 1) := by decide +kernel
theorem dX4_node_2 : decode cX4_node 2 = .ok (.putfield 112, 3) := by decide +kernel
theorem dX4_node_5 : decode cX4_node 5 = .ok (.aload_n 0, 1) := by decide +kernel
theorem dX4_node_6 : decode cX4_node 6 = .ok (.iload_n 1, 1) := by decide +kernel
theorem dX4_node_7 : decode cX4_node 7 = .ok (.invokevirtual 143, 3) := by decide +kernel
theorem dX4_node_10 : decode cX4_node 10 = .ok (.ifCond .ne 5, 3) := by decide +kernel
theorem dX4_node_13 : decode cX4_node 13 = .ok (.iconst (-1), 1) := by decide +kernel
theorem dX4_node_14 : decode cX4_node 14 = .ok (.ireturn, 1) := by decide +kernel
theorem dX4_node_15 : decode cX4_node 15 = .ok (.iload_n 2, 1) := by decide +kernel
theorem dX4_node_16 : decode cX4_node 16 = .ok (.tableswitch 103 0 5 #[40, 55, 62, 69, 76, 96], 40) := by decide +kernel
theorem dX4_node_56 : decode cX4_node 56 = .ok (.aload_n 0, 1) := by decide +kernel
theorem dX4_node_57 : decode cX4_node 57 = .ok (.getfield 33, 3) := by decide +kernel
theorem dX4_node_60 : decode cX4_node 60 = .ok (.iload_n 1, 1) := by decide +kernel
theorem dX4_node_61 : decode cX4_node 61 = .ok (.baload, 1) := by decide +kernel
theorem dX4_node_62 : decode cX4_node 62 = .ok (.ifCond .eq 7, 3) := by decide +kernel
theorem dX4_node_65 : decode cX4_node 65 = .ok (.iconst 0, 1) := by decide +kernel
theorem dX4_node_66 : decode cX4_node 66 = .ok (.goto 4, 3) := by decide +kernel
theorem dX4_node_69 : decode cX4_node 69 = .ok (.iconst 1, 1) := by decide +kernel
theorem dX4_node_70 : decode cX4_node 70 = .ok (.ireturn, 1) := by decide +kernel
theorem dX4_node_71 : decode cX4_node 71 = .ok (.aload_n 0, 1) := by decide +kernel
theorem dX4_node_72 : decode cX4_node 72 = .ok (.getfield 36, 3) := by decide +kernel
theorem dX4_node_75 : decode cX4_node 75 = .ok (.iload_n 1, 1) := by decide +kernel
theorem dX4_node_76 : decode cX4_node 76 = .ok (.iaload, 1) := by decide +kernel
theorem dX4_node_77 : decode cX4_node 77 = .ok (.ireturn, 1) := by decide +kernel
theorem dX4_node_78 : decode cX4_node 78 = .ok (.aload_n 0, 1) := by decide +kernel
theorem dX4_node_79 : decode cX4_node 79 = .ok (.getfield 39, 3) := by decide +kernel
theorem dX4_node_82 : decode cX4_node 82 = .ok (.iload_n 1, 1) := by decide +kernel
theorem dX4_node_83 : decode cX4_node 83 = .ok (.iaload, 1) := by decide +kernel
theorem dX4_node_84 : decode cX4_node 84 = .ok (.ireturn, 1) := by decide +kernel
theorem dX4_node_85 : decode cX4_node 85 = .ok (.aload_n 0, 1) := by decide +kernel
theorem dX4_node_86 : decode cX4_node 86 = .ok (.getfield 42, 3) := by decide +kernel
theorem dX4_node_89 : decode cX4_node 89 = .ok (.iload_n 1, 1) := by decide +kernel
theorem dX4_node_90 : decode cX4_node 90 = .ok (.iaload, 1) := by decide +kernel
theorem dX4_node_91 : decode cX4_node 91 = .ok (.ireturn, 1) := by decide +kernel
theorem dX4_node_92 : decode cX4_node 92 = .ok (.aload_n 0, 1) := by decide +kernel
theorem dX4_node_93 : decode cX4_node 93 = .ok (.getfield 36, 3) := by decide +kernel
theorem dX4_node_96 : decode cX4_node 96 = .ok (.iload_n 1, 1) := by decide +kernel
theorem dX4_node_97 : decode cX4_node 97 = .ok (.iaload, 1) := by decide +kernel
theorem dX4_node_98 : decode cX4_node 98 = .ok (.ifCond .ne 7, 3) := by decide +kernel
theorem dX4_node_101 : decode cX4_node 101 = .ok (.iconst 0, 1) := by decide +kernel
theorem dX4_node_102 : decode cX4_node 102 = .ok (.goto 9, 3) := by decide +kernel
theorem dX4_node_105 : decode cX4_node 105 = .ok (.aload_n 0, 1) := by decide +kernel
theorem dX4_node_106 : decode cX4_node 106 = .ok (.getfield 45, 3) := by decide +kernel
theorem dX4_node_109 : decode cX4_node 109 = .ok (.iload_n 1, 1) := by decide +kernel
theorem dX4_node_110 : decode cX4_node 110 = .ok (.iaload, 1) := by decide +kernel
theorem dX4_node_111 : decode cX4_node 111 = .ok (.ireturn, 1) := by decide +kernel
theorem dX4_node_112 : decode cX4_node 112 = .ok (.aload_n 0, 1) := by decide +kernel
theorem dX4_node_113 : decode cX4_node 113 = .ok (.getfield 51, 3) := by decide +kernel
theorem dX4_node_116 : decode cX4_node 116 = .ok (.iload_n 1, 1) := by decide +kernel
theorem dX4_node_117 : decode cX4_node 117 = .ok (.iaload, 1) := by decide +kernel
theorem dX4_node_118 : decode cX4_node 118 = .ok (.ireturn, 1) := by decide +kernel
theorem dX4_node_119 : decode cX4_node 119 = .ok (.iconst (-1), 1) := by decide +kernel
theorem dX4_node_120 : decode cX4_node 120 = .ok (.ireturn, 1) := by decide +kernel
theorem dX4_kept_0 : decode cX4_kept 0 = .ok (.aload_n 0, 1) := by decide +kernel
theorem dX4_kept_1 : decode cX4_kept 1 = .ok (.iconst 0, 1) := by decide +kernel
theorem dX4_kept_2 : decode cX4_kept 2 = .ok (.putfield 112, 3) := by decide +kernel
theorem dX4_kept_5 : decode cX4_kept 5 = .ok (.aload_n 0, 1) := by decide +kernel
theorem dX4_kept_6 : decode cX4_kept 6 = .ok (.iload_n 1, 1) := by decide +kernel
theorem dX4_kept_7 : decode cX4_kept 7 = .ok (.invokevirtual 143, 3) := by decide +kernel
theorem dX4_kept_10 : decode cX4_kept 10 = .ok (.ifCond .eq 25, 3) := by decide +kernel
theorem dX4_kept_13 : decode cX4_kept 13 = .ok (.aload_n 0, 1) := by decide +kernel
theorem dX4_kept_14 : decode cX4_kept 14 = .ok (.iload_n 2, 1) := by decide +kernel
theorem dX4_kept_15 : decode cX4_kept 15 = .ok (.invokevirtual 143, 3) := by decide +kernel
theorem dX4_kept_18 : decode cX4_kept 18 = .ok (.ifCond .eq 17, 3) := by decide +kernel
theorem dX4_kept_21 : decode cX4_kept 21 = .ok (.aload_n 0, 1) := by decide +kernel
theorem dX4_kept_22 : decode cX4_kept 22 = .ok (.getfield 48, 3) := by decide +kernel
theorem dX4_kept_25 : decode cX4_kept 25 = .ok (.bipush 31, 2) := by decide +kernel
theorem dX4_kept_27 : decode cX4_kept 27 = .ok (.iload_n 1, 1) := by decide +kernel
theorem dX4_kept_28 : decode cX4_kept 28 = .ok (.imul, 1) := by decide +kernel
theorem dX4_kept_29 : decode cX4_kept 29 = .ok (.iload_n 2, 1) := by decide +kernel
theorem dX4_kept_30 : decode cX4_kept 30 = .ok (.iadd, 1) := by decide +kernel
theorem dX4_kept_31 : decode cX4_kept 31 = .ok (.iaload, 1) := by decide +kernel
theorem dX4_kept_32 : decode cX4_kept 32 = .ok (.goto 4, 3) := by decide +kernel
theorem dX4_kept_35 : decode cX4_kept 35 = .ok (.iconst (-1), 1) := by decide +kernel
theorem dX4_kept_36 : decode cX4_kept 36 = .ok (.ireturn, 1) := by decide +kernel
theorem dX4_message_0 : decode cX4_message 0 = .ok (.aload_n 0, 1) := by decide +kernel
theorem dX4_message_1 : decode cX4_message 1 = .ok (.iconst 0, 1) := by decide +kernel
theorem dX4_message_2 : decode cX4_message 2 = .ok (.putfield 112, 3) := by decide +kernel
theorem dX4_message_5 : decode cX4_message 5 = .ok (.iload_n 1, 1) := by decide +kernel
theorem dX4_message_6 : decode cX4_message 6 = .ok (.ifCond .lt 11, 3) := by decide +kernel
theorem dX4_message_9 : decode cX4_message 9 = .ok (.iload_n 1, 1) := by decide +kernel
theorem dX4_message_10 : decode cX4_message 10 = .ok (.aload_n 0, 1) := by decide +kernel
theorem dX4_message_11 : decode cX4_message 11 = .ok (.getfield 115, 3) := by decide +kernel
theorem dX4_message_14 : decode cX4_message 14 = .ok (.if_icmp .lt 5, 3) := by decide +kernel
theorem dX4_message_17 : decode cX4_message 17 = .ok (.iconst (-1), 1) := by decide +kernel
theorem dX4_message_18 : decode cX4_message 18 = .ok (.ireturn, 1) := by decide +kernel
theorem dX4_message_19 : decode cX4_message 19 = .ok (.aload_n 0, 1) := by decide +kernel
theorem dX4_message_20 : decode cX4_message 20 = .ok (.getfield 30, 3) := by decide +kernel
theorem dX4_message_23 : decode cX4_message 23 = .ok (.iload_n 1, 1) := by decide +kernel
theorem dX4_message_24 : decode cX4_message 24 = .ok (.iaload, 1) := by decide +kernel
theorem dX4_message_25 : decode cX4_message 25 = .ok (.istore_n 3, 1) := by decide +kernel
theorem dX4_message_26 : decode cX4_message 26 = .ok (.iload_n 2, 1) := by decide +kernel
theorem dX4_message_27 : decode cX4_message 27 = .ok (.ifCond .ne 12, 3) := by decide +kernel
theorem dX4_message_30 : decode cX4_message 30 = .ok (.aload_n 0, 1) := by decide +kernel
theorem dX4_message_31 : decode cX4_message 31 = .ok (.getfield 7, 3) := by decide +kernel
theorem dX4_message_34 : decode cX4_message 34 = .ok (.iload_n 3, 1) := by decide +kernel
theorem dX4_message_35 : decode cX4_message 35 = .ok (.iaload, 1) := by decide +kernel
theorem dX4_message_36 : decode cX4_message 36 = .ok (.goto 46, 3) := by decide +kernel
theorem dX4_message_39 : decode cX4_message 39 = .ok (.iload_n 2, 1) := by decide +kernel
theorem dX4_message_40 : decode cX4_message 40 = .ok (.iconst 1, 1) := by decide +kernel
theorem dX4_message_41 : decode cX4_message 41 = .ok (.if_icmp .ne 12, 3) := by decide +kernel
theorem dX4_message_44 : decode cX4_message 44 = .ok (.aload_n 0, 1) := by decide +kernel
theorem dX4_message_45 : decode cX4_message 45 = .ok (.getfield 13, 3) := by decide +kernel
theorem dX4_message_48 : decode cX4_message 48 = .ok (.iload_n 3, 1) := by decide +kernel
theorem dX4_message_49 : decode cX4_message 49 = .ok (.iaload, 1) := by decide +kernel
theorem dX4_message_50 : decode cX4_message 50 = .ok (.goto 32, 3) := by decide +kernel
theorem dX4_message_53 : decode cX4_message 53 = .ok (.iload_n 2, 1) := by decide +kernel
theorem dX4_message_54 : decode cX4_message 54 = .ok (.iconst 2, 1) := by decide +kernel
theorem dX4_message_55 : decode cX4_message 55 = .ok (.if_icmp .ne 12, 3) := by decide +kernel
theorem dX4_message_58 : decode cX4_message 58 = .ok (.aload_n 0, 1) := by decide +kernel
theorem dX4_message_59 : decode cX4_message 59 = .ok (.getfield 16, 3) := by decide +kernel
theorem dX4_message_62 : decode cX4_message 62 = .ok (.iload_n 3, 1) := by decide +kernel
theorem dX4_message_63 : decode cX4_message 63 = .ok (.iaload, 1) := by decide +kernel
theorem dX4_message_64 : decode cX4_message 64 = .ok (.goto 18, 3) := by decide +kernel
theorem dX4_message_67 : decode cX4_message 67 = .ok (.iload_n 2, 1) := by decide +kernel
theorem dX4_message_68 : decode cX4_message 68 = .ok (.iconst 3, 1) := by decide +kernel
theorem dX4_message_69 : decode cX4_message 69 = .ok (.if_icmp .ne 12, 3) := by decide +kernel
theorem dX4_message_72 : decode cX4_message 72 = .ok (.aload_n 0, 1) := by decide +kernel
theorem dX4_message_73 : decode cX4_message 73 = .ok (.getfield 19, 3) := by decide +kernel
theorem dX4_message_76 : decode cX4_message 76 = .ok (.iload_n 3, 1) := by decide +kernel
theorem dX4_message_77 : decode cX4_message 77 = .ok (.iaload, 1) := by decide +kernel
theorem dX4_message_78 : decode cX4_message 78 = .ok (.goto 4, 3) := by decide +kernel
theorem dX4_message_81 : decode cX4_message 81 = .ok (.iconst (-1), 1) := by decide +kernel
theorem dX4_message_82 : decode cX4_message 82 = .ok (.ireturn, 1) := by decide +kernel
theorem dX4_vector_0 : decode cX4_vector 0 = .ok (.aload_n 0, 1) := by decide +kernel
theorem dX4_vector_1 : decode cX4_vector 1 = .ok (.iconst 0, 1) := by decide +kernel
theorem dX4_vector_2 : decode cX4_vector 2 = .ok (.putfield 112, 3) := by decide +kernel
theorem dX4_vector_5 : decode cX4_vector 5 = .ok (.iload_n 1, 1) := by decide +kernel
theorem dX4_vector_6 : decode cX4_vector 6 = .ok (.ifCond .lt 19, 3) := by decide +kernel
theorem dX4_vector_9 : decode cX4_vector 9 = .ok (.iload_n 1, 1) := by decide +kernel
theorem dX4_vector_10 : decode cX4_vector 10 = .ok (.aload_n 0, 1) := by decide +kernel
theorem dX4_vector_11 : decode cX4_vector 11 = .ok (.getfield 115, 3) := by decide +kernel
theorem dX4_vector_14 : decode cX4_vector 14 = .ok (.if_icmp .ge 11, 3) := by decide +kernel
theorem dX4_vector_17 : decode cX4_vector 17 = .ok (.aload_n 0, 1) := by decide +kernel
theorem dX4_vector_18 : decode cX4_vector 18 = .ok (.iload_n 2, 1) := by decide +kernel
theorem dX4_vector_19 : decode cX4_vector 19 = .ok (.invokevirtual 143, 3) := by decide +kernel
theorem dX4_vector_22 : decode cX4_vector 22 = .ok (.ifCond .ne 5, 3) := by decide +kernel
theorem dX4_vector_25 : decode cX4_vector 25 = .ok (.iconst (-1), 1) := by decide +kernel
theorem dX4_vector_26 : decode cX4_vector 26 = .ok (.ireturn, 1) := by decide +kernel
theorem dX4_vector_27 : decode cX4_vector 27 = .ok (.aload_n 0, 1) := by decide +kernel
theorem dX4_vector_28 : decode cX4_vector 28 = .ok (.getfield 30, 3) := by decide +kernel
theorem dX4_vector_31 : decode cX4_vector 31 = .ok (.iload_n 1, 1) := by decide +kernel
theorem dX4_vector_32 : decode cX4_vector 32 = .ok (.iaload, 1) := by decide +kernel
theorem dX4_vector_33 : decode cX4_vector 33 = .ok (.istore_n 3, 1) := by decide +kernel
theorem dX4_vector_34 : decode cX4_vector 34 = .ok (.aload_n 0, 1) := by decide +kernel
theorem dX4_vector_35 : decode cX4_vector 35 = .ok (.getfield 7, 3) := by decide +kernel
theorem dX4_vector_38 : decode cX4_vector 38 = .ok (.iload_n 3, 1) := by decide +kernel
theorem dX4_vector_39 : decode cX4_vector 39 = .ok (.iaload, 1) := by decide +kernel
theorem dX4_vector_40 : decode cX4_vector 40 = .ok (.iconst 1, 1) := by decide +kernel
theorem dX4_vector_41 : decode cX4_vector 41 = .ok (.if_icmp .eq 13, 3) := by decide +kernel
theorem dX4_vector_44 : decode cX4_vector 44 = .ok (.aload_n 0, 1) := by decide +kernel
theorem dX4_vector_45 : decode cX4_vector 45 = .ok (.getfield 7, 3) := by decide +kernel
theorem dX4_vector_48 : decode cX4_vector 48 = .ok (.iload_n 3, 1) := by decide +kernel
theorem dX4_vector_49 : decode cX4_vector 49 = .ok (.iaload, 1) := by decide +kernel
theorem dX4_vector_50 : decode cX4_vector 50 = .ok (.iconst 2, 1) := by decide +kernel
theorem dX4_vector_51 : decode cX4_vector 51 = .ok (.if_icmp .ne 17, 3) := by decide +kernel
theorem dX4_vector_54 : decode cX4_vector 54 = .ok (.aload_n 0, 1) := by decide +kernel
theorem dX4_vector_55 : decode cX4_vector 55 = .ok (.getfield 23, 3) := by decide +kernel
theorem dX4_vector_58 : decode cX4_vector 58 = .ok (.bipush 31, 2) := by decide +kernel
theorem dX4_vector_60 : decode cX4_vector 60 = .ok (.iload_n 3, 1) := by decide +kernel
theorem dX4_vector_61 : decode cX4_vector 61 = .ok (.imul, 1) := by decide +kernel
theorem dX4_vector_62 : decode cX4_vector 62 = .ok (.iload_n 2, 1) := by decide +kernel
theorem dX4_vector_63 : decode cX4_vector 63 = .ok (.iadd, 1) := by decide +kernel
theorem dX4_vector_64 : decode cX4_vector 64 = .ok (.iaload, 1) := by decide +kernel
theorem dX4_vector_65 : decode cX4_vector 65 = .ok (.goto 4, 3) := by decide +kernel
theorem dX4_vector_68 : decode cX4_vector 68 = .ok (.iconst (-1), 1) := by decide +kernel
theorem dX4_vector_69 : decode cX4_vector 69 = .ok (.ireturn, 1) := by decide +kernel
theorem dX4_count_0 : decode cX4_count 0 = .ok (.aload_n 0, 1) := by decide +kernel
theorem dX4_count_1 : decode cX4_count 1 = .ok (.iconst 0, 1) := by decide +kernel
theorem dX4_count_2 : decode cX4_count 2 = .ok (.putfield 112, 3) := by decide +kernel
theorem dX4_count_5 : decode cX4_count 5 = .ok (.iconst 0, 1) := by decide +kernel
theorem dX4_count_6 : decode cX4_count 6 = .ok (.istore_n 2, 1) := by decide +kernel
theorem dX4_count_7 : decode cX4_count 7 = .ok (.iconst 0, 1) := by decide +kernel
theorem dX4_count_8 : decode cX4_count 8 = .ok (.istore_n 3, 1) := by decide +kernel
theorem dX4_count_9 : decode cX4_count 9 = .ok (.iload_n 3, 1) := by decide +kernel
theorem dX4_count_10 : decode cX4_count 10 = .ok (.aload_n 0, 1) := by decide +kernel
theorem dX4_count_11 : decode cX4_count 11 = .ok (.getfield 108, 3) := by decide +kernel
theorem dX4_count_14 : decode cX4_count 14 = .ok (.if_icmp .ge 26, 3) := by decide +kernel
theorem dX4_count_17 : decode cX4_count 17 = .ok (.iload_n 2, 1) := by decide +kernel
theorem dX4_count_18 : decode cX4_count 18 = .ok (.aload_n 0, 1) := by decide +kernel
theorem dX4_count_19 : decode cX4_count 19 = .ok (.getfield 33, 3) := by decide +kernel
theorem dX4_count_22 : decode cX4_count 22 = .ok (.iload_n 3, 1) := by decide +kernel
theorem dX4_count_23 : decode cX4_count 23 = .ok (.baload, 1) := by decide +kernel
theorem dX4_count_24 : decode cX4_count 24 = .ok (.ifCond .eq 7, 3) := by decide +kernel
theorem dX4_count_27 : decode cX4_count 27 = .ok (.iconst 0, 1) := by decide +kernel
theorem dX4_count_28 : decode cX4_count 28 = .ok (.goto 4, 3) := by decide +kernel
theorem dX4_count_31 : decode cX4_count 31 = .ok (.iconst 1, 1) := by decide +kernel
theorem dX4_count_32 : decode cX4_count 32 = .ok (.iadd, 1) := by decide +kernel
theorem dX4_count_33 : decode cX4_count 33 = .ok (.istore_n 2, 1) := by decide +kernel
theorem dX4_count_34 : decode cX4_count 34 = .ok (.iinc 3 1, 3) := by decide +kernel
theorem dX4_count_37 : decode cX4_count 37 = .ok (.goto (-28), 3) := by decide +kernel
theorem dX4_count_40 : decode cX4_count 40 = .ok (.iconst 0, 1) := by decide +kernel
theorem dX4_count_41 : decode cX4_count 41 = .ok (.istore_n 3, 1) := by decide +kernel
theorem dX4_count_42 : decode cX4_count 42 = .ok (.iconst 0, 1) := by decide +kernel
theorem dX4_count_43 : decode cX4_count 43 = .ok (.istore 4, 2) := by decide +kernel
theorem dX4_count_45 : decode cX4_count 45 = .ok (.iconst 1, 1) := by decide +kernel
theorem dX4_count_46 : decode cX4_count 46 = .ok (.istore 5, 2) := by decide +kernel
theorem dX4_count_48 : decode cX4_count 48 = .ok (.iload 5, 2) := by decide +kernel
theorem dX4_count_50 : decode cX4_count 50 = .ok (.aload_n 0, 1) := by decide +kernel
theorem dX4_count_51 : decode cX4_count 51 = .ok (.getfield 129, 3) := by decide +kernel
theorem dX4_count_54 : decode cX4_count 54 = .ok (.if_icmp .gt 42, 3) := by decide +kernel
theorem dX4_count_57 : decode cX4_count 57 = .ok (.iload_n 3, 1) := by decide +kernel
theorem dX4_count_58 : decode cX4_count 58 = .ok (.aload_n 0, 1) := by decide +kernel
theorem dX4_count_59 : decode cX4_count 59 = .ok (.getfield 87, 3) := by decide +kernel
theorem dX4_count_62 : decode cX4_count 62 = .ok (.iload 5, 2) := by decide +kernel
theorem dX4_count_64 : decode cX4_count 64 = .ok (.iaload, 1) := by decide +kernel
theorem dX4_count_65 : decode cX4_count 65 = .ok (.iconst (-1), 1) := by decide +kernel
theorem dX4_count_66 : decode cX4_count 66 = .ok (.if_icmp .ne 7, 3) := by decide +kernel
theorem dX4_count_69 : decode cX4_count 69 = .ok (.iconst 0, 1) := by decide +kernel
theorem dX4_count_70 : decode cX4_count 70 = .ok (.goto 4, 3) := by decide +kernel
theorem dX4_count_73 : decode cX4_count 73 = .ok (.iconst 1, 1) := by decide +kernel
theorem dX4_count_74 : decode cX4_count 74 = .ok (.iadd, 1) := by decide +kernel
theorem dX4_count_75 : decode cX4_count 75 = .ok (.istore_n 3, 1) := by decide +kernel
theorem dX4_count_76 : decode cX4_count 76 = .ok (.iload 4, 2) := by decide +kernel
theorem dX4_count_78 : decode cX4_count 78 = .ok (.aload_n 0, 1) := by decide +kernel
theorem dX4_count_79 : decode cX4_count 79 = .ok (.getfield 90, 3) := by decide +kernel
theorem dX4_count_82 : decode cX4_count 82 = .ok (.iload 5, 2) := by decide +kernel
theorem dX4_count_84 : decode cX4_count 84 = .ok (.iaload, 1) := by decide +kernel
theorem dX4_count_85 : decode cX4_count 85 = .ok (.invokestatic 174, 3) := by decide +kernel
theorem dX4_count_88 : decode cX4_count 88 = .ok (.istore 4, 2) := by decide +kernel
theorem dX4_count_90 : decode cX4_count 90 = .ok (.iinc 5 1, 3) := by decide +kernel
theorem dX4_count_93 : decode cX4_count 93 = .ok (.goto (-45), 3) := by decide +kernel
theorem dX4_count_96 : decode cX4_count 96 = .ok (.iload_n 1, 1) := by decide +kernel
theorem dX4_count_97 : decode cX4_count 97 = .ok (.tableswitch 97 0 9 #[55, 60, 62, 67, 72, 77, 82, 84, 89, 94], 55) := by decide +kernel
theorem dX4_count_152 : decode cX4_count 152 = .ok (.aload_n 0, 1) := by decide +kernel
theorem dX4_count_153 : decode cX4_count 153 = .ok (.getfield 108, 3) := by decide +kernel
theorem dX4_count_156 : decode cX4_count 156 = .ok (.ireturn, 1) := by decide +kernel
theorem dX4_count_157 : decode cX4_count 157 = .ok (.iload_n 2, 1) := by decide +kernel
theorem dX4_count_158 : decode cX4_count 158 = .ok (.ireturn, 1) := by decide +kernel
theorem dX4_count_159 : decode cX4_count 159 = .ok (.aload_n 0, 1) := by decide +kernel
theorem dX4_count_160 : decode cX4_count 160 = .ok (.getfield 115, 3) := by decide +kernel
theorem dX4_count_163 : decode cX4_count 163 = .ok (.ireturn, 1) := by decide +kernel
theorem dX4_count_164 : decode cX4_count 164 = .ok (.aload_n 0, 1) := by decide +kernel
theorem dX4_count_165 : decode cX4_count 165 = .ok (.getfield 118, 3) := by decide +kernel
theorem dX4_count_168 : decode cX4_count 168 = .ok (.ireturn, 1) := by decide +kernel
theorem dX4_count_169 : decode cX4_count 169 = .ok (.aload_n 0, 1) := by decide +kernel
theorem dX4_count_170 : decode cX4_count 170 = .ok (.getfield 186, 3) := by decide +kernel
theorem dX4_count_173 : decode cX4_count 173 = .ok (.ireturn, 1) := by decide +kernel
theorem dX4_count_174 : decode cX4_count 174 = .ok (.aload_n 0, 1) := by decide +kernel
theorem dX4_count_175 : decode cX4_count 175 = .ok (.getfield 129, 3) := by decide +kernel
theorem dX4_count_178 : decode cX4_count 178 = .ok (.ireturn, 1) := by decide +kernel
theorem dX4_count_179 : decode cX4_count 179 = .ok (.iload_n 3, 1) := by decide +kernel
theorem dX4_count_180 : decode cX4_count 180 = .ok (.ireturn, 1) := by decide +kernel
theorem dX4_count_181 : decode cX4_count 181 = .ok (.aload_n 0, 1) := by decide +kernel
theorem dX4_count_182 : decode cX4_count 182 = .ok (.getfield 136, 3) := by decide +kernel
theorem dX4_count_185 : decode cX4_count 185 = .ok (.ireturn, 1) := by decide +kernel
theorem dX4_count_186 : decode cX4_count 186 = .ok (.aload_n 0, 1) := by decide +kernel
theorem dX4_count_187 : decode cX4_count 187 = .ok (.getfield 156, 3) := by decide +kernel
theorem dX4_count_190 : decode cX4_count 190 = .ok (.ireturn, 1) := by decide +kernel
theorem dX4_count_191 : decode cX4_count 191 = .ok (.iload 4, 2) := by decide +kernel
theorem dX4_count_193 : decode cX4_count 193 = .ok (.ireturn, 1) := by decide +kernel
theorem dX4_count_194 : decode cX4_count 194 = .ok (.iconst (-1), 1) := by decide +kernel
theorem dX4_count_195 : decode cX4_count 195 = .ok (.ireturn, 1) := by decide +kernel
theorem dX4_isWithin_0 : decode cX4_isWithin 0 = .ok (.iconst 0, 1) := by decide +kernel
theorem dX4_isWithin_1 : decode cX4_isWithin 1 = .ok (.istore_n 3, 1) := by decide +kernel
theorem dX4_isWithin_2 : decode cX4_isWithin 2 = .ok (.iload_n 3, 1) := by decide +kernel
theorem dX4_isWithin_3 : decode cX4_isWithin 3 = .ok (.aload_n 0, 1) := by decide +kernel
theorem dX4_isWithin_4 : decode cX4_isWithin 4 = .ok (.getfield 108, 3) := by decide +kernel
theorem dX4_isWithin_7 : decode cX4_isWithin 7 = .ok (.if_icmp .ge 36, 3) := by decide +kernel
theorem dX4_isWithin_10 : decode cX4_isWithin 10 = .ok (.aload_n 0, 1) := by decide +kernel
theorem dX4_isWithin_11 : decode cX4_isWithin 11 = .ok (.getfield 99, 3) := by decide +kernel
theorem dX4_isWithin_14 : decode cX4_isWithin 14 = .ok (.bipush 31, 2) := by decide +kernel
theorem dX4_isWithin_16 : decode cX4_isWithin 16 = .ok (.iload_n 1, 1) := by decide +kernel
theorem dX4_isWithin_17 : decode cX4_isWithin 17 = .ok (.imul, 1) := by decide +kernel
theorem dX4_isWithin_18 : decode cX4_isWithin 18 = .ok (.iload_n 3, 1) := by decide +kernel
theorem dX4_isWithin_19 : decode cX4_isWithin 19 = .ok (.iadd, 1) := by decide +kernel
theorem dX4_isWithin_20 : decode cX4_isWithin 20 = .ok (.iaload, 1) := by decide +kernel
theorem dX4_isWithin_21 : decode cX4_isWithin 21 = .ok (.aload_n 0, 1) := by decide +kernel
theorem dX4_isWithin_22 : decode cX4_isWithin 22 = .ok (.getfield 99, 3) := by decide +kernel
theorem dX4_isWithin_25 : decode cX4_isWithin 25 = .ok (.bipush 31, 2) := by decide +kernel
theorem dX4_isWithin_27 : decode cX4_isWithin 27 = .ok (.iload_n 2, 1) := by decide +kernel
theorem dX4_isWithin_28 : decode cX4_isWithin 28 = .ok (.imul, 1) := by decide +kernel
theorem dX4_isWithin_29 : decode cX4_isWithin 29 = .ok (.iload_n 3, 1) := by decide +kernel
theorem dX4_isWithin_30 : decode cX4_isWithin 30 = .ok (.iadd, 1) := by decide +kernel
theorem dX4_isWithin_31 : decode cX4_isWithin 31 = .ok (.iaload, 1) := by decide +kernel
theorem dX4_isWithin_32 : decode cX4_isWithin 32 = .ok (.if_icmp .le 5, 3) := by decide +kernel
theorem dX4_isWithin_35 : decode cX4_isWithin 35 = .ok (.iconst 0, 1) := by decide +kernel
theorem dX4_isWithin_36 : decode cX4_isWithin 36 = .ok (.ireturn, 1) := by decide +kernel
theorem dX4_isWithin_37 : decode cX4_isWithin 37 = .ok (.iinc 3 1, 3) := by decide +kernel
theorem dX4_isWithin_40 : decode cX4_isWithin 40 = .ok (.goto (-38), 3) := by decide +kernel
theorem dX4_isWithin_43 : decode cX4_isWithin 43 = .ok (.iconst 1, 1) := by decide +kernel
theorem dX4_isWithin_44 : decode cX4_isWithin 44 = .ok (.ireturn, 1) := by decide +kernel
theorem dX4_isLate_0 : decode cX4_isLate 0 = .ok (.iconst 0, 1) := by decide +kernel
theorem dX4_isLate_1 : decode cX4_isLate 1 = .ok (.istore_n 2, 1) := by decide +kernel
theorem dX4_isLate_2 : decode cX4_isLate 2 = .ok (.iload_n 2, 1) := by decide +kernel
theorem dX4_isLate_3 : decode cX4_isLate 3 = .ok (.aload_n 0, 1) := by decide +kernel
theorem dX4_isLate_4 : decode cX4_isLate 4 = .ok (.getfield 108, 3) := by decide +kernel
theorem dX4_isLate_7 : decode cX4_isLate 7 = .ok (.if_icmp .ge 60, 3) := by decide +kernel
theorem dX4_isLate_10 : decode cX4_isLate 10 = .ok (.iconst 0, 1) := by decide +kernel
theorem dX4_isLate_11 : decode cX4_isLate 11 = .ok (.istore_n 3, 1) := by decide +kernel
theorem dX4_isLate_12 : decode cX4_isLate 12 = .ok (.iload_n 3, 1) := by decide +kernel
theorem dX4_isLate_13 : decode cX4_isLate 13 = .ok (.aload_n 0, 1) := by decide +kernel
theorem dX4_isLate_14 : decode cX4_isLate 14 = .ok (.getfield 99, 3) := by decide +kernel
theorem dX4_isLate_17 : decode cX4_isLate 17 = .ok (.bipush 31, 2) := by decide +kernel
theorem dX4_isLate_19 : decode cX4_isLate 19 = .ok (.iload_n 1, 1) := by decide +kernel
theorem dX4_isLate_20 : decode cX4_isLate 20 = .ok (.imul, 1) := by decide +kernel
theorem dX4_isLate_21 : decode cX4_isLate 21 = .ok (.iload_n 2, 1) := by decide +kernel
theorem dX4_isLate_22 : decode cX4_isLate 22 = .ok (.iadd, 1) := by decide +kernel
theorem dX4_isLate_23 : decode cX4_isLate 23 = .ok (.iaload, 1) := by decide +kernel
theorem dX4_isLate_24 : decode cX4_isLate 24 = .ok (.if_icmp .ge 37, 3) := by decide +kernel
theorem dX4_isLate_27 : decode cX4_isLate 27 = .ok (.aload_n 0, 1) := by decide +kernel
theorem dX4_isLate_28 : decode cX4_isLate 28 = .ok (.getfield 84, 3) := by decide +kernel
theorem dX4_isLate_31 : decode cX4_isLate 31 = .ok (.aload_n 0, 1) := by decide +kernel
theorem dX4_isLate_32 : decode cX4_isLate 32 = .ok (.getfield 54, 3) := by decide +kernel
theorem dX4_isLate_35 : decode cX4_isLate 35 = .ok (.sipush 512, 3) := by decide +kernel
theorem dX4_isLate_38 : decode cX4_isLate 38 = .ok (.iload_n 2, 1) := by decide +kernel
theorem dX4_isLate_39 : decode cX4_isLate 39 = .ok (.imul, 1) := by decide +kernel
theorem dX4_isLate_40 : decode cX4_isLate 40 = .ok (.iload_n 3, 1) := by decide +kernel
theorem dX4_isLate_41 : decode cX4_isLate 41 = .ok (.iadd, 1) := by decide +kernel
theorem dX4_isLate_42 : decode cX4_isLate 42 = .ok (.iaload, 1) := by decide +kernel
theorem dX4_isLate_43 : decode cX4_isLate 43 = .ok (.iaload, 1) := by decide +kernel
theorem dX4_isLate_44 : decode cX4_isLate 44 = .ok (.aload_n 0, 1) := by decide +kernel
theorem dX4_isLate_45 : decode cX4_isLate 45 = .ok (.getfield 87, 3) := by decide +kernel
theorem dX4_isLate_48 : decode cX4_isLate 48 = .ok (.iload_n 1, 1) := by decide +kernel
theorem dX4_isLate_49 : decode cX4_isLate 49 = .ok (.iaload, 1) := by decide +kernel
theorem dX4_isLate_50 : decode cX4_isLate 50 = .ok (.if_icmp .le 5, 3) := by decide +kernel
theorem dX4_isLate_53 : decode cX4_isLate 53 = .ok (.iconst 1, 1) := by decide +kernel
theorem dX4_isLate_54 : decode cX4_isLate 54 = .ok (.ireturn, 1) := by decide +kernel
theorem dX4_isLate_55 : decode cX4_isLate 55 = .ok (.iinc 3 1, 3) := by decide +kernel
theorem dX4_isLate_58 : decode cX4_isLate 58 = .ok (.goto (-46), 3) := by decide +kernel
theorem dX4_isLate_61 : decode cX4_isLate 61 = .ok (.iinc 2 1, 3) := by decide +kernel
theorem dX4_isLate_64 : decode cX4_isLate 64 = .ok (.goto (-62), 3) := by decide +kernel
theorem dX4_isLate_67 : decode cX4_isLate 67 = .ok (.iconst 0, 1) := by decide +kernel
theorem dX4_isLate_68 : decode cX4_isLate 68 = .ok (.ireturn, 1) := by decide +kernel
theorem dX4_astray_0 : decode cX4_astray 0 = .ok (.aload_n 0, 1) := by decide +kernel
theorem dX4_astray_1 : decode cX4_astray 1 = .ok (.iconst 0, 1) := by decide +kernel
theorem dX4_astray_2 : decode cX4_astray 2 = .ok (.putfield 112, 3) := by decide +kernel
theorem dX4_astray_5 : decode cX4_astray 5 = .ok (.iconst 0, 1) := by decide +kernel
theorem dX4_astray_6 : decode cX4_astray 6 = .ok (.istore_n 1, 1) := by decide +kernel
theorem dX4_astray_7 : decode cX4_astray 7 = .ok (.iconst 1, 1) := by decide +kernel
theorem dX4_astray_8 : decode cX4_astray 8 = .ok (.istore_n 2, 1) := by decide +kernel
theorem dX4_astray_9 : decode cX4_astray 9 = .ok (.iload_n 2, 1) := by decide +kernel
theorem dX4_astray_10 : decode cX4_astray 10 = .ok (.aload_n 0, 1) := by decide +kernel
theorem dX4_astray_11 : decode cX4_astray 11 = .ok (.getfield 129, 3) := by decide +kernel
theorem dX4_astray_14 : decode cX4_astray 14 = .ok (.if_icmp .gt 210, 3) := by decide +kernel
theorem dX4_astray_17 : decode cX4_astray 17 = .ok (.aload_n 0, 1) := by decide +kernel
theorem dX4_astray_18 : decode cX4_astray 18 = .ok (.getfield 102, 3) := by decide +kernel
theorem dX4_astray_21 : decode cX4_astray 21 = .ok (.iload_n 2, 1) := by decide +kernel
theorem dX4_astray_22 : decode cX4_astray 22 = .ok (.baload, 1) := by decide +kernel
theorem dX4_astray_23 : decode cX4_astray 23 = .ok (.ifCond .ne 6, 3) := by decide +kernel
theorem dX4_astray_26 : decode cX4_astray 26 = .ok (.goto 192, 3) := by decide +kernel
theorem dX4_astray_29 : decode cX4_astray 29 = .ok (.iload_n 1, 1) := by decide +kernel
theorem dX4_astray_30 : decode cX4_astray 30 = .ok (.aload_n 0, 1) := by decide +kernel
theorem dX4_astray_31 : decode cX4_astray 31 = .ok (.getfield 87, 3) := by decide +kernel
theorem dX4_astray_34 : decode cX4_astray 34 = .ok (.iload_n 2, 1) := by decide +kernel
theorem dX4_astray_35 : decode cX4_astray 35 = .ok (.iaload, 1) := by decide +kernel
theorem dX4_astray_36 : decode cX4_astray 36 = .ok (.iconst (-1), 1) := by decide +kernel
theorem dX4_astray_37 : decode cX4_astray 37 = .ok (.if_icmp .eq 15, 3) := by decide +kernel
theorem dX4_astray_40 : decode cX4_astray 40 = .ok (.aload_n 0, 1) := by decide +kernel
theorem dX4_astray_41 : decode cX4_astray 41 = .ok (.iload_n 2, 1) := by decide +kernel
theorem dX4_astray_42 : decode cX4_astray 42 = .ok (.invokevirtual 216, 3) := by decide +kernel
theorem dX4_astray_45 : decode cX4_astray 45 = .ok (.ifCond .eq 7, 3) := by decide +kernel
theorem dX4_astray_48 : decode cX4_astray 48 = .ok (.iconst 1, 1) := by decide +kernel
theorem dX4_astray_49 : decode cX4_astray 49 = .ok (.goto 4, 3) := by decide +kernel
theorem dX4_astray_52 : decode cX4_astray 52 = .ok (.iconst 0, 1) := by decide +kernel
theorem dX4_astray_53 : decode cX4_astray 53 = .ok (.iadd, 1) := by decide +kernel
theorem dX4_astray_54 : decode cX4_astray 54 = .ok (.istore_n 1, 1) := by decide +kernel
theorem dX4_astray_55 : decode cX4_astray 55 = .ok (.iconst 1, 1) := by decide +kernel
theorem dX4_astray_56 : decode cX4_astray 56 = .ok (.istore_n 3, 1) := by decide +kernel
theorem dX4_astray_57 : decode cX4_astray 57 = .ok (.iload_n 3, 1) := by decide +kernel
theorem dX4_astray_58 : decode cX4_astray 58 = .ok (.aload_n 0, 1) := by decide +kernel
theorem dX4_astray_59 : decode cX4_astray 59 = .ok (.getfield 129, 3) := by decide +kernel
theorem dX4_astray_62 : decode cX4_astray 62 = .ok (.if_icmp .gt 156, 3) := by decide +kernel
theorem dX4_astray_65 : decode cX4_astray 65 = .ok (.iload_n 3, 1) := by decide +kernel
theorem dX4_astray_66 : decode cX4_astray 66 = .ok (.iload_n 2, 1) := by decide +kernel
theorem dX4_astray_67 : decode cX4_astray 67 = .ok (.if_icmp .eq 145, 3) := by decide +kernel
theorem dX4_astray_70 : decode cX4_astray 70 = .ok (.aload_n 0, 1) := by decide +kernel
theorem dX4_astray_71 : decode cX4_astray 71 = .ok (.getfield 102, 3) := by decide +kernel
theorem dX4_astray_74 : decode cX4_astray 74 = .ok (.iload_n 3, 1) := by decide +kernel
theorem dX4_astray_75 : decode cX4_astray 75 = .ok (.baload, 1) := by decide +kernel
theorem dX4_astray_76 : decode cX4_astray 76 = .ok (.ifCond .ne 6, 3) := by decide +kernel
theorem dX4_astray_79 : decode cX4_astray 79 = .ok (.goto 133, 3) := by decide +kernel
theorem dX4_astray_82 : decode cX4_astray 82 = .ok (.aload_n 0, 1) := by decide +kernel
theorem dX4_astray_83 : decode cX4_astray 83 = .ok (.iload_n 2, 1) := by decide +kernel
theorem dX4_astray_84 : decode cX4_astray 84 = .ok (.iload_n 3, 1) := by decide +kernel
theorem dX4_astray_85 : decode cX4_astray 85 = .ok (.invokevirtual 219, 3) := by decide +kernel
theorem dX4_astray_88 : decode cX4_astray 88 = .ok (.istore 4, 2) := by decide +kernel
theorem dX4_astray_90 : decode cX4_astray 90 = .ok (.iload_n 1, 1) := by decide +kernel
theorem dX4_astray_91 : decode cX4_astray 91 = .ok (.iload_n 3, 1) := by decide +kernel
theorem dX4_astray_92 : decode cX4_astray 92 = .ok (.iload_n 2, 1) := by decide +kernel
theorem dX4_astray_93 : decode cX4_astray 93 = .ok (.if_icmp .le 21, 3) := by decide +kernel
theorem dX4_astray_96 : decode cX4_astray 96 = .ok (.iload 4, 2) := by decide +kernel
theorem dX4_astray_98 : decode cX4_astray 98 = .ok (.ifCond .ne 16, 3) := by decide +kernel
theorem dX4_astray_101 : decode cX4_astray 101 = .ok (.aload_n 0, 1) := by decide +kernel
theorem dX4_astray_102 : decode cX4_astray 102 = .ok (.iload_n 3, 1) := by decide +kernel
theorem dX4_astray_103 : decode cX4_astray 103 = .ok (.iload_n 2, 1) := by decide +kernel
theorem dX4_astray_104 : decode cX4_astray 104 = .ok (.invokevirtual 219, 3) := by decide +kernel
theorem dX4_astray_107 : decode cX4_astray 107 = .ok (.ifCond .ne 7, 3) := by decide +kernel
theorem dX4_astray_110 : decode cX4_astray 110 = .ok (.iconst 1, 1) := by decide +kernel
theorem dX4_astray_111 : decode cX4_astray 111 = .ok (.goto 4, 3) := by decide +kernel
theorem dX4_astray_114 : decode cX4_astray 114 = .ok (.iconst 0, 1) := by decide +kernel
theorem dX4_astray_115 : decode cX4_astray 115 = .ok (.iadd, 1) := by decide +kernel
theorem dX4_astray_116 : decode cX4_astray 116 = .ok (.istore_n 1, 1) := by decide +kernel
theorem dX4_astray_117 : decode cX4_astray 117 = .ok (.aload_n 0, 1) := by decide +kernel
theorem dX4_astray_118 : decode cX4_astray 118 = .ok (.getfield 87, 3) := by decide +kernel
theorem dX4_astray_121 : decode cX4_astray 121 = .ok (.iload_n 2, 1) := by decide +kernel
theorem dX4_astray_122 : decode cX4_astray 122 = .ok (.iaload, 1) := by decide +kernel
theorem dX4_astray_123 : decode cX4_astray 123 = .ok (.iconst (-1), 1) := by decide +kernel
theorem dX4_astray_124 : decode cX4_astray 124 = .ok (.if_icmp .eq 22, 3) := by decide +kernel
theorem dX4_astray_127 : decode cX4_astray 127 = .ok (.aload_n 0, 1) := by decide +kernel
theorem dX4_astray_128 : decode cX4_astray 128 = .ok (.getfield 87, 3) := by decide +kernel
theorem dX4_astray_131 : decode cX4_astray 131 = .ok (.iload_n 2, 1) := by decide +kernel
theorem dX4_astray_132 : decode cX4_astray 132 = .ok (.iaload, 1) := by decide +kernel
theorem dX4_astray_133 : decode cX4_astray 133 = .ok (.aload_n 0, 1) := by decide +kernel
theorem dX4_astray_134 : decode cX4_astray 134 = .ok (.getfield 84, 3) := by decide +kernel
theorem dX4_astray_137 : decode cX4_astray 137 = .ok (.iload_n 3, 1) := by decide +kernel
theorem dX4_astray_138 : decode cX4_astray 138 = .ok (.iaload, 1) := by decide +kernel
theorem dX4_astray_139 : decode cX4_astray 139 = .ok (.if_icmp .ge 7, 3) := by decide +kernel
theorem dX4_astray_142 : decode cX4_astray 142 = .ok (.iconst 1, 1) := by decide +kernel
theorem dX4_astray_143 : decode cX4_astray 143 = .ok (.goto 4, 3) := by decide +kernel
theorem dX4_astray_146 : decode cX4_astray 146 = .ok (.iconst 0, 1) := by decide +kernel
theorem dX4_astray_147 : decode cX4_astray 147 = .ok (.istore 5, 2) := by decide +kernel
theorem dX4_astray_149 : decode cX4_astray 149 = .ok (.aload_n 0, 1) := by decide +kernel
theorem dX4_astray_150 : decode cX4_astray 150 = .ok (.iload_n 2, 1) := by decide +kernel
theorem dX4_astray_151 : decode cX4_astray 151 = .ok (.invokevirtual 159, 3) := by decide +kernel
theorem dX4_astray_154 : decode cX4_astray 154 = .ok (.ifCond .ne 32, 3) := by decide +kernel
theorem dX4_astray_157 : decode cX4_astray 157 = .ok (.aload_n 0, 1) := by decide +kernel
theorem dX4_astray_158 : decode cX4_astray 158 = .ok (.getfield 99, 3) := by decide +kernel
theorem dX4_astray_161 : decode cX4_astray 161 = .ok (.bipush 31, 2) := by decide +kernel
theorem dX4_astray_163 : decode cX4_astray 163 = .ok (.iload_n 3, 1) := by decide +kernel
theorem dX4_astray_164 : decode cX4_astray 164 = .ok (.imul, 1) := by decide +kernel
theorem dX4_astray_165 : decode cX4_astray 165 = .ok (.aload_n 0, 1) := by decide +kernel
theorem dX4_astray_166 : decode cX4_astray 166 = .ok (.getfield 72, 3) := by decide +kernel
theorem dX4_astray_169 : decode cX4_astray 169 = .ok (.iload_n 2, 1) := by decide +kernel
theorem dX4_astray_170 : decode cX4_astray 170 = .ok (.iaload, 1) := by decide +kernel
theorem dX4_astray_171 : decode cX4_astray 171 = .ok (.iadd, 1) := by decide +kernel
theorem dX4_astray_172 : decode cX4_astray 172 = .ok (.iaload, 1) := by decide +kernel
theorem dX4_astray_173 : decode cX4_astray 173 = .ok (.aload_n 0, 1) := by decide +kernel
theorem dX4_astray_174 : decode cX4_astray 174 = .ok (.getfield 96, 3) := by decide +kernel
theorem dX4_astray_177 : decode cX4_astray 177 = .ok (.iload_n 2, 1) := by decide +kernel
theorem dX4_astray_178 : decode cX4_astray 178 = .ok (.iaload, 1) := by decide +kernel
theorem dX4_astray_179 : decode cX4_astray 179 = .ok (.if_icmp .ge 7, 3) := by decide +kernel
theorem dX4_astray_182 : decode cX4_astray 182 = .ok (.iconst 1, 1) := by decide +kernel
theorem dX4_astray_183 : decode cX4_astray 183 = .ok (.goto 4, 3) := by decide +kernel
theorem dX4_astray_186 : decode cX4_astray 186 = .ok (.iconst 0, 1) := by decide +kernel
theorem dX4_astray_187 : decode cX4_astray 187 = .ok (.istore 6, 2) := by decide +kernel
theorem dX4_astray_189 : decode cX4_astray 189 = .ok (.iload_n 1, 1) := by decide +kernel
theorem dX4_astray_190 : decode cX4_astray 190 = .ok (.iload 5, 2) := by decide +kernel
theorem dX4_astray_192 : decode cX4_astray 192 = .ok (.ifCond .eq 17, 3) := by decide +kernel
theorem dX4_astray_195 : decode cX4_astray 195 = .ok (.iload 4, 2) := by decide +kernel
theorem dX4_astray_197 : decode cX4_astray 197 = .ok (.ifCond .eq 8, 3) := by decide +kernel
theorem dX4_astray_200 : decode cX4_astray 200 = .ok (.iload 6, 2) := by decide +kernel
theorem dX4_astray_202 : decode cX4_astray 202 = .ok (.ifCond .eq 7, 3) := by decide +kernel
theorem dX4_astray_205 : decode cX4_astray 205 = .ok (.iconst 1, 1) := by decide +kernel
theorem dX4_astray_206 : decode cX4_astray 206 = .ok (.goto 4, 3) := by decide +kernel
theorem dX4_astray_209 : decode cX4_astray 209 = .ok (.iconst 0, 1) := by decide +kernel
theorem dX4_astray_210 : decode cX4_astray 210 = .ok (.iadd, 1) := by decide +kernel
theorem dX4_astray_211 : decode cX4_astray 211 = .ok (.istore_n 1, 1) := by decide +kernel
theorem dX4_astray_212 : decode cX4_astray 212 = .ok (.iinc 3 1, 3) := by decide +kernel
theorem dX4_astray_215 : decode cX4_astray 215 = .ok (.goto (-158), 3) := by decide +kernel
theorem dX4_astray_218 : decode cX4_astray 218 = .ok (.iinc 2 1, 3) := by decide +kernel
theorem dX4_astray_221 : decode cX4_astray 221 = .ok (.goto (-212), 3) := by decide +kernel
theorem dX4_astray_224 : decode cX4_astray 224 = .ok (.iload_n 1, 1) := by decide +kernel
theorem dX4_astray_225 : decode cX4_astray 225 = .ok (.ireturn, 1) := by decide +kernel
theorem dL_cell_0 : decode cL_cell 0 = .ok (.iload_n 1, 1) := by decide +kernel
theorem dL_cell_1 : decode cL_cell 1 = .ok (.aload_n 0, 1) := by decide +kernel
theorem dL_cell_2 : decode cL_cell 2 = .ok (.arraylength, 1) := by decide +kernel
theorem dL_cell_3 : decode cL_cell 3 = .ok (.if_icmp .ge 9, 3) := by decide +kernel
theorem dL_cell_6 : decode cL_cell 6 = .ok (.aload_n 0, 1) := by decide +kernel
theorem dL_cell_7 : decode cL_cell 7 = .ok (.iload_n 1, 1) := by decide +kernel
theorem dL_cell_8 : decode cL_cell 8 = .ok (.iaload, 1) := by decide +kernel
theorem dL_cell_9 : decode cL_cell 9 = .ok (.goto 4, 3) := by decide +kernel
theorem dL_cell_12 : decode cL_cell 12 = .ok (.iconst 0, 1) := by decide +kernel
theorem dL_cell_13 : decode cL_cell 13 = .ok (.ireturn, 1) := by decide +kernel
