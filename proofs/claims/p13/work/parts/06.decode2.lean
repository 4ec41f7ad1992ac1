theorem dX3_crash_0 : decode cX3_crash 0 = .ok (.aload_n 0, 1) := by decide +kernel
theorem dX3_crash_1 : decode cX3_crash 1 = .ok (.iload_n 1, 1) := by decide +kernel
theorem dX3_crash_2 : decode cX3_crash 2 = .ok (.invokevirtual 33, 3) := by decide +kernel
theorem dX3_crash_5 : decode cX3_crash 5 = .ok (.ifCond .ne 13, 3) := by decide +kernel
theorem dX3_crash_8 : decode cX3_crash 8 = .ok (.new 37, 3) := by decide +kernel
theorem dX3_crash_11 : decode cX3_crash 11 = .ok (.dup, 1) := by decide +kernel
theorem dX3_crash_12 : decode cX3_crash 12 = .ok (.ldc 39, 2) := by decide +kernel
theorem dX3_crash_14 : decode cX3_crash 14 = .ok (.invokespecial 41, 3) := by decide +kernel
theorem dX3_crash_17 : decode cX3_crash 17 = .ok (.athrow, 1) := by decide +kernel
theorem dX3_crash_18 : decode cX3_crash 18 = .ok (.aload_n 0, 1) := by decide +kernel
theorem dX3_crash_19 : decode cX3_crash 19 = .ok (.getfield 11, 3) := by decide +kernel
theorem dX3_crash_22 : decode cX3_crash 22 = .ok (.iload_n 1, 1) := by decide +kernel
theorem dX3_crash_23 : decode cX3_crash 23 = .ok (.aaload, 1) := by decide +kernel
theorem dX3_crash_24 : decode cX3_crash 24 = .ok (.getfield 66, 3) := by decide +kernel
theorem dX3_crash_27 : decode cX3_crash 27 = .ok (.istore_n 2, 1) := by decide +kernel
theorem dX3_crash_28 : decode cX3_crash 28 = .ok (.iload_n 2, 1) := by decide +kernel
theorem dX3_crash_29 : decode cX3_crash 29 = .ok (.ifCond .eq 23, 3) := by decide +kernel
theorem dX3_crash_32 : decode cX3_crash 32 = .ok (.aload_n 0, 1) := by decide +kernel
theorem dX3_crash_33 : decode cX3_crash 33 = .ok (.getfield 11, 3) := by decide +kernel
theorem dX3_crash_36 : decode cX3_crash 36 = .ok (.iload_n 1, 1) := by decide +kernel
theorem dX3_crash_37 : decode cX3_crash 37 = .ok (.aaload, 1) := by decide +kernel
theorem dX3_crash_38 : decode cX3_crash 38 = .ok (.iconst 0, 1) := by decide +kernel
theorem dX3_crash_39 : decode cX3_crash 39 = .ok (.putfield 66, 3) := by decide +kernel
theorem dX3_crash_42 : decode cX3_crash 42 = .ok (.aload_n 0, 1) := by decide +kernel
theorem dX3_crash_43 : decode cX3_crash 43 = .ok (.dup, 1) := by decide +kernel
theorem dX3_crash_44 : decode cX3_crash 44 = .ok (.getfield 70, 3) := by decide +kernel
theorem dX3_crash_47 : decode cX3_crash 47 = .ok (.iconst 1, 1) := by decide +kernel
theorem dX3_crash_48 : decode cX3_crash 48 = .ok (.iadd, 1) := by decide +kernel
theorem dX3_crash_49 : decode cX3_crash 49 = .ok (.putfield 70, 3) := by decide +kernel
theorem dX3_crash_52 : decode cX3_crash 52 = .ok (.iload_n 2, 1) := by decide +kernel
theorem dX3_crash_53 : decode cX3_crash 53 = .ok (.ireturn, 1) := by decide +kernel
theorem dX3_told_0 : decode cX3_told 0 = .ok (.aload_n 0, 1) := by decide +kernel
theorem dX3_told_1 : decode cX3_told 1 = .ok (.iload_n 1, 1) := by decide +kernel
theorem dX3_told_2 : decode cX3_told 2 = .ok (.invokevirtual 74, 3) := by decide +kernel
theorem dX3_told_5 : decode cX3_told 5 = .ok (.astore_n 3, 1) := by decide +kernel
theorem dX3_told_6 : decode cX3_told 6 = .ok (.aload_n 3, 1) := by decide +kernel
theorem dX3_told_7 : decode cX3_told 7 = .ok (.ifnonnull 7, 3) := by decide +kernel
theorem dX3_told_10 : decode cX3_told 10 = .ok (.iconst (-1), 1) := by decide +kernel
theorem dX3_told_11 : decode cX3_told 11 = .ok (.goto 8, 3) := by decide +kernel
theorem dX3_told_14 : decode cX3_told 14 = .ok (.aload_n 3, 1) := by decide +kernel
theorem dX3_told_15 : decode cX3_told 15 = .ok (.iload_n 2, 1) := by decide +kernel
theorem dX3_told_16 : decode cX3_told 16 = .ok (.invokevirtual 78, 3) := by decide +kernel
theorem dX3_told_19 : decode cX3_told 19 = .ok (.ireturn, 1) := by decide +kernel
theorem dX3_answer_0 : decode cX3_answer 0 = .ok (.aload_n 0, 1) := by decide +kernel
theorem dX3_answer_1 : decode cX3_answer 1 = .ok (.iload_n 1, 1) := by decide +kernel
theorem dX3_answer_2 : decode cX3_answer 2 = .ok (.invokevirtual 74, 3) := by decide +kernel
theorem dX3_answer_5 : decode cX3_answer 5 = .ok (.astore_n 2, 1) := by decide +kernel
theorem dX3_answer_6 : decode cX3_answer 6 = .ok (.aload_n 2, 1) := by decide +kernel
theorem dX3_answer_7 : decode cX3_answer 7 = .ok (.ifnull 10, 3) := by decide +kernel
theorem dX3_answer_10 : decode cX3_answer 10 = .ok (.aload_n 2, 1) := by decide +kernel
theorem dX3_answer_11 : decode cX3_answer 11 = .ok (.invokevirtual 81, 3) := by decide +kernel
theorem dX3_answer_14 : decode cX3_answer 14 = .ok (.ifCond .ne 7, 3) := by decide +kernel
theorem dX3_answer_17 : decode cX3_answer 17 = .ok (.lconst 0, 1) := by decide +kernel
theorem dX3_answer_18 : decode cX3_answer 18 = .ok (.goto 8, 3) := by decide +kernel
theorem dX3_answer_21 : decode cX3_answer 21 = .ok (.aload_n 0, 1) := by decide +kernel
theorem dX3_answer_22 : decode cX3_answer 22 = .ok (.aload_n 2, 1) := by decide +kernel
theorem dX3_answer_23 : decode cX3_answer 23 = .ok (.invokevirtual 85, 3) := by decide +kernel
theorem dX3_answer_26 : decode cX3_answer 26 = .ok (.lreturn, 1) := by decide +kernel
theorem dX3_view_0 : decode cX3_view 0 = .ok (.aload_n 0, 1) := by decide +kernel
theorem dX3_view_1 : decode cX3_view 1 = .ok (.iload_n 1, 1) := by decide +kernel
theorem dX3_view_2 : decode cX3_view 2 = .ok (.invokevirtual 74, 3) := by decide +kernel
theorem dX3_view_5 : decode cX3_view 5 = .ok (.astore_n 3, 1) := by decide +kernel
theorem dX3_view_6 : decode cX3_view 6 = .ok (.aload_n 3, 1) := by decide +kernel
theorem dX3_view_7 : decode cX3_view 7 = .ok (.ifnull 18, 3) := by decide +kernel
theorem dX3_view_10 : decode cX3_view 10 = .ok (.aload_n 3, 1) := by decide +kernel
theorem dX3_view_11 : decode cX3_view 11 = .ok (.getfield 89, 3) := by decide +kernel
theorem dX3_view_14 : decode cX3_view 14 = .ok (.ifCond .eq 11, 3) := by decide +kernel
theorem dX3_view_17 : decode cX3_view 17 = .ok (.aload_n 0, 1) := by decide +kernel
theorem dX3_view_18 : decode cX3_view 18 = .ok (.iload_n 2, 1) := by decide +kernel
theorem dX3_view_19 : decode cX3_view 19 = .ok (.invokevirtual 33, 3) := by decide +kernel
theorem dX3_view_22 : decode cX3_view 22 = .ok (.ifCond .ne 7, 3) := by decide +kernel
theorem dX3_view_25 : decode cX3_view 25 = .ok (.iconst (-1), 1) := by decide +kernel
theorem dX3_view_26 : decode cX3_view 26 = .ok (.goto 9, 3) := by decide +kernel
theorem dX3_view_29 : decode cX3_view 29 = .ok (.aload_n 3, 1) := by decide +kernel
theorem dX3_view_30 : decode cX3_view 30 = .ok (.getfield 92, 3) := by decide +kernel
theorem dX3_view_33 : decode cX3_view 33 = .ok (.iload_n 2, 1) := by decide +kernel
theorem dX3_view_34 : decode cX3_view 34 = .ok (.iaload, 1) := by decide +kernel
theorem dX3_view_35 : decode cX3_view 35 = .ok (.ireturn, 1) := by decide +kernel
theorem dX3_node_0 : decode cX3_node 0 = .ok (.aload_n 0, 1) := by decide +kernel
theorem dX3_node_1 : decode cX3_node 1 = .ok (.iload_n 1, 1) := by decide +kernel
theorem dX3_node_2 : decode cX3_node 2 = .ok (.invokevirtual 33, 3) := by decide +kernel
theorem dX3_node_5 : decode cX3_node 5 = .ok (.ifCond .eq 16, 3) := by decide +kernel
theorem dX3_node_8 : decode cX3_node 8 = .ok (.aload_n 0, 1) := by decide +kernel
theorem dX3_node_9 : decode cX3_node 9 = .ok (.getfield 11, 3) := by decide +kernel
theorem dX3_node_12 : decode cX3_node 12 = .ok (.iload_n 1, 1) := by decide +kernel
theorem dX3_node_13 : decode cX3_node 13 = .ok (.aaload, 1) := by decide +kernel
theorem dX3_node_14 : decode cX3_node 14 = .ok (.iload_n 2, 1) := by decide +kernel
theorem dX3_node_15 : decode cX3_node 15 = .ok (.invokevirtual 96, 3) := by decide +kernel
theorem dX3_node_18 : decode cX3_node 18 = .ok (.goto 4, 3) := by decide +kernel
theorem dX3_node_21 : decode cX3_node 21 = .ok (.iconst (-1), 1) := by decide +kernel
theorem dX3_node_22 : decode cX3_node 22 = .ok (.ireturn, 1) := by decide +kernel
theorem dX3_kept_0 : decode cX3_kept 0 = .ok (.aload_n 0, 1) := by decide +kernel
theorem dX3_kept_1 : decode cX3_kept 1 = .ok (.iload_n 1, 1) := by decide +kernel
theorem dX3_kept_2 : decode cX3_kept 2 = .ok (.invokevirtual 33, 3) := by decide +kernel
theorem dX3_kept_5 : decode cX3_kept 5 = .ok (.ifCond .eq 25, 3) := by decide +kernel
theorem dX3_kept_8 : decode cX3_kept 8 = .ok (.aload_n 0, 1) := by decide +kernel
theorem dX3_kept_9 : decode cX3_kept 9 = .ok (.iload_n 2, 1) := by decide +kernel
theorem dX3_kept_10 : decode cX3_kept 10 = .ok (.invokevirtual 33, 3) := by decide +kernel
theorem dX3_kept_13 : decode cX3_kept 13 = .ok (.ifCond .eq 17, 3) := by decide +kernel
theorem dX3_kept_16 : decode cX3_kept 16 = .ok (.aload_n 0, 1) := by decide +kernel
theorem dX3_kept_17 : decode cX3_kept 17 = .ok (.getfield 11, 3) := by decide +kernel
theorem dX3_kept_20 : decode cX3_kept 20 = .ok (.iload_n 1, 1) := by decide +kernel
theorem dX3_kept_21 : decode cX3_kept 21 = .ok (.aaload, 1) := by decide +kernel
theorem dX3_kept_22 : decode cX3_kept 22 = .ok (.getfield 97, 3) := by decide +kernel
theorem dX3_kept_25 : decode cX3_kept 25 = .ok (.iload_n 2, 1) := by decide +kernel
theorem dX3_kept_26 : decode cX3_kept 26 = .ok (.iaload, 1) := by decide +kernel
theorem dX3_kept_27 : decode cX3_kept 27 = .ok (.goto 4, 3) := by decide +kernel
theorem dX3_kept_30 : decode cX3_kept 30 = .ok (.iconst (-1), 1) := by decide +kernel
theorem dX3_kept_31 : decode cX3_kept 31 = .ok (.ireturn, 1) := by decide +kernel
theorem dX3_message_0 : decode cX3_message 0 = .ok (.aload_n 0, 1) := by decide +kernel
theorem dX3_message_1 : decode cX3_message 1 = .ok (.getfield 23, 3) := by decide +kernel
theorem dX3_message_4 : decode cX3_message 4 = .ok (.iload_n 1, 1) := by decide +kernel
theorem dX3_message_5 : decode cX3_message 5 = .ok (.invokevirtual 55, 3) := by decide +kernel
theorem dX3_message_8 : decode cX3_message 8 = .ok (.ifCond .eq 15, 3) := by decide +kernel
theorem dX3_message_11 : decode cX3_message 11 = .ok (.aload_n 0, 1) := by decide +kernel
theorem dX3_message_12 : decode cX3_message 12 = .ok (.getfield 23, 3) := by decide +kernel
theorem dX3_message_15 : decode cX3_message 15 = .ok (.iload_n 1, 1) := by decide +kernel
theorem dX3_message_16 : decode cX3_message 16 = .ok (.iload_n 2, 1) := by decide +kernel
theorem dX3_message_17 : decode cX3_message 17 = .ok (.invokevirtual 100, 3) := by decide +kernel
theorem dX3_message_20 : decode cX3_message 20 = .ok (.goto 4, 3) := by decide +kernel
theorem dX3_message_23 : decode cX3_message 23 = .ok (.iconst (-1), 1) := by decide +kernel
theorem dX3_message_24 : decode cX3_message 24 = .ok (.ireturn, 1) := by decide +kernel
theorem dX3_vector_0 : decode cX3_vector 0 = .ok (.aload_n 0, 1) := by decide +kernel
theorem dX3_vector_1 : decode cX3_vector 1 = .ok (.getfield 23, 3) := by decide +kernel
theorem dX3_vector_4 : decode cX3_vector 4 = .ok (.iload_n 1, 1) := by decide +kernel
theorem dX3_vector_5 : decode cX3_vector 5 = .ok (.invokevirtual 55, 3) := by decide +kernel
theorem dX3_vector_8 : decode cX3_vector 8 = .ok (.ifCond .eq 23, 3) := by decide +kernel
theorem dX3_vector_11 : decode cX3_vector 11 = .ok (.aload_n 0, 1) := by decide +kernel
theorem dX3_vector_12 : decode cX3_vector 12 = .ok (.iload_n 2, 1) := by decide +kernel
theorem dX3_vector_13 : decode cX3_vector 13 = .ok (.invokevirtual 33, 3) := by decide +kernel
theorem dX3_vector_16 : decode cX3_vector 16 = .ok (.ifCond .eq 15, 3) := by decide +kernel
theorem dX3_vector_19 : decode cX3_vector 19 = .ok (.aload_n 0, 1) := by decide +kernel
theorem dX3_vector_20 : decode cX3_vector 20 = .ok (.getfield 23, 3) := by decide +kernel
theorem dX3_vector_23 : decode cX3_vector 23 = .ok (.iload_n 1, 1) := by decide +kernel
theorem dX3_vector_24 : decode cX3_vector 24 = .ok (.iload_n 2, 1) := by decide +kernel
theorem dX3_vector_25 : decode cX3_vector 25 = .ok (.invokevirtual 103, 3) := by decide +kernel
theorem dX3_vector_28 : decode cX3_vector 28 = .ok (.goto 4, 3) := by decide +kernel
theorem dX3_vector_31 : decode cX3_vector 31 = .ok (.iconst (-1), 1) := by decide +kernel
theorem dX3_vector_32 : decode cX3_vector 32 = .ok (.ireturn, 1) := by decide +kernel
theorem dX3_count_0 : decode cX3_count 0 = .ok (.iload_n 1, 1) := by decide +kernel
theorem dX3_count_1 : decode cX3_count 1 = .ok (.tableswitch 112 0 9 #[55, 61, 66, 74, 82, 87, 92, 97, 102, 107], 55) := by decide +kernel
theorem dX3_count_56 : decode cX3_count 56 = .ok (.aload_n 0, 1) := by decide +kernel
theorem dX3_count_57 : decode cX3_count 57 = .ok (.getfield 11, 3) := by decide +kernel
theorem dX3_count_60 : decode cX3_count 60 = .ok (.arraylength, 1) := by decide +kernel
theorem dX3_count_61 : decode cX3_count 61 = .ok (.ireturn, 1) := by decide +kernel
theorem dX3_count_62 : decode cX3_count 62 = .ok (.aload_n 0, 1) := by decide +kernel
theorem dX3_count_63 : decode cX3_count 63 = .ok (.invokevirtual 106, 3) := by decide +kernel
theorem dX3_count_66 : decode cX3_count 66 = .ok (.ireturn, 1) := by decide +kernel
theorem dX3_count_67 : decode cX3_count 67 = .ok (.aload_n 0, 1) := by decide +kernel
theorem dX3_count_68 : decode cX3_count 68 = .ok (.getfield 23, 3) := by decide +kernel
theorem dX3_count_71 : decode cX3_count 71 = .ok (.getfield 110, 3) := by decide +kernel
theorem dX3_count_74 : decode cX3_count 74 = .ok (.ireturn, 1) := by decide +kernel
theorem dX3_count_75 : decode cX3_count 75 = .ok (.aload_n 0, 1) := by decide +kernel
theorem dX3_count_76 : decode cX3_count 76 = .ok (.getfield 23, 3) := by decide +kernel
theorem dX3_count_79 : decode cX3_count 79 = .ok (.getfield 113, 3) := by decide +kernel
theorem dX3_count_82 : decode cX3_count 82 = .ok (.ireturn, 1) := by decide +kernel
theorem dX3_count_83 : decode cX3_count 83 = .ok (.aload_n 0, 1) := by decide +kernel
theorem dX3_count_84 : decode cX3_count 84 = .ok (.getfield 116, 3) := by decide +kernel
theorem dX3_count_87 : decode cX3_count 87 = .ok (.ireturn, 1) := by decide +kernel
theorem dX3_count_88 : decode cX3_count 88 = .ok (.aload_n 0, 1) := by decide +kernel
theorem dX3_count_89 : decode cX3_count 89 = .ok (.getfield 119, 3) := by decide +kernel
theorem dX3_count_92 : decode cX3_count 92 = .ok (.ireturn, 1) := by decide +kernel
theorem dX3_count_93 : decode cX3_count 93 = .ok (.aload_n 0, 1) := by decide +kernel
theorem dX3_count_94 : decode cX3_count 94 = .ok (.getfield 122, 3) := by decide +kernel
theorem dX3_count_97 : decode cX3_count 97 = .ok (.ireturn, 1) := by decide +kernel
theorem dX3_count_98 : decode cX3_count 98 = .ok (.aload_n 0, 1) := by decide +kernel
theorem dX3_count_99 : decode cX3_count 99 = .ok (.getfield 70, 3) := by decide +kernel
theorem dX3_count_102 : decode cX3_count 102 = .ok (.ireturn, 1) := by decide +kernel
theorem dX3_count_103 : decode cX3_count 103 = .ok (.aload_n 0, 1) := by decide +kernel
theorem dX3_count_104 : decode cX3_count 104 = .ok (.getfield 125, 3) := by decide +kernel
theorem dX3_count_107 : decode cX3_count 107 = .ok (.ireturn, 1) := by decide +kernel
theorem dX3_count_108 : decode cX3_count 108 = .ok (.aload_n 0, 1) := by decide +kernel
theorem dX3_count_109 : decode cX3_count 109 = .ok (.getfield 128, 3) := by decide +kernel
theorem dX3_count_112 : decode cX3_count 112 = .ok (.ireturn, 1) := by decide +kernel
theorem dX3_count_113 : decode cX3_count 113 = .ok (.iconst (-1), 1) := by decide +kernel
theorem dX3_count_114 : decode cX3_count 114 = .ok (.ireturn, 1) := by decide +kernel
theorem dX3_astray_0 : decode cX3_astray 0 = .ok (.iconst 0, 1) := by decide +kernel
theorem dX3_astray_1 : decode cX3_astray 1 = .ok (.istore_n 1, 1) := by decide +kernel
theorem dX3_astray_2 : decode cX3_astray 2 = .ok (.iconst 1, 1) := by decide +kernel
theorem dX3_astray_3 : decode cX3_astray 3 = .ok (.istore_n 2, 1) := by decide +kernel
theorem dX3_astray_4 : decode cX3_astray 4 = .ok (.iload_n 2, 1) := by decide +kernel
theorem dX3_astray_5 : decode cX3_astray 5 = .ok (.aload_n 0, 1) := by decide +kernel
theorem dX3_astray_6 : decode cX3_astray 6 = .ok (.getfield 119, 3) := by decide +kernel
theorem dX3_astray_9 : decode cX3_astray 9 = .ok (.if_icmp .gt 91, 3) := by decide +kernel
theorem dX3_astray_12 : decode cX3_astray 12 = .ok (.aload_n 0, 1) := by decide +kernel
theorem dX3_astray_13 : decode cX3_astray 13 = .ok (.iload_n 2, 1) := by decide +kernel
theorem dX3_astray_14 : decode cX3_astray 14 = .ok (.invokevirtual 74, 3) := by decide +kernel
theorem dX3_astray_17 : decode cX3_astray 17 = .ok (.astore_n 3, 1) := by decide +kernel
theorem dX3_astray_18 : decode cX3_astray 18 = .ok (.aload_n 3, 1) := by decide +kernel
theorem dX3_astray_19 : decode cX3_astray 19 = .ok (.ifnull 75, 3) := by decide +kernel
theorem dX3_astray_22 : decode cX3_astray 22 = .ok (.aload_n 3, 1) := by decide +kernel
theorem dX3_astray_23 : decode cX3_astray 23 = .ok (.getfield 89, 3) := by decide +kernel
theorem dX3_astray_26 : decode cX3_astray 26 = .ok (.ifCond .ne 6, 3) := by decide +kernel
theorem dX3_astray_29 : decode cX3_astray 29 = .ok (.goto 65, 3) := by decide +kernel
theorem dX3_astray_32 : decode cX3_astray 32 = .ok (.aload_n 0, 1) := by decide +kernel
theorem dX3_astray_33 : decode cX3_astray 33 = .ok (.aload_n 3, 1) := by decide +kernel
theorem dX3_astray_34 : decode cX3_astray 34 = .ok (.invokevirtual 131, 3) := by decide +kernel
theorem dX3_astray_37 : decode cX3_astray 37 = .ok (.ifCond .eq 6, 3) := by decide +kernel
theorem dX3_astray_40 : decode cX3_astray 40 = .ok (.iinc 1 1, 3) := by decide +kernel
theorem dX3_astray_43 : decode cX3_astray 43 = .ok (.iload_n 2, 1) := by decide +kernel
theorem dX3_astray_44 : decode cX3_astray 44 = .ok (.iconst 1, 1) := by decide +kernel
theorem dX3_astray_45 : decode cX3_astray 45 = .ok (.iadd, 1) := by decide +kernel
theorem dX3_astray_46 : decode cX3_astray 46 = .ok (.istore 4, 2) := by decide +kernel
theorem dX3_astray_48 : decode cX3_astray 48 = .ok (.iload 4, 2) := by decide +kernel
theorem dX3_astray_50 : decode cX3_astray 50 = .ok (.aload_n 0, 1) := by decide +kernel
theorem dX3_astray_51 : decode cX3_astray 51 = .ok (.getfield 119, 3) := by decide +kernel
theorem dX3_astray_54 : decode cX3_astray 54 = .ok (.if_icmp .gt 40, 3) := by decide +kernel
theorem dX3_astray_57 : decode cX3_astray 57 = .ok (.aload_n 0, 1) := by decide +kernel
theorem dX3_astray_58 : decode cX3_astray 58 = .ok (.iload 4, 2) := by decide +kernel
theorem dX3_astray_60 : decode cX3_astray 60 = .ok (.invokevirtual 74, 3) := by decide +kernel
theorem dX3_astray_63 : decode cX3_astray 63 = .ok (.astore 5, 2) := by decide +kernel
theorem dX3_astray_65 : decode cX3_astray 65 = .ok (.aload 5, 2) := by decide +kernel
theorem dX3_astray_67 : decode cX3_astray 67 = .ok (.ifnull 21, 3) := by decide +kernel
theorem dX3_astray_70 : decode cX3_astray 70 = .ok (.aload 5, 2) := by decide +kernel
theorem dX3_astray_72 : decode cX3_astray 72 = .ok (.getfield 89, 3) := by decide +kernel
theorem dX3_astray_75 : decode cX3_astray 75 = .ok (.ifCond .eq 13, 3) := by decide +kernel
theorem dX3_astray_78 : decode cX3_astray 78 = .ok (.iload_n 1, 1) := by decide +kernel
theorem dX3_astray_79 : decode cX3_astray 79 = .ok (.aload_n 0, 1) := by decide +kernel
theorem dX3_astray_80 : decode cX3_astray 80 = .ok (.aload_n 3, 1) := by decide +kernel
theorem dX3_astray_81 : decode cX3_astray 81 = .ok (.aload 5, 2) := by decide +kernel
theorem dX3_astray_83 : decode cX3_astray 83 = .ok (.invokevirtual 135, 3) := by decide +kernel
theorem dX3_astray_86 : decode cX3_astray 86 = .ok (.iadd, 1) := by decide +kernel
theorem dX3_astray_87 : decode cX3_astray 87 = .ok (.istore_n 1, 1) := by decide +kernel
theorem dX3_astray_88 : decode cX3_astray 88 = .ok (.iinc 4 1, 3) := by decide +kernel
theorem dX3_astray_91 : decode cX3_astray 91 = .ok (.goto (-43), 3) := by decide +kernel
theorem dX3_astray_94 : decode cX3_astray 94 = .ok (.iinc 2 1, 3) := by decide +kernel
theorem dX3_astray_97 : decode cX3_astray 97 = .ok (.goto (-93), 3) := by decide +kernel
theorem dX3_astray_100 : decode cX3_astray 100 = .ok (.iload_n 1, 1) := by decide +kernel
theorem dX3_astray_101 : decode cX3_astray 101 = .ok (.ireturn, 1) := by decide +kernel
theorem dX3_isNode_0 : decode cX3_isNode 0 = .ok (.iload_n 1, 1) := by decide +kernel
theorem dX3_isNode_1 : decode cX3_isNode 1 = .ok (.ifCond .lt 16, 3) := by decide +kernel
theorem dX3_isNode_4 : decode cX3_isNode 4 = .ok (.iload_n 1, 1) := by decide +kernel
theorem dX3_isNode_5 : decode cX3_isNode 5 = .ok (.aload_n 0, 1) := by decide +kernel
theorem dX3_isNode_6 : decode cX3_isNode 6 = .ok (.getfield 11, 3) := by decide +kernel
theorem dX3_isNode_9 : decode cX3_isNode 9 = .ok (.arraylength, 1) := by decide +kernel
theorem dX3_isNode_10 : decode cX3_isNode 10 = .ok (.if_icmp .ge 7, 3) := by decide +kernel
theorem dX3_isNode_13 : decode cX3_isNode 13 = .ok (.iconst 1, 1) := by decide +kernel
theorem dX3_isNode_14 : decode cX3_isNode 14 = .ok (.goto 4, 3) := by decide +kernel
theorem dX3_isNode_17 : decode cX3_isNode 17 = .ok (.iconst 0, 1) := by decide +kernel
theorem dX3_isNode_18 : decode cX3_isNode 18 = .ok (.ireturn, 1) := by decide +kernel
theorem dX3_find_0 : decode cX3_find 0 = .ok (.iload_n 1, 1) := by decide +kernel
theorem dX3_find_1 : decode cX3_find 1 = .ok (.iconst 1, 1) := by decide +kernel
theorem dX3_find_2 : decode cX3_find 2 = .ok (.if_icmp .lt 11, 3) := by decide +kernel
theorem dX3_find_5 : decode cX3_find 5 = .ok (.iload_n 1, 1) := by decide +kernel
theorem dX3_find_6 : decode cX3_find 6 = .ok (.aload_n 0, 1) := by decide +kernel
theorem dX3_find_7 : decode cX3_find 7 = .ok (.getfield 119, 3) := by decide +kernel
theorem dX3_find_10 : decode cX3_find 10 = .ok (.if_icmp .le 7, 3) := by decide +kernel
theorem dX3_find_13 : decode cX3_find 13 = .ok (.aconst_null, 1) := by decide +kernel
theorem dX3_find_14 : decode cX3_find 14 = .ok (.goto 9, 3) := by decide +kernel
theorem dX3_find_17 : decode cX3_find 17 = .ok (.aload_n 0, 1) := by decide +kernel
theorem dX3_find_18 : decode cX3_find 18 = .ok (.getfield 29, 3) := by decide +kernel
theorem dX3_find_21 : decode cX3_find 21 = .ok (.iload_n 1, 1) := by decide +kernel
theorem dX3_find_22 : decode cX3_find 22 = .ok (.aaload, 1) := by decide +kernel
theorem dX3_find_23 : decode cX3_find 23 = .ok (.areturn, 1) := by decide +kernel
theorem dX3_nodesUp_0 : decode cX3_nodesUp 0 = .ok (.iconst 0, 1) := by decide +kernel
theorem dX3_nodesUp_1 : decode cX3_nodesUp 1 = .ok (.istore_n 1, 1) := by decide +kernel
theorem dX3_nodesUp_2 : decode cX3_nodesUp 2 = .ok (.aload_n 0, 1) := by decide +kernel
theorem dX3_nodesUp_3 : decode cX3_nodesUp 3 = .ok (.getfield 11, 3) := by decide +kernel
theorem dX3_nodesUp_6 : decode cX3_nodesUp 6 = .ok (.astore_n 2, 1) := by decide +kernel
theorem dX3_nodesUp_7 : decode cX3_nodesUp 7 = .ok (.aload_n 2, 1) := by decide +kernel
theorem dX3_nodesUp_8 : decode cX3_nodesUp 8 = .ok (.arraylength, 1) := by decide +kernel
theorem dX3_nodesUp_9 : decode cX3_nodesUp 9 = .ok (.istore_n 3, 1) := by decide +kernel
theorem dX3_nodesUp_10 : decode cX3_nodesUp 10 = .ok (.iconst 0, 1) := by decide +kernel
theorem dX3_nodesUp_11 : decode cX3_nodesUp 11 = .ok (.istore 4, 2) := by decide +kernel
theorem dX3_nodesUp_13 : decode cX3_nodesUp 13 = .ok (.iload 4, 2) := by decide +kernel
theorem dX3_nodesUp_15 : decode cX3_nodesUp 15 = .ok (.iload_n 3, 1) := by decide +kernel
theorem dX3_nodesUp_16 : decode cX3_nodesUp 16 = .ok (.if_icmp .ge 26, 3) := by decide +kernel
theorem dX3_nodesUp_19 : decode cX3_nodesUp 19 = .ok (.aload_n 2, 1) := by decide +kernel
theorem dX3_nodesUp_20 : decode cX3_nodesUp 20 = .ok (.iload 4, 2) := by decide +kernel
theorem dX3_nodesUp_22 : decode cX3_nodesUp 22 = .ok (.aaload, 1) := by decide +kernel
theorem dX3_nodesUp_23 : decode cX3_nodesUp 23 = .ok (.astore 5, 2) := by decide +kernel
theorem dX3_nodesUp_25 : decode cX3_nodesUp 25 = .ok (.aload 5, 2) := by decide +kernel
theorem dX3_nodesUp_27 : decode cX3_nodesUp 27 = .ok (.getfield 66, 3) := by decide +kernel
theorem dX3_nodesUp_30 : decode cX3_nodesUp 30 = .ok (.ifCond .eq 6, 3) := by decide +kernel
theorem dX3_nodesUp_33 : decode cX3_nodesUp 33 = .ok (.iinc 1 1, 3) := by decide +kernel
theorem dX3_nodesUp_36 : decode cX3_nodesUp 36 = .ok (.iinc 4 1, 3) := by decide +kernel
theorem dX3_nodesUp_39 : decode cX3_nodesUp 39 = .ok (.goto (-26), 3) := by decide +kernel
theorem dX3_nodesUp_42 : decode cX3_nodesUp 42 = .ok (.iload_n 1, 1) := by decide +kernel
theorem dX3_nodesUp_43 : decode cX3_nodesUp 43 = .ok (.ireturn, 1) := by decide +kernel
theorem dX3_begin_0 : decode cX3_begin 0 = .ok (.aload_n 0, 1) := by decide +kernel
theorem dX3_begin_1 : decode cX3_begin 1 = .ok (.getfield 11, 3) := by decide +kernel
theorem dX3_begin_4 : decode cX3_begin 4 = .ok (.iload_n 1, 1) := by decide +kernel
theorem dX3_begin_5 : decode cX3_begin 5 = .ok (.aaload, 1) := by decide +kernel
theorem dX3_begin_6 : decode cX3_begin 6 = .ok (.astore 5, 2) := by decide +kernel
theorem dX3_begin_8 : decode cX3_begin 8 = .ok (.aload 5, 2) := by decide +kernel
theorem dX3_begin_10 : decode cX3_begin 10 = .ok (.getfield 66, 3) := by decide +kernel
theorem dX3_begin_13 : decode cX3_begin 13 = .ok (.ifCond .eq 36, 3) := by decide +kernel
theorem dX3_begin_16 : decode cX3_begin 16 = .ok (.aload 5, 2) := by decide +kernel
theorem dX3_begin_18 : decode cX3_begin 18 = .ok (.getfield 139, 3) := by decide +kernel
theorem dX3_begin_21 : decode cX3_begin 21 = .ok (.ifnonnull 28, 3) := by decide +kernel
theorem dX3_begin_24 : decode cX3_begin 24 = .ok (.aload_n 0, 1) := by decide +kernel
theorem dX3_begin_25 : decode cX3_begin 25 = .ok (.getfield 119, 3) := by decide +kernel
theorem dX3_begin_28 : decode cX3_begin 28 = .ok (.sipush 511, 3) := by decide +kernel
theorem dX3_begin_31 : decode cX3_begin 31 = .ok (.if_icmp .ge 18, 3) := by decide +kernel
theorem dX3_begin_34 : decode cX3_begin 34 = .ok (.aload_n 0, 1) := by decide +kernel
theorem dX3_begin_35 : decode cX3_begin 35 = .ok (.getfield 23, 3) := by decide +kernel
theorem dX3_begin_38 : decode cX3_begin 38 = .ok (.aload_n 0, 1) := by decide +kernel
theorem dX3_begin_39 : decode cX3_begin 39 = .ok (.getfield 11, 3) := by decide +kernel
theorem dX3_begin_42 : decode cX3_begin 42 = .ok (.arraylength, 1) := by decide +kernel
theorem dX3_begin_43 : decode cX3_begin 43 = .ok (.invokevirtual 143, 3) := by decide +kernel
theorem dX3_begin_46 : decode cX3_begin 46 = .ok (.ifCond .ne 5, 3) := by decide +kernel
theorem dX3_begin_49 : decode cX3_begin 49 = .ok (.iconst (-1), 1) := by decide +kernel
theorem dX3_begin_50 : decode cX3_begin 50 = .ok (.ireturn, 1) := by decide +kernel
theorem dX3_begin_51 : decode cX3_begin 51 = .ok (.aload_n 0, 1) := by decide +kernel
theorem dX3_begin_52 : decode cX3_begin 52 = .ok (.dup, 1) := by decide +kernel
theorem dX3_begin_53 : decode cX3_begin 53 = .ok (.getfield 70, 3) := by decide +kernel
theorem dX3_begin_56 : decode cX3_begin 56 = .ok (.iconst 1, 1) := by decide +kernel
theorem dX3_begin_57 : decode cX3_begin 57 = .ok (.iadd, 1) := by decide +kernel
theorem dX3_begin_58 : decode cX3_begin 58 = .ok (.putfield 70, 3) := by decide +kernel
theorem dX3_begin_61 : decode cX3_begin 61 = .ok (.aload_n 0, 1) := by decide +kernel
theorem dX3_begin_62 : decode cX3_begin 62 = .ok (.dup, 1) := by decide +kernel
theorem dX3_begin_63 : decode cX3_begin 63 = .ok (.getfield 119, 3) := by decide +kernel
theorem dX3_begin_66 : decode cX3_begin 66 = .ok (.iconst 1, 1) := by decide +kernel
theorem dX3_begin_67 : decode cX3_begin 67 = .ok (.iadd, 1) := by decide +kernel
theorem dX3_begin_68 : decode cX3_begin 68 = .ok (.putfield 119, 3) := by decide +kernel
theorem dX3_begin_71 : decode cX3_begin 71 = .ok (.new 27, 3) := by decide +kernel
theorem dX3_begin_74 : decode cX3_begin 74 = .ok (.dup, 1) := by decide +kernel
theorem dX3_begin_75 : decode cX3_begin 75 = .ok (.aload_n 0, 1) := by decide +kernel
theorem dX3_begin_76 : decode cX3_begin 76 = .ok (.getfield 119, 3) := by decide +kernel
theorem dX3_begin_79 : decode cX3_begin 79 = .ok (.iload_n 1, 1) := by decide +kernel
theorem dX3_begin_80 : decode cX3_begin 80 = .ok (.iload_n 2, 1) := by decide +kernel
theorem dX3_begin_81 : decode cX3_begin 81 = .ok (.iload_n 3, 1) := by decide +kernel
theorem dX3_begin_82 : decode cX3_begin 82 = .ok (.iload 4, 2) := by decide +kernel
theorem dX3_begin_84 : decode cX3_begin 84 = .ok (.aload_n 0, 1) := by decide +kernel
theorem dX3_begin_85 : decode cX3_begin 85 = .ok (.getfield 70, 3) := by decide +kernel
theorem dX3_begin_88 : decode cX3_begin 88 = .ok (.aload_n 0, 1) := by decide +kernel
theorem dX3_begin_89 : decode cX3_begin 89 = .ok (.getfield 11, 3) := by decide +kernel
theorem dX3_begin_92 : decode cX3_begin 92 = .ok (.arraylength, 1) := by decide +kernel
theorem dX3_begin_93 : decode cX3_begin 93 = .ok (.invokespecial 146, 3) := by decide +kernel
theorem dX3_begin_96 : decode cX3_begin 96 = .ok (.astore 6, 2) := by decide +kernel
theorem dX3_begin_98 : decode cX3_begin 98 = .ok (.aload_n 0, 1) := by decide +kernel
theorem dX3_begin_99 : decode cX3_begin 99 = .ok (.getfield 29, 3) := by decide +kernel
theorem dX3_begin_102 : decode cX3_begin 102 = .ok (.aload_n 0, 1) := by decide +kernel
theorem dX3_begin_103 : decode cX3_begin 103 = .ok (.getfield 119, 3) := by decide +kernel
theorem dX3_begin_106 : decode cX3_begin 106 = .ok (.aload 6, 2) := by decide +kernel
theorem dX3_begin_108 : decode cX3_begin 108 = .ok (.aastore, 1) := by decide +kernel
theorem dX3_begin_109 : decode cX3_begin 109 = .ok (.aload 5, 2) := by decide +kernel
theorem dX3_begin_111 : decode cX3_begin 111 = .ok (.aload 6, 2) := by decide +kernel
theorem dX3_begin_113 : decode cX3_begin 113 = .ok (.invokevirtual 149, 3) := by decide +kernel
theorem dX3_begin_116 : decode cX3_begin 116 = .ok (.aload_n 0, 1) := by decide +kernel
theorem dX3_begin_117 : decode cX3_begin 117 = .ok (.aload 5, 2) := by decide +kernel
theorem dX3_begin_119 : decode cX3_begin 119 = .ok (.invokevirtual 153, 3) := by decide +kernel
theorem dX3_begin_122 : decode cX3_begin 122 = .ok (.aload_n 0, 1) := by decide +kernel
theorem dX3_begin_123 : decode cX3_begin 123 = .ok (.getfield 119, 3) := by decide +kernel
theorem dX3_begin_126 : decode cX3_begin 126 = .ok (.ireturn, 1) := by decide +kernel
theorem dX3_come_0 : decode cX3_come 0 = .ok (.aload_n 0, 1) := by decide +kernel
theorem dX3_come_1 : decode cX3_come 1 = .ok (.getfield 23, 3) := by decide +kernel
theorem dX3_come_4 : decode cX3_come 4 = .ok (.iload_n 1, 1) := by decide +kernel
theorem dX3_come_5 : decode cX3_come 5 = .ok (.invokevirtual 157, 3) := by decide +kernel
theorem dX3_come_8 : decode cX3_come 8 = .ok (.istore_n 2, 1) := by decide +kernel
theorem dX3_come_9 : decode cX3_come 9 = .ok (.aload_n 0, 1) := by decide +kernel
theorem dX3_come_10 : decode cX3_come 10 = .ok (.getfield 23, 3) := by decide +kernel
theorem dX3_come_13 : decode cX3_come 13 = .ok (.getfield 160, 3) := by decide +kernel
theorem dX3_come_16 : decode cX3_come 16 = .ok (.iload_n 2, 1) := by decide +kernel
theorem dX3_come_17 : decode cX3_come 17 = .ok (.iaload, 1) := by decide +kernel
theorem dX3_come_18 : decode cX3_come 18 = .ok (.istore_n 3, 1) := by decide +kernel
theorem dX3_come_19 : decode cX3_come 19 = .ok (.aload_n 0, 1) := by decide +kernel
theorem dX3_come_20 : decode cX3_come 20 = .ok (.getfield 11, 3) := by decide +kernel
theorem dX3_come_23 : decode cX3_come 23 = .ok (.aload_n 0, 1) := by decide +kernel
theorem dX3_come_24 : decode cX3_come 24 = .ok (.getfield 23, 3) := by decide +kernel
theorem dX3_come_27 : decode cX3_come 27 = .ok (.getfield 163, 3) := by decide +kernel
theorem dX3_come_30 : decode cX3_come 30 = .ok (.iload_n 2, 1) := by decide +kernel
theorem dX3_come_31 : decode cX3_come 31 = .ok (.iaload, 1) := by decide +kernel
theorem dX3_come_32 : decode cX3_come 32 = .ok (.aaload, 1) := by decide +kernel
theorem dX3_come_33 : decode cX3_come 33 = .ok (.astore 4, 2) := by decide +kernel
theorem dX3_come_35 : decode cX3_come 35 = .ok (.aload_n 0, 1) := by decide +kernel
theorem dX3_come_36 : decode cX3_come 36 = .ok (.getfield 23, 3) := by decide +kernel
theorem dX3_come_39 : decode cX3_come 39 = .ok (.aload_n 0, 1) := by decide +kernel
theorem dX3_come_40 : decode cX3_come 40 = .ok (.aload 4, 2) := by decide +kernel
theorem dX3_come_42 : decode cX3_come 42 = .ok (.iload_n 2, 1) := by decide +kernel
theorem dX3_come_43 : decode cX3_come 43 = .ok (.invokevirtual 166, 3) := by decide +kernel
theorem dX3_come_46 : decode cX3_come 46 = .ok (.iconst 1, 1) := by decide +kernel
theorem dX3_come_47 : decode cX3_come 47 = .ok (.isub, 1) := by decide +kernel
theorem dX3_come_48 : decode cX3_come 48 = .ok (.invokevirtual 143, 3) := by decide +kernel
theorem dX3_come_51 : decode cX3_come 51 = .ok (.ifCond .ne 5, 3) := by decide +kernel
theorem dX3_come_54 : decode cX3_come 54 = .ok (.iconst (-1), 1) := by decide +kernel
theorem dX3_come_55 : decode cX3_come 55 = .ok (.ireturn, 1) := by decide +kernel
theorem dX3_come_56 : decode cX3_come 56 = .ok (.aload_n 0, 1) := by decide +kernel
theorem dX3_come_57 : decode cX3_come 57 = .ok (.getfield 23, 3) := by decide +kernel
theorem dX3_come_60 : decode cX3_come 60 = .ok (.iload_n 1, 1) := by decide +kernel
theorem dX3_come_61 : decode cX3_come 61 = .ok (.invokevirtual 170, 3) := by decide +kernel
theorem dX3_come_64 : decode cX3_come 64 = .ok (.aload_n 0, 1) := by decide +kernel
theorem dX3_come_65 : decode cX3_come 65 = .ok (.dup, 1) := by decide +kernel
theorem dX3_come_66 : decode cX3_come 66 = .ok (.getfield 116, 3) := by decide +kernel
theorem dX3_come_69 : decode cX3_come 69 = .ok (.iconst 1, 1) := by decide +kernel
theorem dX3_come_70 : decode cX3_come 70 = .ok (.iadd, 1) := by decide +kernel
theorem dX3_come_71 : decode cX3_come 71 = .ok (.putfield 116, 3) := by decide +kernel
theorem dX3_come_74 : decode cX3_come 74 = .ok (.aload_n 0, 1) := by decide +kernel
theorem dX3_come_75 : decode cX3_come 75 = .ok (.dup, 1) := by decide +kernel
theorem dX3_come_76 : decode cX3_come 76 = .ok (.getfield 70, 3) := by decide +kernel
theorem dX3_come_79 : decode cX3_come 79 = .ok (.iconst 1, 1) := by decide +kernel
theorem dX3_come_80 : decode cX3_come 80 = .ok (.iadd, 1) := by decide +kernel
theorem dX3_come_81 : decode cX3_come 81 = .ok (.putfield 70, 3) := by decide +kernel
theorem dX3_come_84 : decode cX3_come 84 = .ok (.aload 4, 2) := by decide +kernel
theorem dX3_come_86 : decode cX3_come 86 = .ok (.getfield 66, 3) := by decide +kernel
theorem dX3_come_89 : decode cX3_come 89 = .ok (.ifCond .ne 5, 3) := by decide +kernel
theorem dX3_come_92 : decode cX3_come 92 = .ok (.iload_n 3, 1) := by decide +kernel
theorem dX3_come_93 : decode cX3_come 93 = .ok (.ireturn, 1) := by decide +kernel
theorem dX3_come_94 : decode cX3_come 94 = .ok (.iload_n 3, 1) := by decide +kernel
theorem dX3_come_95 : decode cX3_come 95 = .ok (.ifCond .ne 42, 3) := by decide +kernel
theorem dX3_come_98 : decode cX3_come 98 = .ok (.aload_n 0, 1) := by decide +kernel
theorem dX3_come_99 : decode cX3_come 99 = .ok (.getfield 23, 3) := by decide +kernel
theorem dX3_come_102 : decode cX3_come 102 = .ok (.iconst 1, 1) := by decide +kernel
theorem dX3_come_103 : decode cX3_come 103 = .ok (.aload 4, 2) := by decide +kernel
theorem dX3_come_105 : decode cX3_come 105 = .ok (.getfield 173, 3) := by decide +kernel
theorem dX3_come_108 : decode cX3_come 108 = .ok (.aload_n 0, 1) := by decide +kernel
theorem dX3_come_109 : decode cX3_come 109 = .ok (.getfield 23, 3) := by decide +kernel
theorem dX3_come_112 : decode cX3_come 112 = .ok (.getfield 176, 3) := by decide +kernel
theorem dX3_come_115 : decode cX3_come 115 = .ok (.iload_n 2, 1) := by decide +kernel
theorem dX3_come_116 : decode cX3_come 116 = .ok (.iaload, 1) := by decide +kernel
theorem dX3_come_117 : decode cX3_come 117 = .ok (.aload_n 0, 1) := by decide +kernel
theorem dX3_come_118 : decode cX3_come 118 = .ok (.getfield 23, 3) := by decide +kernel
theorem dX3_come_121 : decode cX3_come 121 = .ok (.getfield 179, 3) := by decide +kernel
theorem dX3_come_124 : decode cX3_come 124 = .ok (.iload_n 2, 1) := by decide +kernel
theorem dX3_come_125 : decode cX3_come 125 = .ok (.iaload, 1) := by decide +kernel
theorem dX3_come_126 : decode cX3_come 126 = .ok (.aload 4, 2) := by decide +kernel
theorem dX3_come_128 : decode cX3_come 128 = .ok (.getfield 97, 3) := by decide +kernel
theorem dX3_come_131 : decode cX3_come 131 = .ok (.invokevirtual 182, 3) := by decide +kernel
theorem dX3_come_134 : decode cX3_come 134 = .ok (.goto 81, 3) := by decide +kernel
theorem dX3_come_137 : decode cX3_come 137 = .ok (.iload_n 3, 1) := by decide +kernel
theorem dX3_come_138 : decode cX3_come 138 = .ok (.iconst 2, 1) := by decide +kernel
theorem dX3_come_139 : decode cX3_come 139 = .ok (.if_icmp .ne 51, 3) := by decide +kernel
theorem dX3_come_142 : decode cX3_come 142 = .ok (.aload_n 0, 1) := by decide +kernel
theorem dX3_come_143 : decode cX3_come 143 = .ok (.getfield 23, 3) := by decide +kernel
theorem dX3_come_146 : decode cX3_come 146 = .ok (.aload 4, 2) := by decide +kernel
theorem dX3_come_148 : decode cX3_come 148 = .ok (.getfield 97, 3) := by decide +kernel
theorem dX3_come_151 : decode cX3_come 151 = .ok (.iload_n 2, 1) := by decide +kernel
theorem dX3_come_152 : decode cX3_come 152 = .ok (.invokevirtual 186, 3) := by decide +kernel
theorem dX3_come_155 : decode cX3_come 155 = .ok (.aload_n 0, 1) := by decide +kernel
theorem dX3_come_156 : decode cX3_come 156 = .ok (.getfield 23, 3) := by decide +kernel
theorem dX3_come_159 : decode cX3_come 159 = .ok (.iconst 3, 1) := by decide +kernel
theorem dX3_come_160 : decode cX3_come 160 = .ok (.aload 4, 2) := by decide +kernel
theorem dX3_come_162 : decode cX3_come 162 = .ok (.getfield 173, 3) := by decide +kernel
theorem dX3_come_165 : decode cX3_come 165 = .ok (.aload_n 0, 1) := by decide +kernel
theorem dX3_come_166 : decode cX3_come 166 = .ok (.getfield 23, 3) := by decide +kernel
theorem dX3_come_169 : decode cX3_come 169 = .ok (.getfield 176, 3) := by decide +kernel
theorem dX3_come_172 : decode cX3_come 172 = .ok (.iload_n 2, 1) := by decide +kernel
theorem dX3_come_173 : decode cX3_come 173 = .ok (.iaload, 1) := by decide +kernel
theorem dX3_come_174 : decode cX3_come 174 = .ok (.aload_n 0, 1) := by decide +kernel
theorem dX3_come_175 : decode cX3_come 175 = .ok (.getfield 23, 3) := by decide +kernel
theorem dX3_come_178 : decode cX3_come 178 = .ok (.getfield 179, 3) := by decide +kernel
theorem dX3_come_181 : decode cX3_come 181 = .ok (.iload_n 2, 1) := by decide +kernel
theorem dX3_come_182 : decode cX3_come 182 = .ok (.iaload, 1) := by decide +kernel
theorem dX3_come_183 : decode cX3_come 183 = .ok (.aconst_null, 1) := by decide +kernel
theorem dX3_come_184 : decode cX3_come 184 = .ok (.invokevirtual 182, 3) := by decide +kernel
theorem dX3_come_187 : decode cX3_come 187 = .ok (.goto 28, 3) := by decide +kernel
theorem dX3_come_190 : decode cX3_come 190 = .ok (.aload 4, 2) := by decide +kernel
theorem dX3_come_192 : decode cX3_come 192 = .ok (.iload_n 3, 1) := by decide +kernel
theorem dX3_come_193 : decode cX3_come 193 = .ok (.aload_n 0, 1) := by decide +kernel
theorem dX3_come_194 : decode cX3_come 194 = .ok (.getfield 23, 3) := by decide +kernel
theorem dX3_come_197 : decode cX3_come 197 = .ok (.getfield 179, 3) := by decide +kernel
theorem dX3_come_200 : decode cX3_come 200 = .ok (.iload_n 2, 1) := by decide +kernel
theorem dX3_come_201 : decode cX3_come 201 = .ok (.iaload, 1) := by decide +kernel
theorem dX3_come_202 : decode cX3_come 202 = .ok (.invokevirtual 190, 3) := by decide +kernel
theorem dX3_come_205 : decode cX3_come 205 = .ok (.ifCond .eq 10, 3) := by decide +kernel
theorem dX3_come_208 : decode cX3_come 208 = .ok (.aload_n 0, 1) := by decide +kernel
theorem dX3_come_209 : decode cX3_come 209 = .ok (.aload 4, 2) := by decide +kernel
theorem dX3_come_211 : decode cX3_come 211 = .ok (.iload_n 2, 1) := by decide +kernel
theorem dX3_come_212 : decode cX3_come 212 = .ok (.invokevirtual 194, 3) := by decide +kernel
theorem dX3_come_215 : decode cX3_come 215 = .ok (.iload_n 3, 1) := by decide +kernel
theorem dX3_come_216 : decode cX3_come 216 = .ok (.ireturn, 1) := by decide +kernel
theorem dX3_leadsTo_0 : decode cX3_leadsTo 0 = .ok (.aload_n 1, 1) := by decide +kernel
theorem dX3_leadsTo_1 : decode cX3_leadsTo 1 = .ok (.getfield 66, 3) := by decide +kernel
theorem dX3_leadsTo_4 : decode cX3_leadsTo 4 = .ok (.ifCond .ne 5, 3) := by decide +kernel
theorem dX3_leadsTo_7 : decode cX3_leadsTo 7 = .ok (.iconst 0, 1) := by decide +kernel
theorem dX3_leadsTo_8 : decode cX3_leadsTo 8 = .ok (.ireturn, 1) := by decide +kernel
theorem dX3_leadsTo_9 : decode cX3_leadsTo 9 = .ok (.aload_n 0, 1) := by decide +kernel
theorem dX3_leadsTo_10 : decode cX3_leadsTo 10 = .ok (.getfield 23, 3) := by decide +kernel
theorem dX3_leadsTo_13 : decode cX3_leadsTo 13 = .ok (.getfield 160, 3) := by decide +kernel
theorem dX3_leadsTo_16 : decode cX3_leadsTo 16 = .ok (.iload_n 2, 1) := by decide +kernel
theorem dX3_leadsTo_17 : decode cX3_leadsTo 17 = .ok (.iaload, 1) := by decide +kernel
theorem dX3_leadsTo_18 : decode cX3_leadsTo 18 = .ok (.istore_n 3, 1) := by decide +kernel
theorem dX3_leadsTo_19 : decode cX3_leadsTo 19 = .ok (.iload_n 3, 1) := by decide +kernel
theorem dX3_leadsTo_20 : decode cX3_leadsTo 20 = .ok (.ifCond .eq 8, 3) := by decide +kernel
theorem dX3_leadsTo_23 : decode cX3_leadsTo 23 = .ok (.iload_n 3, 1) := by decide +kernel
theorem dX3_leadsTo_24 : decode cX3_leadsTo 24 = .ok (.iconst 2, 1) := by decide +kernel
theorem dX3_leadsTo_25 : decode cX3_leadsTo 25 = .ok (.if_icmp .ne 5, 3) := by decide +kernel
theorem dX3_leadsTo_28 : decode cX3_leadsTo 28 = .ok (.iconst 1, 1) := by decide +kernel
theorem dX3_leadsTo_29 : decode cX3_leadsTo 29 = .ok (.ireturn, 1) := by decide +kernel
theorem dX3_leadsTo_30 : decode cX3_leadsTo 30 = .ok (.aload_n 1, 1) := by decide +kernel
theorem dX3_leadsTo_31 : decode cX3_leadsTo 31 = .ok (.iload_n 3, 1) := by decide +kernel
theorem dX3_leadsTo_32 : decode cX3_leadsTo 32 = .ok (.aload_n 0, 1) := by decide +kernel
theorem dX3_leadsTo_33 : decode cX3_leadsTo 33 = .ok (.getfield 23, 3) := by decide +kernel
theorem dX3_leadsTo_36 : decode cX3_leadsTo 36 = .ok (.getfield 179, 3) := by decide +kernel
theorem dX3_leadsTo_39 : decode cX3_leadsTo 39 = .ok (.iload_n 2, 1) := by decide +kernel
theorem dX3_leadsTo_40 : decode cX3_leadsTo 40 = .ok (.iaload, 1) := by decide +kernel
theorem dX3_leadsTo_41 : decode cX3_leadsTo 41 = .ok (.invokevirtual 190, 3) := by decide +kernel
theorem dX3_leadsTo_44 : decode cX3_leadsTo 44 = .ok (.ifCond .eq 16, 3) := by decide +kernel
theorem dX3_leadsTo_47 : decode cX3_leadsTo 47 = .ok (.aload_n 1, 1) := by decide +kernel
theorem dX3_leadsTo_48 : decode cX3_leadsTo 48 = .ok (.aload_n 1, 1) := by decide +kernel
theorem dX3_leadsTo_49 : decode cX3_leadsTo 49 = .ok (.getfield 198, 3) := by decide +kernel
theorem dX3_leadsTo_52 : decode cX3_leadsTo 52 = .ok (.iconst 1, 1) := by decide +kernel
theorem dX3_leadsTo_53 : decode cX3_leadsTo 53 = .ok (.iadd, 1) := by decide +kernel
theorem dX3_leadsTo_54 : decode cX3_leadsTo 54 = .ok (.invokevirtual 201, 3) := by decide +kernel
theorem dX3_leadsTo_57 : decode cX3_leadsTo 57 = .ok (.ifCond .ne 5, 3) := by decide +kernel
theorem dX3_leadsTo_60 : decode cX3_leadsTo 60 = .ok (.iconst 0, 1) := by decide +kernel
theorem dX3_leadsTo_61 : decode cX3_leadsTo 61 = .ok (.ireturn, 1) := by decide +kernel
theorem dX3_leadsTo_62 : decode cX3_leadsTo 62 = .ok (.aload_n 0, 1) := by decide +kernel
theorem dX3_leadsTo_63 : decode cX3_leadsTo 63 = .ok (.aload_n 1, 1) := by decide +kernel
theorem dX3_leadsTo_64 : decode cX3_leadsTo 64 = .ok (.invokevirtual 204, 3) := by decide +kernel
theorem dX3_leadsTo_67 : decode cX3_leadsTo 67 = .ok (.ifCond .eq 7, 3) := by decide +kernel
theorem dX3_leadsTo_70 : decode cX3_leadsTo 70 = .ok (.iconst 0, 1) := by decide +kernel
theorem dX3_leadsTo_71 : decode cX3_leadsTo 71 = .ok (.goto 8, 3) := by decide +kernel
theorem dX3_leadsTo_74 : decode cX3_leadsTo 74 = .ok (.aload_n 0, 1) := by decide +kernel
theorem dX3_leadsTo_75 : decode cX3_leadsTo 75 = .ok (.getfield 11, 3) := by decide +kernel
theorem dX3_leadsTo_78 : decode cX3_leadsTo 78 = .ok (.arraylength, 1) := by decide +kernel
theorem dX3_leadsTo_79 : decode cX3_leadsTo 79 = .ok (.ireturn, 1) := by decide +kernel
theorem dX3_endsOperation_0 : decode cX3_endsOperation 0 = .ok (.aload_n 1, 1) := by decide +kernel
theorem dX3_endsOperation_1 : decode cX3_endsOperation 1 = .ok (.getfield 139, 3) := by decide +kernel
theorem dX3_endsOperation_4 : decode cX3_endsOperation 4 = .ok (.astore_n 2, 1) := by decide +kernel
theorem dX3_endsOperation_5 : decode cX3_endsOperation 5 = .ok (.aload_n 2, 1) := by decide +kernel
theorem dX3_endsOperation_6 : decode cX3_endsOperation 6 = .ok (.ifnull 11, 3) := by decide +kernel
theorem dX3_endsOperation_9 : decode cX3_endsOperation 9 = .ok (.aload_n 1, 1) := by decide +kernel
theorem dX3_endsOperation_10 : decode cX3_endsOperation 10 = .ok (.getfield 208, 3) := by decide +kernel
theorem dX3_endsOperation_13 : decode cX3_endsOperation 13 = .ok (.iconst 1, 1) := by decide +kernel
theorem dX3_endsOperation_14 : decode cX3_endsOperation 14 = .ok (.if_icmp .ne 5, 3) := by decide +kernel
theorem dX3_endsOperation_17 : decode cX3_endsOperation 17 = .ok (.iconst 0, 1) := by decide +kernel
theorem dX3_endsOperation_18 : decode cX3_endsOperation 18 = .ok (.ireturn, 1) := by decide +kernel
theorem dX3_endsOperation_19 : decode cX3_endsOperation 19 = .ok (.aload_n 1, 1) := by decide +kernel
theorem dX3_endsOperation_20 : decode cX3_endsOperation 20 = .ok (.getfield 208, 3) := by decide +kernel
theorem dX3_endsOperation_23 : decode cX3_endsOperation 23 = .ok (.iconst 3, 1) := by decide +kernel
theorem dX3_endsOperation_24 : decode cX3_endsOperation 24 = .ok (.if_icmp .ne 5, 3) := by decide +kernel
theorem dX3_endsOperation_27 : decode cX3_endsOperation 27 = .ok (.iconst 1, 1) := by decide +kernel
theorem dX3_endsOperation_28 : decode cX3_endsOperation 28 = .ok (.ireturn, 1) := by decide +kernel
theorem dX3_endsOperation_29 : decode cX3_endsOperation 29 = .ok (.aload_n 2, 1) := by decide +kernel
theorem dX3_endsOperation_30 : decode cX3_endsOperation 30 = .ok (.invokevirtual 211, 3) := by decide +kernel
theorem dX3_endsOperation_33 : decode cX3_endsOperation 33 = .ok (.ifCond .ne 29, 3) := by decide +kernel
theorem dX3_endsOperation_36 : decode cX3_endsOperation 36 = .ok (.aload_n 2, 1) := by decide +kernel
theorem dX3_endsOperation_37 : decode cX3_endsOperation 37 = .ok (.getfield 214, 3) := by decide +kernel
theorem dX3_endsOperation_40 : decode cX3_endsOperation 40 = .ok (.ifCond .le 22, 3) := by decide +kernel
theorem dX3_endsOperation_43 : decode cX3_endsOperation 43 = .ok (.aload_n 1, 1) := by decide +kernel
theorem dX3_endsOperation_44 : decode cX3_endsOperation 44 = .ok (.invokevirtual 217, 3) := by decide +kernel
theorem dX3_endsOperation_47 : decode cX3_endsOperation 47 = .ok (.ifCond .ne 11, 3) := by decide +kernel
theorem dX3_endsOperation_50 : decode cX3_endsOperation 50 = .ok (.aload_n 0, 1) := by decide +kernel
theorem dX3_endsOperation_51 : decode cX3_endsOperation 51 = .ok (.aload_n 1, 1) := by decide +kernel
theorem dX3_endsOperation_52 : decode cX3_endsOperation 52 = .ok (.invokevirtual 220, 3) := by decide +kernel
theorem dX3_endsOperation_55 : decode cX3_endsOperation 55 = .ok (.ifnull 7, 3) := by decide +kernel
theorem dX3_endsOperation_58 : decode cX3_endsOperation 58 = .ok (.iconst 1, 1) := by decide +kernel
theorem dX3_endsOperation_59 : decode cX3_endsOperation 59 = .ok (.goto 4, 3) := by decide +kernel
theorem dX3_endsOperation_62 : decode cX3_endsOperation 62 = .ok (.iconst 0, 1) := by decide +kernel
theorem dX3_endsOperation_63 : decode cX3_endsOperation 63 = .ok (.ireturn, 1) := by decide +kernel
theorem dX3_hear_0 : decode cX3_hear 0 = .ok (.aload_n 1, 1) := by decide +kernel
theorem dX3_hear_1 : decode cX3_hear 1 = .ok (.dup, 1) := by decide +kernel
theorem dX3_hear_2 : decode cX3_hear 2 = .ok (.getfield 198, 3) := by decide +kernel
theorem dX3_hear_5 : decode cX3_hear 5 = .ok (.iconst 1, 1) := by decide +kernel
theorem dX3_hear_6 : decode cX3_hear 6 = .ok (.iadd, 1) := by decide +kernel
theorem dX3_hear_7 : decode cX3_hear 7 = .ok (.putfield 198, 3) := by decide +kernel
theorem dX3_hear_10 : decode cX3_hear 10 = .ok (.aload_n 1, 1) := by decide +kernel
theorem dX3_hear_11 : decode cX3_hear 11 = .ok (.getfield 208, 3) := by decide +kernel
theorem dX3_hear_14 : decode cX3_hear 14 = .ok (.iconst 1, 1) := by decide +kernel
theorem dX3_hear_15 : decode cX3_hear 15 = .ok (.if_icmp .ne 15, 3) := by decide +kernel
theorem dX3_hear_18 : decode cX3_hear 18 = .ok (.aload_n 0, 1) := by decide +kernel
theorem dX3_hear_19 : decode cX3_hear 19 = .ok (.getfield 23, 3) := by decide +kernel
theorem dX3_hear_22 : decode cX3_hear 22 = .ok (.aload_n 1, 1) := by decide +kernel
theorem dX3_hear_23 : decode cX3_hear 23 = .ok (.getfield 224, 3) := by decide +kernel
theorem dX3_hear_26 : decode cX3_hear 26 = .ok (.iload_n 2, 1) := by decide +kernel
theorem dX3_hear_27 : decode cX3_hear 27 = .ok (.invokevirtual 186, 3) := by decide +kernel
theorem dX3_hear_30 : decode cX3_hear 30 = .ok (.aload_n 1, 1) := by decide +kernel
theorem dX3_hear_31 : decode cX3_hear 31 = .ok (.getfield 139, 3) := by decide +kernel
theorem dX3_hear_34 : decode cX3_hear 34 = .ok (.astore_n 3, 1) := by decide +kernel
theorem dX3_hear_35 : decode cX3_hear 35 = .ok (.aload_n 3, 1) := by decide +kernel
theorem dX3_hear_36 : decode cX3_hear 36 = .ok (.ifnull 14, 3) := by decide +kernel
theorem dX3_hear_39 : decode cX3_hear 39 = .ok (.aload_n 1, 1) := by decide +kernel
theorem dX3_hear_40 : decode cX3_hear 40 = .ok (.aload_n 1, 1) := by decide +kernel
theorem dX3_hear_41 : decode cX3_hear 41 = .ok (.getfield 198, 3) := by decide +kernel
theorem dX3_hear_44 : decode cX3_hear 44 = .ok (.invokevirtual 201, 3) := by decide +kernel
theorem dX3_hear_47 : decode cX3_hear 47 = .ok (.ifCond .ne 4, 3) := by decide +kernel
theorem dX3_hear_50 : decode cX3_hear 50 = .ok (.return_, 1) := by decide +kernel
theorem dX3_hear_51 : decode cX3_hear 51 = .ok (.aload_n 1, 1) := by decide +kernel
theorem dX3_hear_52 : decode cX3_hear 52 = .ok (.getfield 208, 3) := by decide +kernel
theorem dX3_hear_55 : decode cX3_hear 55 = .ok (.iconst 1, 1) := by decide +kernel
theorem dX3_hear_56 : decode cX3_hear 56 = .ok (.if_icmp .ne 17, 3) := by decide +kernel
theorem dX3_hear_59 : decode cX3_hear 59 = .ok (.aload_n 0, 1) := by decide +kernel
theorem dX3_hear_60 : decode cX3_hear 60 = .ok (.aload_n 1, 1) := by decide +kernel
theorem dX3_hear_61 : decode cX3_hear 61 = .ok (.iconst 2, 1) := by decide +kernel
theorem dX3_hear_62 : decode cX3_hear 62 = .ok (.iconst 2, 1) := by decide +kernel
theorem dX3_hear_63 : decode cX3_hear 63 = .ok (.aload_n 1, 1) := by decide +kernel
theorem dX3_hear_64 : decode cX3_hear 64 = .ok (.getfield 224, 3) := by decide +kernel
theorem dX3_hear_67 : decode cX3_hear 67 = .ok (.invokevirtual 227, 3) := by decide +kernel
theorem dX3_hear_70 : decode cX3_hear 70 = .ok (.goto 26, 3) := by decide +kernel
theorem dX3_hear_73 : decode cX3_hear 73 = .ok (.aload_n 1, 1) := by decide +kernel
theorem dX3_hear_74 : decode cX3_hear 74 = .ok (.getfield 208, 3) := by decide +kernel
theorem dX3_hear_77 : decode cX3_hear 77 = .ok (.iconst 2, 1) := by decide +kernel
theorem dX3_hear_78 : decode cX3_hear 78 = .ok (.if_icmp .ne 12, 3) := by decide +kernel
theorem dX3_hear_81 : decode cX3_hear 81 = .ok (.aload_n 0, 1) := by decide +kernel
theorem dX3_hear_82 : decode cX3_hear 82 = .ok (.aload_n 1, 1) := by decide +kernel
theorem dX3_hear_83 : decode cX3_hear 83 = .ok (.aload_n 3, 1) := by decide +kernel
theorem dX3_hear_84 : decode cX3_hear 84 = .ok (.invokevirtual 231, 3) := by decide +kernel
theorem dX3_hear_87 : decode cX3_hear 87 = .ok (.goto 9, 3) := by decide +kernel
theorem dX3_hear_90 : decode cX3_hear 90 = .ok (.aload_n 0, 1) := by decide +kernel
theorem dX3_hear_91 : decode cX3_hear 91 = .ok (.aload_n 1, 1) := by decide +kernel
theorem dX3_hear_92 : decode cX3_hear 92 = .ok (.aload_n 3, 1) := by decide +kernel
theorem dX3_hear_93 : decode cX3_hear 93 = .ok (.invokevirtual 235, 3) := by decide +kernel
theorem dX3_hear_96 : decode cX3_hear 96 = .ok (.return_, 1) := by decide +kernel
theorem dX3_beginCollect_0 : decode cX3_beginCollect 0 = .ok (.aload_n 1, 1) := by decide +kernel
theorem dX3_beginCollect_1 : decode cX3_beginCollect 1 = .ok (.invokevirtual 238, 3) := by decide +kernel
theorem dX3_beginCollect_4 : decode cX3_beginCollect 4 = .ok (.aload_n 0, 1) := by decide +kernel
theorem dX3_beginCollect_5 : decode cX3_beginCollect 5 = .ok (.aload_n 1, 1) := by decide +kernel
theorem dX3_beginCollect_6 : decode cX3_beginCollect 6 = .ok (.iconst 0, 1) := by decide +kernel
theorem dX3_beginCollect_7 : decode cX3_beginCollect 7 = .ok (.iconst 1, 1) := by decide +kernel
theorem dX3_beginCollect_8 : decode cX3_beginCollect 8 = .ok (.aconst_null, 1) := by decide +kernel
theorem dX3_beginCollect_9 : decode cX3_beginCollect 9 = .ok (.invokevirtual 227, 3) := by decide +kernel
theorem dX3_beginCollect_12 : decode cX3_beginCollect 12 = .ok (.return_, 1) := by decide +kernel
theorem dX3_endCollect_0 : decode cX3_endCollect 0 = .ok (.aload_n 2, 1) := by decide +kernel
theorem dX3_endCollect_1 : decode cX3_endCollect 1 = .ok (.getfield 214, 3) := by decide +kernel
theorem dX3_endCollect_4 : decode cX3_endCollect 4 = .ok (.ifCond .ne 7, 3) := by decide +kernel
theorem dX3_endCollect_7 : decode cX3_endCollect 7 = .ok (.iconst 1, 1) := by decide +kernel
theorem dX3_endCollect_8 : decode cX3_endCollect 8 = .ok (.goto 4, 3) := by decide +kernel
theorem dX3_endCollect_11 : decode cX3_endCollect 11 = .ok (.iconst 0, 1) := by decide +kernel
theorem dX3_endCollect_12 : decode cX3_endCollect 12 = .ok (.istore_n 3, 1) := by decide +kernel
theorem dX3_endCollect_13 : decode cX3_endCollect 13 = .ok (.aload_n 2, 1) := by decide +kernel
theorem dX3_endCollect_14 : decode cX3_endCollect 14 = .ok (.dup, 1) := by decide +kernel
theorem dX3_endCollect_15 : decode cX3_endCollect 15 = .ok (.getfield 214, 3) := by decide +kernel
theorem dX3_endCollect_18 : decode cX3_endCollect 18 = .ok (.iconst 1, 1) := by decide +kernel
theorem dX3_endCollect_19 : decode cX3_endCollect 19 = .ok (.iadd, 1) := by decide +kernel
theorem dX3_endCollect_20 : decode cX3_endCollect 20 = .ok (.putfield 214, 3) := by decide +kernel
theorem dX3_endCollect_23 : decode cX3_endCollect 23 = .ok (.aload_n 0, 1) := by decide +kernel
theorem dX3_endCollect_24 : decode cX3_endCollect 24 = .ok (.aload_n 0, 1) := by decide +kernel
theorem dX3_endCollect_25 : decode cX3_endCollect 25 = .ok (.getfield 128, 3) := by decide +kernel
theorem dX3_endCollect_28 : decode cX3_endCollect 28 = .ok (.aload_n 2, 1) := by decide +kernel
theorem dX3_endCollect_29 : decode cX3_endCollect 29 = .ok (.getfield 214, 3) := by decide +kernel
theorem dX3_endCollect_32 : decode cX3_endCollect 32 = .ok (.invokestatic 241, 3) := by decide +kernel
theorem dX3_endCollect_35 : decode cX3_endCollect 35 = .ok (.putfield 128, 3) := by decide +kernel
theorem dX3_endCollect_38 : decode cX3_endCollect 38 = .ok (.iload_n 3, 1) := by decide +kernel
theorem dX3_endCollect_39 : decode cX3_endCollect 39 = .ok (.ifCond .ne 21, 3) := by decide +kernel
theorem dX3_endCollect_42 : decode cX3_endCollect 42 = .ok (.aload_n 1, 1) := by decide +kernel
theorem dX3_endCollect_43 : decode cX3_endCollect 43 = .ok (.invokevirtual 217, 3) := by decide +kernel
theorem dX3_endCollect_46 : decode cX3_endCollect 46 = .ok (.ifCond .eq 14, 3) := by decide +kernel
theorem dX3_endCollect_49 : decode cX3_endCollect 49 = .ok (.aload_n 0, 1) := by decide +kernel
theorem dX3_endCollect_50 : decode cX3_endCollect 50 = .ok (.aload_n 1, 1) := by decide +kernel
theorem dX3_endCollect_51 : decode cX3_endCollect 51 = .ok (.aload_n 2, 1) := by decide +kernel
theorem dX3_endCollect_52 : decode cX3_endCollect 52 = .ok (.aload_n 1, 1) := by decide +kernel
theorem dX3_endCollect_53 : decode cX3_endCollect 53 = .ok (.getfield 224, 3) := by decide +kernel
theorem dX3_endCollect_56 : decode cX3_endCollect 56 = .ok (.invokevirtual 246, 3) := by decide +kernel
theorem dX3_endCollect_59 : decode cX3_endCollect 59 = .ok (.return_, 1) := by decide +kernel
theorem dX3_endCollect_60 : decode cX3_endCollect 60 = .ok (.iload_n 3, 1) := by decide +kernel
theorem dX3_endCollect_61 : decode cX3_endCollect 61 = .ok (.ifCond .eq 7, 3) := by decide +kernel
theorem dX3_endCollect_64 : decode cX3_endCollect 64 = .ok (.aconst_null, 1) := by decide +kernel
theorem dX3_endCollect_65 : decode cX3_endCollect 65 = .ok (.goto 8, 3) := by decide +kernel
theorem dX3_endCollect_68 : decode cX3_endCollect 68 = .ok (.aload_n 0, 1) := by decide +kernel
theorem dX3_endCollect_69 : decode cX3_endCollect 69 = .ok (.aload_n 1, 1) := by decide +kernel
theorem dX3_endCollect_70 : decode cX3_endCollect 70 = .ok (.invokevirtual 220, 3) := by decide +kernel
theorem dX3_endCollect_73 : decode cX3_endCollect 73 = .ok (.astore 4, 2) := by decide +kernel
theorem dX3_endCollect_75 : decode cX3_endCollect 75 = .ok (.aload 4, 2) := by decide +kernel
theorem dX3_endCollect_77 : decode cX3_endCollect 77 = .ok (.ifnull 34, 3) := by decide +kernel
theorem dX3_endCollect_80 : decode cX3_endCollect 80 = .ok (.aload_n 2, 1) := by decide +kernel
theorem dX3_endCollect_81 : decode cX3_endCollect 81 = .ok (.aload 4, 2) := by decide +kernel
theorem dX3_endCollect_83 : decode cX3_endCollect 83 = .ok (.getfield 250, 3) := by decide +kernel
theorem dX3_endCollect_86 : decode cX3_endCollect 86 = .ok (.putfield 253, 3) := by decide +kernel
theorem dX3_endCollect_89 : decode cX3_endCollect 89 = .ok (.aload_n 0, 1) := by decide +kernel
theorem dX3_endCollect_90 : decode cX3_endCollect 90 = .ok (.dup, 1) := by decide +kernel
theorem dX3_endCollect_91 : decode cX3_endCollect 91 = .ok (.getfield 125, 3) := by decide +kernel
theorem dX3_endCollect_94 : decode cX3_endCollect 94 = .ok (.iconst 1, 1) := by decide +kernel
theorem dX3_endCollect_95 : decode cX3_endCollect 95 = .ok (.iadd, 1) := by decide +kernel
theorem dX3_endCollect_96 : decode cX3_endCollect 96 = .ok (.putfield 125, 3) := by decide +kernel
theorem dX3_endCollect_99 : decode cX3_endCollect 99 = .ok (.aload_n 0, 1) := by decide +kernel
theorem dX3_endCollect_100 : decode cX3_endCollect 100 = .ok (.aload_n 1, 1) := by decide +kernel
theorem dX3_endCollect_101 : decode cX3_endCollect 101 = .ok (.aload_n 2, 1) := by decide +kernel
theorem dX3_endCollect_102 : decode cX3_endCollect 102 = .ok (.aload 4, 2) := by decide +kernel
theorem dX3_endCollect_104 : decode cX3_endCollect 104 = .ok (.getfield 92, 3) := by decide +kernel
theorem dX3_endCollect_107 : decode cX3_endCollect 107 = .ok (.invokevirtual 246, 3) := by decide +kernel
theorem dX3_endCollect_110 : decode cX3_endCollect 110 = .ok (.return_, 1) := by decide +kernel
theorem dX3_endCollect_111 : decode cX3_endCollect 111 = .ok (.aload_n 1, 1) := by decide +kernel
theorem dX3_endCollect_112 : decode cX3_endCollect 112 = .ok (.iload_n 3, 1) := by decide +kernel
theorem dX3_endCollect_113 : decode cX3_endCollect 113 = .ok (.invokevirtual 255, 3) := by decide +kernel
theorem dX3_endCollect_116 : decode cX3_endCollect 116 = .ok (.aload_n 0, 1) := by decide +kernel
theorem dX3_endCollect_117 : decode cX3_endCollect 117 = .ok (.aload_n 1, 1) := by decide +kernel
theorem dX3_endCollect_118 : decode cX3_endCollect 118 = .ok (.invokevirtual 153, 3) := by decide +kernel
theorem dX3_endCollect_121 : decode cX3_endCollect 121 = .ok (.return_, 1) := by decide +kernel
theorem dX3_lender_0 : decode cX3_lender 0 = .ok (.aload_n 1, 1) := by decide +kernel
theorem dX3_lender_1 : decode cX3_lender 1 = .ok (.invokevirtual 259, 3) := by decide +kernel
theorem dX3_lender_4 : decode cX3_lender 4 = .ok (.istore_n 2, 1) := by decide +kernel
theorem dX3_lender_5 : decode cX3_lender 5 = .ok (.iload_n 2, 1) := by decide +kernel
theorem dX3_lender_6 : decode cX3_lender 6 = .ok (.iconst (-1), 1) := by decide +kernel
theorem dX3_lender_7 : decode cX3_lender 7 = .ok (.if_icmp .ne 5, 3) := by decide +kernel
theorem dX3_lender_10 : decode cX3_lender 10 = .ok (.aconst_null, 1) := by decide +kernel
theorem dX3_lender_11 : decode cX3_lender 11 = .ok (.areturn, 1) := by decide +kernel
theorem dX3_lender_12 : decode cX3_lender 12 = .ok (.iconst 1, 1) := by decide +kernel
theorem dX3_lender_13 : decode cX3_lender 13 = .ok (.istore_n 3, 1) := by decide +kernel
theorem dX3_lender_14 : decode cX3_lender 14 = .ok (.iload_n 3, 1) := by decide +kernel
theorem dX3_lender_15 : decode cX3_lender 15 = .ok (.aload_n 0, 1) := by decide +kernel
theorem dX3_lender_16 : decode cX3_lender 16 = .ok (.getfield 119, 3) := by decide +kernel
theorem dX3_lender_19 : decode cX3_lender 19 = .ok (.if_icmp .gt 56, 3) := by decide +kernel
theorem dX3_lender_22 : decode cX3_lender 22 = .ok (.aload_n 0, 1) := by decide +kernel
theorem dX3_lender_23 : decode cX3_lender 23 = .ok (.getfield 29, 3) := by decide +kernel
theorem dX3_lender_26 : decode cX3_lender 26 = .ok (.iload_n 3, 1) := by decide +kernel
theorem dX3_lender_27 : decode cX3_lender 27 = .ok (.aaload, 1) := by decide +kernel
theorem dX3_lender_28 : decode cX3_lender 28 = .ok (.astore 4, 2) := by decide +kernel
theorem dX3_lender_30 : decode cX3_lender 30 = .ok (.aload 4, 2) := by decide +kernel
theorem dX3_lender_32 : decode cX3_lender 32 = .ok (.ifnull 37, 3) := by decide +kernel
theorem dX3_lender_35 : decode cX3_lender 35 = .ok (.aload 4, 2) := by decide +kernel
theorem dX3_lender_37 : decode cX3_lender 37 = .ok (.getfield 250, 3) := by decide +kernel
theorem dX3_lender_40 : decode cX3_lender 40 = .ok (.iload_n 2, 1) := by decide +kernel
theorem dX3_lender_41 : decode cX3_lender 41 = .ok (.if_icmp .ne 28, 3) := by decide +kernel
theorem dX3_lender_44 : decode cX3_lender 44 = .ok (.aload 4, 2) := by decide +kernel
theorem dX3_lender_46 : decode cX3_lender 46 = .ok (.getfield 262, 3) := by decide +kernel
theorem dX3_lender_49 : decode cX3_lender 49 = .ok (.ifCond .le 20, 3) := by decide +kernel
theorem dX3_lender_52 : decode cX3_lender 52 = .ok (.aload 4, 2) := by decide +kernel
theorem dX3_lender_54 : decode cX3_lender 54 = .ok (.getfield 262, 3) := by decide +kernel
theorem dX3_lender_57 : decode cX3_lender 57 = .ok (.aload_n 1, 1) := by decide +kernel
theorem dX3_lender_58 : decode cX3_lender 58 = .ok (.getfield 224, 3) := by decide +kernel
theorem dX3_lender_61 : decode cX3_lender 61 = .ok (.iload_n 2, 1) := by decide +kernel
theorem dX3_lender_62 : decode cX3_lender 62 = .ok (.iaload, 1) := by decide +kernel
theorem dX3_lender_63 : decode cX3_lender 63 = .ok (.if_icmp .ne 6, 3) := by decide +kernel
theorem dX3_lender_66 : decode cX3_lender 66 = .ok (.aload 4, 2) := by decide +kernel
theorem dX3_lender_68 : decode cX3_lender 68 = .ok (.areturn, 1) := by decide +kernel
theorem dX3_lender_69 : decode cX3_lender 69 = .ok (.iinc 3 1, 3) := by decide +kernel
theorem dX3_lender_72 : decode cX3_lender 72 = .ok (.goto (-58), 3) := by decide +kernel
theorem dX3_lender_75 : decode cX3_lender 75 = .ok (.aconst_null, 1) := by decide +kernel
theorem dX3_lender_76 : decode cX3_lender 76 = .ok (.areturn, 1) := by decide +kernel
theorem dX3_useView_0 : decode cX3_useView 0 = .ok (.aload_n 2, 1) := by decide +kernel
theorem dX3_useView_1 : decode cX3_useView 1 = .ok (.aload_n 3, 1) := by decide +kernel
theorem dX3_useView_2 : decode cX3_useView 2 = .ok (.invokevirtual 265, 3) := by decide +kernel
theorem dX3_useView_5 : decode cX3_useView 5 = .ok (.aload_n 2, 1) := by decide +kernel
theorem dX3_useView_6 : decode cX3_useView 6 = .ok (.invokevirtual 211, 3) := by decide +kernel
theorem dX3_useView_9 : decode cX3_useView 9 = .ok (.ifCond .eq 25, 3) := by decide +kernel
theorem dX3_useView_12 : decode cX3_useView 12 = .ok (.aload_n 2, 1) := by decide +kernel
theorem dX3_useView_13 : decode cX3_useView 13 = .ok (.aload_n 1, 1) := by decide +kernel
theorem dX3_useView_14 : decode cX3_useView 14 = .ok (.invokevirtual 269, 3) := by decide +kernel
theorem dX3_useView_17 : decode cX3_useView 17 = .ok (.putfield 262, 3) := by decide +kernel
theorem dX3_useView_20 : decode cX3_useView 20 = .ok (.aload_n 0, 1) := by decide +kernel
theorem dX3_useView_21 : decode cX3_useView 21 = .ok (.aload_n 1, 1) := by decide +kernel
theorem dX3_useView_22 : decode cX3_useView 22 = .ok (.iconst 2, 1) := by decide +kernel
theorem dX3_useView_23 : decode cX3_useView 23 = .ok (.iconst 3, 1) := by decide +kernel
theorem dX3_useView_24 : decode cX3_useView 24 = .ok (.aload_n 1, 1) := by decide +kernel
theorem dX3_useView_25 : decode cX3_useView 25 = .ok (.getfield 272, 3) := by decide +kernel
theorem dX3_useView_28 : decode cX3_useView 28 = .ok (.invokevirtual 227, 3) := by decide +kernel
theorem dX3_useView_31 : decode cX3_useView 31 = .ok (.goto 9, 3) := by decide +kernel
theorem dX3_useView_34 : decode cX3_useView 34 = .ok (.aload_n 0, 1) := by decide +kernel
theorem dX3_useView_35 : decode cX3_useView 35 = .ok (.aload_n 1, 1) := by decide +kernel
theorem dX3_useView_36 : decode cX3_useView 36 = .ok (.aload_n 2, 1) := by decide +kernel
theorem dX3_useView_37 : decode cX3_useView 37 = .ok (.invokevirtual 235, 3) := by decide +kernel
theorem dX3_useView_40 : decode cX3_useView 40 = .ok (.return_, 1) := by decide +kernel
theorem dX3_endOperation_0 : decode cX3_endOperation 0 = .ok (.aload_n 2, 1) := by decide +kernel
theorem dX3_endOperation_1 : decode cX3_endOperation 1 = .ok (.aload_n 0, 1) := by decide +kernel
theorem dX3_endOperation_2 : decode cX3_endOperation 2 = .ok (.getfield 70, 3) := by decide +kernel
theorem dX3_endOperation_5 : decode cX3_endOperation 5 = .ok (.putfield 275, 3) := by decide +kernel
theorem dX3_endOperation_8 : decode cX3_endOperation 8 = .ok (.aload_n 0, 1) := by decide +kernel
theorem dX3_endOperation_9 : decode cX3_endOperation 9 = .ok (.dup, 1) := by decide +kernel
theorem dX3_endOperation_10 : decode cX3_endOperation 10 = .ok (.getfield 122, 3) := by decide +kernel
theorem dX3_endOperation_13 : decode cX3_endOperation 13 = .ok (.iconst 1, 1) := by decide +kernel
theorem dX3_endOperation_14 : decode cX3_endOperation 14 = .ok (.iadd, 1) := by decide +kernel
theorem dX3_endOperation_15 : decode cX3_endOperation 15 = .ok (.putfield 122, 3) := by decide +kernel
theorem dX3_endOperation_18 : decode cX3_endOperation 18 = .ok (.aload_n 1, 1) := by decide +kernel
theorem dX3_endOperation_19 : decode cX3_endOperation 19 = .ok (.invokevirtual 278, 3) := by decide +kernel
theorem dX3_endOperation_22 : decode cX3_endOperation 22 = .ok (.return_, 1) := by decide +kernel
theorem dX3_sendToAll_0 : decode cX3_sendToAll 0 = .ok (.aload_n 1, 1) := by decide +kernel
theorem dX3_sendToAll_1 : decode cX3_sendToAll 1 = .ok (.iload_n 3, 1) := by decide +kernel
theorem dX3_sendToAll_2 : decode cX3_sendToAll 2 = .ok (.invokevirtual 281, 3) := by decide +kernel
theorem dX3_sendToAll_5 : decode cX3_sendToAll 5 = .ok (.iconst 0, 1) := by decide +kernel
theorem dX3_sendToAll_6 : decode cX3_sendToAll 6 = .ok (.istore 5, 2) := by decide +kernel
theorem dX3_sendToAll_8 : decode cX3_sendToAll 8 = .ok (.iload 5, 2) := by decide +kernel
theorem dX3_sendToAll_10 : decode cX3_sendToAll 10 = .ok (.aload_n 0, 1) := by decide +kernel
theorem dX3_sendToAll_11 : decode cX3_sendToAll 11 = .ok (.getfield 11, 3) := by decide +kernel
theorem dX3_sendToAll_14 : decode cX3_sendToAll 14 = .ok (.arraylength, 1) := by decide +kernel
theorem dX3_sendToAll_15 : decode cX3_sendToAll 15 = .ok (.if_icmp .ge 29, 3) := by decide +kernel
theorem dX3_sendToAll_18 : decode cX3_sendToAll 18 = .ok (.aload_n 0, 1) := by decide +kernel
theorem dX3_sendToAll_19 : decode cX3_sendToAll 19 = .ok (.getfield 23, 3) := by decide +kernel
theorem dX3_sendToAll_22 : decode cX3_sendToAll 22 = .ok (.iload_n 2, 1) := by decide +kernel
theorem dX3_sendToAll_23 : decode cX3_sendToAll 23 = .ok (.aload_n 1, 1) := by decide +kernel
theorem dX3_sendToAll_24 : decode cX3_sendToAll 24 = .ok (.getfield 173, 3) := by decide +kernel
theorem dX3_sendToAll_27 : decode cX3_sendToAll 27 = .ok (.iload 5, 2) := by decide +kernel
theorem dX3_sendToAll_29 : decode cX3_sendToAll 29 = .ok (.aload_n 1, 1) := by decide +kernel
theorem dX3_sendToAll_30 : decode cX3_sendToAll 30 = .ok (.getfield 284, 3) := by decide +kernel
theorem dX3_sendToAll_33 : decode cX3_sendToAll 33 = .ok (.aload 4, 2) := by decide +kernel
theorem dX3_sendToAll_35 : decode cX3_sendToAll 35 = .ok (.invokevirtual 182, 3) := by decide +kernel
theorem dX3_sendToAll_38 : decode cX3_sendToAll 38 = .ok (.iinc 5 1, 3) := by decide +kernel
theorem dX3_sendToAll_41 : decode cX3_sendToAll 41 = .ok (.goto (-33), 3) := by decide +kernel
theorem dX3_sendToAll_44 : decode cX3_sendToAll 44 = .ok (.return_, 1) := by decide +kernel
theorem dX3_fold_0 : decode cX3_fold 0 = .ok (.aload_n 1, 1) := by decide +kernel
theorem dX3_fold_1 : decode cX3_fold 1 = .ok (.getfield 287, 3) := by decide +kernel
theorem dX3_fold_4 : decode cX3_fold 4 = .ok (.tableswitch 88 10 15 #[40, 46, 52, 66, 74, 80], 40) := by decide +kernel
theorem dX3_fold_44 : decode cX3_fold 44 = .ok (.aload_n 0, 1) := by decide +kernel
theorem dX3_fold_45 : decode cX3_fold 45 = .ok (.aload_n 1, 1) := by decide +kernel
theorem dX3_fold_46 : decode cX3_fold 46 = .ok (.invokevirtual 290, 3) := by decide +kernel
theorem dX3_fold_49 : decode cX3_fold 49 = .ok (.lreturn, 1) := by decide +kernel
theorem dX3_fold_50 : decode cX3_fold 50 = .ok (.aload_n 0, 1) := by decide +kernel
theorem dX3_fold_51 : decode cX3_fold 51 = .ok (.aload_n 1, 1) := by decide +kernel
theorem dX3_fold_52 : decode cX3_fold 52 = .ok (.invokevirtual 293, 3) := by decide +kernel
theorem dX3_fold_55 : decode cX3_fold 55 = .ok (.lreturn, 1) := by decide +kernel
theorem dX3_fold_56 : decode cX3_fold 56 = .ok (.aload_n 0, 1) := by decide +kernel
theorem dX3_fold_57 : decode cX3_fold 57 = .ok (.aload_n 1, 1) := by decide +kernel
theorem dX3_fold_58 : decode cX3_fold 58 = .ok (.invokevirtual 296, 3) := by decide +kernel
theorem dX3_fold_61 : decode cX3_fold 61 = .ok (.ifCond .eq 7, 3) := by decide +kernel
theorem dX3_fold_64 : decode cX3_fold 64 = .ok (.lconst 1, 1) := by decide +kernel
theorem dX3_fold_65 : decode cX3_fold 65 = .ok (.goto 4, 3) := by decide +kernel
theorem dX3_fold_68 : decode cX3_fold 68 = .ok (.lconst 0, 1) := by decide +kernel
theorem dX3_fold_69 : decode cX3_fold 69 = .ok (.lreturn, 1) := by decide +kernel
theorem dX3_fold_70 : decode cX3_fold 70 = .ok (.aload_n 0, 1) := by decide +kernel
theorem dX3_fold_71 : decode cX3_fold 71 = .ok (.aload_n 1, 1) := by decide +kernel
theorem dX3_fold_72 : decode cX3_fold 72 = .ok (.iconst 2, 1) := by decide +kernel
theorem dX3_fold_73 : decode cX3_fold 73 = .ok (.invokevirtual 299, 3) := by decide +kernel
theorem dX3_fold_76 : decode cX3_fold 76 = .ok (.i2l, 1) := by decide +kernel
theorem dX3_fold_77 : decode cX3_fold 77 = .ok (.lreturn, 1) := by decide +kernel
theorem dX3_fold_78 : decode cX3_fold 78 = .ok (.aload_n 0, 1) := by decide +kernel
theorem dX3_fold_79 : decode cX3_fold 79 = .ok (.aload_n 1, 1) := by decide +kernel
theorem dX3_fold_80 : decode cX3_fold 80 = .ok (.invokevirtual 303, 3) := by decide +kernel
theorem dX3_fold_83 : decode cX3_fold 83 = .ok (.lreturn, 1) := by decide +kernel
theorem dX3_fold_84 : decode cX3_fold 84 = .ok (.aload_n 0, 1) := by decide +kernel
theorem dX3_fold_85 : decode cX3_fold 85 = .ok (.aload_n 1, 1) := by decide +kernel
theorem dX3_fold_86 : decode cX3_fold 86 = .ok (.iconst 3, 1) := by decide +kernel
theorem dX3_fold_87 : decode cX3_fold 87 = .ok (.invokevirtual 299, 3) := by decide +kernel
theorem dX3_fold_90 : decode cX3_fold 90 = .ok (.i2l, 1) := by decide +kernel
theorem dX3_fold_91 : decode cX3_fold 91 = .ok (.lreturn, 1) := by decide +kernel
theorem dX3_fold_92 : decode cX3_fold 92 = .ok (.lconst 0, 1) := by decide +kernel
theorem dX3_fold_93 : decode cX3_fold 93 = .ok (.lreturn, 1) := by decide +kernel
